/-! TELLING: the first of the least -/
def FT (f : Nat → Nat) (lo hi t v : Nat) : Prop := lo ≤ t ∧ t < hi ∧ v = f t ∧ (∀ j, lo ≤ j → j < hi → f t ≤ f j) ∧ (∀ j, lo ≤ j → j < t → f t < f j)
theorem FT.one (f : Nat → Nat) (t : Nat) : FT f t (t + 1) t (f t) := ⟨by omega, by omega, rfl, fun j h1 h2 => by rw [show j = t by omega]; exact Nat.le_refl _, fun j h1 h2 => by omega⟩
theorem FT.dn {f : Nat → Nat} {lo hi t v : Nat} (q : FT f (lo + 1) hi t v) : (f lo ≤ v → FT f lo hi lo (f lo)) ∧ (¬ f lo ≤ v → FT f lo hi t v) := by
  obtain ⟨q1, q2, rfl, q4, q5⟩ := q
  refine ⟨fun h => ⟨by omega, by omega, rfl, fun j h1 h2 => ?_, fun j h1 h2 => by omega⟩, fun h => ⟨by omega, q2, rfl, fun j h1 h2 => ?_, fun j h1 h2 => ?_⟩⟩
  · by_cases c : j = lo
    · rw [c]; exact Nat.le_refl _
    · exact Nat.le_trans h (q4 j (by omega) h2)
  · by_cases c : j = lo
    · rw [c]; omega
    · exact q4 j (by omega) h2
  · by_cases c : j = lo
    · rw [c]; omega
    · exact q5 j (by omega) h2
theorem FT.up {f : Nat → Nat} {lo hi t v : Nat} (q : FT f lo hi t v) : (f hi < v → FT f lo (hi + 1) hi (f hi)) ∧ (¬ f hi < v → FT f lo (hi + 1) t v) := by
  obtain ⟨q1, q2, rfl, q4, q5⟩ := q
  refine ⟨fun h => ⟨by omega, by omega, rfl, fun j h1 h2 => ?_, fun j h1 h2 => ?_⟩, fun h => ⟨q1, by omega, rfl, fun j h1 h2 => ?_, q5⟩⟩
  · by_cases c : j = hi
    · rw [c]; exact Nat.le_refl _
    · have := q4 j h1 (by omega); omega
  · have := q4 j h1 (by omega); omega
  · by_cases c : j = hi
    · rw [c]; omega
    · exact q4 j h1 (by omega)
theorem FT.eq {f : Nat → Nat} {lo hi t v t' v' : Nat} (q : FT f lo hi t v) (q' : FT f lo hi t' v') : t = t' ∧ v = v' := by
  obtain ⟨q1, q2, q3, q4, q5⟩ := q
  obtain ⟨p1, p2, p3, p4, p5⟩ := q'
  have a1 := q4 t' p1 p2
  have a2 := p4 t q1 q2
  have h : t = t' := by
    by_cases c : t < t'
    · have := p5 t q1 c; omega
    · by_cases c2 : t' < t
      · have := q5 t' p1 c2; omega
      · omega
  subst h
  exact ⟨rfl, by omega⟩
/-! how many places a step loses -/
section Te
variable {pl : Nat → Bool} {st z : Nat}
/-- places by their offsets in the window -/
def ofP (pl : Nat → Bool) (st : Nat) (o : Nat) : Bool := pl ((st + o) % 4096)
theorem ofP_off (hs : st < 4096) {a : Nat} (ha : a < 4096) : ofP pl st (offN st a) = pl a := by
  unfold ofP offN
  rw [show (st + (a + 4096 - st) % 4096) % 4096 = a by omega]
theorem all_of (hs : st < 4096) : ctN pl 4096 = ctN (ofP pl st) 4096 := by
  rw [← ctN_rot (ofP pl st) (Nat.le_of_lt hs)]
  exact ctN_cong (fun a ha => (ofP_off hs ha).symm)
/-- how many places are left by step t - 64 -/
def lfN (pl : Nat → Bool) (st z t : Nat) : Nat := ctN (fun a => pl a && decide (offN st ((a + 4032 + t) % 4096) < z)) 4096
theorem lf_of (hs : st < 4096) {t : Nat} (ht : t < 128) : lfN pl st z t = ctN (fun o => ofP pl st o && decide ((o + 4032 + t) % 4096 < z)) 4096 := by
  rw [← ctN_rot (fun o => ofP pl st o && decide ((o + 4032 + t) % 4096 < z)) (Nat.le_of_lt hs)]
  refine ctN_cong (fun a ha => ?_)
  show (pl a && decide (offN st ((a + 4032 + t) % 4096) < z)) = (ofP pl st (offN st a) && decide ((offN st a + 4032 + t) % 4096 < z))
  rw [ofP_off hs ha, show offN st ((a + 4032 + t) % 4096) = (offN st a + 4032 + t) % 4096 by unfold offN; omega]
/-- one at an end of the window -/
def paN (pl : Nat → Bool) (st z o : Nat) : Nat := if z ≤ o ∨ z = 4096 then 0 else if ofP pl st o then 1 else 0
theorem lf_back (hs : st < 4096) (hz : z = 4096 ∨ z ≤ 2048) (hi : ∀ o, o < 4096 → ofP pl st o = true → o < z) {b : Nat} (hb : b ≤ 64) : lfN pl st z (64 - b) + fb_sm (paN pl st z) b = ctN pl 4096 := by
  rw [lf_of hs (by omega), all_of (pl := pl) hs]
  rcases hz with rfl | hz
  · have h1 : fb_sm (paN pl st 4096) b = 0 := by
      have := fb_sm_bound (f := paN pl st 4096) (c := 0) (n := b) (fun k _ => by unfold paN; rw [if_pos (Or.inr rfl)]; exact Nat.le_refl 0)
      omega
    rw [h1, Nat.add_zero]
    exact ctN_cong (fun o ho => by
      have : (o + 4032 + (64 - b)) % 4096 < 4096 := Nat.mod_lt _ (by omega)
      simp [this])
  · have h1 : fb_sm (paN pl st z) b = ctN (ofP pl st) b := by
      refine fb_sm_cong (fun o ho => ?_)
      unfold paN
      by_cases c : z ≤ o
      · rw [if_pos (Or.inl c)]
        by_cases c2 : ofP pl st o = true
        · have := hi o (by omega) c2; omega
        · rw [if_neg c2]
      · rw [if_neg (by omega)]
    have h2 := ctN_split (ofP pl st) b (4096 - b)
    have h3 := ctN_split (fun o => ofP pl st o && decide ((o + 4032 + (64 - b)) % 4096 < z)) b (4096 - b)
    rw [show b + (4096 - b) = 4096 by omega] at h2 h3
    rw [h1, h2, h3, ctN_false (p := fun o => ofP pl st o && decide ((o + 4032 + (64 - b)) % 4096 < z)) (n := b) (fun k hk => by
      have : ¬ (k + 4032 + (64 - b)) % 4096 < z := by omega
      simp [this])]
    rw [Nat.zero_add, Nat.add_comm]
    congr 1
    refine ctN_cong (fun k hk => ?_)
    by_cases c2 : ofP pl st (b + k) = true
    · have := hi (b + k) (by omega) c2
      have : (b + k + 4032 + (64 - b)) % 4096 < z := by omega
      simp [c2, this]
    · simp [c2]
theorem lf_ahead (hs : st < 4096) (hz : z = 4096 ∨ z ≤ 2048) (hi : ∀ o, o < 4096 → ofP pl st o = true → o < z) : ∀ (b : Nat), b ≤ 63 → lfN pl st z (64 + b) + fb_sm (fun i => if z < i then 0 else paN pl st z (z - i)) (b + 1) = ctN pl 4096 := by
  rcases hz with rfl | hz
  · intro b hb
    rw [lf_of hs (by omega), all_of (pl := pl) hs]
    have h1 : fb_sm (fun i => if 4096 < i then 0 else paN pl st 4096 (4096 - i)) (b + 1) = 0 := by
      have := fb_sm_bound (f := fun i => if 4096 < i then 0 else paN pl st 4096 (4096 - i)) (c := 0) (n := b + 1) (fun k _ => by
        show (if 4096 < k then 0 else paN pl st 4096 (4096 - k)) ≤ 0
        unfold paN; rw [if_pos (c := 4096 ≤ 4096 - k ∨ 4096 = 4096) (Or.inr rfl)]; split <;> omega)
      omega
    rw [h1, Nat.add_zero]
    exact ctN_cong (fun o ho => by
      have : (o + 4032 + (64 + b)) % 4096 < 4096 := Nat.mod_lt _ (by omega)
      simp [this])
  · have key : ∀ b, b ≤ 63 → lfN pl st z (64 + b) = ctN (ofP pl st) (z - b) := by
      intro b hb
      rw [lf_of hs (by omega)]
      have h3 := ctN_split (fun o => ofP pl st o && decide ((o + 4032 + (64 + b)) % 4096 < z)) (z - b) (4096 - (z - b))
      rw [show z - b + (4096 - (z - b)) = 4096 by omega] at h3
      rw [h3, ctN_false (p := fun k => ofP pl st (z - b + k) && decide ((z - b + k + 4032 + (64 + b)) % 4096 < z)) (fun k hk => by
        by_cases c2 : ofP pl st (z - b + k) = true
        · have := hi _ (by omega) c2
          have : ¬ (z - b + k + 4032 + (64 + b)) % 4096 < z := by omega
          simp [this]
        · simp [c2]), Nat.add_zero]
      refine ctN_cong (fun k hk => ?_)
      have : (k + 4032 + (64 + b)) % 4096 < z := by omega
      simp [this]
    have hall : ctN pl 4096 = ctN (ofP pl st) z := by
      rw [all_of hs]
      have h2 := ctN_split (ofP pl st) z (4096 - z)
      rw [show z + (4096 - z) = 4096 by omega] at h2
      rw [h2, ctN_false (p := fun k => ofP pl st (z + k)) (fun k hk => by
        by_cases c2 : ofP pl st (z + k) = true
        · have := hi _ (by omega) c2; omega
        · simpa using c2), Nat.add_zero]
    intro b
    induction b with
    | zero =>
      intro _
      rw [key 0 (by omega), hall]
      show ctN (ofP pl st) (z - 0) + (0 + if z < 0 then 0 else paN pl st z (z - 0)) = _
      rw [if_neg (by omega), paN, if_pos (by omega)]
      rfl
    | succ b ih =>
      intro hb
      have := ih (by omega)
      rw [key b (by omega)] at this
      rw [key (b + 1) hb]
      show ctN (ofP pl st) (z - (b + 1)) + (fb_sm (fun i => if z < i then 0 else paN pl st z (z - i)) (b + 1) + (if z < b + 1 then 0 else paN pl st z (z - (b + 1)))) = _
      by_cases c : z < b + 1
      · rw [if_pos c, Nat.add_zero, show z - (b + 1) = z - b by omega]
        exact this
      · rw [if_neg c]
        have e : ctN (ofP pl st) (z - b) = ctN (ofP pl st) (z - (b + 1)) + (if ofP pl st (z - (b + 1)) then 1 else 0) := by
          rw [show z - b = (z - (b + 1)) + 1 by omega, ctN_succ]
        have e2 : paN pl st z (z - (b + 1)) = if ofP pl st (z - (b + 1)) then 1 else 0 := by
          unfold paN; rw [if_neg (by omega)]
        rw [e2]
        omega
end Te
