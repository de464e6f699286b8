/-! making cells -/
theorem hN_nw (h : aH) (κ : aK) (n : Nat) : hN (nw h κ n) = hN h + 1 := rfl
theorem hS_nw (h : aH) (κ : aK) (n : Nat) : hS (nw h κ n) = hS h + n := rfl
theorem hK_nw (h : aH) (κ : aK) (n b : Nat) : hK (nw h κ n) b = if b = hN h then some κ else hK h b := rfl
theorem hI_nw (h : aH) (κ : aK) (n b j : Nat) : hI (nw h κ n) b j = if b = hN h then 0 else hI h b j := rfl
theorem hL_nw (h : aH) (κ : aK) (n b j : Nat) : hL (nw h κ n) b j = if b = hN h then 0 else hL h b j := rfl
theorem hR_nw (h : aH) (κ : aK) (n b j : Nat) : hR (nw h κ n) b j = if b = hN h then none else hR h b j := rfl
theorem aH_ext {h g : aH} (e1 : ∀ b, hK h b = hK g b) (e2 : ∀ b j, hI h b j = hI g b j) (e3 : ∀ b j, hL h b j = hL g b j) (e4 : ∀ b j, hR h b j = hR g b j) (e5 : hN h = hN g) (e6 : hS h = hS g) : h = g := by
  obtain ⟨a1, a2, a3, a4, a5, a6⟩ := h
  obtain ⟨b1, b2, b3, b4, b5, b6⟩ := g
  have q1 : a1 = b1 := funext e1
  have q2 : a2 = b2 := funext fun b => funext (e2 b)
  have q3 : a3 = b3 := funext fun b => funext (e3 b)
  have q4 : a4 = b4 := funext fun b => funext (e4 b)
  have q5 : a5 = b5 := e5
  have q6 : a6 = b6 := e6
  subst q1 q2 q3 q4 q5 q6
  rfl
/-- a new row, and the field that holds it -/
abbrev af (h : aH) (x k : Nat) (κ : aK) (n : Nat) : aH := sR (nw h κ n) x k (some (hN h))
theorem af_t {β : Type} {h : aH} {x k ci n : Nat} {κ : aK} {f : aH → Option β} (hx : hK h x = some (.inl ci)) (hl : x < hN h) : (nm (hN h) fun (a : Nat) => nm (nw h κ n) fun (h1 : aH) => ko h1 x ci <| f (sR h1 x k (some a))) = f (af h x k κ n) := by
  have e : hK (nw h κ n) x = some (.inl ci) := by rw [hK_nw, if_neg (Nat.ne_of_lt hl)]; exact hx
  simp only [nm, ko_t e, af]
theorem hN_af (h : aH) (x k : Nat) (κ : aK) (n : Nat) : hN (af h x k κ n) = hN h + 1 := rfl
theorem hS_af (h : aH) (x k : Nat) (κ : aK) (n : Nat) : hS (af h x k κ n) = hS h + n := rfl
theorem hK_af (h : aH) (x k : Nat) (κ : aK) (n b : Nat) : hK (af h x k κ n) b = if b = hN h then some κ else hK h b := rfl
theorem hI_af (h : aH) (x k : Nat) (κ : aK) (n b j : Nat) : hI (af h x k κ n) b j = if b = hN h then 0 else hI h b j := rfl
theorem hL_af (h : aH) (x k : Nat) (κ : aK) (n b j : Nat) : hL (af h x k κ n) b j = if b = hN h then 0 else hL h b j := rfl
theorem hR_af (h : aH) (x k : Nat) (κ : aK) (n b j : Nat) : hR (af h x k κ n) b j = if b = x ∧ j = k then some (hN h) else if b = hN h then none else hR h b j := rfl
/-- a Pointer as it is made -/
def pin (h : aH) (p : Nat) : aH := sI (sI (sI (sI (sI (sI (sI (sI h p 0 1) p 1 0) p 2 0) p 3 0) p 4 0) p 5 0) p 6 0) p 7 0
theorem p_init {h : aH} {p : Nat} (hp : hK h p = some (.inl 6)) : f_X6_init p h = some ((), pin h p) := by
  simp only [f_X6_init, ko_t hp, pin]
theorem hI_pin (h : aH) (p b j : Nat) : hI (pin h p) b j = if b = p ∧ j < 8 then (if j = 0 then 1 else 0) else hI h b j := by
  simp only [pin, hI_sI]
  by_cases hb : b = p
  · subst hb
    by_cases hj : j < 8
    · rcases (show j = 0 ∨ j = 1 ∨ j = 2 ∨ j = 3 ∨ j = 4 ∨ j = 5 ∨ j = 6 ∨ j = 7 by omega) with rfl | rfl | rfl | rfl | rfl | rfl | rfl | rfl <;> simp
    · simp [hj, show j ≠ 0 by omega, show j ≠ 1 by omega, show j ≠ 2 by omega, show j ≠ 3 by omega, show j ≠ 4 by omega, show j ≠ 5 by omega, show j ≠ 6 by omega, show j ≠ 7 by omega]
  · simp [hb]
/-- the rows of a State, without its pointers -/
def st6 (h : aH) (s : Nat) : aH := sI (sI (af (af (af (af (af (af h s 0 (.inr (.object RX6, 32)) 32) s 1 (.inr (.int, 32)) 32) s 2 (.inr (.int, 32)) 32) s 3 (.inr (.int, 32)) 32) s 4 (.inr (.int, 120)) 120) s 5 (.inr (.int, 256)) 256) s 6 0) s 7 0
/-- with i pointers -/
def stP (g : aH) (s i : Nat) : aH := (fun b => if s + 7 ≤ b ∧ b < s + 7 + i then some (.inl 6) else hK g b, fun b j => if s + 7 ≤ b ∧ b < s + 7 + i then (if j = 0 then 1 else 0) else hI g b j, fun b j => if s + 7 ≤ b ∧ b < s + 7 + i then 0 else hL g b j, fun b j => if s + 7 ≤ b ∧ b < s + 7 + i then none else if b = s + 1 ∧ j < i then some (s + 7 + j) else hR g b j, hN g + i, hS g + 8 * i)
theorem stP_succ {g : aH} {s i : Nat} (hn : hN g = s + 7) : sR (pin (nw (stP g s i) (.inl 6) 8) (s + 7 + i)) (s + 1) i (some (s + 7 + i)) = stP g s (i + 1) := by
  have e : hN (stP g s i) = s + 7 + i := by show hN g + i = _; rw [hn]
  apply aH_ext
  · intro b
    show (if b = hN (stP g s i) then some (Sum.inl 6) else if s + 7 ≤ b ∧ b < s + 7 + i then some (.inl 6) else hK g b) = if s + 7 ≤ b ∧ b < s + 7 + (i + 1) then some (.inl 6) else hK g b
    rw [e]
    by_cases h1 : b = s + 7 + i
    · subst h1; rw [if_pos rfl, if_pos (by omega)]
    · rw [if_neg h1]
      by_cases h2 : s + 7 ≤ b ∧ b < s + 7 + i
      · rw [if_pos h2, if_pos (by omega)]
      · rw [if_neg h2, if_neg (by omega)]
  · intro b j
    rw [hI_sR, hI_pin, hI_nw, e]
    show _ = if s + 7 ≤ b ∧ b < s + 7 + (i + 1) then (if j = 0 then 1 else 0) else hI g b j
    show (if b = s + 7 + i ∧ j < 8 then (if j = 0 then 1 else 0) else if b = s + 7 + i then 0 else if s + 7 ≤ b ∧ b < s + 7 + i then (if j = 0 then 1 else 0) else hI g b j) = _
    by_cases h1 : b = s + 7 + i
    · subst h1
      rw [if_pos (show s + 7 ≤ s + 7 + i ∧ s + 7 + i < s + 7 + (i + 1) by omega)]
      by_cases hj : j < 8
      · rw [if_pos ⟨rfl, hj⟩]
      · rw [if_neg (fun q => hj q.2), if_pos rfl, if_neg (show ¬ j = 0 by omega)]
    · rw [if_neg (fun q => h1 q.1), if_neg h1]
      by_cases h2 : s + 7 ≤ b ∧ b < s + 7 + i
      · rw [if_pos h2, if_pos (show s + 7 ≤ b ∧ b < s + 7 + (i + 1) by omega)]
      · rw [if_neg h2, if_neg (show ¬ (s + 7 ≤ b ∧ b < s + 7 + (i + 1)) by omega)]
  · intro b j
    show (if b = hN (stP g s i) then 0 else if s + 7 ≤ b ∧ b < s + 7 + i then 0 else hL g b j) = if s + 7 ≤ b ∧ b < s + 7 + (i + 1) then 0 else hL g b j
    rw [e]
    by_cases h1 : b = s + 7 + i
    · subst h1; rw [if_pos rfl, if_pos (by omega)]
    · rw [if_neg h1]
      by_cases h2 : s + 7 ≤ b ∧ b < s + 7 + i
      · rw [if_pos h2, if_pos (by omega)]
      · rw [if_neg h2, if_neg (by omega)]
  · intro b j
    show (if b = s + 1 ∧ j = i then some (s + 7 + i) else if b = hN (stP g s i) then none else if s + 7 ≤ b ∧ b < s + 7 + i then none else if b = s + 1 ∧ j < i then some (s + 7 + j) else hR g b j) = if s + 7 ≤ b ∧ b < s + 7 + (i + 1) then none else if b = s + 1 ∧ j < i + 1 then some (s + 7 + j) else hR g b j
    rw [e]
    by_cases h0 : b = s + 1 ∧ j = i
    · obtain ⟨rfl, rfl⟩ := h0
      rw [if_pos ⟨rfl, rfl⟩, if_neg (by omega), if_pos ⟨rfl, by omega⟩]
    · rw [if_neg h0]
      by_cases h1 : b = s + 7 + i
      · subst h1; rw [if_pos rfl, if_pos (by omega)]
      · rw [if_neg h1]
        by_cases h2 : s + 7 ≤ b ∧ b < s + 7 + i
        · rw [if_pos h2, if_pos (by omega)]
        · rw [if_neg h2, if_neg (show ¬ (s + 7 ≤ b ∧ b < s + 7 + (i + 1)) by omega)]
          by_cases h3 : b = s + 1 ∧ j < i
          · rw [if_pos h3, if_pos ⟨h3.1, by omega⟩]
          · rw [if_neg h3, if_neg (fun q => h0 ⟨q.1, by have := q.2; by_cases hj : j < i; exact absurd ⟨q.1, hj⟩ h3; omega⟩)]
  · show hN (stP g s i) + 1 = hN g + (i + 1)
    rw [e, hn]; omega
  · show hS g + 8 * i + 8 = hS g + 8 * (i + 1)
    omega
theorem s_init {h : aH} {s : Nat} (hs : hK h s = some (.inl 9)) (hn : hN h = s + 1) : f_X9_init s h = some ((), stP (st6 h s) s 32) := by
  have l0 : s < hN h := by omega
  have k1 : ∀ {h : aH} {k : Nat} {κ : aK} {n : Nat}, hK h s = some (.inl 9) → s < hN h → hK (af h s k κ n) s = some (.inl 9) ∧ s < hN (af h s k κ n) := by
    intro h k κ n e l
    exact ⟨by rw [hK_af, if_neg (Nat.ne_of_lt l)]; exact e, by rw [hN_af]; omega⟩
  have b0 : ∀ {h : aH} {κ : aK} {n : Nat}, hK h s = some (.inl 9) → s < hN h → hK (nw h κ n) s = some (.inl 9) := fun e l => by rw [hK_nw, if_neg (Nat.ne_of_lt l)]; exact e
  have a1 := k1 (k := 0) (κ := .inr (.object RX6, 32)) (n := 32) hs l0
  have a2 := k1 (k := 1) (κ := .inr (.int, 32)) (n := 32) a1.1 a1.2
  have a3 := k1 (k := 2) (κ := .inr (.int, 32)) (n := 32) a2.1 a2.2
  have a4 := k1 (k := 3) (κ := .inr (.int, 32)) (n := 32) a3.1 a3.2
  have a5 := k1 (k := 4) (κ := .inr (.int, 120)) (n := 120) a4.1 a4.2
  have a6 := k1 (k := 5) (κ := .inr (.int, 256)) (n := 256) a5.1 a5.2
  have e0 : f_X9_init s h = f_X9_init_66 FU s 0 (st6 h s) := by
    simp only [f_X9_init, nm]
    rw [ko_t (b0 hs l0), ko_t (b0 a1.1 a1.2), ko_t (b0 a2.1 a2.2), ko_t (b0 a3.1 a3.2), ko_t (b0 a4.1 a4.2), ko_t (b0 a5.1 a5.2)]
    rfl
  have hn6 : hN (st6 h s) = s + 7 := by show hN h + 1 + 1 + 1 + 1 + 1 + 1 = _; omega
  have hk6 : hK (st6 h s) s = some (.inl 9) := a6.1
  have hr6 : hR (st6 h s) s 0 = some (s + 1) := by
    simp only [st6, hR_sI, hR_af, hN_af, hn]
    simp
    omega
  have hk1 : hK (st6 h s) (s + 1) = some (.inr (.object RX6, 32)) := by
    simp only [st6, hK_sI, hK_af, hN_af, hn]
    simp
  rw [e0]
  have z : stP (st6 h s) s 0 = st6 h s := by
    apply aH_ext
    · intro b; show (if s + 7 ≤ b ∧ b < s + 7 + 0 then _ else _) = _; rw [if_neg (by omega)]
    · intro b j; show (if s + 7 ≤ b ∧ b < s + 7 + 0 then _ else _) = _; rw [if_neg (by omega)]
    · intro b j; show (if s + 7 ≤ b ∧ b < s + 7 + 0 then _ else _) = _; rw [if_neg (by omega)]
    · intro b j; show (if s + 7 ≤ b ∧ b < s + 7 + 0 then _ else if b = s + 1 ∧ j < 0 then _ else _) = _; rw [if_neg (by omega), if_neg (by omega)]
    · rfl
    · rfl
  generalize hg : st6 h s = g at hn6 hk6 hr6 hk1 z ⊢
  have L := (loop_itr (fun n i (_ : Unit) => f_X9_init_66 n s (nI i) (stP g s i)) 32 (fun _ u => u) (fun _ => ((), stP g s 32)) (fun _ _ => True) (fun n i _ hi _ => ⟨?_, trivial⟩) (fun n _ _ => ?_) 32 0 () FU (by omega) trivial (FU_gt (by omega))).1
  · rw [show f_X9_init_66 FU s 0 g = f_X9_init_66 FU s (nI 0) (stP g s 0) by rw [z]; rfl]
    exact L
  · have h1 : ¬ (32 : Int32) ≤ nI i := nI_ge (b := 32) hi (by omega)
    have e1 : (nI i).toNatClampNeg = i := tn_nI (by omega)
    have q1 : hK (stP g s i) s = some (.inl 9) := by show (if s + 7 ≤ s ∧ _ then _ else _) = _; rw [if_neg (by omega)]; exact hk6
    have q2 : hR (stP g s i) s 0 = some (s + 1) := by show (if s + 7 ≤ s ∧ _ then _ else if s = s + 1 ∧ _ then _ else _) = _; rw [if_neg (by omega), if_neg (by omega)]; exact hr6
    have q3 : hN (stP g s i) = s + 7 + i := by show hN g + i = _; rw [hn6]
    have q4 : hK (nw (stP g s i) (.inl 6) 8) (s + 7 + i) = some (.inl 6) := by rw [hK_nw, q3, if_pos rfl]
    have q5 : hK (pin (nw (stP g s i) (.inl 6) 8) (s + 7 + i)) (s + 1) = some (.inr (.object RX6, 32)) := by
      show hK (nw (stP g s i) (.inl 6) 8) (s + 1) = _
      rw [hK_nw, q3, if_neg (by omega)]
      show (if s + 7 ≤ s + 1 ∧ _ then _ else _) = _
      rw [if_neg (by omega)]; exact hk1
    have q6 : hK (pin (nw (stP g s i) (.inl 6) 8) (s + 7 + i)) (s + 7 + i) = some (.inl 6) := q4
    simp only [f_X9_init_66, b_X9_init_66, if_neg h1, ko_t q1, kr_t q2, nm, q3, p_init q4, bd_s, ka_t q5, chk_t (inb_nI (show i < 32 by omega) (by omega)), ko_t q6, e1, nI_1, stP_succ hn6]
  · have h1 : (32 : Int32) ≤ nI 32 := by decide
    simp only [f_X9_init_66, b_X9_init_66, if_pos h1]
