/-! codes worked out: what both sides do -/
def evS (fg : Nat → Int) (o1 : Nat → Int → Int) (c : Nat) (s : List Int) : List Int := if 1000 ≤ c then ((c - 1000 : Nat) : Int) :: s else if 40 ≤ c ∧ c ≤ 50 then fg c :: s else if c = 13 then 1 :: s else match s with
  | [] => []
  | v :: s1 => if 60 ≤ c then o1 c v :: s1 else if c = 12 then (1 - v) :: s1 else match s1 with
    | [] => []
    | a :: s2 => opZ c a v :: s2
def evL (fg : Nat → Int) (o1 : Nat → Int → Int) : List Nat → List Int → List Int
  | [], s => s
  | c :: l, s => evL fg o1 l (evS fg o1 c s)
def TM : List Bool → List Int → Prop
  | [], [] => True
  | t :: ty, v :: s => OV t v ∧ TM ty s
  | _, _ => False
theorem TM.len : ∀ {ty : List Bool} {s : List Int}, TM ty s → ty.length = s.length
  | [], [], _ => rfl
  | _ :: _, _ :: _, h => congrArg (· + 1) h.2.len
  | [], _ :: _, h => h.elim
  | _ :: _, [], h => h.elim
theorem TM.c1 {t : Bool} {ty : List Bool} {s : List Int} (h : TM (t :: ty) s) : ∃ v s1, s = v :: s1 ∧ OV t v ∧ TM ty s1 := by
  cases s with
  | nil => exact h.elim
  | cons v s1 => exact ⟨v, s1, rfl, h.1, h.2⟩
theorem tyC_c {al : Nat → Bool} {c : Nat} {l : List Nat} {s r : List Bool} (h : tyC al (c :: l) s = some r) : s.length ≤ 60 ∧ ((1000 ≤ c ∧ c ≤ 10999 ∧ tyC al l (false :: s) = some r) ∨ ((c = 60 ∨ c = 61) ∧ al c = true ∧ (∃ s', s = false :: s') ∧ tyC al l s = some r) ∨ (40 ≤ c ∧ c ≤ 50 ∧ al c = true ∧ tyC al l (false :: s) = some r) ∨ (c = 13 ∧ tyC al l (true :: s) = some r) ∨ (c = 12 ∧ (∃ s', s = true :: s') ∧ tyC al l s = some r) ∨ (1 ≤ c ∧ c ≤ 11 ∧ ∃ s', s = decide (10 ≤ c) :: decide (10 ≤ c) :: s' ∧ tyC al l (decide (7 ≤ c) :: s') = some r)) := by
  rw [tyC.eq_def] at h
  dsimp only at h
  by_cases c0 : 60 < s.length
  · rw [if_pos c0] at h; cases h
  rw [if_neg c0] at h
  refine ⟨by omega, ?_⟩
  by_cases c1 : 1000 ≤ c
  · rw [if_pos c1] at h
    by_cases c2 : c ≤ 10999
    · rw [if_pos c2] at h; exact Or.inl ⟨c1, c2, h⟩
    · rw [if_neg c2] at h; cases h
  rw [if_neg c1] at h
  by_cases c3 : c = 60 ∨ c = 61
  · rw [if_pos c3] at h
    match s, h with
    | false :: s', h =>
      by_cases c4 : al c = true
      · simp only [if_pos c4] at h; exact Or.inr (Or.inl ⟨c3, c4, ⟨s', rfl⟩, h⟩)
      · simp only [if_neg c4] at h; cases h
    | true :: _, h => cases h
    | [], h => cases h
  rw [if_neg c3] at h
  by_cases c4 : 40 ≤ c ∧ c ≤ 50
  · rw [if_pos c4] at h
    by_cases c5 : al c = true
    · rw [if_pos c5] at h; exact Or.inr (Or.inr (Or.inl ⟨c4.1, c4.2, c5, h⟩))
    · rw [if_neg c5] at h; cases h
  rw [if_neg c4] at h
  by_cases c5 : c = 13
  · rw [if_pos c5] at h; exact Or.inr (Or.inr (Or.inr (Or.inl ⟨c5, h⟩)))
  rw [if_neg c5] at h
  by_cases c6 : c = 12
  · rw [if_pos c6] at h
    match s, h with
    | true :: s', h => exact Or.inr (Or.inr (Or.inr (Or.inr (Or.inl ⟨c6, ⟨s', rfl⟩, h⟩))))
    | false :: _, h => cases h
    | [], h => cases h
  rw [if_neg c6] at h
  refine Or.inr (Or.inr (Or.inr (Or.inr (Or.inr ?_))))
  by_cases c7 : c = 10 ∨ c = 11
  · rw [if_pos c7] at h
    match s, h with
    | true :: true :: s', h =>
      refine ⟨by omega, by omega, s', ?_, ?_⟩
      · rw [show decide (10 ≤ c) = true by simp; omega]
      · rw [show decide (7 ≤ c) = true by simp; omega]; exact h
    | true :: false :: _, h => cases h
    | true :: [], h => cases h
    | false :: _, h => cases h
    | [], h => cases h
  rw [if_neg c7] at h
  by_cases c8 : 7 ≤ c ∧ c ≤ 9
  · rw [if_pos c8] at h
    match s, h with
    | false :: false :: s', h =>
      refine ⟨by omega, by omega, s', ?_, ?_⟩
      · rw [show decide (10 ≤ c) = false by simp; omega]
      · rw [show decide (7 ≤ c) = true by simp; omega]; exact h
    | false :: true :: _, h => cases h
    | false :: [], h => cases h
    | true :: _, h => cases h
    | [], h => cases h
  rw [if_neg c8] at h
  by_cases c9 : 1 ≤ c ∧ c ≤ 6
  · rw [if_pos c9] at h
    match s, h with
    | false :: false :: s', h =>
      refine ⟨by omega, by omega, s', ?_, ?_⟩
      · rw [show decide (10 ≤ c) = false by simp; omega]
      · rw [show decide (7 ≤ c) = false by simp; omega]; exact h
    | false :: true :: _, h => cases h
    | false :: [], h => cases h
    | true :: _, h => cases h
    | [], h => cases h
  rw [if_neg c9] at h
  cases h
/-- one step, told apart -/
theorem ev_c {al : Nat → Bool} {fg : Nat → Int} {o1 : Nat → Int → Int} (hf : ∀ c, al c = true → c ≤ 50 → OV false (fg c)) (ho : ∀ c v, al c = true → (c = 60 ∨ c = 61) → OV false v → OV false (o1 c v)) {c : Nat} {l : List Nat} {ty r : List Bool} {s : List Int} (h : tyC al (c :: l) ty = some r) (hs : TM ty s) : s.length ≤ 60 ∧ (∃ ty1, tyC al l ty1 = some r ∧ TM ty1 (evS fg o1 c s)) ∧ ((1000 ≤ c ∧ c ≤ 10999 ∧ evS fg o1 c s = ((c - 1000 : Nat) : Int) :: s) ∨ ((c = 60 ∨ c = 61) ∧ al c = true ∧ ∃ v s1, s = v :: s1 ∧ OV false v ∧ OV false (o1 c v) ∧ evS fg o1 c s = o1 c v :: s1) ∨ (40 ≤ c ∧ c ≤ 50 ∧ al c = true ∧ OV false (fg c) ∧ evS fg o1 c s = fg c :: s) ∨ (c = 13 ∧ evS fg o1 c s = 1 :: s) ∨ (c = 12 ∧ ∃ v s1, s = v :: s1 ∧ OV true v ∧ evS fg o1 c s = (1 - v) :: s1) ∨ (1 ≤ c ∧ c ≤ 11 ∧ ∃ b a s2, s = b :: a :: s2 ∧ OV (decide (10 ≤ c)) b ∧ OV (decide (10 ≤ c)) a ∧ evS fg o1 c s = opZ c a b :: s2)) := by
  obtain ⟨h1, h2⟩ := tyC_c h
  have hl := hs.len
  refine ⟨by omega, ?_⟩
  rcases h2 with ⟨a1, a2, a3⟩ | ⟨a1, a2, ⟨s', rfl⟩, a3⟩ | ⟨a1, a2, a3, a4⟩ | ⟨rfl, a2⟩ | ⟨rfl, ⟨s', rfl⟩, a2⟩ | ⟨a1, a2, s', rfl, a3⟩
  · have e : evS fg o1 c s = ((c - 1000 : Nat) : Int) :: s := by unfold evS; rw [if_pos a1]
    exact ⟨⟨_, a3, by rw [e]; exact ⟨⟨by omega, by omega, fun q => by cases q⟩, hs⟩⟩, Or.inl ⟨a1, a2, e⟩⟩
  · obtain ⟨v, s1, rfl, v1, v2⟩ := hs.c1
    have e : evS fg o1 c (v :: s1) = o1 c v :: s1 := by unfold evS; rw [if_neg (by omega), if_neg (by omega), if_neg (by omega)]; simp only; rw [if_pos (by omega)]
    have o := ho c v a2 a1 v1
    exact ⟨⟨_, a3, by rw [e]; exact ⟨o, v2⟩⟩, Or.inr (Or.inl ⟨a1, a2, v, s1, rfl, v1, o, e⟩)⟩
  · have e : evS fg o1 c s = fg c :: s := by unfold evS; rw [if_neg (by omega), if_pos ⟨a1, a2⟩]
    exact ⟨⟨_, a4, by rw [e]; exact ⟨hf c a3 a2, hs⟩⟩, Or.inr (Or.inr (Or.inl ⟨a1, a2, a3, hf c a3 a2, e⟩))⟩
  · have e : evS fg o1 13 s = 1 :: s := by unfold evS; rw [if_neg (by omega), if_neg (by omega), if_pos rfl]
    exact ⟨⟨_, a2, by rw [e]; exact ⟨⟨by omega, by omega, fun _ => Or.inr rfl⟩, hs⟩⟩, Or.inr (Or.inr (Or.inr (Or.inl ⟨rfl, e⟩)))⟩
  · obtain ⟨v, s1, rfl, v1, v2⟩ := hs.c1
    have e : evS fg o1 12 (v :: s1) = (1 - v) :: s1 := by unfold evS; rw [if_neg (by omega), if_neg (by omega), if_neg (by omega)]; simp only; rw [if_neg (by omega), if_true]
    have v3 := v1.2.2 rfl
    exact ⟨⟨_, a2, by rw [e]; exact ⟨⟨by omega, by omega, fun _ => by omega⟩, v2⟩⟩, Or.inr (Or.inr (Or.inr (Or.inr (Or.inl ⟨rfl, v, s1, rfl, v1, e⟩))))⟩
  · obtain ⟨b, s1, rfl, v1, v2⟩ := hs.c1
    obtain ⟨a, s2, rfl, w1, w2⟩ := v2.c1
    have e : evS fg o1 c (b :: a :: s2) = opZ c a b :: s2 := by unfold evS; rw [if_neg (by omega), if_neg (by omega), if_neg (by omega)]; simp only; rw [if_neg (by omega), if_neg (by omega)]
    exact ⟨⟨_, a3, by rw [e]; exact ⟨opZ_ov a1 a2 rfl w1 v1, w2⟩⟩, Or.inr (Or.inr (Or.inr (Or.inr (Or.inr ⟨a1, a2, b, a, s2, rfl, v1, w1, e⟩))))⟩
/-- rows of values, the top last -/
def SK (f : Nat → Int32) (s : List Int) : Prop := ∀ i, i < s.length → f i = vI (s.getD (s.length - 1 - i) 0)
def SKL (f : Nat → Int64) (s : List Int) : Prop := ∀ i, i < s.length → f i = vL (s.getD (s.length - 1 - i) 0)
theorem SK.push {f : Nat → Int32} {s : List Int} (h : SK f s) (v : Int) : SK (fun j => if j = s.length then vI v else f j) (v :: s) := by
  intro i hi
  rw [List.length_cons] at hi ⊢
  by_cases c : i = s.length
  · subst c
    simp
  · have h1 := h i (by omega)
    simp only [if_neg c]
    rw [h1, show s.length + 1 - 1 - i = (s.length - 1 - i) + 1 by omega, List.getD_cons_succ]
theorem SK.pop {f : Nat → Int32} {v : Int} {s : List Int} (h : SK f (v :: s)) : f s.length = vI v ∧ SK f s := by
  constructor
  · have := h s.length (by rw [List.length_cons]; omega)
    rw [this, List.length_cons, show s.length + 1 - 1 - s.length = 0 by omega]
    rfl
  · intro i hi
    have := h i (by rw [List.length_cons]; omega)
    rw [this, List.length_cons, show s.length + 1 - 1 - i = (s.length - 1 - i) + 1 by omega, List.getD_cons_succ]
theorem SKL.push {f : Nat → Int64} {s : List Int} (h : SKL f s) (v : Int) : SKL (fun j => if j = s.length then vL v else f j) (v :: s) := by
  intro i hi
  rw [List.length_cons] at hi ⊢
  by_cases c : i = s.length
  · subst c
    simp
  · have h1 := h i (by omega)
    simp only [if_neg c]
    rw [h1, show s.length + 1 - 1 - i = (s.length - 1 - i) + 1 by omega, List.getD_cons_succ]
theorem SKL.pop {f : Nat → Int64} {v : Int} {s : List Int} (h : SKL f (v :: s)) : f s.length = vL v ∧ SKL f s := by
  constructor
  · have := h s.length (by rw [List.length_cons]; omega)
    rw [this, List.length_cons, show s.length + 1 - 1 - s.length = 0 by omega]
    rfl
  · intro i hi
    have := h i (by rw [List.length_cons]; omega)
    rw [this, List.length_cons, show s.length + 1 - 1 - i = (s.length - 1 - i) + 1 by omega, List.getD_cons_succ]
