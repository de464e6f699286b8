/-! A MACHINE'S TEXT: the class's names -/
section Dn
variable {h h1 : aH} {x a n u : Nat} {tp : Nat → Nat} {σ : tyT} {B : tyB}
theorem b8_l : ∀ c, 97 ≤ c → c ≤ 122 → (nI c).toInt8.toInt32 = nI c ∧ ((nI c - 97) + 1).toInt8.toInt32.toInt8.toInt32 = nI (c - 96) := by
  have : ∀ k, k < 26 → (nI (97 + k)).toInt8.toInt32 = nI (97 + k) ∧ ((nI (97 + k) - 97) + 1).toInt8.toInt32.toInt8.toInt32 = nI (97 + k - 96) := by decide +kernel
  intro c h1 h2
  have := this (c - 97) (by omega)
  rw [show 97 + (c - 97) = c by omega] at this
  exact this
/-- a letter, or nothing, of a name that is laid -/
theorem c_set1 {fu s i l : Nat} (S : XS h x) (ha : a = x + 92 ∨ a = x + 98) {c : Nat} (hs : s < 4) (hi : i < 6) (hl : l ≤ 6) (hp : ∀ k, k < l → σ.1 + k < 1600 ∧ 97 ≤ tp (σ.1 + k) ∧ tp (σ.1 + k) ≤ 122) (hb : ∀ j, j < 1600 → hI h (x + 1) j = (nI (tp j)).toInt8.toInt32) (hc : c = if i < l then tp (σ.1 + i) - 96 else 0) (h0 : σ.1 ≤ 1600) : f_X4_setName_3 (fu + 1) a (nI s) (x + 1) (nI σ.1) (nI l) (nI i) h = f_X4_setName_3 fu a (nI s) (x + 1) (nI σ.1) (nI l) (nI (i + 1)) (sI h (a + 1) (6 * s + i) (nI c)) := by
  have A := S.ma ha
  have n6 : ¬ (6 : Int32) ≤ nI i := by rw [show (6 : Int32) = nI 6 from rfl, nI_leI (by omega) (by omega)]; omega
  have n4 : ¬ (4 : Int32) ≤ nI s := by rw [show (4 : Int32) = nI 4 from rfl, nI_leI (by omega) (by omega)]; omega
  have e6 : nI s * 6 + nI i = nI (6 * s + i) := by
    rw [show nI s * 6 = nI (s * 6) from pk_mul s 6, nI_add, Nat.mul_comm s 6]
  have ei : nI i + 1 = nI (i + 1) := nI_add i 1
  have ad : nI σ.1 + nI i = nI (σ.1 + i) := nI_add _ _
  have tail : ∀ v : Int32, v.toInt8.toInt32 = nI c → f_X4_setName_70 (f_X4_setName_3 fu) a (nI s) (x + 1) (nI σ.1) (nI l) (nI i) (a + 1) (nI s * 6 + nI i) v h = f_X4_setName_3 fu a (nI s) (x + 1) (nI σ.1) (nI l) (nI (i + 1)) (sI h (a + 1) (6 * s + i) (nI c)) := by
    intro v hv
    unfold f_X4_setName_70
    dsimp only [nm]
    rw [ka_t A.k1, e6, chk_t (inb_nI (show 6 * s + i < 24 by omega) (by omega)), tn_nI (by omega), hv, ei]
  show b_X4_setName_3 (f_X4_setName_3 fu) a (nI s) (x + 1) (nI σ.1) (nI l) (nI i) h = _
  unfold b_X4_setName_3
  rw [if_neg n6, if_neg n4]
  by_cases c1 : i < l
  · obtain ⟨p1, p2, p3⟩ := hp i c1
    have nl : ¬ nI l ≤ nI i := by rw [nI_leI (by omega) (by omega)]; omega
    have n16 : ¬ Int32.ofNat 1600 ≤ nI (σ.1 + i) := by rw [show Int32.ofNat 1600 = nI 1600 from rfl, nI_leI (by omega) (by omega)]; omega
    have b8 := b8_l _ p2 p3
    rw [if_pos c1] at hc
    rw [if_neg nl, ka_t S.k1, ad, if_neg n16]
    unfold f_X4_setName_36
    rw [ko_t A.k, kr_t A.r4, if_neg (show ¬ (1 : Int32) = 0 by decide), ka_t S.k1, ad, chk_t (inb_nI p1 (by omega)), tn_nI (by omega), hb _ p1, b8.1]
    exact tail _ (by rw [hc]; exact b8.2)
  · have nl : nI l ≤ nI i := by rw [nI_leI (by omega) (by omega)]; omega
    rw [if_neg c1] at hc
    rw [if_pos nl]
    unfold f_X4_setName_35 f_X4_setName_36
    rw [ko_t A.k, kr_t A.r4, if_pos rfl]
    exact tail _ (by rw [hc]; rfl)
theorem c_setN {s l : Nat} (hs : s < 4) (hl : l ≤ 6) (ha : a = x + 92 ∨ a = x + 98) (hp : ∀ k, k < l → σ.1 + k < 1600 ∧ 97 ≤ tp (σ.1 + k) ∧ tp (σ.1 + k) ≤ 122) (h0 : σ.1 ≤ 1600) : ∀ (m i fu : Nat) (h : aH), i + m = 6 → m < fu → XS h x → (∀ j, j < 1600 → hI h (x + 1) j = (nI (tp j)).toInt8.toInt32) → ∃ h1, f_X4_setName_3 fu a (nI s) (x + 1) (nI σ.1) (nI l) (nI i) h = some ((), h1) ∧ (hK h1 = hK h ∧ hR h1 = hR h ∧ hL h1 = hL h ∧ hN h1 = hN h ∧ hS h1 = hS h) ∧ (∀ b j, ¬ (b = a + 1 ∧ 6 * s + i ≤ j ∧ j < 6 * s + 6) → hI h1 b j = hI h b j) ∧ ∀ k, i ≤ k → k < 6 → hI h1 (a + 1) (6 * s + k) = nI (if k < l then tp (σ.1 + k) - 96 else 0) := by
  intro m
  induction m with
  | zero =>
    intro i fu h hi hf S hb
    obtain ⟨fu, rfl⟩ : ∃ m, fu = m + 1 := ⟨fu - 1, by omega⟩
    have hi : i = 6 := by omega
    subst hi
    refine ⟨h, ?_, ⟨rfl, rfl, rfl, rfl, rfl⟩, fun _ _ _ => rfl, fun k h1 h2 => by omega⟩
    show b_X4_setName_3 (f_X4_setName_3 fu) a (nI s) (x + 1) (nI σ.1) (nI l) (nI 6) h = _
    unfold b_X4_setName_3
    rw [if_pos (show (6 : Int32) ≤ nI 6 by decide)]
    rfl
  | succ m ih =>
    intro i fu h hi hf S hb
    obtain ⟨fu, rfl⟩ : ∃ m, fu = m + 1 := ⟨fu - 1, by omega⟩
    obtain ⟨c, hc⟩ : ∃ c, c = if i < l then tp (σ.1 + i) - 96 else 0 := ⟨_, rfl⟩
    have st := c_set1 (fu := fu) S ha hs (show i < 6 by omega) hl hp hb hc h0
    obtain ⟨h1, e1, ⟨k1, k2, k3, k4, k5⟩, f1, v1⟩ := ih (i + 1) fu (sI h (a + 1) (6 * s + i) (nI c)) (by omega) (by omega) (S.of rfl rfl) (fun j hj => by rw [hI_sI, if_neg (by omega)]; exact hb j hj)
    refine ⟨h1, st.trans e1, ⟨k1, k2, k3, k4, k5⟩, fun b j z => ?_, fun k z1 z2 => ?_⟩
    · rw [f1 b j (by omega), hI_sI, if_neg (by omega)]
    · by_cases c1 : k = i
      · subst c1
        rw [f1 _ _ (by omega), hI_sI, if_pos ⟨rfl, rfl⟩, hc]
      · exact v1 k (by omega) z2
/-- names are the same where their six letters are -/
theorem six_eq {l m : List Nat} (h1 : l.length ≤ 6) (h2 : m.length ≤ 6) (p1 : ∀ c ∈ l, 1 ≤ c ∧ c ≤ 26) (p2 : ∀ c ∈ m, 1 ≤ c ∧ c ≤ 26) : (∀ k, k < 6 → l.getD k 0 = m.getD k 0) ↔ l = m := by
  refine ⟨fun q => ?_, fun e => by rw [e]; exact fun _ _ => rfl⟩
  have nz : ∀ (l : List Nat), (∀ c ∈ l, 1 ≤ c ∧ c ≤ 26) → ∀ k, k < l.length → 1 ≤ l.getD k 0 := by
    intro l p k hk
    rw [List.getD_eq_getElem?_getD, List.getElem?_eq_getElem hk]
    exact (p _ (List.getElem_mem hk)).1
  have zr : ∀ (l : List Nat) (k : Nat), l.length ≤ k → l.getD k 0 = 0 := by
    intro l k hk
    rw [List.getD_eq_getElem?_getD, List.getElem?_eq_none hk]
    rfl
  have len : l.length = m.length := by
    rcases Nat.lt_trichotomy l.length m.length with c | c | c
    · have a := nz m p2 l.length c
      rw [← q _ (by omega), zr l _ (Nat.le_refl _)] at a
      omega
    · exact c
    · have a := nz l p1 m.length c
      rw [q _ (by omega), zr m _ (Nat.le_refl _)] at a
      omega
  refine List.ext_getElem len (fun k k1 k2 => ?_)
  have e := q k (by omega)
  rw [List.getD_eq_getElem?_getD, List.getD_eq_getElem?_getD, List.getElem?_eq_getElem k1, List.getElem?_eq_getElem k2] at e
  exact e
/-- two rows of six letters -/
theorem c_row {k2 : Nat → Int32 → Int32 → aH → Option (Int32 × aH)} {s t : Nat} {l m : List Nat} (S : XS h x) (ha : a = x + 92 ∨ a = x + 98) (hs : s < 4) (ht : t < 4) (rs : ∀ k, k < 6 → hI h (a + 1) (6 * s + k) = nI (l.getD k 0)) (rt : ∀ k, k < 6 → hI h (a + 1) (6 * t + k) = nI (m.getD k 0)) (bl : ∀ k, l.getD k 0 ≤ 26) (bm : ∀ k, m.getD k 0 ≤ 26) : ∀ (d i fu : Nat), i + d = 6 → d < fu → (∀ k, k < i → l.getD k 0 = m.getD k 0) → ((∀ k, k < 6 → l.getD k 0 = m.getD k 0) → f_X4_hasNameTwice_14 k2 fu a (nI s) (nI t) (nI i) h = some (nI 1, h)) ∧ (¬ (∀ k, k < 6 → l.getD k 0 = m.getD k 0) → f_X4_hasNameTwice_14 k2 fu a (nI s) (nI t) (nI i) h = k2 a (nI s) (nI (t + 1)) h) := by
  have A := S.ma ha
  intro d
  induction d with
  | zero =>
    intro i fu hi hf pre
    obtain ⟨fu, rfl⟩ : ∃ m, fu = m + 1 := ⟨fu - 1, by omega⟩
    have hi : i = 6 := by omega
    subst hi
    refine ⟨fun _ => ?_, fun z => absurd pre z⟩
    show b_X4_hasNameTwice_14 k2 (f_X4_hasNameTwice_14 k2 fu) a (nI s) (nI t) (nI 6) h = _
    unfold b_X4_hasNameTwice_14 f_X4_hasNameTwice_51
    rw [if_pos (show (6 : Int32) ≤ nI 6 by decide), if_pos (show nI 6 = (6 : Int32) from rfl)]
    rfl
  | succ d ih =>
    intro i fu hi hf pre
    obtain ⟨fu, rfl⟩ : ∃ m, fu = m + 1 := ⟨fu - 1, by omega⟩
    have n6 : ¬ (6 : Int32) ≤ nI i := by rw [show (6 : Int32) = nI 6 from rfl, nI_leI (by omega) (by omega)]; omega
    have es : nI s * 6 + nI i = nI (6 * s + i) := by rw [show nI s * 6 = nI (s * 6) from pk_mul s 6, nI_add, Nat.mul_comm s 6]
    have et : nI t * 6 + nI i = nI (6 * t + i) := by rw [show nI t * 6 = nI (t * 6) from pk_mul t 6, nI_add, Nat.mul_comm t 6]
    have st : f_X4_hasNameTwice_14 k2 (fu + 1) a (nI s) (nI t) (nI i) h = if nI (m.getD i 0) = nI (l.getD i 0) then f_X4_hasNameTwice_14 k2 fu a (nI s) (nI t) (nI (i + 1)) h else f_X4_hasNameTwice_51 k2 a (nI s) (nI t) (nI i) h := by
      show b_X4_hasNameTwice_14 k2 (f_X4_hasNameTwice_14 k2 fu) a (nI s) (nI t) (nI i) h = _
      unfold b_X4_hasNameTwice_14
      dsimp only [nm]
      rw [if_neg n6, ko_t A.k, kr_t A.r4, ka_t A.k1, et, es, chk_t (inb_nI (show 6 * t + i < 24 by omega) (by omega)), chk_t (inb_nI (show 6 * s + i < 24 by omega) (by omega)), tn_nI (show 6 * t + i < 2 ^ 31 by omega), tn_nI (show 6 * s + i < 2 ^ 31 by omega), rs i (by omega), rt i (by omega), show nI i + 1 = nI (i + 1) from nI_add i 1]
    rw [st]
    have b1 := bl i
    have b2 := bm i
    by_cases c : l.getD i 0 = m.getD i 0
    · rw [if_pos (by rw [c])]
      exact ih (i + 1) fu (by omega) (by omega) (fun k hk => by
        by_cases z : k = i
        · rw [z]; exact c
        · exact pre k (by omega))
    · rw [if_neg (fun z => c ((nI_eq (by omega) (by omega)).mp z).symm)]
      refine ⟨fun z => absurd (z i (by omega)) c, fun _ => ?_⟩
      unfold f_X4_hasNameTwice_51
      dsimp only [nm]
      rw [if_neg (show ¬ nI i = (6 : Int32) from nI_q (b := 6) (by omega) (by omega) (by omega)), show nI t + 1 = nI (t + 1) from nI_add t 1]
theorem c_twice {s : Nat} {ns : Nat → List Nat} {l : List Nat} (S : XS h x) (ha : a = x + 92 ∨ a = x + 98) (hs : s < 4) (rt : ∀ t k, t < s → k < 6 → hI h (a + 1) (6 * t + k) = nI ((ns t).getD k 0)) (rs : ∀ k, k < 6 → hI h (a + 1) (6 * s + k) = nI (l.getD k 0)) (ok_ : ∀ t, t < s → (ns t).length ≤ 6 ∧ ∀ c ∈ ns t, 1 ≤ c ∧ c ≤ 26) (okl : l.length ≤ 6 ∧ ∀ c ∈ l, 1 ≤ c ∧ c ≤ 26) : ∀ (d t fu : Nat), t + d = s → d < fu → f_X4_hasNameTwice_2 fu a (nI s) (nI t) h = some (b2i ((fnd (fun s => decide (ns s = l)) d t).isSome), h) := by
  have gb : ∀ (l : List Nat), (∀ c ∈ l, 1 ≤ c ∧ c ≤ 26) → ∀ k, l.getD k 0 ≤ 26 := by
    intro l p k
    by_cases hk : k < l.length
    · rw [List.getD_eq_getElem?_getD, List.getElem?_eq_getElem hk]
      exact (p _ (List.getElem_mem hk)).2
    · rw [List.getD_eq_getElem?_getD, List.getElem?_eq_none (by omega)]
      exact Nat.zero_le _
  have n4 : ¬ (4 : Int32) ≤ nI s := by rw [show (4 : Int32) = nI 4 from rfl, nI_leI (by omega) (by omega)]; omega
  intro d
  induction d with
  | zero =>
    intro t fu hi hf
    obtain ⟨fu, rfl⟩ : ∃ m, fu = m + 1 := ⟨fu - 1, by omega⟩
    have hi : t = s := by omega
    subst hi
    show b_X4_hasNameTwice_2 (f_X4_hasNameTwice_2 fu) a (nI t) (nI t) h = _
    unfold b_X4_hasNameTwice_2
    rw [if_pos (Int32.le_refl _)]
    rfl
  | succ d ih =>
    intro t fu hi hf
    obtain ⟨fu, rfl⟩ : ∃ m, fu = m + 1 := ⟨fu - 1, by omega⟩
    have nt : ¬ nI s ≤ nI t := by rw [nI_leI (by omega) (by omega)]; omega
    have o := ok_ t (by omega)
    have rw1 := c_row (k2 := f_X4_hasNameTwice_2 fu) S ha hs (show t < 4 by omega) rs (fun k hk => rt t k (by omega) hk) (gb l okl.2) (gb _ o.2) 6 0 FU rfl (FU_gt (by omega)) (fun k hk => by omega)
    have sx := six_eq okl.1 o.1 okl.2 o.2
    show b_X4_hasNameTwice_2 (f_X4_hasNameTwice_2 fu) a (nI s) (nI t) h = _
    unfold b_X4_hasNameTwice_2
    rw [if_neg nt, if_neg n4]
    by_cases c : ns t = l
    · rw [show f_X4_hasNameTwice_14 (f_X4_hasNameTwice_2 fu) FU a (nI s) (nI t) 0 h = _ from rw1.1 (sx.mpr c.symm), fnd_1 (p := fun s => decide (ns s = l)) (decide_eq_true c)]
      rfl
    · rw [show f_X4_hasNameTwice_14 (f_X4_hasNameTwice_2 fu) FU a (nI s) (nI t) 0 h = _ from rw1.2 (fun z => c (sx.mp z).symm), fnd_2 (p := fun s => decide (ns s = l)) (fun z => c (of_decide_eq_true z))]
      exact ih (t + 1) fu (by omega) (by omega)
end Dn
