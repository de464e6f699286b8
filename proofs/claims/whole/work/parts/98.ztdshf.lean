/-! A MACHINE'S TEXT: the reference's draft, its shelf statement -/
def DFm (h : aH) (x u : Nat) (B : tyB) : Prop := hI h (x + 107 + 28) 0 = nI B.2.1 ∧ hI h (x + 107 + 28) 1 = nI B.1 ∧ hI h (x + 107 + 28) 2 = nI B.2.2.1 ∧ (∀ s, s < B.2.2.1 → s < 4 → hL h (x + 107 + 29) s = lN (nmL (B.2.2.2.1 s))) ∧ (∀ s, s < B.2.2.1 → s < 4 → hI h (x + 107 + 30) s = nI (B.2.2.2.2.1 s)) ∧ (∀ w, w < 3 → B.2.2.2.2.2 w = [] ∧ hI h (x + 107 + 31) w = -nI 1 ∨ B.2.2.2.2.2 w ≠ [] ∧ ∃ f, f + (B.2.2.2.2.2 w).length ≤ u ∧ hI h (x + 107 + 31) w = nI f ∧ hI h (x + 107 + 32) w = nI (f + (B.2.2.2.2.2 w).length) ∧ ∀ i, i < (B.2.2.2.2.2 w).length → hI h (x + 107 + 33) (f + i) = nI ((B.2.2.2.2.2 w).getD i 0)) ∧ hI h (x + 107) 43 = nI u
/-- what the reference may change while it reads a machine -/
def RC (x b j : Nat) : Prop := b = x + 107 ∧ (j = 2 ∨ j = 4 ∨ j = 5 ∨ j = 6 ∨ j = 10 ∨ j = 36 ∨ j = 43 ∨ j = 44 ∨ j = 46 ∨ j = 92 ∨ j = 94 ∨ j = 95 ∨ j = 96) ∨ b = x + 107 + 28 ∧ j < 3 ∨ b = x + 107 + 30 ∧ j < 4 ∨ b = x + 107 + 31 ∧ j < 3 ∨ b = x + 107 + 32 ∧ j < 3 ∨ b = x + 107 + 33 ∧ j < 1600 ∨ b = x + 107 + 64 ∨ b = x + 107 + 65
def RX (x : Nat) (h h1 : aH) : Prop := hK h1 = hK h ∧ hR h1 = hR h ∧ hN h1 = hN h ∧ hS h1 = hS h ∧ (∀ b j, ¬ RC x b j → hI h1 b j = hI h b j) ∧ (∀ b j, ¬ (b = x + 107 + 29 ∧ j < 4) → hL h1 b j = hL h b j)
theorem RX.refl {x : Nat} {h : aH} : RX x h h := ⟨rfl, rfl, rfl, rfl, fun _ _ _ => rfl, fun _ _ _ => rfl⟩
theorem RX.trans {x : Nat} {h h1 h2 : aH} (p : RX x h h1) (q : RX x h1 h2) : RX x h h2 := ⟨q.1.trans p.1, q.2.1.trans p.2.1, q.2.2.1.trans p.2.2.1, q.2.2.2.1.trans p.2.2.2.1, fun b j z => (q.2.2.2.2.1 b j z).trans (p.2.2.2.2.1 b j z), fun b j z => (q.2.2.2.2.2 b j z).trans (p.2.2.2.2.2 b j z)⟩
theorem QN.rx {x : Nat} {h h1 : aH} (q : QN x h h1) : RX x h h1 := ⟨q.1, q.2.1, q.2.2.2.1, q.2.2.2.2.1, fun b j z => q.2.2.2.2.2 b j (fun y => z (by unfold QC at y; unfold RC; omega)), fun b j _ => by rw [q.2.2.1]⟩
theorem rx_s {x : Nat} {h : aH} {b j : Nat} {v : Int32} (z : RC x b j) : RX x h (sI h b j v) := ⟨rfl, rfl, rfl, rfl, fun c i y => by rw [hI_sI, if_neg]; rintro ⟨rfl, rfl⟩; exact y z, fun _ _ _ => rfl⟩
theorem rx_l {x : Nat} {h : aH} {j : Nat} {v : Int64} (z : j < 4) : RX x h (sL h (x + 107 + 29) j v) := ⟨rfl, rfl, rfl, rfl, fun _ _ _ => rfl, fun c i y => by rw [hL_sL, if_neg (by omega)]⟩
def RsR (x : Nat) (tp : Nat → Nat) (n : Nat) (r : tyF (tyB × tyT)) (h : aH) (s : Option (Unit × aH)) : Prop := match r with
  | .inl e => ∃ h1, s = some ((), h1) ∧ BDm h1 x e ∧ RX x h h1
  | .inr q => ∃ h1 u, s = some ((), h1) ∧ RT h1 x tp n q.2 ∧ DFm h1 x u q.1 ∧ u ≤ q.2.1 ∧ RX x h h1 ∧ hI h1 (x + 107) 44 = hI h (x + 107) 44
section Ds
variable {h h1 : aH} {x n u : Nat} {tp : Nat → Nat} {σ : tyT} {e : Nat × Nat} {B : tyB}
theorem DFm.fr (d : DFm h x u B) (eI : ∀ b j, x + 107 + 28 ≤ b ∧ b < x + 107 + 34 ∨ b = x + 107 ∧ j = 43 → hI h1 b j = hI h b j) (eL : ∀ j, hL h1 (x + 107 + 29) j = hL h (x + 107 + 29) j) : DFm h1 x u B := by
  obtain ⟨d1, d2, d3, d4, d5, d6, d7⟩ := d
  refine ⟨(eI _ _ (by omega)).trans d1, (eI _ _ (by omega)).trans d2, (eI _ _ (by omega)).trans d3, fun s h1 h2 => (eL s).trans (d4 s h1 h2), fun s h1 h2 => (eI _ _ (by omega)).trans (d5 s h1 h2), fun w hw => ?_, (eI _ _ (by omega)).trans d7⟩
  rcases d6 w hw with ⟨a1, a2⟩ | ⟨a1, f, f1, f2, f3, f4⟩
  · exact Or.inl ⟨a1, (eI _ _ (by omega)).trans a2⟩
  · exact Or.inr ⟨a1, f, f1, (eI _ _ (by omega)).trans f2, (eI _ _ (by omega)).trans f3, fun i hi => (eI _ _ (by omega)).trans (f4 i hi)⟩
theorem DFm.qn (d : DFm h x u B) (q : QN x h h1) : DFm h1 x u B := d.fr (fun b j z => q.2.2.2.2.2 b j (by unfold QC; omega)) (fun j => by rw [q.2.2.1])
theorem t2_ : (2 : Int32).toNatClampNeg = 2 := by decide
/-- a fault was told: the shelf's rest does nothing -/
theorem sh_bad (b : BDm h x e) {s : Nat} (hs : s ≤ 4) (m2 : hI h (x + 107 + 28) 2 = nI s) (v : Int64) : ∀ (d k fu : Nat), k + d = s → d < fu → f_X12_shelfTold_31 fu (x + 107) v (nI k) h = some ((), h) := by
  have S := b.1
  have nb := nI_n0 b.2.2.2.1 b.2.2.2.2
  intro d
  induction d with
  | zero =>
    intro k fu hk hf
    obtain ⟨fu, rfl⟩ : ∃ m, fu = m + 1 := ⟨fu - 1, by omega⟩
    have hk : k = s := by omega
    subst hk
    show b_X12_shelfTold_31 (f_X12_shelfTold_31 fu) (x + 107) v (nI k) h = _
    unfold b_X12_shelfTold_31
    rw [ko_t S.k, kr_t S.r37, ka_t S.k37, chk_t (show inb (2 : Int32) 6 = true by decide), t2_, m2, if_pos (Int32.le_refl _), kr_t S.r14, bd_t (bd_asks b), ko_t S.k, bd_t (bd_num b), ko_t S.k, b.2.1, if_neg nb]
  | succ d ih =>
    intro k fu hk hf
    obtain ⟨fu, rfl⟩ : ∃ m, fu = m + 1 := ⟨fu - 1, by omega⟩
    show b_X12_shelfTold_31 (f_X12_shelfTold_31 fu) (x + 107) v (nI k) h = _
    unfold b_X12_shelfTold_31
    rw [ko_t S.k, kr_t S.r37, ka_t S.k37, chk_t (show inb (2 : Int32) 6 = true by decide), t2_, m2, if_neg (show ¬ nI s ≤ nI k by rw [nI_leI (by omega) (by omega)]; omega), b.2.1, if_neg nb]
    unfold f_X12_shelfTold_70
    dsimp only [nm]
    rw [show nI k + 1 = nI (k + 1) from nI_k k 1]
    exact ih (k + 1) fu (by omega) (by omega)
/-- is the name told already -/
theorem sh_scan (T : RT h x tp n σ) (D : DFm h x u B) (o : okQ B) {l : List Nat} (okl : l.length ≤ 6 ∧ ∀ c ∈ l, 1 ≤ c ∧ c ≤ 26) {p : Nat} (e36 : hI h (x + 107) 36 = nI p) : ∀ (d k fu : Nat), k + d = B.2.2.1 → d < fu → ((fnd (fun s => decide (B.2.2.2.1 s = l)) d k).isSome = true → f_X12_shelfTold_31 fu (x + 107) (lN (nmL l)) (nI k) h = some ((), flH h x 3 p)) ∧ ((fnd (fun s => decide (B.2.2.2.1 s = l)) d k).isSome = false → ∃ f2, f_X12_shelfTold_31 fu (x + 107) (lN (nmL l)) (nI k) h = f_X12_shelfTold_31 (f2 + 1) (x + 107) (lN (nmL l)) (nI B.2.2.1) h) := by
  have S := T.1.1
  have sh5 := o.2.2.2.2.1
  have bad := T.2.2.1
  intro d
  induction d with
  | zero =>
    intro k fu hk hf
    obtain ⟨fu, rfl⟩ : ∃ m, fu = m + 1 := ⟨fu - 1, by omega⟩
    have hk : k = B.2.2.1 := by omega
    refine ⟨fun z => (by cases z), fun _ => ⟨fu, by rw [hk]⟩⟩
  | succ d ih =>
    intro k fu hk hf
    obtain ⟨fu, rfl⟩ : ∃ m, fu = m + 1 := ⟨fu - 1, by omega⟩
    have ok1 := o.2.2.2.2.2.1 k (by omega)
    have nm1 := D.2.2.2.1 k (by omega) (by omega)
    have ll : ∀ l : List Nat, l.length ≤ 6 → (∀ c ∈ l, 1 ≤ c ∧ c ≤ 26) → nmL l < 2 ^ 63 := by
      intro l h1 h2
      have a := nmL_lt l.length l rfl (fun c hc => (h2 c hc).2)
      have b := p27 h1
      omega
    have e1 : lg_cmp (lN (nmL (B.2.2.2.1 k))) (lN (nmL l)) = 0 ↔ B.2.2.2.1 k = l := by
      rw [lg_cmp_eq, pk_lEQ (ll _ ok1.2.1 ok1.2.2) (ll _ okl.1 okl.2)]
      exact ⟨fun z => nmL_inj _ _ _ rfl ok1.2.2 okl.2 z, fun z => by rw [z]⟩
    have st : f_X12_shelfTold_31 (fu + 1) (x + 107) (lN (nmL l)) (nI k) h = if lg_cmp (lN (nmL (B.2.2.2.1 k))) (lN (nmL l)) = 0 then (bd (f_X12_fail (x + 107) 3 (nI p) h) fun _ h45 => f_X12_shelfTold_70 (f_X12_shelfTold_31 fu) (x + 107) (lN (nmL l)) (nI k) h45) else f_X12_shelfTold_70 (f_X12_shelfTold_31 fu) (x + 107) (lN (nmL l)) (nI k) h := by
      show b_X12_shelfTold_31 (f_X12_shelfTold_31 fu) (x + 107) (lN (nmL l)) (nI k) h = _
      unfold b_X12_shelfTold_31
      rw [ko_t S.k, kr_t S.r37, ka_t S.k37, chk_t (show inb (2 : Int32) 6 = true by decide), t2_, D.2.2.1, if_neg (show ¬ nI B.2.2.1 ≤ nI k by rw [nI_leI (by omega) (by omega)]; omega), bad, if_pos (show nI 0 = (0 : Int32) from rfl), kr_t S.r38, ka_t S.k38, chk_t (inb_nI (show k < 8 by omega) (by omega)), tn_nI (show k < 2 ^ 31 by omega), nm1, e36]
    rw [st]
    by_cases c : B.2.2.2.1 k = l
    · rw [fnd_1 (p := fun s => decide (B.2.2.2.1 s = l)) (decide_eq_true c), if_pos (e1.mpr c)]
      refine ⟨fun _ => ?_, fun z => (by cases z)⟩
      have b := BDm.fl (x := x) (p := p) S (k := 3) (by omega) (by omega)
      rw [bd_t (show f_X12_fail (x + 107) 3 (nI p) h = _ from m_fail S bad 3 p)]
      unfold f_X12_shelfTold_70
      dsimp only [nm]
      rw [show nI k + 1 = nI (k + 1) from nI_k k 1]
      exact sh_bad b (s := B.2.2.1) (by omega) (by unfold flH; rw [hI_sI, if_neg (by omega), hI_sI, if_neg (by omega)]; exact D.2.2.1) _ d (k + 1) fu (by omega) (by omega)
    · rw [fnd_2 (p := fun s => decide (B.2.2.2.1 s = l)) (fun z => c (of_decide_eq_true z)), if_neg (fun z => c (e1.mp z))]
      unfold f_X12_shelfTold_70
      dsimp only [nm]
      rw [show nI k + 1 = nI (k + 1) from nI_k k 1]
      exact ih (k + 1) fu (by omega) (by omega)
end Ds
