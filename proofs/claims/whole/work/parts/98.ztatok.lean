/-! A MACHINE'S TEXT: the reference's tokens -/
/-- a fault was told -/
def BDm (h : aH) (x : Nat) (e : Nat × Nat) : Prop := MS h (x + 107) ∧ hI h (x + 107) 5 = nI e.1 ∧ hI h (x + 107) 6 = nI e.2 ∧ 1 ≤ e.1 ∧ e.1 ≤ 100
/-- only the reader went on -/
def QN (x : Nat) (h h1 : aH) : Prop := hK h1 = hK h ∧ hR h1 = hR h ∧ hL h1 = hL h ∧ hN h1 = hN h ∧ hS h1 = hS h ∧ ∀ b j, ¬ (QC x b j ∨ b = x + 107 ∧ (j = 36 ∨ j = 46)) → hI h1 b j = hI h b j
theorem QN.refl {x : Nat} {h : aH} : QN x h h := ⟨rfl, rfl, rfl, rfl, rfl, fun _ _ _ => rfl⟩
theorem QN.trans {x : Nat} {h h1 h2 : aH} (p : QN x h h1) (q : QN x h1 h2) : QN x h h2 := ⟨q.1.trans p.1, q.2.1.trans p.2.1, q.2.2.1.trans p.2.2.1, q.2.2.2.1.trans p.2.2.2.1, q.2.2.2.2.1.trans p.2.2.2.2.1, fun b j z => (q.2.2.2.2.2 b j z).trans (p.2.2.2.2.2 b j z)⟩
theorem QX.qn {x : Nat} {h h1 : aH} (q : QX x h h1) : QN x h h1 := ⟨q.1, q.2.1, q.2.2.1, q.2.2.2.1, q.2.2.2.2.1, fun b j z => q.2.2.2.2.2 b j (fun y => z (Or.inl y))⟩
theorem qn_s {x : Nat} {h : aH} {j : Nat} {v : Int32} (hj : j = 36 ∨ j = 46) : QN x h (sI h (x + 107) j v) := ⟨rfl, rfl, rfl, rfl, rfl, fun b i z => by rw [hI_sI, if_neg (fun y => z (Or.inr ⟨y.1, by omega⟩))]⟩
def TkM (x : Nat) (tp : Nat → Nat) (n : Nat) (r : tyF tyT) (h : aH) (s : Option (Unit × aH)) : Prop := match r with
  | .inl e => ∃ h1, s = some ((), h1) ∧ BDm h1 x e ∧ QN x h h1
  | .inr σ => ∃ h1, s = some ((), h1) ∧ RT h1 x tp n σ ∧ QN x h h1
section Tk
variable {h h1 : aH} {x n : Nat} {tp : Nat → Nat} {σ : tyT} {e : Nat × Nat}
theorem BDm.fl (S : MS h (x + 107)) {k p : Nat} (h1 : 1 ≤ k) (h2 : k ≤ 100) : BDm (flH h x k p) x (k, p) := ⟨S.of rfl rfl, fl_5.1, fl_5.2, h1, h2⟩
theorem bd_asks {A : Nat} (b : BDm h x e) : f_X12_asks (x + 107) A h = some ((), h) := by
  unfold f_X12_asks
  rw [ko_t b.1.k, b.2.1, if_neg (nI_n0 b.2.2.2.1 b.2.2.2.2)]
  rfl
theorem bd_sign {q : Int32} (b : BDm h x e) : f_X12_asksSign (x + 107) q h = some ((), h) := m_asksB b.1 b.2.1 b.2.2.2.1 b.2.2.2.2
theorem bd_num {lo hi : Int32} (b : BDm h x e) : f_X12_number (x + 107) lo hi h = some (0, h) := by
  unfold f_X12_number
  rw [ko_t b.1.k, b.2.1, if_neg (nI_n0 b.2.2.2.1 b.2.2.2.2)]
theorem bd_name (b : BDm h x e) : f_X12_name (x + 107) h = some (0, h) := by
  unfold f_X12_name
  rw [ko_t b.1.k, b.2.1, if_neg (nI_n0 b.2.2.2.1 b.2.2.2.2)]
theorem bd_fail {k p : Int32} (b : BDm h x e) : f_X12_fail (x + 107) k p h = some ((), h) := by
  unfold f_X12_fail
  rw [ko_t b.1.k, b.2.1, if_neg (nI_n0 b.2.2.2.1 b.2.2.2.2)]
theorem bd_here {A : Nat} (b : BDm h x e) : f_X12_isHere (x + 107) A h = some (nI 0, h) := by
  unfold f_X12_isHere
  rw [ko_t b.1.k, b.2.1, if_neg (nI_n0 b.2.2.2.1 b.2.2.2.2)]
  rfl
theorem BDm.fr (b : BDm h x e) (K : hK h1 = hK h) (R : hR h1 = hR h) (e5 : hI h1 (x + 107) 5 = hI h (x + 107) 5) (e6 : hI h1 (x + 107) 6 = hI h (x + 107) 6) : BDm h1 x e := ⟨b.1.of K R, e5.trans b.2.1, e6.trans b.2.2.1, b.2.2.2⟩
theorem takesM (T : RT h x tp n σ) (tb : ∀ j, tp j ≤ 255) (hn : n ≤ 1600) {i : Nat} (hi : i < 25) : (isW tp n σ i = true → f_X12_takes (x + 107) (x + 107 + 3 + i) h = some (nI 1, tkH (sI h (x + 107) 2 (nI σ.1)) x (rn isL tp n σ.1))) ∧ (isW tp n σ i = false → f_X12_takes (x + 107) (x + 107 + 3 + i) h = some (nI 0, sI h (x + 107) 2 (nI σ.1))) := by
  obtain ⟨lk, A1⟩ := m_look T tb hn
  have hr := here_rt T tb hn (A := x + 107 + 3 + i)
  have ha := m_hereM A1 tb hn hi
  have k := (A1.1.1.mw i hi).2
  have tk := m_takes A1 hn k (by omega) ha
  have e : f_X12_takes (x + 107) (x + 107 + 3 + i) h = f_X12_takes (x + 107) (x + 107 + 3 + i) (sI h (x + 107) 2 (nI σ.1)) := by
    unfold f_X12_takes
    rw [ko_t T.1.1.k, hr, ko_t A1.1.1.k]
  rw [e]
  exact tk
theorem mt_word (T : RT h x tp n σ) (tb : ∀ j, tp j ≤ 255) (hn : n ≤ 1600) {i : Nat} (hi : i < 25) : TkM x tp n (pWd tp n i σ) h (f_X12_asks (x + 107) (x + 107 + 3 + i) h) := by
  obtain ⟨lk, A1⟩ := m_look T tb hn
  have tk := takesM T tb hn hi
  have q0 : QX x h (sI h (x + 107) 2 (nI σ.1)) := qx_s (by unfold QC; omega)
  unfold pWd f_X12_asks
  rw [ko_t T.1.1.k, T.2.2.1, if_pos (show nI 0 = (0 : Int32) from rfl)]
  by_cases z : isW tp n σ i = true
  · rw [if_pos z]
    refine ⟨_, ?_, A1.w z, (q0.trans qx_tk).qn⟩
    rw [bd_t (tk.1 z), if_neg (show ¬ nI 1 = (0 : Int32) by decide)]
    rfl
  · rw [if_neg z]
    refine ⟨flH (sI h (x + 107) 2 (nI σ.1)) x 1 σ.1, ?_, BDm.fl A1.1.1 (by omega) (by omega), (q0.trans qx_fl).qn⟩
    rw [bd_t (tk.2 (isW_f z)), if_pos (show nI 0 = (0 : Int32) from rfl), ko_t A1.1.1.k, A1.2.2.2.1, bd_t (show f_X12_fail (x + 107) 1 (nI σ.1) (sI h (x + 107) 2 (nI σ.1)) = _ from m_fail A1.1.1 A1.2.2.1 1 σ.1)]
    rfl
theorem mt_sign (T : RT h x tp n σ) (tb : ∀ j, tp j ≤ 255) (hn : n ≤ 1600) {q : Nat} (hq : q ≤ 255) : TkM x tp n (pSg tp n q σ) h (f_X12_asksSign (x + 107) (nI q) h) := by
  obtain ⟨lk, A1⟩ := m_look T tb hn
  have lk1 := m_lookA A1 tb hn
  have as := m_asksS A1 tb hn hq
  have q0 : QX x h (sI h (x + 107) 2 (nI σ.1)) := qx_s (by unfold QC; omega)
  have e0 : f_X12_takesSign (x + 107) (nI q) h = f_X12_takesSign (x + 107) (nI q) (sI h (x + 107) 2 (nI σ.1)) := by
    unfold f_X12_takesSign
    rw [ko_t T.1.1.k, T.2.2.1, if_pos (show nI 0 = (0 : Int32) from rfl), bd_t lk, ko_t A1.1.1.k, ko_t A1.1.1.k, A1.2.2.1, if_pos (show nI 0 = (0 : Int32) from rfl), bd_t lk1, ko_t A1.1.1.k]
  have e : f_X12_asksSign (x + 107) (nI q) h = f_X12_asksSign (x + 107) (nI q) (sI h (x + 107) 2 (nI σ.1)) := by
    unfold f_X12_asksSign
    rw [ko_t T.1.1.k, T.2.2.1, if_pos (show nI 0 = (0 : Int32) from rfl), e0, ko_t A1.1.1.k, A1.2.2.1, if_pos (show nI 0 = (0 : Int32) from rfl)]
  unfold pSg
  rw [e]
  by_cases z : isS tp n σ q = true
  · rw [if_pos z]
    exact ⟨_, as.1 z, A1.sg z, (q0.trans (qx_s (by unfold QC; omega))).qn⟩
  · rw [if_neg z]
    exact ⟨_, as.2 (by cases y : isS tp n σ q with | false => rfl | true => exact absurd y z), BDm.fl A1.1.1 (by omega) (by omega), (q0.trans qx_fl).qn⟩
theorem mt_num (T : RT h x tp n σ) (tb : ∀ j, tp j ≤ 255) (hn : n ≤ 1600) {lo hi : Nat} (l1 : lo ≤ 99999) (l2 : hi ≤ 99999) : (∃ e v h1, pNu tp n lo hi σ = .inl e ∧ f_X12_number (x + 107) (nI lo) (nI hi) h = some (v, h1) ∧ BDm h1 x e ∧ QN x h h1) ∨ (∃ h1, isN tp n σ = true ∧ (lo ≤ nv tp n σ ∧ nv tp n σ ≤ hi) ∧ pNu tp n lo hi σ = .inr (nv tp n σ, nD tp n σ) ∧ f_X12_number (x + 107) (nI lo) (nI hi) h = some (nI (nv tp n σ), h1) ∧ RT h1 x tp n (nD tp n σ) ∧ QN x h h1) := by
  obtain ⟨lk, A1⟩ := m_look T tb hn
  have lk1 := m_lookA A1 tb hn
  have q0 : QX x h (sI h (x + 107) 2 (nI σ.1)) := qx_s (by unfold QC; omega)
  have e : f_X12_number (x + 107) (nI lo) (nI hi) h = f_X12_number (x + 107) (nI lo) (nI hi) (sI h (x + 107) 2 (nI σ.1)) := by
    unfold f_X12_number
    rw [ko_t T.1.1.k, T.2.2.1, if_pos (show nI 0 = (0 : Int32) from rfl), bd_t lk, ko_t A1.1.1.k, A1.2.2.1, if_pos (show nI 0 = (0 : Int32) from rfl), bd_t lk1]
  rw [e]
  rcases m_num A1 tb hn l1 l2 with ⟨z, c4, a1, a2, nu⟩ | ⟨k, p, v, h1, nu, -, b5, b6, qx, -, z⟩
  · right
    refine ⟨_, z, ⟨a1, a2⟩, ?_, nu, A1.nd z, (q0.trans qx_nu).qn⟩
    unfold pNu
    rw [if_pos z, if_pos c4, if_pos ⟨a1, a2⟩]
  · left
    refine ⟨(k, p), nI v, h1, ?_, nu, ⟨(A1.1.qx qx).1, b5, b6, ?_⟩, (q0.trans qx).qn⟩
    · unfold pNu
      rcases z with ⟨z, c4, l, rfl, rfl⟩ | ⟨z, c4, rfl, rfl⟩ | ⟨z, rfl, rfl⟩
      · rw [if_pos z, if_pos c4, if_neg l]
      · rw [if_pos z, if_neg c4]
      · rw [if_neg (by rw [z]; decide)]
    · rcases z with ⟨-, -, -, rfl, -⟩ | ⟨-, -, rfl, -⟩ | ⟨-, rfl, -⟩ <;> exact ⟨by show 1 ≤ _; omega, by show _ ≤ 100; omega⟩
end Tk
