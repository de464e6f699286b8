/-! the reference's history -/
theorem fb_next {h : aH} {a t i : Nat} {f : Nat → Int32} : sI (fb h a t i f) a (t + i) (f i) = fb h a t (i + 1) f := by
  apply aH_ext
  · intro b; rfl
  · intro b j
    simp only [hI_sI, hI_fb]
    by_cases h2 : b = a
    · subst h2
      by_cases h3 : j = t + i
      · subst h3; simp
      · by_cases h4 : t ≤ j ∧ j < t + i
        · rw [if_neg (by omega), if_pos ⟨rfl, h4.1, h4.2⟩, if_pos ⟨rfl, h4.1, by omega⟩]
        · rw [if_neg (by omega), if_neg (by omega), if_neg (by omega)]
    · simp [h2]
  · intro b j; rfl
  · intro b j; rfl
  · rfl
  · rfl
theorem fb_0 {h : aH} {a t : Nat} {f : Nat → Int32} : fb h a t 0 f = h := by
  apply aH_ext
  · intro b; rfl
  · intro b j; rw [hI_fb, if_neg (by omega)]
  · intro b j; rfl
  · intro b j; rfl
  · rfl
  · rfl
theorem sI_id {h : aH} {a i : Nat} {v : Int32} (e : hI h a i = v) : sI h a i v = h := by
  apply aH_ext
  · intro b; rfl
  · intro b j
    rw [hI_sI]
    by_cases c : b = a ∧ j = i
    · obtain ⟨rfl, rfl⟩ := c; rw [if_pos ⟨rfl, rfl⟩, e]
    · rw [if_neg c]
  · intro b j; rfl
  · intro b j; rfl
  · rfl
  · rfl
section Mh
variable {h : aH} {m n c : Nat}
def kpM (h : aH) (m n c : Nat) : aH := sI (fb (sI h m 64 (nI ((n + 1) % 20))) (m + 38) (1498 * ((n + 1) % 20)) 1498 (hI h (m + 34))) m 63 (nI (min 20 (c + 1)))
theorem m_keeps (S : MS h m) (hn : hI h m 64 = nI n) (h20 : n < 20) (hc : hI h m 63 = nI c) (c20 : c ≤ 20) : f_X12_keeps m h = some ((), kpM h m n c) := by
  have r1 : (nI n + 1) - (nI n + 1) / 20 * 20 = nI ((n + 1) % 20) := by rw [nI_1]; exact pk_rem (d := 20) (by omega) (by omega) (by omega)
  have hw : (n + 1) % 20 < 20 := Nat.mod_lt _ (by omega)
  generalize hg : (n + 1) % 20 = w at hw r1
  have G : ∀ i, MS (fb (sI h m 64 (nI w)) (m + 38) (1498 * w) i (hI h (m + 34))) m := fun i => S.of rfl rfl
  have f64 : ∀ i, hI (fb (sI h m 64 (nI w)) (m + 38) (1498 * w) i (hI h (m + 34))) m 64 = nI w := fun i => by rw [hI_fb, if_neg (by omega), hI_sI, if_pos ⟨rfl, rfl⟩]
  have f63 : ∀ i, hI (fb (sI h m 64 (nI w)) (m + 38) (1498 * w) i (hI h (m + 34))) m 63 = nI c := fun i => by rw [hI_fb, if_neg (by omega), hI_sI, if_neg (by omega)]; exact hc
  have fn : ∀ i j, hI (fb (sI h m 64 (nI w)) (m + 38) (1498 * w) i (hI h (m + 34))) (m + 34) j = hI h (m + 34) j := fun i j => by rw [hI_fb, if_neg (by omega), hI_sI, if_neg (by omega)]
  have L := (loop_itr (fun k i (_ : Unit) => f_X12_keeps_15 k m (nI i) (fb (sI h m 64 (nI w)) (m + 38) (1498 * w) i (hI h (m + 34)))) 1498 (fun _ u => u) (fun _ => ((), sI (fb (sI h m 64 (nI w)) (m + 38) (1498 * w) 1498 (hI h (m + 34))) m 63 (nI (min 20 (c + 1))))) (fun _ _ => True) (fun k i _ hi _ => ⟨?_, trivial⟩) (fun k _ _ => ?_) 1498 0 () FU (by omega) trivial (FU_gt (by omega))).1
  · simp only [f_X12_keeps, ko_t S.k, hn, r1, kpM, hg]
    rw [show f_X12_keeps_15 FU m 0 (sI h m 64 (nI w)) = f_X12_keeps_15 FU m (nI 0) (fb (sI h m 64 (nI w)) (m + 38) (1498 * w) 0 (hI h (m + 34))) by rw [fb_0]; rfl]
    exact L
  · have g1 : ¬ (1498 : Int32) ≤ nI i := nI_ge (b := 1498) hi (by omega)
    have e1 : (1498 : Int32) * nI w + nI i = nI (1498 * w + i) := by rw [show (1498 : Int32) = nI 1498 from rfl, pk_mul, nI_add]
    simp only [f_X12_keeps_15, b_X12_keeps_15, if_neg g1, ko_t (G i).k, kr_t (G i).r62, kr_t (G i).r47, ka_t (G i).k47, chk_t (inb_nI hi (show 1498 < 2 ^ 31 by omega)), ka_t (G i).k62, f64, e1, chk_t (inb_nI (show 1498 * w + i < 29960 by omega) (show 29960 < 2 ^ 31 by omega)), nm, nI_1, tn_nI (show 1498 * w + i < 2 ^ 31 by omega), tn_nI (show i < 2 ^ 31 by omega), fn, fb_next]
  · have g1 : (1498 : Int32) ≤ nI 1498 := by decide
    simp only [f_X12_keeps_15, b_X12_keeps_15, f_X12_keeps_68, if_pos g1, ko_t (G 1498).k, f63, nI_1]
    by_cases q : c < 20
    · rw [if_neg (show ¬ (20 : Int32) ≤ nI c from nI_ge (b := 20) q (by omega)), Nat.min_eq_right (by omega)]
    · rw [if_pos (show (20 : Int32) ≤ nI c from nI_le (a := 20) (by omega) (by omega)), Nat.min_eq_left (by omega), sI_id (h := fb (sI h m 64 (nI w)) (m + 38) (1498 * w) 1498 (hI h (m + 34))) (a := m) (i := 63) (v := nI 20) (by rw [f63 1498, show c = 20 by omega])]
def unM (h : aH) (m n c : Nat) : aH := sI (sI (fb h (m + 34) 0 1498 (fun k => hI h (m + 38) (1498 * n + k))) m 64 (nI ((n + 19) % 20))) m 63 (nI (c - 1))
theorem m_undo_no (S : MS h m) (hc : hI h m 63 = 0) : f_X12_undo m h = some (0, rfX h m 6) := by
  simp only [f_X12_undo, ko_t S.k, hc, if_pos, kr_t S.r9, ka_t S.k9, chk_t (show inb 6 8 = true by decide), rfX]
  rfl
theorem m_undo (S : MS h m) (hn : hI h m 64 = nI n) (h20 : n < 20) (hc : hI h m 63 = nI c) (c20 : c ≤ 20) (c0 : 0 < c) : f_X12_undo m h = some (1, unM h m n c) := by
  have hc0 : ¬ nI c = 0 := nI_ne0 c0 (by omega)
  have r1 : (nI n + 20 - 1) - (nI n + 20 - 1) / 20 * 20 = nI ((n + 19) % 20) := by
    rw [show nI n + 20 = nI (n + 20) from nI_add n 20, show nI (n + 20) - 1 = nI (n + 19) from pk_sub (a := n + 20) (b := 1) (by omega)]
    exact pk_rem (d := 20) (by omega) (by omega) (by omega)
  have G : ∀ i, MS (fb h (m + 34) 0 i (fun k => hI h (m + 38) (1498 * n + k))) m := fun i => S.of rfl rfl
  have f64 : ∀ i, hI (fb h (m + 34) 0 i (fun k => hI h (m + 38) (1498 * n + k))) m 64 = nI n := fun i => by rw [hI_fb, if_neg (by omega)]; exact hn
  have f63 : ∀ i v, hI (sI (fb h (m + 34) 0 i (fun k => hI h (m + 38) (1498 * n + k))) m 64 v) m 63 = nI c := fun i v => by rw [hI_sI, if_neg (by omega), hI_fb, if_neg (by omega)]; exact hc
  have fk : ∀ i j, hI (fb h (m + 34) 0 i (fun k => hI h (m + 38) (1498 * n + k))) (m + 38) j = hI h (m + 38) j := fun i j => by rw [hI_fb, if_neg (by omega)]
  have L := (loop_itr (fun k i (_ : Unit) => f_X12_undo_22 k m (nI i) (fb h (m + 34) 0 i (fun k => hI h (m + 38) (1498 * n + k)))) 1498 (fun _ u => u) (fun _ => (1, unM h m n c)) (fun _ _ => True) (fun k i _ hi _ => ⟨?_, trivial⟩) (fun k _ _ => ?_) 1498 0 () FU (by omega) trivial (FU_gt (by omega))).1
  · simp only [f_X12_undo, ko_t S.k, hc, if_neg hc0]
    rw [show f_X12_undo_22 FU m 0 h = f_X12_undo_22 FU m (nI 0) (fb h (m + 34) 0 0 (fun k => hI h (m + 38) (1498 * n + k))) by rw [fb_0]; rfl]
    exact L
  · have g1 : ¬ (1498 : Int32) ≤ nI i := nI_ge (b := 1498) hi (by omega)
    have e1 : (1498 : Int32) * nI n + nI i = nI (1498 * n + i) := by rw [show (1498 : Int32) = nI 1498 from rfl, pk_mul, nI_add]
    have nx := fb_next (h := h) (a := m + 34) (t := 0) (i := i) (f := fun k => hI h (m + 38) (1498 * n + k))
    rw [Nat.zero_add] at nx
    simp only [f_X12_undo_22, b_X12_undo_22, if_neg g1, ko_t (G i).k, kr_t (G i).r62, kr_t (G i).r47, ka_t (G i).k47, chk_t (inb_nI hi (show 1498 < 2 ^ 31 by omega)), ka_t (G i).k62, f64, e1, chk_t (inb_nI (show 1498 * n + i < 29960 by omega) (show 29960 < 2 ^ 31 by omega)), nm, nI_1, tn_nI (show 1498 * n + i < 2 ^ 31 by omega), tn_nI (show i < 2 ^ 31 by omega), fk, nx]
  · have g1 : (1498 : Int32) ≤ nI 1498 := by decide
    simp only [f_X12_undo_22, b_X12_undo_22, if_pos g1, ko_t (G 1498).k, f64, r1, nm, f63, unM]
    rw [show nI c - 1 = nI (c - 1) from pk_sub (b := 1) (by omega)]
end Mh
