/-! refusals, the tape -/
def rfX (h : aH) (x k : Nat) : aH := sI h (x + 2) k (hI h (x + 2) k + 1)
/-- n places of a row, from t on, are f -/
def fb (h : aH) (a t n : Nat) (f : Nat → Int32) : aH := (h.1, fun b j => if b = a ∧ t ≤ j ∧ j < t + n then f (j - t) else hI h b j, h.2.2)
theorem hK_fb (h : aH) (a t n : Nat) (f : Nat → Int32) : hK (fb h a t n f) = hK h := rfl
theorem hR_fb (h : aH) (a t n : Nat) (f : Nat → Int32) : hR (fb h a t n f) = hR h := rfl
theorem hL_fb (h : aH) (a t n : Nat) (f : Nat → Int32) : hL (fb h a t n f) = hL h := rfl
theorem hN_fb (h : aH) (a t n : Nat) (f : Nat → Int32) : hN (fb h a t n f) = hN h := rfl
theorem hS_fb (h : aH) (a t n : Nat) (f : Nat → Int32) : hS (fb h a t n f) = hS h := rfl
theorem hI_fb (h : aH) (a t n : Nat) (f : Nat → Int32) (b j : Nat) : hI (fb h a t n f) b j = if b = a ∧ t ≤ j ∧ j < t + n then f (j - t) else hI h b j := rfl
/-- and how many there are is told by a field of another cell -/
def fc (h : aH) (a t n : Nat) (f : Nat → Int32) (x k : Nat) : aH := sI (fb h a t n f) x k (nI (t + n))
theorem hK_fc (h : aH) (a t n : Nat) (f : Nat → Int32) (x k : Nat) : hK (fc h a t n f x k) = hK h := rfl
theorem hR_fc (h : aH) (a t n : Nat) (f : Nat → Int32) (x k : Nat) : hR (fc h a t n f x k) = hR h := rfl
theorem hI_fc (h : aH) (a t n : Nat) (f : Nat → Int32) (x k : Nat) : hI (fc h a t n f x k) x k = nI (t + n) := by simp [fc, hI_sI]
theorem fc_next {h : aH} {a t n x k : Nat} {f : Nat → Int32} (hx : x ≠ a) : sI (sI (fc h a t n f x k) a (t + n) (f n)) x k (nI (t + (n + 1))) = fc h a t (n + 1) f x k := by
  apply aH_ext
  · intro b; rfl
  · intro b j
    simp only [fc, hI_sI, hI_fb]
    by_cases h1 : b = x ∧ j = k
    · simp [h1]
    · simp only [if_neg h1]
      by_cases h2 : b = a
      · subst h2
        by_cases h3 : j = t + n
        · subst h3; simp
        · by_cases h4 : t ≤ j ∧ j < t + n
          · rw [if_neg (by omega), if_pos ⟨rfl, h4.1, h4.2⟩, if_pos ⟨rfl, h4.1, by omega⟩]
          · rw [if_neg (by omega), if_neg (by omega), if_neg (by omega)]
      · simp [h2]
  · intro b j; rfl
  · intro b j; rfl
  · rfl
  · rfl
theorem fc_0 {h : aH} {a t x k : Nat} {f : Nat → Int32} (e : hI h x k = nI t) : fc h a t 0 f x k = h := by
  apply aH_ext
  · intro b; rfl
  · intro b j
    simp only [fc, hI_sI, hI_fb]
    by_cases h1 : b = x ∧ j = k
    · obtain ⟨rfl, rfl⟩ := h1; simp [e]
    · rw [if_neg h1, if_neg (by omega)]
  · intro b j; rfl
  · intro b j; rfl
  · rfl
  · rfl
section Tp
variable {h : aH} {x m : Nat}
theorem c_refuse (S : XS h x) {k : Nat} (hk : k < 8) : f_X11_refuse x (nI k) h = some (-1, rfX h x k) := by
  have h1 : ¬ nI k < 0 := nI_pos (by omega)
  have h2 : ¬ Int32.ofNat 8 ≤ nI k := nI_ge (b := 8) hk (by omega)
  simp only [f_X11_refuse, f_X11_refuse_23, if_neg h1, ko_t S.k0, kr_t S.r0_1, ka_t S.k2, if_neg h2, chk_t (inb_nI (show k < 8 by omega) (by omega)), tn_nI (show k < 2 ^ 31 by omega), rfX]
theorem c_deny (S : XS h x) {k : Nat} (hk : k < 8) : f_X11_deny x (nI k) h = some (0, rfX h x k) := by
  simp only [f_X11_deny, f_X11_deny_14, ko_t S.k0, c_refuse S hk, bd_s, z0_ok]
  rfl
theorem m_refuses (S : MS h m) {k : Nat} (hk : k < 8) : f_X12_refuses m (nI k) h = some (-1, rfX h m k) := by
  simp only [f_X12_refuses, ko_t S.k, kr_t S.r9, ka_t S.k9, chk_t (inb_nI (show k < 8 by omega) (by omega)), tn_nI (show k < 2 ^ 31 by omega), rfX]
theorem m_isRefused (S : MS h m) {k : Nat} (hk : k < 8) : f_X12_isRefused m (nI k) h = some (0, rfX h m k) := by
  simp only [f_X12_isRefused, ko_t S.k, kr_t S.r9, ka_t S.k9, chk_t (inb_nI (show k < 8 by omega) (by omega)), tn_nI (show k < 2 ^ 31 by omega), rfX]
/-- byte j of a number, the highest first, as the class keeps it -/
def byC (w : Int32) (j : Nat) : Int32 := (w >>> (nI (24 - 8 * j) &&& 31)).toInt8.toInt32
theorem by_twice (w : Int32) : w.toInt8.toInt32.toInt8.toInt32 = w.toInt8.toInt32 := fb_byte_twice w
theorem c_put (S : XS h x) {t : Nat} (ht : hI h x 13 = nI t) (hb : t + 4 ≤ 1600) (w : Int32) : f_X11_put x w h = some ((), fc h (x + 1) t 4 (byC w) x 13) := by
  have key : ∀ n i, i < 4 → f_X11_put_3 (n + 1) x w (nI (24 - 8 * i)) (fc h (x + 1) t i (byC w) x 13) = f_X11_put_3 n x w (if i = 3 then -8 else nI (24 - 8 * (i + 1))) (fc h (x + 1) t (i + 1) (byC w) x 13) := by
    intro n i hi
    have h1 : ¬ nI (24 - 8 * i) < 0 := nI_pos (by omega)
    have e1 : hI (fc h (x + 1) t i (byC w) x 13) x 13 = nI (t + i) := by simp [fc, hI_sI]
    have h2 : ¬ (1600 : Int32) ≤ nI (t + i) := nI_ge (b := 1600) (by omega) (by omega)
    have k0 : hK (fc h (x + 1) t i (byC w) x 13) x = some (.inl 10) := S.k0
    have k1 : hK (fc h (x + 1) t i (byC w) x 13) (x + 1) = some (.inr (.byte, 1600)) := S.k1
    have r0 : hR (fc h (x + 1) t i (byC w) x 13) x 0 = some (x + 1) := S.r0_0
    have e3 : hI (sI (fc h (x + 1) t i (byC w) x 13) (x + 1) (t + i) (byC w i)) x 13 = nI (t + i) := by rw [hI_sI, if_neg (by omega)]; exact e1
    have e4 : (w >>> (nI (24 - 8 * i) &&& 31)).toInt8.toInt32.toInt8.toInt32 = byC w i := by rw [by_twice]; rfl
    simp only [f_X11_put_3, b_X11_put_3, if_neg h1, ko_t k0, e1, if_neg h2, kr_t r0, ka_t k1, chk_t (inb_nI (show t + i < 1600 by omega) (by omega)), tn_nI (show t + i < 2 ^ 31 by omega), e4, nm, e3, nI_1]
    have e5 : nI (24 - 8 * i) + (-8) = if i = 3 then -8 else nI (24 - 8 * (i + 1)) := by
      rcases (show i = 0 ∨ i = 1 ∨ i = 2 ∨ i = 3 by omega) with rfl | rfl | rfl | rfl <;> decide
    rw [e5, Nat.add_assoc t i 1, fc_next (show x ≠ x + 1 by omega)]
  have e0 : f_X11_put x w h = f_X11_put_3 (9995 + 1 + 1 + 1 + 1 + 1) x w (nI (24 - 8 * 0)) (fc h (x + 1) t 0 (byC w) x 13) := by rw [fc_0 ht]; rfl
  rw [e0, key _ 0 (by omega), if_neg (by omega), key _ 1 (by omega), if_neg (by omega), key _ 2 (by omega), if_neg (by omega), key _ 3 (by omega), if_pos rfl]
  rfl
theorem fc_fc {a t n n' k : Nat} {f g : Nat → Int32} (hx : x ≠ a) : fc (fc h a t n f x k) a (t + n) n' g x k = fc h a t (n + n') (fun j => if j < n then f j else g (j - n)) x k := by
  apply aH_ext
  · intro b; rfl
  · intro b j
    simp only [fc, hI_sI, hI_fb]
    by_cases h1 : b = x ∧ j = k
    · simp [h1, Nat.add_assoc]
    · simp only [if_neg h1]
      by_cases h2 : b = a
      · subst h2
        by_cases h3 : t ≤ j ∧ j < t + n
        · rw [if_neg (by omega), if_pos ⟨rfl, h3.1, h3.2⟩, if_pos ⟨rfl, h3.1, by omega⟩, if_pos (by omega)]
        · by_cases h4 : t + n ≤ j ∧ j < t + n + n'
          · rw [if_pos ⟨rfl, h4.1, h4.2⟩, if_pos ⟨rfl, by omega, by omega⟩, if_neg (by omega), Nat.sub_add_eq]
          · rw [if_neg (by omega), if_neg (by omega), if_neg (by omega)]
      · simp [h2]
  · intro b j; rfl
  · intro b j; rfl
  · rfl
  · rfl
/-- the twenty bytes that are fed -/
def wd5 (a b c d e : Int32) (j : Nat) : Int32 := if j < 4 then a else if j < 8 then b else if j < 12 then c else if j < 16 then d else e
def byX (a b c d e : Int32) (j : Nat) : Int32 := byC (wd5 a b c d e j) (j % 4)
theorem c_feed (S : XS h x) {t : Nat} (ht : hI h x 13 = nI t) (hb : t + 20 ≤ 1600) (a b c d e : Int32) : f_X11_feed x a b c d e h = some (nI (t + 20), fc h (x + 1) t 20 (byX a b c d e) x 13) := by
  have h1 : nI t ≤ (1580 : Int32) := nI_le (b := 1580) (by omega) (by omega)
  have p1 := c_put S ht (by omega) a
  have T1 : XS (fc h (x + 1) (t) 4 (byC a) x 13) x := S.of (hK_fc _ _ _ _ _ _ _) (hR_fc _ _ _ _ _ _ _)
  have p2 := c_put T1 (t := t + 4) (hI_fc _ _ _ _ _ _ _) (by omega) b
  have T2 : XS (fc (fc h (x + 1) (t) 4 (byC a) x 13) (x + 1) (t + 4) 4 (byC b) x 13) x := T1.of (hK_fc _ _ _ _ _ _ _) (hR_fc _ _ _ _ _ _ _)
  have p3 := c_put T2 (t := t + 4 + 4) (hI_fc _ _ _ _ _ _ _) (by omega) c
  have T3 : XS (fc (fc (fc h (x + 1) (t) 4 (byC a) x 13) (x + 1) (t + 4) 4 (byC b) x 13) (x + 1) (t + 4 + 4) 4 (byC c) x 13) x := T2.of (hK_fc _ _ _ _ _ _ _) (hR_fc _ _ _ _ _ _ _)
  have p4 := c_put T3 (t := t + 4 + 4 + 4) (hI_fc _ _ _ _ _ _ _) (by omega) d
  have T4 : XS (fc (fc (fc (fc h (x + 1) (t) 4 (byC a) x 13) (x + 1) (t + 4) 4 (byC b) x 13) (x + 1) (t + 4 + 4) 4 (byC c) x 13) (x + 1) (t + 4 + 4 + 4) 4 (byC d) x 13) x := T3.of (hK_fc _ _ _ _ _ _ _) (hR_fc _ _ _ _ _ _ _)
  have p5 := c_put T4 (t := t + 4 + 4 + 4 + 4) (hI_fc _ _ _ _ _ _ _) (by omega) e
  have T5 : XS (fc (fc (fc (fc (fc h (x + 1) (t) 4 (byC a) x 13) (x + 1) (t + 4) 4 (byC b) x 13) (x + 1) (t + 4 + 4) 4 (byC c) x 13) (x + 1) (t + 4 + 4 + 4) 4 (byC d) x 13) (x + 1) (t + 4 + 4 + 4 + 4) 4 (byC e) x 13) x := T4.of (hK_fc _ _ _ _ _ _ _) (hR_fc _ _ _ _ _ _ _)
  simp only [f_X11_feed, ko_t S.k0, ht, if_pos h1, p1, bd_s, ko_t T1.k0, p2, ko_t T2.k0, p3, ko_t T3.k0, p4, ko_t T4.k0, p5, ko_t T5.k0]
  have hx : x ≠ x + 1 := by omega
  have q : fc (fc (fc (fc (fc h (x + 1) t 4 (byC a) x 13) (x + 1) (t + 4) 4 (byC b) x 13) (x + 1) (t + 4 + 4) 4 (byC c) x 13) (x + 1) (t + 4 + 4 + 4) 4 (byC d) x 13) (x + 1) (t + 4 + 4 + 4 + 4) 4 (byC e) x 13 = fc h (x + 1) t 20 (byX a b c d e) x 13 := by
    rw [fc_fc hx, fc_fc hx, fc_fc hx, fc_fc hx]
    apply aH_ext
    · intro b; rfl
    · intro b2 j
      simp only [fc, hI_sI, hI_fb]
      by_cases h1 : b2 = x ∧ j = 13
      · simp [h1]
      · simp only [if_neg h1]
        by_cases h2 : b2 = x + 1 ∧ t ≤ j ∧ j < t + 20
        · rw [if_pos h2, if_pos (show b2 = x + 1 ∧ t ≤ j ∧ j < t + (4 + (4 + (4 + (4 + 4)))) by omega)]
          have hj : j - t < 20 := by omega
          generalize j - t = i at hj ⊢
          simp only [byX, wd5]
          by_cases c1 : i < 4
          · rw [if_pos c1, if_pos c1, Nat.mod_eq_of_lt c1]
          · rw [if_neg c1, if_neg c1]
            by_cases c2 : i < 8
            · rw [if_pos (show i - 4 < 4 by omega), if_pos c2, show i % 4 = i - 4 by omega]
            · rw [if_neg (show ¬ i - 4 < 4 by omega), if_neg c2]
              by_cases c3 : i < 12
              · rw [if_pos (show i - 4 - 4 < 4 by omega), if_pos c3, show i % 4 = i - 4 - 4 by omega]
              · rw [if_neg (show ¬ i - 4 - 4 < 4 by omega), if_neg c3]
                by_cases c4 : i < 16
                · rw [if_pos (show i - 4 - 4 - 4 < 4 by omega), if_pos c4, show i % 4 = i - 4 - 4 - 4 by omega]
                · rw [if_neg (show ¬ i - 4 - 4 - 4 < 4 by omega), if_neg c4, show i % 4 = i - 4 - 4 - 4 - 4 by omega]
        · rw [if_neg h2, if_neg (show ¬ (b2 = x + 1 ∧ t ≤ j ∧ j < t + (4 + (4 + (4 + (4 + 4))))) by omega)]
    · intro b j; rfl
    · intro b j; rfl
    · rfl
    · rfl
  rw [q, hI_fc]
/-- the same, as the reference keeps them -/
def byM (a b c d e : Int32) (j : Nat) : Int32 := (wd5 a b c d e j >>> ((8 * (3 - (nI j - nI j / 4 * 4))) &&& 31)) &&& 255
theorem m_feed (S : MS h m) {t : Nat} (ht : hI h m 1 = nI t) (hb : t + 20 ≤ 1600) (a b c d e : Int32) : f_X12_feed m a b c d e h = some (nI (t + 20), fc h (m + 1) t 20 (byM a b c d e) m 1) := by
  have h1 : nI t + 20 ≤ (1600 : Int32) := by rw [show nI t + 20 = nI (t + 20) from nI_add t 20]; exact nI_le (b := 1600) (by omega) (by omega)
  have L := (loop_itr (fun n i (_ : Unit) => f_X12_feed_28 n m a b c d e (nI i) (fc h (m + 1) t i (byM a b c d e) m 1)) 20 (fun _ u => u) (fun _ => (nI (t + 20), fc h (m + 1) t 20 (byM a b c d e) m 1)) (fun _ _ => True) (fun n i _ hi _ => ⟨?_, trivial⟩) (fun n _ _ => ?_) 20 0 () FU (by omega) trivial (FU_gt (by omega))).1
  · simp only [f_X12_feed, ko_t S.k, ht, if_pos h1]
    rw [show f_X12_feed_28 FU m a b c d e 0 h = f_X12_feed_28 FU m a b c d e (nI 0) (fc h (m + 1) t 0 (byM a b c d e) m 1) by rw [fc_0 ht]; rfl]
    exact L
  · have g1 : ¬ (20 : Int32) ≤ nI i := nI_ge (b := 20) hi (by omega)
    have k0 : hK (fc h (m + 1) t i (byM a b c d e) m 1) m = some (.inl 11) := S.k
    have k1 : hK (fc h (m + 1) t i (byM a b c d e) m 1) (m + 1) = some (.inr (.int, 1600)) := S.k0
    have r0 : hR (fc h (m + 1) t i (byM a b c d e) m 1) m 0 = some (m + 1) := S.r0
    have e1 : hI (fc h (m + 1) t i (byM a b c d e) m 1) m 1 = nI (t + i) := by simp [fc, hI_sI]
    have e3 : ∀ v, hI (sI (fc h (m + 1) t i (byM a b c d e) m 1) (m + 1) (t + i) v) m 1 = nI (t + i) := fun v => by rw [hI_sI, if_neg (by omega)]; exact e1
    have st : ∀ s0, (s0 >>> ((8 * (3 - (nI i - nI i / 4 * 4))) &&& 31)) &&& 255 = byM a b c d e i → f_X12_feed_81 (f_X12_feed_28 n) m a b c d e (nI i) s0 (fc h (m + 1) t i (byM a b c d e) m 1) = f_X12_feed_28 n m a b c d e (nI (i + 1)) (fc h (m + 1) t (i + 1) (byM a b c d e) m 1) := by
      intro s0 hs
      simp only [f_X12_feed_81, ko_t k0, kr_t r0, ka_t k1, e1, chk_t (inb_nI (show t + i < 1600 by omega) (by omega)), tn_nI (show t + i < 2 ^ 31 by omega), hs, nm, e3, nI_1]
      rw [Nat.add_assoc t i 1, fc_next (show m ≠ m + 1 by omega)]
    simp only [f_X12_feed_28, b_X12_feed_28, if_neg g1]
    by_cases c1 : i < 4
    · rw [if_neg (show ¬ (4 : Int32) ≤ nI i from nI_ge (b := 4) c1 (by omega))]
      exact st a (by simp [byM, wd5, c1])
    · rw [if_pos (show (4 : Int32) ≤ nI i from nI_le (a := 4) (by omega) (by omega))]
      by_cases c2 : i < 8
      · rw [if_neg (show ¬ (8 : Int32) ≤ nI i from nI_ge (b := 8) c2 (by omega))]
        exact st b (by simp [byM, wd5, c1, c2])
      · rw [if_pos (show (8 : Int32) ≤ nI i from nI_le (a := 8) (by omega) (by omega))]
        by_cases c3 : i < 12
        · rw [if_neg (show ¬ (12 : Int32) ≤ nI i from nI_ge (b := 12) c3 (by omega))]
          exact st c (by simp [byM, wd5, c1, c2, c3])
        · rw [if_pos (show (12 : Int32) ≤ nI i from nI_le (a := 12) (by omega) (by omega))]
          by_cases c4 : i < 16
          · rw [if_neg (show ¬ (16 : Int32) ≤ nI i from nI_ge (b := 16) c4 (by omega))]
            exact st d (by simp [byM, wd5, c1, c2, c3, c4])
          · rw [if_pos (show (16 : Int32) ≤ nI i from nI_le (a := 16) (by omega) (by omega))]
            exact st e (by simp [byM, wd5, c1, c2, c3, c4])
  · have g1 : (20 : Int32) ≤ nI 20 := by decide
    have k0 : hK (fc h (m + 1) t 20 (byM a b c d e) m 1) m = some (.inl 11) := S.k
    simp only [f_X12_feed_28, b_X12_feed_28, if_pos g1, ko_t k0]
    simp [fc, hI_sI]
/-- one byte on both sides -/
def byR (c m : Int32) : Prop := c = m.toInt8.toInt32 ∧ ∃ q : Nat, q < 256 ∧ m = nI q
theorem by_feed (a b c d e : Int32) {j : Nat} (hj : j < 20) : byR (byX a b c d e j) (byM a b c d e j) := by
  have hs : nI (24 - 8 * (j % 4)) &&& 31 = (8 * (3 - (nI j - nI j / 4 * 4))) &&& 31 := by
    have : ∀ j, j < 20 → nI (24 - 8 * (j % 4)) &&& 31 = (8 * (3 - (nI j - nI j / 4 * 4))) &&& 31 := by decide +kernel
    exact this j hj
  unfold byR byX byM byC
  rw [hs]
  refine ⟨by rw [fa_byte_low], ?_⟩
  exact pk_andE _ 8 (by decide)
end Tp
