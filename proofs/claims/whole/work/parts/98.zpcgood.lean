/-! the descent is sound -/
section Ty
variable {w : Nat} {c1 c2 : List Nat} {d d2 D : Nat}
theorem ty_app {c l : List Nat} {q : Nat} : c ++ [q] ++ l = c ++ (q :: l) := by simp
theorem ty_num {v : Nat} (hv : v ≤ 9999) (hD : 1 ≤ D) : tyR1 w [1000 + v] D false := by
  refine ⟨by simp, fun s hs l => ?_⟩
  show tyC (alC w) ((1000 + v) :: l) s = _
  conv => lhs; unfold tyC
  rw [if_neg (by omega), if_pos (by omega), if_pos (by omega)]
theorem ty_word {j : Nat} (hj : j ≤ 10) (ha : alC w (40 + j) = true) (hD : 1 ≤ D) : tyR1 w [40 + j] D false := by
  refine ⟨by simp, fun s hs l => ?_⟩
  show tyC (alC w) ((40 + j) :: l) s = _
  conv => lhs; unfold tyC
  rw [if_neg (by omega), if_neg (by omega), if_neg (by omega), if_pos (by omega), if_pos ha]
theorem ty_all (hD : 1 ≤ D) : tyR1 w [13] D true := by
  refine ⟨by simp, fun s hs l => ?_⟩
  show tyC (alC w) (13 :: l) s = _
  conv => lhs; unfold tyC
  rw [if_neg (by omega), if_neg (by omega), if_neg (by omega), if_neg (by omega), if_pos rfl]
theorem ty_of {c : Nat} (h1 : tyR1 w c1 d false) (hc : c = 60 ∨ c = 61) (ha : alC w c = true) (hd : d ≤ D) (hD : 1 ≤ D) : tyR1 w (c1 ++ [c]) D false := by
  refine ⟨by simp, fun s hs l => ?_⟩
  rw [ty_app, h1.2 s (by omega), tyC, if_neg (by simp; omega), if_neg (by omega), if_pos hc]
  simp [ha]
theorem ty_not (h1 : tyR1 w c1 d true) (hd : d ≤ D) (hD : 1 ≤ D) : tyR1 w (c1 ++ [12]) D true := by
  refine ⟨by simp, fun s hs l => ?_⟩
  rw [ty_app, h1.2 s (by omega), tyC, if_neg (by simp; omega), if_neg (by omega), if_neg (by omega), if_neg (by omega), if_neg (by omega), if_pos rfl]
theorem ty_app2 {q : Nat} {l : List Nat} : c1 ++ c2 ++ [q] ++ l = c1 ++ (c2 ++ (q :: l)) := by simp
theorem ty_bin {q : Nat} (h1 : tyR1 w c1 d false) (h2 : tyR1 w c2 d2 false) (hq : 1 ≤ q ∧ q ≤ 6) (hd : d ≤ D) (hd2 : d2 + 1 ≤ D) (hD : 2 ≤ D) : tyR1 w (c1 ++ c2 ++ [q]) D false := by
  refine ⟨by simp, fun s hs l => ?_⟩
  rw [ty_app2, h1.2 s (by omega), h2.2 (false :: s) (by simp; omega), tyC, if_neg (by simp; omega), if_neg (by omega), if_neg (by omega), if_neg (by omega), if_neg (by omega), if_neg (by omega), if_neg (by omega), if_neg (by omega), if_pos hq]
theorem ty_cmp {q : Nat} (h1 : tyR1 w c1 d false) (h2 : tyR1 w c2 d2 false) (hq : 7 ≤ q ∧ q ≤ 9) (hd : d ≤ D) (hd2 : d2 + 1 ≤ D) (hD : 2 ≤ D) : tyR1 w (c1 ++ c2 ++ [q]) D true := by
  refine ⟨by simp, fun s hs l => ?_⟩
  rw [ty_app2, h1.2 s (by omega), h2.2 (false :: s) (by simp; omega), tyC, if_neg (by simp; omega), if_neg (by omega), if_neg (by omega), if_neg (by omega), if_neg (by omega), if_neg (by omega), if_neg (by omega), if_pos hq]
theorem ty_log {q : Nat} (h1 : tyR1 w c1 d true) (h2 : tyR1 w c2 d2 true) (hq : q = 10 ∨ q = 11) (hd : d ≤ D) (hd2 : d2 + 1 ≤ D) (hD : 2 ≤ D) : tyR1 w (c1 ++ c2 ++ [q]) D true := by
  refine ⟨by simp, fun s hs l => ?_⟩
  rw [ty_app2, h1.2 s (by omega), h2.2 (true :: s) (by simp; omega), tyC, if_neg (by simp; omega), if_neg (by omega), if_neg (by omega), if_neg (by omega), if_neg (by omega), if_neg (by omega), if_pos hq]
theorem ty_mono {t : Bool} (h1 : tyR1 w c1 d t) (hd : d ≤ D) : tyR1 w c1 D t := ⟨h1.1, fun s hs l => h1.2 s (by omega) l⟩
end Ty
section Gd
variable {tp : Nat → Nat} {n w : Nat} {σ σ' : tyT} {d d' : Nat} {t t' : Bool} {r : tyR} {f : List Nat → tyT → tyR}
theorem gd_bR (h : gdR tp n w σ d t r) (k : ∀ c σ1, okS tp n σ1 → σ.1 < σ1.1 → c.length + σ.1 ≤ σ1.1 → tyR1 w c d t → gdR tp n w σ' d' t' (f c σ1)) : gdR tp n w σ' d' t' (bR r f) := by
  match r, h with
  | some (.inl e), h => exact h
  | some (.inr q), h => exact k q.1 q.2 h.1 h.2.1 h.2.2.1 h.2.2.2
theorem gd_fl {k p : Nat} (h : p ≤ n) : gdR tp n w σ d t (fl k p) := h
theorem gd_ok {c : List Nat} {σ1 : tyT} (h1 : okS tp n σ1) (h2 : σ.1 < σ1.1) (h3 : c.length + σ.1 ≤ σ1.1) (h4 : tyR1 w c d t) : gdR tp n w σ d t (ok c σ1) := ⟨h1, h2, h3, h4⟩
end Gd
section Gd2
variable {tp : Nat → Nat} {n w : Nat} {F : Nat → Nat → tyT → tyR} {o : Nat} {σ0 : tyT} {d : Nat}
theorem gd_pTL (hF : ∀ σ, okS tp n σ → gdR tp n w σ d true (F 1 o σ)) (hD : 1 ≤ d) : ∀ (k : Nat) (c : List Nat) (σ : tyT), okS tp n σ → σ0.1 < σ.1 → c.length + σ0.1 ≤ σ.1 → tyR1 w c (d + 1) true → gdR tp n w σ0 (d + 1) true (pTL tp n F o k c σ) := by
  intro k
  induction k with
  | zero => intro c σ h1 h2 h3 h4; exact gd_ok h1 h2 h3 h4
  | succ k ih =>
    intro c σ h1 h2 h3 h4
    unfold pTL
    by_cases q : isW tp n σ 19 = true
    · rw [if_pos q]
      obtain ⟨a1, a2⟩ := nW_ok q
      refine gd_bR (hF _ a1) (fun c2 σ2 b1 b2 b3 b4 => ih _ _ b1 (by omega) (by simp; omega) (ty_log h4 b4 (Or.inr rfl) (by omega) (by omega) (by omega)))
    · rw [if_neg q]; exact gd_ok h1 h2 h3 h4
theorem gd_pBL (hF : ∀ σ, okS tp n σ → gdR tp n w σ d true (F 2 o σ)) (hD : 1 ≤ d) : ∀ (k : Nat) (c : List Nat) (σ : tyT), okS tp n σ → σ0.1 < σ.1 → c.length + σ0.1 ≤ σ.1 → tyR1 w c (d + 1) true → gdR tp n w σ0 (d + 1) true (pBL tp n F o k c σ) := by
  intro k
  induction k with
  | zero => intro c σ h1 h2 h3 h4; exact gd_ok h1 h2 h3 h4
  | succ k ih =>
    intro c σ h1 h2 h3 h4
    unfold pBL
    by_cases q : isW tp n σ 20 = true
    · rw [if_pos q]
      obtain ⟨a1, a2⟩ := nW_ok q
      refine gd_bR (hF _ a1) (fun c2 σ2 b1 b2 b3 b4 => ih _ _ b1 (by omega) (by simp; omega) (ty_log h4 b4 (Or.inl rfl) (by omega) (by omega) (by omega)))
    · rw [if_neg q]; exact gd_ok h1 h2 h3 h4
theorem gd_pSL (hF : ∀ σ, okS tp n σ → gdR tp n w σ d false (F 4 o σ)) (hD : 1 ≤ d) : ∀ (k : Nat) (c : List Nat) (σ : tyT), okS tp n σ → σ0.1 < σ.1 → c.length + σ0.1 ≤ σ.1 → tyR1 w c (d + 1) false → gdR tp n w σ0 (d + 1) false (pSL tp n F o k c σ) := by
  intro k
  induction k with
  | zero => intro c σ h1 h2 h3 h4; exact gd_ok h1 h2 h3 h4
  | succ k ih =>
    intro c σ h1 h2 h3 h4
    unfold pSL
    by_cases q : isS tp n σ 43 = true
    · rw [if_pos q]
      obtain ⟨a1, a2⟩ := nS_ok q
      refine gd_bR (hF _ a1) (fun c2 σ2 b1 b2 b3 b4 => ih _ _ b1 (by omega) (by simp; omega) (ty_bin h4 b4 (by omega) (by omega) (by omega) (by omega)))
    · rw [if_neg q]
      by_cases q : isS tp n σ 45 = true
      · rw [if_pos q]
        obtain ⟨a1, a2⟩ := nS_ok q
        refine gd_bR (hF _ a1) (fun c2 σ2 b1 b2 b3 b4 => ih _ _ b1 (by omega) (by simp; omega) (ty_bin h4 b4 (by omega) (by omega) (by omega) (by omega)))
      · rw [if_neg q]; exact gd_ok h1 h2 h3 h4
theorem gd_pML (hF : ∀ σ, okS tp n σ → gdR tp n w σ d false (F 5 o σ)) (hD : 1 ≤ d) : ∀ (k : Nat) (c : List Nat) (σ : tyT), okS tp n σ → σ0.1 < σ.1 → c.length + σ0.1 ≤ σ.1 → tyR1 w c (d + 1) false → gdR tp n w σ0 (d + 1) false (pML tp n F o k c σ) := by
  intro k
  induction k with
  | zero => intro c σ h1 h2 h3 h4; exact gd_ok h1 h2 h3 h4
  | succ k ih =>
    intro c σ h1 h2 h3 h4
    unfold pML
    by_cases q : isS tp n σ 42 = true
    · rw [if_pos q]
      obtain ⟨a1, a2⟩ := nS_ok q
      refine gd_bR (hF _ a1) (fun c2 σ2 b1 b2 b3 b4 => ih _ _ b1 (by omega) (by simp; omega) (ty_bin h4 b4 (by omega) (by omega) (by omega) (by omega)))
    · rw [if_neg q]
      by_cases q : isS tp n σ 47 = true
      · rw [if_pos q]
        obtain ⟨a1, a2⟩ := nS_ok q
        refine gd_bR (hF _ a1) (fun c2 σ2 b1 b2 b3 b4 => ih _ _ b1 (by omega) (by simp; omega) (ty_bin h4 b4 (by omega) (by omega) (by omega) (by omega)))
      · rw [if_neg q]; exact gd_ok h1 h2 h3 h4
end Gd2
theorem wJ_t {tp : Nat → Nat} {n : Nat} {σ : tyT} {j : Nat} (h : wJ tp n σ = some j) : j < 13 ∧ isW tp n σ (cw j) = true := by
  have := fnd_lt _ _ _ h
  exact ⟨by omega, this.2.2⟩
theorem alW_C {w j : Nat} (h : alW w j = true) (hj : j < 13) : (j ≤ 10 → alC w (40 + j) = true) ∧ (11 ≤ j → alC w (60 + (j - 11)) = true) := by
  unfold alW at h
  unfold alC
  split at h
  · rename_i z; subst z
    simp only [decide_eq_true_eq] at h
    exact ⟨fun _ => by rw [if_pos rfl]; simp; omega, fun _ => by omega⟩
  · split at h
    · rename_i z0 z; subst z
      simp only [decide_eq_true_eq] at h
      exact ⟨fun _ => by rw [if_neg (by omega), if_pos rfl]; simp; omega, fun _ => by omega⟩
    · split at h
      · rename_i z0 z1 z; subst z
        simp only [Bool.and_eq_true, decide_eq_true_eq] at h
        exact ⟨fun _ => by rw [if_neg (by omega), if_neg (by omega), if_pos rfl]; simp; omega, fun _ => by omega⟩
      · rename_i z0 z1 z2
        simp only [decide_eq_true_eq] at h
        exact ⟨fun _ => by rw [if_neg z0, if_neg z1, if_neg z2]; simp; omega, fun _ => by rw [if_neg z0, if_neg z1, if_neg z2]; simp; omega⟩
theorem pD_good {tp : Nat → Nat} {n w : Nat} : ∀ (f t o : Nat) (σ : tyT), t ≤ 7 → o ≤ 6 → okS tp n σ → (t = 6 → isW tp n σ 23 = true ∨ isW tp n σ 24 = true) → hgt t + 8 * (6 - o) < f → gdR tp n w σ (dpt t o) (decide (t ≤ 2)) (pD tp n w f t o σ) := by
  intro f
  induction f with
  | zero => intro t o σ _ _ _ _ h; omega
  | succ f ih =>
    intro t o σ ht ho hs h6 hf
    have iT : ∀ t' o' σ', t' ≤ 7 → o' ≤ 6 → okS tp n σ' → (t' = 6 → isW tp n σ' 23 = true ∨ isW tp n σ' 24 = true) → hgt t' + 8 * (6 - o') < f → gdR tp n w σ' (dpt t' o') (decide (t' ≤ 2)) (pD tp n w f t' o' σ') := fun t' o' σ' => ih t' o' σ'
    have sn := hs.1
    rcases (show t = 0 ∨ t = 1 ∨ t = 2 ∨ t = 3 ∨ t = 4 ∨ t = 5 ∨ t = 6 ∨ t = 7 by omega) with rfl | rfl | rfl | rfl | rfl | rfl | rfl | rfl
    · have hf : 6 + 8 * (6 - o) < f + 1 := hf
      have F1 : ∀ σ, okS tp n σ → gdR tp n w σ (dpt 1 o) true (pD tp n w f 1 o σ) := fun σ h => iT 1 o σ (by omega) ho h (by omega) (by show 5 + _ < f; omega)
      show gdR tp n w σ (dpt 1 o + 1) true (pTest tp n (pD tp n w f) o σ)
      exact gd_bR (F1 σ hs) (fun c σ1 b1 b2 b3 b4 => gd_pTL F1 (by show 1 ≤ 3 * (7 - o) + 5; omega) 1600 c σ1 b1 b2 b3 (ty_mono b4 (by omega)))
    · have hf : 5 + 8 * (6 - o) < f + 1 := hf
      have F1 : ∀ σ, okS tp n σ → gdR tp n w σ (dpt 2 o) true (pD tp n w f 2 o σ) := fun σ h => iT 2 o σ (by omega) ho h (by omega) (by show 4 + _ < f; omega)
      show gdR tp n w σ (dpt 2 o + 1) true (pBoth tp n (pD tp n w f) o σ)
      exact gd_bR (F1 σ hs) (fun c σ1 b1 b2 b3 b4 => gd_pBL F1 (by show 1 ≤ 3 * (7 - o) + 4; omega) 1600 c σ1 b1 b2 b3 (ty_mono b4 (by omega)))
    · have hf : 4 + 8 * (6 - o) < f + 1 := hf
      have F3 : ∀ σ, okS tp n σ → gdR tp n w σ (dpt 3 o) false (pD tp n w f 3 o σ) := fun σ h => iT 3 o σ (by omega) ho h (by omega) (by show 3 + _ < f; omega)
      have e2 : dpt 2 o = 3 * (7 - o) + 4 := rfl
      have e3 : dpt 3 o = 3 * (7 - o) + 3 := rfl
      show gdR tp n w σ (dpt 2 o) true (pFact tp n (pD tp n w f) o σ)
      unfold pFact
      by_cases q1 : isW tp n σ 22 = true
      · rw [if_pos q1]
        obtain ⟨a1, a2⟩ := nW_ok q1
        exact gd_ok a1 a2 (by simp; omega) (ty_all (by omega))
      · rw [if_neg q1]
        by_cases q2 : isW tp n σ 21 = true
        · rw [if_pos q2]
          obtain ⟨a1, a2⟩ := nW_ok q2
          by_cases c6 : o < 6
          · rw [if_pos c6]
            have i1 := iT 2 (o + 1) (nW tp n σ) (by omega) (by omega) a1 (by omega) (by show 4 + _ < f; omega)
            have e5 : dpt 2 (o + 1) = 3 * (7 - (o + 1)) + 4 := rfl
            exact gd_bR i1 (fun c σ1 b1 b2 b3 b4 => gd_ok b1 (by omega) (by simp; omega) (ty_not b4 (by omega) (by omega)))
          · rw [if_neg c6]; exact gd_fl sn
        · rw [if_neg q2]
          by_cases q3 : isS tp n σ 91 = true
          · rw [if_pos q3]
            obtain ⟨a1, a2⟩ := nS_ok q3
            by_cases c6 : o < 6
            · rw [if_pos c6]
              have i1 := iT 0 (o + 1) (nS tp n σ) (by omega) (by omega) a1 (by omega) (by show 6 + _ < f; omega)
              have e5 : dpt 0 (o + 1) = 3 * (7 - (o + 1)) + 6 := rfl
              refine gd_bR i1 (fun c σ1 b1 b2 b3 b4 => ?_)
              by_cases q4 : isS tp n σ1 93 = true
              · rw [if_pos q4]
                obtain ⟨x1, x2⟩ := nS_ok q4
                exact gd_ok x1 (by omega) (by omega) (ty_mono b4 (by omega))
              · rw [if_neg q4]; exact gd_fl b1.1
            · rw [if_neg c6]; exact gd_fl sn
          · rw [if_neg q3]
            refine gd_bR (F3 σ hs) (fun c σ1 b1 b2 b3 b4 => ?_)
            have cmp : ∀ q, 7 ≤ q ∧ q ≤ 9 → (nS tp n σ1).1 > σ1.1 → okS tp n (nS tp n σ1) → gdR tp n w σ (dpt 2 o) true (pCmp tp n (pD tp n w f) o c σ1 q) := fun q hq g1 g2 => gd_bR (F3 _ g2) (fun c2 σ2 x1 x2 x3 x4 => gd_ok x1 (by omega) (by simp; omega) (ty_cmp b4 x4 hq (by omega) (by omega) (by omega)))
            by_cases p1 : isS tp n σ1 60 = true
            · rw [if_pos p1]; exact cmp 7 (by omega) (nS_ok p1).2 (nS_ok p1).1
            · rw [if_neg p1]
              by_cases p2 : isS tp n σ1 62 = true
              · rw [if_pos p2]; exact cmp 8 (by omega) (nS_ok p2).2 (nS_ok p2).1
              · rw [if_neg p2]
                by_cases p3 : isS tp n σ1 61 = true
                · rw [if_pos p3]; exact cmp 9 (by omega) (nS_ok p3).2 (nS_ok p3).1
                · rw [if_neg p3]; exact gd_fl b1.1
    · have hf : 3 + 8 * (6 - o) < f + 1 := hf
      have F1 : ∀ σ, okS tp n σ → gdR tp n w σ (dpt 4 o) false (pD tp n w f 4 o σ) := fun σ h => iT 4 o σ (by omega) ho h (by omega) (by show 2 + _ < f; omega)
      show gdR tp n w σ (dpt 4 o + 1) false (pSum tp n (pD tp n w f) o σ)
      exact gd_bR (F1 σ hs) (fun c σ1 b1 b2 b3 b4 => gd_pSL F1 (by show 1 ≤ 3 * (7 - o) + 2; omega) 1600 c σ1 b1 b2 b3 (ty_mono b4 (by omega)))
    · have hf : 2 + 8 * (6 - o) < f + 1 := hf
      have F1 : ∀ σ, okS tp n σ → gdR tp n w σ (dpt 5 o) false (pD tp n w f 5 o σ) := fun σ h => iT 5 o σ (by omega) ho h (by omega) (by show 1 + _ < f; omega)
      show gdR tp n w σ (dpt 5 o + 1) false (pProd tp n (pD tp n w f) o σ)
      exact gd_bR (F1 σ hs) (fun c σ1 b1 b2 b3 b4 => gd_pML F1 (by show 1 ≤ 3 * (7 - o) + 1; omega) 1600 c σ1 b1 b2 b3 (ty_mono b4 (by omega)))
    · have hf : 1 + 8 * (6 - o) < f + 1 := hf
      have e5 : dpt 5 o = 3 * (7 - o) + 1 := rfl
      show gdR tp n w σ (dpt 5 o) false (pPart tp n (pD tp n w f) o σ)
      unfold pPart
      by_cases q1 : isN tp n σ = true
      · rw [if_pos q1]
        obtain ⟨a1, a2⟩ := nD_ok q1
        by_cases c4 : rn isD tp n σ.1 - σ.1 ≤ 4
        · rw [if_pos c4]; exact gd_ok a1 a2 (by simp; omega) (ty_num nv_le (by omega))
        · rw [if_neg c4]
          have := rn_le (p := isD) (tp := tp) sn
          exact gd_fl (by omega)
      · rw [if_neg q1]
        by_cases q2 : isS tp n σ 40 = true
        · rw [if_pos q2]
          obtain ⟨a1, a2⟩ := nS_ok q2
          by_cases c6 : o < 6
          · rw [if_pos c6]
            have i1 := iT 3 (o + 1) (nS tp n σ) (by omega) (by omega) a1 (by omega) (by show 3 + _ < f; omega)
            have e6 : dpt 3 (o + 1) = 3 * (7 - (o + 1)) + 3 := rfl
            refine gd_bR i1 (fun c σ1 b1 b2 b3 b4 => ?_)
            by_cases q4 : isS tp n σ1 41 = true
            · rw [if_pos q4]
              obtain ⟨x1, x2⟩ := nS_ok q4
              exact gd_ok x1 (by omega) (by omega) (ty_mono b4 (by omega))
            · rw [if_neg q4]; exact gd_fl b1.1
          · rw [if_neg c6]; exact gd_fl sn
        · rw [if_neg q2]
          have e6 : dpt 6 o = 3 * (7 - o) + 1 := rfl
          have e7 : dpt 7 o = 3 * (7 - o) + 1 := rfl
          by_cases q3 : isW tp n σ 23 = true
          · rw [if_pos q3]; exact iT 6 o σ (by omega) ho hs (fun _ => Or.inl q3) (by show 0 + _ < f; omega)
          · rw [if_neg q3]
            by_cases q4 : isW tp n σ 24 = true
            · rw [if_pos q4]; exact iT 6 o σ (by omega) ho hs (fun _ => Or.inr q4) (by show 0 + _ < f; omega)
            · rw [if_neg q4]; exact iT 7 o σ (by omega) ho hs (by omega) (by show 0 + _ < f; omega)
    · have hf : 0 + 8 * (6 - o) < f + 1 := hf
      have e6 : dpt 6 o = 3 * (7 - o) + 1 := rfl
      have e3 : dpt 3 (o + 1) = 3 * (7 - (o + 1)) + 3 := rfl
      show gdR tp n w σ (dpt 6 o) false (pPair tp n (pD tp n w f) o σ)
      obtain ⟨a1, a2⟩ : okS tp n (nW tp n σ) ∧ σ.1 < (nW tp n σ).1 := by
        rcases h6 rfl with q | q
        · exact nW_ok q
        · exact nW_ok q
      unfold pPair
      by_cases q1 : isS tp n (nW tp n σ) 40 = true
      · rw [if_pos q1]
        obtain ⟨y1, y2⟩ := nS_ok q1
        by_cases c6 : o < 6
        · rw [if_pos c6]
          refine gd_bR (iT 3 (o + 1) _ (by omega) (by omega) y1 (by omega) (by show 3 + _ < f; omega)) (fun c σ2 b1 b2 b3 b4 => ?_)
          by_cases q2 : isS tp n σ2 44 = true
          · rw [if_pos q2]
            obtain ⟨z1, z2⟩ := nS_ok q2
            refine gd_bR (iT 3 (o + 1) _ (by omega) (by omega) z1 (by omega) (by show 3 + _ < f; omega)) (fun c2 σ3 d1 d2 d3 d4 => ?_)
            by_cases q3 : isS tp n σ3 41 = true
            · rw [if_pos q3]
              obtain ⟨u1, u2⟩ := nS_ok q3
              exact gd_ok u1 (by omega) (by simp; omega) (ty_bin b4 d4 (by split <;> omega) (by omega) (by omega) (by omega))
            · rw [if_neg q3]; exact gd_fl d1.1
          · rw [if_neg q2]; exact gd_fl b1.1
        · rw [if_neg c6]; exact gd_fl a1.1
      · rw [if_neg q1]; exact gd_fl a1.1
    · have hf : 0 + 8 * (6 - o) < f + 1 := hf
      have e7 : dpt 7 o = 3 * (7 - o) + 1 := rfl
      show gdR tp n w σ (dpt 7 o) false (pWord tp n w (pD tp n w f) o σ)
      unfold pWord
      cases q : wJ tp n σ with
      | none => exact gd_fl sn
      | some j =>
        obtain ⟨j13, jw⟩ := wJ_t q
        obtain ⟨a1, a2⟩ := nW_ok jw
        simp only
        by_cases qa : alW w j = true
        · rw [if_pos qa]
          obtain ⟨A1, A2⟩ := alW_C qa j13
          by_cases q11 : 11 ≤ j
          · rw [if_pos q11]
            by_cases c6 : o < 6
            · rw [if_pos c6]
              have e5 : dpt 5 (o + 1) = 3 * (7 - (o + 1)) + 1 := rfl
              exact gd_bR (iT 5 (o + 1) _ (by omega) (by omega) a1 (by omega) (by show 1 + _ < f; omega)) (fun c σ2 b1 b2 b3 b4 => gd_ok b1 (by omega) (by simp; omega) (ty_of b4 (by omega) (A2 q11) (by omega) (by omega)))
            · rw [if_neg c6]; exact gd_fl sn
          · rw [if_neg q11]; exact gd_ok a1 a2 (by simp; omega) (ty_word (by omega) (A1 (by omega)) (by omega))
        · rw [if_neg qa]; exact gd_fl sn
