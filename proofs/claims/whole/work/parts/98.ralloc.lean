/-! alloc: the objects' rows with one more -/
def inN (N : tyN) (g b l w : Nat) : tyN := fun j => if j = 256 then N 256 + 1 else if j = 257 + 3 * g then b else if j = 258 + 3 * g then l else if j = 259 + 3 * g then w else if 257 + 3 * (g + 1) ≤ j ∧ j < 257 + 3 * (N 256 + 1) then N (j - 3) else N j
section In0
variable {N : tyN} {g b l w : Nat}
theorem inN_o {j : Nat} (n32 : N 256 < 32) (hg : g ≤ N 256) (h : j < 256 ∨ 353 ≤ j) : inN N g b l w j = N j := by
  unfold inN; rw [if_neg (by omega), if_neg (by omega), if_neg (by omega), if_neg (by omega), if_neg (by omega)]
theorem inN_n : inN N g b l w 256 = N 256 + 1 := if_pos rfl
theorem inN_l {k q : Nat} (hk : k < g) (hq : q < 3) : inN N g b l w (257 + q + 3 * k) = N (257 + q + 3 * k) := by
  unfold inN; rw [if_neg (by omega), if_neg (by omega), if_neg (by omega), if_neg (by omega), if_neg (by omega)]
theorem inN_g {k q : Nat} (hk : g < k) (hn : k ≤ N 256) (hq : q < 3) : inN N g b l w (257 + q + 3 * k) = N (257 + q + 3 * (k - 1)) := by
  unfold inN; rw [if_neg (by omega), if_neg (by omega), if_neg (by omega), if_neg (by omega), if_pos (by omega)]; congr 1; omega
theorem inN_0 : inN N g b l w (257 + 3 * g) = b := by unfold inN; rw [if_neg (by omega), if_pos rfl]
theorem inN_1 : inN N g b l w (258 + 3 * g) = l := by unfold inN; rw [if_neg (by omega), if_neg (by omega), if_pos rfl]
theorem inN_2 : inN N g b l w (259 + 3 * g) = w := by unfold inN; rw [if_neg (by omega), if_neg (by omega), if_neg (by omega), if_pos rfl]
end In0
def inH (h : aH) (s g n b l w : Nat) : aH := sI (sI (sI (sI (acp (acp (acp h (s + 2) g (s + 2) (g + 1) (n - g)) (s + 3) g (s + 3) (g + 1) (n - g)) (s + 4) g (s + 4) (g + 1) (n - g)) s 6 (nI (n + 1))) (s + 2) g (nI b)) (s + 3) g (nI l)) (s + 4) g (nI w)
section In1
variable {h : aH} {s g n b l w : Nat}
theorem inH_o {q j : Nat} (h1 : ¬ (q = s + 2 ∨ q = s + 3 ∨ q = s + 4)) (h2 : ¬ (q = s ∧ j = 6)) : hI (inH h s g n b l w) q j = hI h q j := by
  unfold inH
  rw [hI_sI, if_neg (by omega), hI_sI, if_neg (by omega), hI_sI, if_neg (by omega), hI_sI, if_neg (by omega), hI_acp, if_neg (by omega), hI_acp, if_neg (by omega), hI_acp, if_neg (by omega)]
theorem inH_6 : hI (inH h s g n b l w) s 6 = nI (n + 1) := by
  unfold inH
  rw [hI_sI, if_neg (by omega), hI_sI, if_neg (by omega), hI_sI, if_neg (by omega), hI_sI, if_pos ⟨rfl, rfl⟩]
theorem inH_l {q j : Nat} (hq : q = s + 2 ∨ q = s + 3 ∨ q = s + 4) (hj : j < g) : hI (inH h s g n b l w) q j = hI h q j := by
  unfold inH
  rw [hI_sI, if_neg (by omega), hI_sI, if_neg (by omega), hI_sI, if_neg (by omega), hI_sI, if_neg (by omega), hI_acp, if_neg (by omega), hI_acp, if_neg (by omega), hI_acp, if_neg (by omega)]
theorem inH_g {q j : Nat} (hq : q = s + 2 ∨ q = s + 3 ∨ q = s + 4) (hj : g < j) (hn : j ≤ n) : hI (inH h s g n b l w) q j = hI h q (j - 1) := by
  unfold inH
  rw [hI_sI, if_neg (by omega), hI_sI, if_neg (by omega), hI_sI, if_neg (by omega), hI_sI, if_neg (by omega)]
  have e : g + (j - (g + 1)) = j - 1 := by omega
  rcases hq with rfl | rfl | rfl
  · rw [hI_acp, if_neg (by omega), hI_acp, if_neg (by omega), hI_acp, if_pos ⟨rfl, by omega, by omega⟩, e]
  · rw [hI_acp, if_neg (by omega), hI_acp, if_pos ⟨rfl, by omega, by omega⟩, hI_acp, if_neg (by omega), e]
  · rw [hI_acp, if_pos ⟨rfl, by omega, by omega⟩, hI_acp, if_neg (by omega), hI_acp, if_neg (by omega), e]
theorem inH_2 : hI (inH h s g n b l w) (s + 2) g = nI b := by unfold inH; rw [hI_sI, if_neg (by omega), hI_sI, if_neg (by omega), hI_sI, if_pos ⟨rfl, rfl⟩]
theorem inH_3 : hI (inH h s g n b l w) (s + 3) g = nI l := by unfold inH; rw [hI_sI, if_neg (by omega), hI_sI, if_pos ⟨rfl, rfl⟩]
theorem inH_4 : hI (inH h s g n b l w) (s + 4) g = nI w := by unfold inH; rw [hI_sI, if_pos ⟨rfl, rfl⟩]
end In1
section In2
variable {h : aH} {x r tl : Nat} {tp : Nat → Nat} {rf : Nat → Int32} {ft fp : Int32} {sd : Nat} {M mem sh : Nat} {ns : Nat → List Nat} {kd : Nat → Nat} {cd : Nat → List Nat} {N : tyN} {sl : Nat → tyN} {nx c cr : Nat} {rn : Nat} {rw_ : Nat → Nat} {on_ : Nat} {ob : Nat → Nat}
theorem RS.ins {s g b l w : Nat} (R : RS h s N) (n32 : N 256 < 32) (hg : g ≤ N 256) : RS (inH h s g (N 256) b l w) s (inN N g b l w) := by
  obtain ⟨r1, r2, r3, r4, r5, r6⟩ := R
  refine ⟨fun k hk => ?_, ?_, fun k h1 h2 => ?_, ?_, fun k h1 h2 => ?_, fun a ha => ?_⟩
  · have := (r1 k hk).fr (h1 := inH h s g (N 256) b l w) (fun j _ => inH_o (by omega) (by omega))
    unfold PS at this ⊢
    rw [inN_o n32 hg (by omega), inN_o n32 hg (by omega), inN_o n32 hg (by omega), inN_o n32 hg (by omega), inN_o n32 hg (by omega), inN_o n32 hg (by omega), inN_o n32 hg (by omega)]
    exact this
  · rw [inH_6, inN_n]
  · rw [inN_n] at h1
    by_cases c : k < g
    · rw [inH_l (by omega) c, inH_l (by omega) c, inH_l (by omega) c]
      obtain ⟨q1, q2, q3⟩ := r3 k (by omega) (by omega)
      exact ⟨q1.trans (by rw [← inN_l (N := N) (b := b) (l := l) (w := w) (q := 0) c (by omega)]), q2.trans (by rw [← inN_l (N := N) (b := b) (l := l) (w := w) (q := 1) c (by omega)]), q3.trans (by rw [← inN_l (N := N) (b := b) (l := l) (w := w) (q := 2) c (by omega)])⟩
    · by_cases c2 : k = g
      · subst c2
        rw [inH_2, inH_3, inH_4, inN_0, inN_1, inN_2]
        exact ⟨rfl, rfl, rfl⟩
      · rw [inH_g (by omega) (by omega) (by omega), inH_g (by omega) (by omega) (by omega), inH_g (by omega) (by omega) (by omega)]
        obtain ⟨q1, q2, q3⟩ := r3 (k - 1) (by omega) (by omega)
        exact ⟨q1.trans (by rw [← inN_g (N := N) (b := b) (l := l) (w := w) (q := 0) (show g < k by omega) (by omega) (by omega)]), q2.trans (by rw [← inN_g (N := N) (b := b) (l := l) (w := w) (q := 1) (show g < k by omega) (by omega) (by omega)]), q3.trans (by rw [← inN_g (N := N) (b := b) (l := l) (w := w) (q := 2) (show g < k by omega) (by omega) (by omega)])⟩
  · rw [inH_o (by omega) (by omega), inN_o n32 hg (by omega)]; exact r4
  · rw [inN_o n32 hg (by omega)] at h1
    rw [inH_o (by omega) (by omega), inN_o n32 hg (by omega)]; exact r5 k h1 h2
  · unfold byP
    rw [inH_o (by omega) (by omega), inN_o n32 hg (by omega)]; exact r6 a ha
theorem CX.ins (C : CX h x (r, tl, tp, rf, ft, fp, sd) (M, mem, sh, ns, kd, cd) N (sl, nx, c, cr) (rn, rw_) (on_, ob)) (n32 : N 256 < 32) {g b l w : Nat} (hg : g ≤ N 256) : CX (inH h (x + 3) g (N 256) b l w) x (r, tl, tp, rf, ft, fp, sd) (M, mem, sh, ns, kd, cd) (inN N g b l w) (sl, nx, c, cr) (rn, rw_) (on_, ob) ∧ FC x h (inH h (x + 3) g (N 256) b l w) := by
  refine C.nc1 ?_ rfl rfl (C.2.2.2.1.ins n32 hg)
  exact ⟨rfl, fun _ _ _ => rfl, rfl, rfl, fun q j z => inH_o (by unfold NC at z; omega) (by unfold NC at z; omega), fun _ _ _ => rfl⟩
theorem okN.ins (q : okN M mem sh N) {g b l w : Nat} (n32 : N 256 < 32) (hg : g ≤ N 256) (b1 : gst (obB N) (obL N) g ≤ b) (b2 : b + l ≤ gen_ (N 256) mem (obB N) g) (b3 : b + l ≤ 4096) (w1 : 1 ≤ w) (w2 : w ≤ l) : okN M mem sh (inN N g b l w) := by
  obtain ⟨q1, q2, q3, q4, q5, q6, q7, q8, q9⟩ := q
  refine ⟨fun j => ?_, fun k hk => ?_, fun k hk => ?_, fun k h1 h2 => ?_, ?_, ?_, fun k hk => ?_, ?_, fun a ha => ?_⟩
  · unfold inN
    have := q1 j
    have := q1 (j - 3)
    repeat (first | split | omega)
  · have := q2 k hk
    unfold okP at this ⊢
    rw [inN_o n32 hg (by omega), inN_o n32 hg (by omega), inN_o n32 hg (by omega), inN_o n32 hg (by omega), inN_o n32 hg (by omega), inN_o n32 hg (by omega), inN_o n32 hg (by omega)]
    exact this
  · rw [inN_o n32 hg (by omega)]; exact q3 k hk
  · rw [inN_o n32 hg (by omega)]; exact q4 k h1 h2
  · rw [inN_n]; omega
  · rw [inN_n]
    intro p hp
    have lB : ∀ k, k < g → inN N g b l w (257 + 3 * k) = N (257 + 3 * k) := fun k hk => inN_l (q := 0) hk (by omega)
    have lL : ∀ k, k < g → inN N g b l w (258 + 3 * k) = N (258 + 3 * k) := fun k hk => inN_l (q := 1) hk (by omega)
    have gB : ∀ k, g < k → k ≤ N 256 → inN N g b l w (257 + 3 * k) = N (257 + 3 * (k - 1)) := fun k hk hn => inN_g (q := 0) hk hn (by omega)
    have gL : ∀ k, g < k → k ≤ N 256 → inN N g b l w (258 + 3 * k) = N (258 + 3 * (k - 1)) := fun k hk hn => inN_g (q := 1) hk hn (by omega)
    unfold gst obB obL at b1
    unfold gen_ obB at b2
    try simp only at b1 b2
    unfold gst gen_
    try simp only
    by_cases c1 : p < g
    · have a1 := q6 p (by omega)
      unfold gst gen_ at a1
      try simp only at a1
      rw [if_pos (show p < N 256 + 1 by omega), lB p c1]
      rw [if_pos (show p < N 256 by omega)] at a1
      by_cases c0 : p = 0
      · rw [if_pos c0] at a1 ⊢; exact a1
      · rw [if_neg c0] at a1 ⊢; rw [lB (p - 1) (by omega), lL (p - 1) (by omega)]; exact a1
    · by_cases c2 : p = g
      · subst c2
        rw [if_pos (show p < N 256 + 1 by omega), inN_0]
        by_cases c0 : p = 0
        · rw [if_pos c0] at b1 ⊢; exact b1
        · rw [if_neg c0] at b1 ⊢; rw [lB (p - 1) (by omega), lL (p - 1) (by omega)]; exact b1
      · rw [if_neg (show ¬ p = 0 by omega)]
        by_cases c3 : p = g + 1
        · subst c3
          rw [show g + 1 - 1 = g by omega, inN_0, inN_1]
          by_cases c4 : g < N 256
          · rw [if_pos (by omega), gB (g + 1) (by omega) (by omega), show g + 1 - 1 = g by omega]; rw [if_pos c4] at b2; exact b2
          · rw [if_neg (by omega)]; rw [if_neg c4] at b2; exact b2
        · have a1 := q6 (p - 1) (by omega)
          unfold gst gen_ at a1
          try simp only at a1
          rw [if_neg (show ¬ p - 1 = 0 by omega)] at a1
          rw [gB (p - 1) (by omega) (by omega), gL (p - 1) (by omega) (by omega)]
          by_cases c4 : p < N 256 + 1
          · rw [if_pos c4, gB p (by omega) (by omega)]; rw [if_pos (show p - 1 < N 256 by omega)] at a1; exact a1
          · rw [if_neg c4]; rw [if_neg (show ¬ p - 1 < N 256 by omega)] at a1; exact a1
  · rw [inN_n] at hk
    by_cases c : k < g
    · have := q7 k (by omega)
      rw [show inN N g b l w (259 + 3 * k) = N (259 + 3 * k) from inN_l (q := 2) c (by omega), show inN N g b l w (258 + 3 * k) = N (258 + 3 * k) from inN_l (q := 1) c (by omega)]
      exact this
    · by_cases c2 : k = g
      · subst c2; rw [inN_2, inN_1]; exact ⟨w1, w2⟩
      · have := q7 (k - 1) (by omega)
        rw [show inN N g b l w (259 + 3 * k) = N (259 + 3 * (k - 1)) from inN_g (q := 2) (by omega) (by omega) (by omega), show inN N g b l w (258 + 3 * k) = N (258 + 3 * (k - 1)) from inN_g (q := 1) (by omega) (by omega) (by omega)]
        exact this
  · rw [inN_o n32 hg (by omega)]; exact q8
  · rw [inN_o n32 hg (by omega)]; exact q9 a ha
/-- a pointer to what was allocated -/
def ceN (N : tyN) (k b e o t : Nat) : tyN := updN (updN (updN (updN (bdN N k e o t) (8 * k) 1) (8 * k + 1) b) (8 * k + 5) 3) (8 * k + 6) 0
theorem ceN_o {k b e o t j : Nat} (h : ¬ (8 * k ≤ j ∧ j < 8 * k + 7)) : ceN N k b e o t j = N j := by
  unfold ceN; rw [updN_o (by omega), updN_o (by omega), updN_o (by omega), updN_o (by omega), bdN_o (by omega) (by omega) (by omega)]
theorem ceN_v {k b e o t : Nat} : ceN N k b e o t (8 * k) = 1 ∧ ceN N k b e o t (8 * k + 1) = b ∧ ceN N k b e o t (8 * k + 2) = e ∧ ceN N k b e o t (8 * k + 3) = o ∧ ceN N k b e o t (8 * k + 4) = t ∧ ceN N k b e o t (8 * k + 5) = 3 ∧ ceN N k b e o t (8 * k + 6) = 0 := by
  unfold ceN
  refine ⟨?_, ?_, ?_, ?_, ?_, ?_, ?_⟩
  · rw [updN_o (by omega), updN_o (by omega), updN_o (by omega), updN_s]
  · rw [updN_o (by omega), updN_o (by omega), updN_s]
  · rw [updN_o (by omega), updN_o (by omega), updN_o (by omega), updN_o (by omega), bdN_2]
  · rw [updN_o (by omega), updN_o (by omega), updN_o (by omega), updN_o (by omega), bdN_3]
  · rw [updN_o (by omega), updN_o (by omega), updN_o (by omega), updN_o (by omega), bdN_4]
  · rw [updN_o (by omega), updN_s]
  · rw [updN_s]
theorem ceN_nt {k b e o t w a v : Nat} (hk : k < 32) : ceN (ntN N w a v) k b e o t = ntN (ceN N k b e o t) w a v := by
  funext j
  by_cases c : 8 * k ≤ j ∧ j < 8 * k + 7
  · rw [ntN_lo (by omega)]
    have u := ceN_v (N := ntN N w a v) (k := k) (b := b) (e := e) (o := o) (t := t)
    have v := ceN_v (N := N) (k := k) (b := b) (e := e) (o := o) (t := t)
    rcases (show j = 8 * k ∨ j = 8 * k + 1 ∨ j = 8 * k + 2 ∨ j = 8 * k + 3 ∨ j = 8 * k + 4 ∨ j = 8 * k + 5 ∨ j = 8 * k + 6 by omega) with rfl | rfl | rfl | rfl | rfl | rfl | rfl
    · rw [u.1, v.1]
    · rw [u.2.1, v.2.1]
    · rw [u.2.2.1, v.2.2.1]
    · rw [u.2.2.2.1, v.2.2.2.1]
    · rw [u.2.2.2.2.1, v.2.2.2.2.1]
    · rw [u.2.2.2.2.2.1, v.2.2.2.2.2.1]
    · rw [u.2.2.2.2.2.2, v.2.2.2.2.2.2]
  · rw [ceN_o c]
    unfold ntN
    rw [ceN_o (show ¬ (8 * k ≤ 1377 ∧ 1377 < 8 * k + 7) by omega)]
    by_cases z : N 1377 = 40 ∧ 1378 ≤ j ∧ j < 1495
    · rw [if_pos z, if_pos z, ceN_o (j := j + 3) (by omega)]
    · rw [if_neg z, if_neg z, ceN_o c]
theorem okN.ce (okn : okN M mem sh N) (h4 : 4 ≤ M) (h8 : M ≤ 8) {k b l : Nat} (hk : k < 16) (hb : b < 4096) (hl : b + l ≤ 4096) : okN M mem sh (ceN N k b (lexN b (b + l) M) (botN b (lexN b (b + l) M) M) (topN (b + l) (lexN b (b + l) M) M)) := by
  have okp := okn.2.1 k (by omega)
  have lo := lexN_ok (b := b) (t := b + l) (by omega) hl h4 h8
  have le := lexN_le b (b + l) M
  have nl := (nw_len (b := b) (t := b + l) h4 (by omega) lo).1
  obtain ⟨v0, v1, v2, v3, v4, v5, v6⟩ := ceN_v (N := N) (k := k) (b := b) (e := lexN b (b + l) M) (o := botN b (lexN b (b + l) M) M) (t := topN (b + l) (lexN b (b + l) M) M)
  refine okn.cell h8 (show k < 32 by omega) (fun j q => ceN_o (by omega)) ?_ ?_ ?_ ?_
  · unfold okP
    rw [v0, v1, v2, v3, v4, v5, v6]
    exact ⟨by omega, hb, le, Nat.mod_lt _ (Nat.two_pow_pos M), Nat.mod_lt _ (Nat.two_pow_pos M), nl, by omega, by omega⟩
  · rw [ceN_o (by omega)]; exact okn.1 _
  · intro _; rw [v0]; omega
  · intro z; omega
/-- what is left by an allocation -/
def alN (M : Nat) (N : tyN) (k g b l w : Nat) : tyN := ntN (ceN (inN N g b l w) k b (lexN b (b + l) M) (botN b (lexN b (b + l) M) M) (topN (b + l) (lexN b (b + l) M) M)) 0 b l
theorem okN.al (q : okN M mem sh N) (h4 : 4 ≤ M) (h8 : M ≤ 8) (mm : mem ≤ 1024) {k g b l w : Nat} (hk : k < 16) (n32 : N 256 < 32) (hg : g ≤ N 256) (b1 : gst (obB N) (obL N) g ≤ b) (b2 : b + l ≤ gen_ (N 256) mem (obB N) g) (w1 : 1 ≤ w) (w2 : w ≤ l) : okN M mem sh (alN M N k g b l w) := by
  have b3 := (q.gt hg).2
  exact ((q.ins n32 hg b1 b2 (by omega) w1 w2).ce h4 h8 hk (by omega) (by omega)).nt (by omega) (by omega) (by omega)
end In2
/-- what a search found -/
theorem fS_ok {n mem e l : Nat} {B L : Nat → Nat} {cd : Nat → List Nat} : ∀ (j g : Nat) (σ : tyS), g + j ≤ n + 1 → (∀ p, σ = some p → p.1 ≤ n ∧ p.2.1 = upN (gst B L p.1) e ∧ p.2.1 + l ≤ gst B L p.1 + szN n mem B L p.1) → ∀ p, fS (stS n mem B L cd e l) j g σ = some p → p.1 ≤ n ∧ p.2.1 = upN (gst B L p.1) e ∧ p.2.1 + l ≤ gst B L p.1 + szN n mem B L p.1 := by
  intro j
  induction j with
  | zero => intro g σ _ h p hp; exact h p hp
  | succ j ih =>
    intro g σ hg h p hp
    refine ih (g + 1) (stS n mem B L cd e l g σ) (by omega) (fun q hq => ?_) p hp
    unfold stS at hq
    split at hq
    · rename_i c
      cases σ with
      | none => cases hq; exact ⟨by show g ≤ n; omega, rfl, c⟩
      | some s =>
        obtain ⟨g0, a0, k0⟩ := s
        unfold upS at hq
        try simp only at hq
        split at hq
        · exact h q hq
        · cases hq; exact ⟨by show g ≤ n; omega, rfl, c⟩
    · exact h q hq
theorem se_ok {M mem sh w g a : Nat} {k : Int} {cd : Nat → List Nat} {N : tyN} (q : okN M mem sh N) (e : seS M mem cd N w = some (g, a, k)) : N 256 < 32 ∧ g ≤ N 256 ∧ gst (obB N) (obL N) g ≤ a ∧ a + lnS M cd w ≤ gen_ (N 256) mem (obB N) g := by
  unfold seS at e
  split at e
  · rename_i c
    obtain ⟨h1, h2, h3⟩ := fS_ok (N 256 + 1) 0 none (by omega) (fun p hp => by cases hp) _ e
    try simp only at h1 h2 h3
    have g1 := (q.gt h1).1
    have u := le_upN (gst (obB N) (obL N) g) (exS M cd w)
    unfold szN at h3
    exact ⟨c, h1, by omega, by omega⟩
  · cases e
