/-! free: the objects' rows without one -/
def rmN (N : tyN) (i : Nat) : tyN := fun j => if j = 256 then N 256 - 1 else if 257 + 3 * i ≤ j ∧ j < 257 + 3 * (N 256 - 1) then N (j + 3) else N j
theorem rmN_o {N : tyN} {i j : Nat} (n32 : N 256 ≤ 32) (h : j < 256 ∨ 353 ≤ j) : rmN N i j = N j := by
  unfold rmN; rw [if_neg (by omega), if_neg (by omega)]
theorem rmN_n (N : tyN) (i : Nat) : rmN N i 256 = N 256 - 1 := if_pos rfl
theorem rmN_l {N : tyN} {i k q : Nat} (hk : k < i) (hq : q < 3) : rmN N i (257 + q + 3 * k) = N (257 + q + 3 * k) := by
  unfold rmN; rw [if_neg (by omega), if_neg (by omega)]
theorem rmN_g {N : tyN} {i k q : Nat} (hk : i ≤ k) (hn : k < N 256 - 1) (hq : q < 3) : rmN N i (257 + q + 3 * k) = N (257 + q + 3 * (k + 1)) := by
  unfold rmN; rw [if_neg (by omega), if_pos (by omega)]; congr 1
def rmH (h : aH) (s i n : Nat) : aH := acp (acp (acp (sI h s 6 (nI n)) (s + 2) (i + 1) (s + 2) i (n - i)) (s + 3) (i + 1) (s + 3) i (n - i)) (s + 4) (i + 1) (s + 4) i (n - i)
theorem hI_rmH {h : aH} {s i n : Nat} (hin : i ≤ n) (b j : Nat) : hI (rmH h s i n) b j = if (b = s + 2 ∨ b = s + 3 ∨ b = s + 4) ∧ i ≤ j ∧ j < n then hI h b (j + 1) else if b = s ∧ j = 6 then nI n else hI h b j := by
  unfold rmH
  by_cases c : (b = s + 2 ∨ b = s + 3 ∨ b = s + 4) ∧ i ≤ j ∧ j < n
  · rw [if_pos c]
    have e : i + 1 + (j - i) = j + 1 := by omega
    rcases c.1 with rfl | rfl | rfl
    · rw [hI_acp, if_neg (by omega), hI_acp, if_neg (by omega), hI_acp, if_pos ⟨rfl, by omega, by omega⟩, hI_sI, if_neg (by omega), e]
    · rw [hI_acp, if_neg (by omega), hI_acp, if_pos ⟨rfl, by omega, by omega⟩, hI_acp, if_neg (by omega), hI_sI, if_neg (by omega), e]
    · rw [hI_acp, if_pos ⟨rfl, by omega, by omega⟩, hI_acp, if_neg (by omega), hI_acp, if_neg (by omega), hI_sI, if_neg (by omega), e]
  · rw [if_neg c, hI_acp, if_neg (by omega), hI_acp, if_neg (by omega), hI_acp, if_neg (by omega), hI_sI]
theorem FX.acp {x : Nat} {P : Nat → Nat → Prop} {h : aH} {a0 sp a dp n : Nat} (hp : ∀ j, P a j) : FX x P h (acp h a0 sp a dp n) := ⟨rfl, fun _ _ _ => rfl, rfl, rfl, fun b j q => by rw [hI_acp, if_neg]; rintro ⟨rfl, _⟩; exact q (hp j), fun _ _ _ => rfl⟩
section Rm
variable {h : aH} {x r tl : Nat} {tp : Nat → Nat} {rf : Nat → Int32} {ft fp : Int32} {sd : Nat} {M mem sh : Nat} {ns : Nat → List Nat} {kd : Nat → Nat} {cd : Nat → List Nat} {N : tyN} {sl : Nat → tyN} {nx c cr : Nat} {rn : Nat} {rw_ : Nat → Nat} {on_ : Nat} {ob : Nat → Nat}
theorem RS.rm {s i : Nat} (R : RS h s N) (n32 : N 256 ≤ 32) (hi : i < N 256) : RS (rmH h s i (N 256 - 1)) s (rmN N i) := by
  obtain ⟨r1, r2, r3, r4, r5, r6⟩ := R
  have H := fun b j => hI_rmH (h := h) (s := s) (i := i) (n := N 256 - 1) (by omega) b j
  have eo : ∀ b j, ¬ (b = s + 2 ∨ b = s + 3 ∨ b = s + 4) → ¬ (b = s ∧ j = 6) → hI (rmH h s i (N 256 - 1)) b j = hI h b j := fun b j q1 q2 => by rw [H, if_neg (by omega), if_neg q2]
  refine ⟨fun k hk => ?_, ?_, fun k h1 h2 => ?_, ?_, fun k h1 h2 => ?_, fun a ha => ?_⟩
  · have := (r1 k hk).fr (h1 := rmH h s i (N 256 - 1)) (fun j _ => eo _ j (by omega) (by omega))
    unfold PS at this ⊢
    rw [rmN_o n32 (by omega), rmN_o n32 (by omega), rmN_o n32 (by omega), rmN_o n32 (by omega), rmN_o n32 (by omega), rmN_o n32 (by omega), rmN_o n32 (by omega)]
    exact this
  · rw [H, if_neg (by omega), if_pos ⟨rfl, rfl⟩, rmN_n]
  · rw [rmN_n] at h1
    by_cases c : i ≤ k
    · rw [H, if_pos (by omega), H, if_pos (by omega), H, if_pos (by omega)]
      obtain ⟨q1, q2, q3⟩ := r3 (k + 1) (by omega) (by omega)
      exact ⟨q1.trans (by rw [← rmN_g (N := N) (i := i) (q := 0) c h1 (by omega)]), q2.trans (by rw [← rmN_g (N := N) (i := i) (q := 1) c h1 (by omega)]), q3.trans (by rw [← rmN_g (N := N) (i := i) (q := 2) c h1 (by omega)])⟩
    · rw [H, if_neg (by omega), if_neg (by omega), H, if_neg (by omega), if_neg (by omega), H, if_neg (by omega), if_neg (by omega)]
      obtain ⟨q1, q2, q3⟩ := r3 k (by omega) (by omega)
      exact ⟨q1.trans (by rw [← rmN_l (N := N) (i := i) (q := 0) (k := k) (by omega) (by omega)]), q2.trans (by rw [← rmN_l (N := N) (i := i) (q := 1) (k := k) (by omega) (by omega)]), q3.trans (by rw [← rmN_l (N := N) (i := i) (q := 2) (k := k) (by omega) (by omega)])⟩
  · rw [eo _ _ (by omega) (by omega), rmN_o n32 (by omega)]; exact r4
  · rw [rmN_o n32 (by omega)] at h1
    rw [eo _ _ (by omega) (by omega), rmN_o n32 (by omega)]; exact r5 k h1 h2
  · unfold byP
    rw [eo _ _ (by omega) (by omega), rmN_o n32 (by omega)]; exact r6 a ha
theorem CX.rm (C : CX h x (r, tl, tp, rf, ft, fp, sd) (M, mem, sh, ns, kd, cd) N (sl, nx, c, cr) (rn, rw_) (on_, ob)) (n32 : N 256 ≤ 32) {i : Nat} (hi : i < N 256) : CX (rmH h (x + 3) i (N 256 - 1)) x (r, tl, tp, rf, ft, fp, sd) (M, mem, sh, ns, kd, cd) (rmN N i) (sl, nx, c, cr) (rn, rw_) (on_, ob) ∧ FC x h (rmH h (x + 3) i (N 256 - 1)) := by
  refine C.nc1 ?_ rfl rfl (C.2.2.2.1.rm n32 hi)
  exact (((FX.sI (by unfold NC; omega)).trans (FX.acp (fun j => by unfold NC; omega))).trans (FX.acp (fun j => by unfold NC; omega))).trans (FX.acp (fun j => by unfold NC; omega))
theorem okN.rm (q : okN M mem sh N) {i : Nat} (hi : i < N 256) : okN M mem sh (rmN N i) := by
  obtain ⟨q1, q2, q3, q4, q5, q6, q7, q8, q9⟩ := q
  refine ⟨fun j => ?_, fun k hk => ?_, fun k hk => ?_, fun k h1 h2 => ?_, ?_, ?_, fun k hk => ?_, ?_, fun a ha => ?_⟩
  · unfold rmN
    have := q1 256
    split
    · omega
    · split
      · exact q1 _
      · exact q1 _
  · have := q2 k hk
    unfold okP at this ⊢
    rw [rmN_o q5 (by omega), rmN_o q5 (by omega), rmN_o q5 (by omega), rmN_o q5 (by omega), rmN_o q5 (by omega), rmN_o q5 (by omega), rmN_o q5 (by omega)]
    exact this
  · rw [rmN_o q5 (by omega)]; exact q3 k hk
  · rw [rmN_o q5 (by omega)]; exact q4 k h1 h2
  · rw [rmN_n]; omega
  · rw [rmN_n]
    intro g hg
    have lB : ∀ k, k < i → rmN N i (257 + 3 * k) = N (257 + 3 * k) := fun k hk => rmN_l (q := 0) hk (by omega)
    have lL : ∀ k, k < i → rmN N i (258 + 3 * k) = N (258 + 3 * k) := fun k hk => rmN_l (q := 1) hk (by omega)
    have gB : ∀ k, i ≤ k → k < N 256 - 1 → rmN N i (257 + 3 * k) = N (257 + 3 * (k + 1)) := fun k hk hn => rmN_g (q := 0) hk hn (by omega)
    have gL : ∀ k, i ≤ k → k < N 256 - 1 → rmN N i (258 + 3 * k) = N (258 + 3 * (k + 1)) := fun k hk hn => rmN_g (q := 1) hk hn (by omega)
    have a1 := q6 g (by omega)
    have a2 := q6 (g + 1) (by omega)
    unfold gst gen_ at a1 a2 ⊢
    rw [if_neg (show ¬ g + 1 = 0 by omega), show g + 1 - 1 = g by omega] at a2
    try simp only at a1 a2 ⊢
    by_cases c0 : g = 0
    · subst c0
      rw [if_pos rfl] at a1 ⊢
      by_cases c1 : 0 < N 256 - 1
      · rw [if_pos c1]
        by_cases c2 : 0 < i
        · rw [lB 0 c2]; rw [if_pos (by omega)] at a1; exact a1
        · rw [gB 0 (by omega) c1]; rw [if_pos (by omega)] at a1 a2; omega
      · rw [if_neg c1]; rw [if_pos (by omega)] at a1; rw [if_neg (by omega)] at a2; omega
    · rw [if_neg c0] at a1 ⊢
      by_cases c3 : g ≤ i
      · rw [lB (g - 1) (by omega), lL (g - 1) (by omega)]
        by_cases c1 : g < N 256 - 1
        · rw [if_pos c1]
          by_cases c2 : g < i
          · rw [lB g c2]; rw [if_pos (by omega)] at a1; exact a1
          · rw [gB g (by omega) c1]; rw [if_pos (by omega)] at a1 a2; omega
        · rw [if_neg c1]; rw [if_pos (by omega)] at a1; rw [if_neg (by omega)] at a2; omega
      · rw [gB (g - 1) (by omega) (by omega), gL (g - 1) (by omega) (by omega), show g - 1 + 1 = g by omega]
        by_cases c1 : g < N 256 - 1
        · rw [if_pos c1, gB g (by omega) c1]; rw [if_pos (by omega)] at a2; exact a2
        · rw [if_neg c1]; rw [if_neg (by omega)] at a2; exact a2
  · rw [rmN_n] at hk
    by_cases c : i ≤ k
    · have := q7 (k + 1) (by omega)
      rw [show rmN N i (259 + 3 * k) = N (259 + 3 * (k + 1)) from rmN_g (q := 2) c hk (by omega), show rmN N i (258 + 3 * k) = N (258 + 3 * (k + 1)) from rmN_g (q := 1) c hk (by omega)]
      exact this
    · have := q7 k (by omega)
      rw [show rmN N i (259 + 3 * k) = N (259 + 3 * k) from rmN_l (q := 2) (by omega) (by omega), show rmN N i (258 + 3 * k) = N (258 + 3 * k) from rmN_l (q := 1) (by omega) (by omega)]
      exact this
  · rw [rmN_o q5 (by omega)]; exact q8
  · rw [rmN_o q5 (by omega)]; exact q9 a ha
end Rm
/-! the orders agree -/
theorem zF_rm {N : tyN} {b l i : Nat} (n32 : N 256 ≤ 32) : zF b l 0 (rmN N i) = rmN (zF b l 0 N) i := by
  have o : ∀ j, j < 353 → zF b l 0 N j = N j := fun j hj => zF_o b l 0 N j (by omega)
  funext j
  by_cases c : 353 + b + 0 ≤ j ∧ j < 353 + b + 0 + l
  · rw [zF_i _ _ _ _ _ c.1 c.2, rmN_o (by rw [o _ (by omega)]; exact n32) (by omega), zF_i _ _ _ _ _ c.1 c.2]
  · rw [zF_o _ _ _ _ _ c]
    unfold rmN
    rw [o 256 (by omega)]
    by_cases c1 : j = 256
    · rw [if_pos c1, if_pos c1]
    · rw [if_neg c1, if_neg c1]
      by_cases c2 : 257 + 3 * i ≤ j ∧ j < 257 + 3 * (N 256 - 1)
      · rw [if_pos c2, if_pos c2, o _ (by omega)]
      · rw [if_neg c2, if_neg c2, zF_o _ _ _ _ _ c]
theorem ivS_rm {N : tyN} {M b l k i : Nat} (n32 : N 256 ≤ 32) (hk : k < 32) : ivS M b l k (rmN N i) = rmN (ivS M b l k N) i := by
  unfold ivS
  rw [rmN_o n32 (show 8 * k < 256 ∨ 353 ≤ 8 * k by omega), rmN_o n32 (show 8 * k + 1 < 256 ∨ 353 ≤ 8 * k + 1 by omega), rmN_o n32 (show 8 * k + 2 < 256 ∨ 353 ≤ 8 * k + 2 by omega), rmN_o n32 (show 8 * k + 3 < 256 ∨ 353 ≤ 8 * k + 3 by omega)]
  split
  · funext j
    by_cases c : j = 8 * k
    · subst c; rw [updN_s, rmN_o (by rw [updN_o (by omega)]; exact n32) (by omega), updN_s]
    · rw [updN_o c]
      unfold rmN
      rw [updN_o (show ¬ 256 = 8 * k by omega)]
      by_cases c1 : j = 256
      · rw [if_pos c1, if_pos c1]
      · rw [if_neg c1, if_neg c1]
        by_cases c2 : 257 + 3 * i ≤ j ∧ j < 257 + 3 * (N 256 - 1)
        · rw [if_pos c2, if_pos c2, updN_o (by omega)]
        · rw [if_neg c2, if_neg c2, updN_o c]
  · rfl
theorem ivF_rm {M b l i : Nat} : ∀ (j k : Nat) (N : tyN), N 256 ≤ 32 → k + j ≤ 32 → ivF M b l j k (rmN N i) = rmN (ivF M b l j k N) i := by
  intro j
  induction j with
  | zero => intro k N _ _; rfl
  | succ j ih =>
    intro k N n32 hk
    show ivF M b l j (k + 1) (ivS M b l k (rmN N i)) = rmN (ivF M b l j (k + 1) (ivS M b l k N)) i
    rw [ivS_rm n32 (by omega), ih (k + 1) _ (by rw [ivS_o (by omega)]; exact n32) (by omega)]
theorem ivF_o {M b l : Nat} : ∀ (j k : Nat) (N : tyN) (q : Nat), k + j ≤ 32 → 256 ≤ q → ivF M b l j k N q = N q := by
  intro j
  induction j with
  | zero => intro k N q _ _; rfl
  | succ j ih =>
    intro k N q hk hq
    show ivF M b l j (k + 1) (ivS M b l k N) q = N q
    rw [ih (k + 1) _ q (by omega) hq, ivS_o (by omega)]
theorem okN.ivf {M mem sh b l : Nat} (h8 : M ≤ 8) : ∀ (j k : Nat) (N : tyN), k + j ≤ 32 → okN M mem sh N → okN M mem sh (ivF M b l j k N) := by
  intro j
  induction j with
  | zero => intro k N _ q; exact q
  | succ j ih =>
    intro k N hk q
    refine ih (k + 1) (ivS M b l k N) (by omega) ?_
    unfold ivS
    split
    · rename_i c
      refine q.u0 h8 (by omega) ?_
      by_cases z : k < 16 + 4 * sh
      · exact z
      · have := q.2.2.2.1 k (by omega) (by omega); omega
    · exact q
/-- what an object's end leaves -/
def frN (M : Nat) (N : tyN) (i : Nat) : tyN := ntN (ivF M (N (257 + 3 * i)) (N (258 + 3 * i)) 32 0 (zF (N (257 + 3 * i)) (N (258 + 3 * i)) 0 (rmN N i))) 1 (N (257 + 3 * i)) (N (258 + 3 * i))
theorem okN.ob {M mem sh : Nat} {N : tyN} (q : okN M mem sh N) (mm : mem ≤ 1024) {i : Nat} (hi : i < N 256) : 16 ≤ N (257 + 3 * i) ∧ N (257 + 3 * i) + N (258 + 3 * i) ≤ 1024 ∧ 1 ≤ N (258 + 3 * i) := by
  have o7 := q.2.2.2.2.2.2.1 i hi
  have g1 := q.gt (g := i + 1) (by omega)
  have g0 := q.gt (g := i) (by omega)
  unfold gst gen_ obB obL at g1 g0
  rw [if_neg (show ¬ i + 1 = 0 by omega), show i + 1 - 1 = i by omega] at g1
  rw [if_pos hi] at g0
  try simp only at g0 g1
  refine ⟨?_, by omega, by omega⟩
  have key : ∀ k, k ≤ i → 16 ≤ N (257 + 3 * k) := by
    intro k
    induction k with
    | zero =>
      intro _
      have g := (q.gt (g := 0) (by omega)).1
      unfold gst gen_ obB at g
      rw [if_pos rfl, if_pos (by omega)] at g
      exact g
    | succ k ih =>
      intro hk
      have i1 := ih (by omega)
      have g := (q.gt (g := k + 1) (by omega)).1
      unfold gst gen_ obB obL at g
      rw [if_neg (by omega), if_pos (by omega), show k + 1 - 1 = k by omega] at g
      try simp only at g
      omega
  exact key i (Nat.le_refl i)
theorem okN.fr {M mem sh : Nat} {N : tyN} (q : okN M mem sh N) (h8 : M ≤ 8) (mm : mem ≤ 1024) {i : Nat} (hi : i < N 256) : okN M mem sh (frN M N i) := by
  obtain ⟨a1, a2, a3⟩ := q.ob mm hi
  refine (okN.ivf h8 32 0 _ (by omega) ((q.rm hi).mm (fun j z => zF_o _ _ _ _ _ (by omega)) (fun a ha => ?_))).nt (by omega) (by omega) (by omega)
  by_cases c : 353 + N (257 + 3 * i) + 0 ≤ 353 + a ∧ 353 + a < 353 + N (257 + 3 * i) + 0 + N (258 + 3 * i)
  · rw [zF_i _ _ _ _ _ c.1 c.2]; omega
  · rw [zF_o _ _ _ _ _ c]; exact (q.rm hi).2.2.2.2.2.2.2.2 a ha
