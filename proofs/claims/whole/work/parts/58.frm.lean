/-! component by component -/
section Fm
variable {h h1 : aH} {x m : Nat} {A A' : tyA} {B B' : tyB} {N N' : tyN} {D D' : tyD} {E E' F F' : tyE}
theorem mA.fr {r tl : Nat} {tp : Nat → Nat} {rf : Nat → Int32} {ft fp : Int32} {sd : Nat} (q : mA h m r tl tp rf ft fp sd) (e : ∀ b j, b = m + 1 ∨ b = m + 2 ∨ b = m ∧ (j = 1 ∨ j = 7 ∨ j = 8 ∨ j = 45) → hI h1 b j = hI h b j) (e2 : hL h1 m 65 = hL h m 65) : mA h1 m r tl tp rf ft fp sd := by
  unfold mA at q ⊢
  simp (disch := omega) only [e, e2]; exact q
theorem mM.fr {M mem sh : Nat} {ns : Nat → List Nat} {kd : Nat → Nat} {cd : Nat → List Nat} (q : mM h m M mem sh ns kd cd) (e : ∀ b j, b = m + 28 ∧ 3 ≤ j ∨ b = m + 30 ∧ 4 ≤ j ∨ b = m + 31 ∧ 3 ≤ j ∨ b = m + 32 ∧ 3 ≤ j ∨ b = m + 33 ∧ 1600 ≤ j → hI h1 b j = hI h b j) (e2 : ∀ j, 4 ≤ j → hL h1 (m + 29) j = hL h (m + 29) j) : mM h1 m M mem sh ns kd cd := by
  unfold mM at q ⊢
  simp (disch := omega) only [e, e2]; exact q
theorem mD.fr {sl : Nat → tyN} {nx c cr : Nat} (q : mD h m sl nx c cr) (e : ∀ b j, b = m + 38 ∨ b = m ∧ (j = 63 ∨ j = 64) → hI h1 b j = hI h b j) : mD h1 m sl nx c cr := by
  unfold mD at q ⊢
  simp (disch := omega) only [e]; exact q
theorem mE.fr {rn : Nat} {f : Nat → Nat} (q : mE h m rn f) (e : ∀ b j, b = m + 36 ∨ b = m ∧ j = 58 → hI h1 b j = hI h b j) : mE h1 m rn f := by
  unfold mE at q ⊢
  simp (disch := omega) only [e]; exact q
theorem mF.fr {rn : Nat} {f : Nat → Nat} (q : mF h m rn f) (e : ∀ b j, b = m + 67 ∨ b = m ∧ j = 102 → hI h1 b j = hI h b j) : mF h1 m rn f := by
  unfold mF at q ⊢
  simp (disch := omega) only [e]; exact q
/-- numbers of the reference that last -/
def LM (m b j : Nat) : Prop := b = m ∧ (j = 1 ∨ j = 7 ∨ j = 8 ∨ j = 45 ∨ j = 58 ∨ j = 63 ∨ j = 64 ∨ j = 102) ∨ b = m + 1 ∨ b = m + 2 ∨ b = m + 28 ∧ 3 ≤ j ∨ b = m + 30 ∧ 4 ≤ j ∨ b = m + 31 ∧ 3 ≤ j ∨ b = m + 32 ∧ 3 ≤ j ∨ b = m + 33 ∧ 1600 ≤ j ∨ b = m + 34 ∨ b = m + 36 ∨ b = m + 38 ∨ b = m + 67 ∨ m + 3 ≤ b ∧ b < m + 28 ∨ m + 39 ≤ b ∧ b < m + 64
theorem CM.sc (C : CM h m A B N D E F) (e1 : hK h1 = hK h) (e2 : hR h1 = hR h) (e : ∀ b j, LM m b j → hI h1 b j = hI h b j) (e3 : hL h1 m 65 = hL h m 65) (e4 : ∀ j, 4 ≤ j → hL h1 (m + 29) j = hL h (m + 29) j) : CM h1 m A B N D E F := by
  obtain ⟨c1, c2, c3, c4, c5, c6, c7, c8⟩ := C
  unfold LM at e
  exact ⟨c1.of e1 e2, c2.fr (fun b j q => e b j (by omega)) e3, c3.fr (fun b j q => e b j (by omega)) e4, fun j hj => (e _ j (by omega)).trans (c4 j hj), c5.fr (fun b j q => e b j (by omega)), c6.fr (fun b j q => e b j (by omega)), c7.fr (fun b j q => e b j (by omega)), c8.fr (fun b j q => e b j (by omega))⟩
/-- what acts change has changed -/
theorem CM.nc (C : CM h m A B N D E F) (e1 : hK h1 = hK h) (e2 : hR h1 = hR h) (e : ∀ b j, LM m b j → ¬ b = m + 34 → hI h1 b j = hI h b j) (e3 : hL h1 m 65 = hL h m 65) (e4 : ∀ j, 4 ≤ j → hL h1 (m + 29) j = hL h (m + 29) j) (q : ∀ j, j < 1498 → hI h1 (m + 34) j = mN N' j) : CM h1 m A B N' D E F := by
  obtain ⟨c1, c2, c3, c4, c5, c6, c7, c8⟩ := C
  unfold LM at e
  exact ⟨c1.of e1 e2, c2.fr (fun b j q => e b j (by omega) (by omega)) e3, c3.fr (fun b j q => e b j (by omega) (by omega)) e4, q, c5.fr (fun b j q => e b j (by omega) (by omega)), c6.fr (fun b j q => e b j (by omega) (by omega)), c7.fr (fun b j q => e b j (by omega) (by omega)), c8.fr (fun b j q => e b j (by omega) (by omega))⟩
theorem CX.upA (C : CX h x A B N D E F) (e1 : hK h1 = hK h) (e2 : hR h1 = hR h) (e3 : hN h1 = hN h) (e4 : hS h1 = hS h) (e : ∀ b j, ¬ (x ≤ b ∧ b < x + 3) → hI h1 b j = hI h b j) (er : A'.1 = A.1) (a : cA h1 x A'.1 A'.2.1 A'.2.2.1 A'.2.2.2.1 A'.2.2.2.2.1 A'.2.2.2.2.2.1 A'.2.2.2.2.2.2) : CX h1 x A' B N D E F := by
  obtain ⟨c1, c2, c3, c4, c5, c6, c7, c8, c9⟩ := C
  refine ⟨c1.of e1 e2, a, ?_, c4.fr (fun b _ _ j => e b j (by omega)), c5.fr (fun b _ _ j => e b j (by omega)) (fun b _ _ => by rw [e1]) (fun b _ _ j => by rw [e2]), c6.fr (e _ _ (by omega)) (fun b _ _ j => e b j (by omega)), c7.fr (fun b _ _ j => e b j (by omega)), by rw [e3]; exact c8, by rw [e4]; exact c9⟩
  rw [er]
  exact c3.fr (fun b _ _ j => e b j (by omega)) (by rw [e2]) (by rw [e2])
theorem CM.upA (C : CM h m A B N D E F) (e1 : hK h1 = hK h) (e2 : hR h1 = hR h) (e : ∀ b j, ¬ (b = m + 1 ∨ b = m + 2 ∨ b = m ∧ (j = 1 ∨ j = 7 ∨ j = 8)) → hI h1 b j = hI h b j) (e4 : ∀ j, 4 ≤ j → hL h1 (m + 29) j = hL h (m + 29) j) (a : mA h1 m A'.1 A'.2.1 A'.2.2.1 A'.2.2.2.1 A'.2.2.2.2.1 A'.2.2.2.2.2.1 A'.2.2.2.2.2.2) : CM h1 m A' B N D E F := by
  obtain ⟨c1, c2, c3, c4, c5, c6, c7, c8⟩ := C
  exact ⟨c1.of e1 e2, a, c3.fr (fun b j q => e b j (by omega)) e4, fun j hj => (e _ j (by omega)).trans (c4 j hj), c5.fr (fun b j q => e b j (by omega)), c6.fr (fun b j q => e b j (by omega)), c7.fr (fun b j q => e b j (by omega)), c8.fr (fun b j q => e b j (by omega))⟩
end Fm
/-! feed, end, fault, status, seed -/
section Ca
variable {h : aH} {x : Nat} {r tl : Nat} {tp : Nat → Nat} {rf : Nat → Int32} {ft fp : Int32} {sd : Nat} {B : tyB} {N : tyN} {D : tyD} {E F : tyE}
def fdN (tl : Nat) (tp : Nat → Nat) (a b c d e : Int32) : Nat → Nat := fun j => if tl ≤ j ∧ j < tl + 20 then (byM a b c d e (j - tl)).toNatClampNeg else tp j
theorem by_N (a b c d e : Int32) {j : Nat} (hj : j < 20) : byM a b c d e j = nI (byM a b c d e j).toNatClampNeg ∧ (byM a b c d e j).toNatClampNeg ≤ 255 ∧ byX a b c d e j = (byM a b c d e j).toInt8.toInt32 := by
  obtain ⟨q1, q, hq, q2⟩ := by_feed a b c d e hj
  rw [q2, tn_nI (by omega)]
  exact ⟨rfl, by omega, by rw [← q2]; exact q1⟩
theorem S_feed (C : CX h x (r, tl, tp, rf, ft, fp, sd) B N D E F) (Q : CM h (x + 107) (r, tl, tp, rf, ft, fp, sd) B N D E F) (O : Ok (r, tl, tp, rf, ft, fp, sd) B N D E F) (a b c d e : Int32) : SM Int32 x h (f_X11_feed x a b c d e) (f_X12_feed (x + 107) a b c d e) := by
  have ha : hI h x 13 = nI tl := C.2.1.2.1
  have hl : tl ≤ 1600 := O.1.1
  have S := C.1
  by_cases c1 : tl + 20 ≤ 1600
  · refine glue (A' := (r, tl + 20, fdN tl tp a b c d e, rf, ft, fp, sd)) (B' := B) (N' := N) (D' := D) (E' := E) (F' := F) (v := nI (tl + 20)) Q ⟨_, c_feed C.1 ha c1 a b c d e, ?_, ?_⟩ (fun h1 Q1 => ⟨_, m_feed Q1.1 Q1.2.1.2.1 c1 a b c d e, ?_, ?_⟩) ?_
    · refine C.upA rfl rfl rfl rfl (fun b j q => ?_) rfl ?_
      · unfold fc; rw [hI_sI, if_neg (by omega), hI_fb, if_neg (by omega)]
      · obtain ⟨a1, a2, a3, a4, a5, a6, a7⟩ := C.2.1
        refine ⟨?_, ?_, ?_, ?_, ?_, ?_, a7⟩
        · unfold fc; rw [hI_sI, if_neg (by omega), hI_fb, if_neg (by omega)]; exact a1
        · exact hI_fc _ _ _ _ _ _ _
        · intro j hj
          show hI (fc h (x + 1) tl 20 _ x 13) (x + 1) j = (nI (fdN tl tp a b c d e j)).toInt8.toInt32
          unfold fc fdN; rw [hI_sI, if_neg (by omega), hI_fb]
          by_cases c2 : tl ≤ j ∧ j < tl + 20
          · rw [if_pos ⟨rfl, c2⟩, if_pos c2]
            obtain ⟨q1, q2, q3⟩ := by_N a b c d e (show j - tl < 20 by omega)
            rw [← q1]; exact q3
          · rw [if_neg (fun q => c2 q.2), if_neg c2]; exact a3 j hj
        · intro k hk; unfold fc; rw [hI_sI, if_neg (by omega), hI_fb, if_neg (by omega)]; exact a4 k hk
        · unfold fc; rw [hI_sI, if_neg (by omega), hI_fb, if_neg (by omega)]; exact a5
        · unfold fc; rw [hI_sI, if_neg (by omega), hI_fb, if_neg (by omega)]; exact a6
    · intro b b1 b2
      refine ⟨rfl, fun j => ⟨?_, rfl, rfl⟩⟩
      unfold fc; rw [hI_sI, if_neg (by omega), hI_fb, if_neg (by omega)]
    · refine Q1.upA rfl rfl (fun b j q => ?_) (fun _ _ => rfl) ?_
      · unfold fc; rw [hI_sI, if_neg (by omega), hI_fb, if_neg (by omega)]
      · obtain ⟨a1, a2, a3, a4, a5, a6, a7⟩ := Q1.2.1
        refine ⟨?_, ?_, ?_, ?_, ?_, ?_, a7⟩
        · unfold fc; rw [hI_sI, if_neg (by omega), hI_fb, if_neg (by omega)]; exact a1
        · exact hI_fc _ _ _ _ _ _ _
        · intro j hj
          show hI (fc h1 (x + 107 + 1) tl 20 _ (x + 107) 1) (x + 107 + 1) j = nI (fdN tl tp a b c d e j)
          unfold fc fdN; rw [hI_sI, if_neg (by omega), hI_fb]
          by_cases c2 : tl ≤ j ∧ j < tl + 20
          · rw [if_pos ⟨rfl, c2⟩, if_pos c2]
            exact (by_N a b c d e (show j - tl < 20 by omega)).1
          · rw [if_neg (fun q => c2 q.2), if_neg c2]; exact a3 j hj
        · intro k hk; unfold fc; rw [hI_sI, if_neg (by omega), hI_fb, if_neg (by omega)]; exact a4 k hk
        · unfold fc; rw [hI_sI, if_neg (by omega), hI_fb, if_neg (by omega)]; exact a5
        · unfold fc; rw [hI_sI, if_neg (by omega), hI_fb, if_neg (by omega)]; exact a6
    · exact (FM.fb (by omega) (by omega)).trans (FM.sI (by omega) (by omega))
    · obtain ⟨⟨o1, o2, o3⟩, o4⟩ := O
      refine ⟨⟨c1, fun j => ?_, o3⟩, o4⟩
      show fdN tl tp a b c d e j ≤ 255
      unfold fdN
      by_cases c2 : tl ≤ j ∧ j < tl + 20
      · rw [if_pos c2]; exact (by_N a b c d e (show j - tl < 20 by omega)).2.1
      · rw [if_neg c2]; exact o2 j
  · refine glueR (k := 0) (v := -1) C Q O (by omega) ?_ (fun g1 Q1 => ?_)
    · have q := c_refuse (h := h) (x := x) (k := 0) S (by omega)
      simp (disch := omega) only [nm, bd_s, ko_K, ka_K, koK_t, kaK_t, kr_s, kn_s, kn_n, hK_sI, hR_sI, hK_sL, hR_sL, hI_sL, hL_sI, hL_sL, hI_sI, hN_sI, hN_sL, ch_nI, z0_N, z1_N, zb_N, tn_nI, fa_lit, fa_litL, m1_e, nI_add, pk_mul, pk_sub, nI_leI, nI_ltI, nI_eq, le_T, le_F, lt_T, lt_F, eq_T, eq_F, if_pos, if_neg, m1_le, m1_lt', m1_gt, m1_le', m1_eq, m1_qe, b2i_eq0, in_N, in_n, ↓reduceIte, Bool.true_eq_false, Bool.false_eq_true, reduceCtorEq, decide_eq_true_eq, decide_eq_false_iff_not, Nat.not_lt, Nat.not_le, not_true_eq_false, not_false_eq_true, true_and, and_true, and_self, f_X11_feed, S.k0, S.r0_0, S.r0_1, S.r0_2, S.r0_3, S.r0_4, S.r0_5, S.r0_6, S.r0_7, S.r0_8, S.r0_11, S.k1, S.k2, S.k81, S.r81_2, S.k82, S.k83, S.r83_0, S.r83_1, S.r83_2, S.k84, S.k85, S.k86, S.r86_3, S.r86_4, S.k87, S.r87_3, S.r87_4, S.k88, S.k89, S.k90, S.r90_0, S.k91, S.k92, S.r92_4, S.r92_5, S.r92_6, S.r92_7, S.r92_8, S.k93, S.k94, S.k95, S.k96, S.k97, S.k98, S.r98_4, S.r98_5, S.r98_6, S.r98_7, S.r98_8, S.k99, S.k100, S.k101, S.k102, S.k103, S.k104, S.r104_2, S.k105, S.k106, ha, q]
    · have S1 := Q1.1
      have a2 : hI g1 (x + 107) 1 = nI tl := Q1.2.1.2.1
      simp (disch := omega) only [nm, bd_s, ko_K, ka_K, koK_t, kaK_t, kr_s, kn_s, kn_n, hK_sI, hR_sI, hK_sL, hR_sL, hI_sL, hL_sI, hL_sL, hI_sI, hN_sI, hN_sL, ch_nI, z0_N, z1_N, zb_N, tn_nI, fa_lit, fa_litL, m1_e, nI_add, pk_mul, pk_sub, nI_leI, nI_ltI, nI_eq, le_T, le_F, lt_T, lt_F, eq_T, eq_F, if_pos, if_neg, m1_le, m1_lt', m1_gt, m1_le', m1_eq, m1_qe, b2i_eq0, in_N, in_n, ↓reduceIte, Bool.true_eq_false, Bool.false_eq_true, reduceCtorEq, decide_eq_true_eq, decide_eq_false_iff_not, Nat.not_lt, Nat.not_le, not_true_eq_false, not_false_eq_true, true_and, and_true, and_self, f_X12_feed_81, b_X12_feed_28, f_X12_feed_28, f_X12_feed, S1.k, S1.r0, S1.k0, S1.r9, S1.k9, S1.r11, S1.k11, S1.r12, S1.k12, S1.r13, S1.k13, S1.r14, S1.k14, S1.r15, S1.k15, S1.r16, S1.k16, S1.r17, S1.k17, S1.r18, S1.k18, S1.r19, S1.k19, S1.r20, S1.k20, S1.r21, S1.k21, S1.r22, S1.k22, S1.r23, S1.k23, S1.r24, S1.k24, S1.r25, S1.k25, S1.r26, S1.k26, S1.r27, S1.k27, S1.r28, S1.k28, S1.r29, S1.k29, S1.r30, S1.k30, S1.r31, S1.k31, S1.r32, S1.k32, S1.r33, S1.k33, S1.r34, S1.k34, S1.r35, S1.k35, S1.r37, S1.k37, S1.r38, S1.k38, S1.r39, S1.k39, S1.r40, S1.k40, S1.r41, S1.k41, S1.r42, S1.k42, S1.r47, S1.k47, S1.r56, S1.k56, S1.r59, S1.k59, S1.r60, S1.k60, S1.r62, S1.k62, S1.r66, S1.k66, S1.r67, S1.k67, S1.r68, S1.k68, S1.r69, S1.k69, S1.r70, S1.k70, S1.r71, S1.k71, S1.r72, S1.k72, S1.r73, S1.k73, S1.r74, S1.k74, S1.r75, S1.k75, S1.r76, S1.k76, S1.r77, S1.k77, S1.r78, S1.k78, S1.r79, S1.k79, S1.r80, S1.k80, S1.r81, S1.k81, S1.r82, S1.k82, S1.r83, S1.k83, S1.r84, S1.k84, S1.r85, S1.k85, S1.r86, S1.k86, S1.r87, S1.k87, S1.r88, S1.k88, S1.r89, S1.k89, S1.r90, S1.k90, S1.r91, S1.k91, S1.r93, S1.k93, S1.r97, S1.k97, S1.r101, S1.k101, a2, rfX]
theorem S_end (C : CX h x (r, tl, tp, rf, ft, fp, sd) B N D E F) (Q : CM h (x + 107) (r, tl, tp, rf, ft, fp, sd) B N D E F) (O : Ok (r, tl, tp, rf, ft, fp, sd) B N D E F) (n : Int32) : SM Int32 x h (f_X11_end x n) (f_X12_end (x + 107) n) := by
  have ha : hI h x 13 = nI tl := C.2.1.2.1
  have hl : tl ≤ 1600 := O.1.1
  have S := C.1
  by_cases c1 : ∃ k, k ≤ tl ∧ n = nI k
  · obtain ⟨k, hk, rfl⟩ := c1
    refine glue (A' := (r, k, tp, rf, ft, fp, sd)) (B' := B) (N' := N) (D' := D) (E' := E) (F' := F) (v := 1) Q ⟨_, c_end_t C.1 ha hl hk, ?_, ?_⟩ (fun h1 Q1 => ⟨_, m_end_t Q1.1 Q1.2.1.2.1 hl hk, ?_, ?_⟩) ?_
    · refine C.upA rfl rfl rfl rfl (fun b j q => ?_) rfl ?_
      · rw [hI_sI, if_neg (by omega)]
      · obtain ⟨a1, a2, a3, a4, a5, a6, a7⟩ := C.2.1
        refine ⟨?_, ?_, ?_, ?_, ?_, ?_, a7⟩
        · rw [hI_sI, if_neg (by omega)]; exact a1
        · rw [hI_sI, if_pos ⟨rfl, rfl⟩]
        · intro j hj; rw [hI_sI, if_neg (by omega)]; exact a3 j hj
        · intro j hj; rw [hI_sI, if_neg (by omega)]; exact a4 j hj
        · rw [hI_sI, if_neg (by omega)]; exact a5
        · rw [hI_sI, if_neg (by omega)]; exact a6
    · intro b b1 b2
      refine ⟨rfl, fun j => ⟨?_, rfl, rfl⟩⟩
      rw [hI_sI, if_neg (by omega)]
    · refine Q1.upA rfl rfl (fun b j q => ?_) (fun _ _ => rfl) ?_
      · rw [hI_sI, if_neg (by omega)]
      · obtain ⟨a1, a2, a3, a4, a5, a6, a7⟩ := Q1.2.1
        refine ⟨?_, ?_, ?_, ?_, ?_, ?_, a7⟩
        · rw [hI_sI, if_neg (by omega)]; exact a1
        · rw [hI_sI, if_pos ⟨rfl, rfl⟩]
        · intro j hj; rw [hI_sI, if_neg (by omega)]; exact a3 j hj
        · intro j hj; rw [hI_sI, if_neg (by omega)]; exact a4 j hj
        · rw [hI_sI, if_neg (by omega)]; exact a5
        · rw [hI_sI, if_neg (by omega)]; exact a6
    · exact FM.sI (by omega) (by omega)
    · obtain ⟨⟨o1, o2, o3⟩, o4⟩ := O
      exact ⟨⟨Nat.le_trans hk hl, o2, o3⟩, o4⟩
  · have hn : n < 0 ∨ nI tl < n := by
      rcases int_cases n with q | ⟨k, q1, rfl⟩
      · exact Or.inl q
      · refine Or.inr ((nI_ltI (by omega) q1).mpr ?_)
        refine Nat.lt_of_not_le (fun q => c1 ⟨k, q, rfl⟩)
    exact glueR (k := 0) (v := 0) C Q O (by omega) (c_end_f C.1 (by rw [ha]; exact hn)) (fun g1 Q1 => m_end_f Q1.1 (by rw [show hI g1 (x + 107) 1 = nI tl from Q1.2.1.2.1]; exact hn))
theorem S_fault (C : CX h x (r, tl, tp, rf, ft, fp, sd) B N D E F) (Q : CM h (x + 107) (r, tl, tp, rf, ft, fp, sd) B N D E F) (O : Ok (r, tl, tp, rf, ft, fp, sd) B N D E F) (w : Int32) : SM Int32 x h (f_X11_fault x w) (f_X12_fault (x + 107) w) := by
  have a1 : hI h x 14 = ft := C.2.1.2.2.2.2.1
  have a2 : hI h x 15 = fp := C.2.1.2.2.2.2.2.1
  have b1 : hI h (x + 107) 7 = ft := Q.2.1.2.2.2.2.1
  have b2 : hI h (x + 107) 8 = fp := Q.2.1.2.2.2.2.2.1
  refine glue0 C Q O (c_fault C.1 w) ?_
  rw [m_fault Q.1 w, a1, a2, b1, b2]
theorem S_status (C : CX h x (r, tl, tp, rf, ft, fp, sd) B N D E F) (Q : CM h (x + 107) (r, tl, tp, rf, ft, fp, sd) B N D E F) (O : Ok (r, tl, tp, rf, ft, fp, sd) B N D E F) (w : Int32) : SM Int32 x h (f_X11_status x w) (f_X12_status (x + 107) w) := by
  by_cases c1 : ∃ k, k < 8 ∧ w = nI k
  · obtain ⟨k, hk, rfl⟩ := c1
    refine glue0 C Q O (c_status_t C.1 hk) ?_
    rw [m_status_t Q.1 hk, show hI h (x + 2) k = rf k from C.2.1.2.2.2.1 k hk, show hI h (x + 107 + 2) k = rf k from Q.2.1.2.2.2.1 k hk]
  · have hn : w < 0 ∨ 8 ≤ w := by
      rcases int_cases w with q | ⟨k, q1, rfl⟩
      · exact Or.inl q
      · refine Or.inr ((nI_leI (a := 8) (by omega) q1).mpr ?_)
        refine Nat.le_of_not_lt (fun q => c1 ⟨k, q, rfl⟩)
    exact glue0 C Q O (c_status_f C.1 hn) (m_status_f Q.1 hn)
theorem S_seed (C : CX h x (r, tl, tp, rf, ft, fp, sd) B N D E F) (Q : CM h (x + 107) (r, tl, tp, rf, ft, fp, sd) B N D E F) (O : Ok (r, tl, tp, rf, ft, fp, sd) B N D E F) (w : Int32) : SM Int32 x h (f_X11_seed x w) (f_X12_seed (x + 107) w) := by
  rcases int_cases w with q | ⟨k, q1, rfl⟩
  · exact glueR (k := 7) (v := 0) C Q O (by omega) (c_seed_f C.1 q) (fun g1 Q1 => m_seed_f Q1.1 q)
  · refine glue (A' := (r, tl, tp, rf, ft, fp, k)) (B' := B) (N' := N) (D' := D) (E' := E) (F' := F) (v := 1) Q ⟨_, c_seed_t C.1 q1, ?_, ?_⟩ (fun h1 Q1 => ⟨_, m_seed_t Q1.1 q1, ?_, FM.sL (by omega) (by omega)⟩) ?_
    · refine C.upA rfl rfl rfl rfl (fun b j q => rfl) rfl ?_
      obtain ⟨a1, a2, a3, a4, a5, a6, a7⟩ := C.2.1
      exact ⟨a1, a2, a3, a4, a5, a6, by rw [hL_sL, if_pos ⟨rfl, rfl⟩]⟩
    · exact fun b b1 b2 => ⟨rfl, fun j => ⟨rfl, by rw [hL_sL, if_neg (by omega)], rfl⟩⟩
    · refine Q1.upA rfl rfl (fun b j q => rfl) (fun j _ => by rw [hL_sL, if_neg (by omega)]) ?_
      obtain ⟨a1, a2, a3, a4, a5, a6, a7⟩ := Q1.2.1
      exact ⟨a1, a2, a3, a4, a5, a6, by rw [hL_sL, if_pos ⟨rfl, rfl⟩]⟩
    · obtain ⟨⟨o1, o2, o3⟩, o4⟩ := O
      exact ⟨⟨o1, o2, q1⟩, o4⟩
end Ca
