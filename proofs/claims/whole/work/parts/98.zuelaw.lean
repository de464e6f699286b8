/-! THE LAW: a step -/
section Lw
variable {z L i : Nat} {xs : Nat → Int32} {k : Nat → Nat → Int32 → aH → Option (Int32 × aH)} {h : aH}
set_option maxRecDepth 100000 in
set_option maxHeartbeats 4000000 in
theorem law_step (iv : IV z h) (hi : i + 6 ≤ L) (hL : L ≤ 3072) : ∃ h2, b_L_law_18 L xs k z (z + 107) (nI i) h = k z (z + 107) (nI (i + 6)) h2 ∧ IV z h2 := by
  have t77 : ∀ g, f_L_law_1477 L xs k z (z + 107) (nI i) g = k z (z + 107) (nI (i + 6)) g := by
    intro g
    unfold f_L_law_1477
    dsimp only [nm]
    rw [show nI i + 6 = nI (i + 6) from nI_k i 6]
  have b1 : inb (nI i + 1) L = true := by rw [show nI i + 1 = nI (i + 1) from nI_k i 1]; exact inb_nI (by omega) (by omega)
  have b2 : inb (nI i + 2) L = true := by rw [show nI i + 2 = nI (i + 2) from nI_k i 2]; exact inb_nI (by omega) (by omega)
  have b3 : inb (nI i + 3) L = true := by rw [show nI i + 3 = nI (i + 3) from nI_k i 3]; exact inb_nI (by omega) (by omega)
  have b4 : inb (nI i + 4) L = true := by rw [show nI i + 4 = nI (i + 4) from nI_k i 4]; exact inb_nI (by omega) (by omega)
  have b5 : inb (nI i + 5) L = true := by rw [show nI i + 5 = nI (i + 5) from nI_k i 5]; exact inb_nI (by omega) (by omega)
  have lt : ¬ (Int32.ofNat L - 6) < nI i := by
    rw [show Int32.ofNat L - 6 = nI (L - 6) from pk_sub (a := L) (b := 6) (by omega), nI_ltI (by omega) (by omega)]
    omega
  have iv0 := iv
  obtain ⟨⟨r, tl, tp, rf, ft, fp, sd⟩, ⟨M, mem, sh, ns, kd, cd⟩, N, ⟨sl, nx, c, cr⟩, ⟨rn, rw_⟩, ⟨on_, ob⟩, C, Q, O⟩ := iv
  have S0 := C.1.k0
  have K0 : hK h (z + 107) = some (.inl 11) := Q.1.k
  obtain ⟨n, n64, ho⟩ := pk_andE (xs (nI i).toNatClampNeg) (m := 63) 6 (by decide)
  unfold b_L_law_18
  rw [if_neg lt, chk_t (inb_nI (show i < L by omega) (by omega)), ho, if_neg (show ¬ nI n < (0 : Int32) by rw [show (0 : Int32) = nI 0 from rfl, nI_ltI (by omega) (by omega)]; omega)]
  by_cases c43 : 43 < n
  · rw [if_pos (show (43 : Int32) < nI n by rw [show (43 : Int32) = nI 43 from rfl, nI_ltI (by omega) (by omega)]; exact c43)]
    exact ⟨h, t77 h, iv0⟩
  rw [if_neg (show ¬ (43 : Int32) < nI n by rw [show (43 : Int32) = nI 43 from rfl, nI_ltI (by omega) (by omega)]; exact c43)]
  by_cases c0 : nI n = (0 : Int32)
  · obtain ⟨v, h1, h2, e1, e2, iv2⟩ := S_feed C Q O (xs (nI i + 1 : Int32).toNatClampNeg) (xs (nI i + 2 : Int32).toNatClampNeg) (xs (nI i + 3 : Int32).toNatClampNeg) (xs (nI i + 4 : Int32).toNatClampNeg) (xs (nI i + 5 : Int32).toNatClampNeg)
    have k1 := feed_k e2
    rw [if_pos c0, chk_t b1, chk_t b2, chk_t b3, chk_t b4, chk_t b5, ko_t S0, bd_t e1, chk_t b1, chk_t b2, chk_t b3, chk_t b4, chk_t b5, ko_t k1, bd_t e2, if_pos rfl]
    exact ⟨h2, t77 h2, iv2⟩
  rw [if_neg c0]
  by_cases c1 : nI n = (1 : Int32)
  · obtain ⟨v, h1, h2, e1, e2, iv2⟩ := S_end C Q O (xs (nI i + 1 : Int32).toNatClampNeg)
    have k1 := end_k e2
    rw [if_pos c1, chk_t b1, ko_t S0, bd_t e1, chk_t b1, ko_t k1, bd_t e2, if_pos rfl]
    exact ⟨h2, t77 h2, iv2⟩
  rw [if_neg c1]
  by_cases c2 : nI n = (2 : Int32)
  · obtain ⟨v, h1, h2, e1, e2, iv2⟩ := S_machine C Q O
    have k1 := machine_k e2
    rw [if_pos c2, ko_t S0, bd_t e1, ko_t k1, bd_t e2, if_pos rfl]
    exact ⟨h2, t77 h2, iv2⟩
  rw [if_neg c2]
  by_cases c3 : nI n = (3 : Int32)
  · obtain ⟨v, h1, h2, e1, e2, iv2⟩ := S_fault C Q O (xs (nI i + 1 : Int32).toNatClampNeg)
    have k1 : hK h1 (z + 107) = some (.inl 11) := by rw [fault_h e1]; exact K0
    rw [if_pos c3, chk_t b1, ko_t S0, bd_t e1, chk_t b1, ko_t k1, bd_t e2, if_pos rfl]
    exact ⟨h2, t77 h2, iv2⟩
  rw [if_neg c3]
  by_cases c4 : nI n = (4 : Int32)
  · obtain ⟨v, h1, h2, e1, e2, iv2⟩ := S_has C Q O (xs (nI i + 1 : Int32).toNatClampNeg)
    have k1 := has_k e2
    rw [if_pos c4, chk_t b1, ko_t S0, bd_t e1, chk_t b1, ko_t k1, bd_t e2, if_pos rfl]
    exact ⟨h2, t77 h2, iv2⟩
  rw [if_neg c4]
  by_cases c5 : nI n = (5 : Int32)
  · obtain ⟨v, h1, h2, e1, e2, iv2⟩ := S_letter C Q O (xs (nI i + 1 : Int32).toNatClampNeg) (xs (nI i + 2 : Int32).toNatClampNeg)
    have k1 := letter_k e2
    rw [if_pos c5, chk_t b1, chk_t b2, ko_t S0, bd_t e1, chk_t b1, chk_t b2, ko_t k1, bd_t e2, if_pos rfl]
    exact ⟨h2, t77 h2, iv2⟩
  rw [if_neg c5]
  by_cases c6 : nI n = (6 : Int32)
  · obtain ⟨v, h1, h2, e1, e2, iv2⟩ := S_pointer C Q O (xs (nI i + 1 : Int32).toNatClampNeg) (xs (nI i + 2 : Int32).toNatClampNeg)
    have k1 := pointer_k e2
    rw [if_pos c6, chk_t b1, chk_t b2, ko_t S0, bd_t e1, chk_t b1, chk_t b2, ko_t k1, bd_t e2, if_pos rfl]
    exact ⟨h2, t77 h2, iv2⟩
  rw [if_neg c6]
  by_cases c7 : nI n = (7 : Int32)
  · obtain ⟨v, h1, h2, e1, e2, iv2⟩ := S_shelf C Q O (xs (nI i + 1 : Int32).toNatClampNeg) (xs (nI i + 2 : Int32).toNatClampNeg) (xs (nI i + 3 : Int32).toNatClampNeg)
    have k1 := shelf_k e2
    rw [if_pos c7, chk_t b1, chk_t b2, chk_t b3, ko_t S0, bd_t e1, chk_t b1, chk_t b2, chk_t b3, ko_t k1, bd_t e2, if_pos rfl]
    exact ⟨h2, t77 h2, iv2⟩
  rw [if_neg c7]
  by_cases c8 : nI n = (8 : Int32)
  · obtain ⟨v, h1, h2, e1, e2, iv2⟩ := S_object C Q O (xs (nI i + 1 : Int32).toNatClampNeg) (xs (nI i + 2 : Int32).toNatClampNeg)
    have k1 := object_k e2
    rw [if_pos c8, chk_t b1, chk_t b2, ko_t S0, bd_t e1, chk_t b1, chk_t b2, ko_t k1, bd_t e2, if_pos rfl]
    exact ⟨h2, t77 h2, iv2⟩
  rw [if_neg c8]
  by_cases c9 : nI n = (9 : Int32)
  · obtain ⟨v, h1, h2, e1, e2, iv2⟩ := S_hole C Q O (xs (nI i + 1 : Int32).toNatClampNeg) (xs (nI i + 2 : Int32).toNatClampNeg)
    have k1 := hole_k e2
    rw [if_pos c9, chk_t b1, chk_t b2, ko_t S0, bd_t e1, chk_t b1, chk_t b2, ko_t k1, bd_t e2, if_pos rfl]
    exact ⟨h2, t77 h2, iv2⟩
  rw [if_neg c9]
  by_cases c10 : nI n = (10 : Int32)
  · obtain ⟨v, h1, h2, e1, e2, iv2⟩ := S_octetAt C Q O (xs (nI i + 1 : Int32).toNatClampNeg)
    have k1 := octetAt_k e2
    rw [if_pos c10, chk_t b1, ko_t S0, bd_t e1, chk_t b1, ko_t k1, bd_t e2, if_pos rfl]
    exact ⟨h2, t77 h2, iv2⟩
  rw [if_neg c10]
  by_cases c11 : nI n = (11 : Int32)
  · obtain ⟨v, h1, h2, e1, e2, iv2⟩ := S_kept C Q O (xs (nI i + 1 : Int32).toNatClampNeg) (xs (nI i + 2 : Int32).toNatClampNeg)
    have k1 := kept_k e2
    rw [if_pos c11, chk_t b1, chk_t b2, ko_t S0, bd_t e1, chk_t b1, chk_t b2, ko_t k1, bd_t e2, if_pos rfl]
    exact ⟨h2, t77 h2, iv2⟩
  rw [if_neg c11]
  by_cases c12 : nI n = (12 : Int32)
  · obtain ⟨v, h1, h2, e1, e2, iv2⟩ := S_rounds C Q O (xs (nI i + 1 : Int32).toNatClampNeg) (xs (nI i + 2 : Int32).toNatClampNeg) (xs (nI i + 3 : Int32).toNatClampNeg)
    have k1 := rounds_k e2
    rw [if_pos c12, chk_t b1, chk_t b2, chk_t b3, ko_t S0, bd_t e1, chk_t b1, chk_t b2, chk_t b3, ko_t k1, bd_t e2, if_pos rfl]
    exact ⟨h2, t77 h2, iv2⟩
  rw [if_neg c12]
  by_cases c13 : nI n = (13 : Int32)
  · obtain ⟨v, h1, h2, e1, e2, iv2⟩ := S_exact C Q O (xs (nI i + 1 : Int32).toNatClampNeg) (xs (nI i + 2 : Int32).toNatClampNeg)
    have k1 := exact_k e2
    rw [if_pos c13, chk_t b1, chk_t b2, ko_t S0, bd_t e1, chk_t b1, chk_t b2, ko_t k1, bd_t e2, if_pos rfl]
    exact ⟨h2, t77 h2, iv2⟩
  rw [if_neg c13]
  by_cases c14 : nI n = (14 : Int32)
  · obtain ⟨v, h1, h2, e1, e2, iv2⟩ := S_fits C Q O (xs (nI i + 1 : Int32).toNatClampNeg) (xs (nI i + 2 : Int32).toNatClampNeg)
    have k1 := fits_k e2
    rw [if_pos c14, chk_t b1, chk_t b2, ko_t S0, bd_t e1, chk_t b1, chk_t b2, ko_t k1, bd_t e2, if_pos rfl]
    exact ⟨h2, t77 h2, iv2⟩
  rw [if_neg c14]
  by_cases c15 : nI n = (15 : Int32)
  · obtain ⟨v, h1, h2, e1, e2, iv2⟩ := S_quick C Q O (xs (nI i + 1 : Int32).toNatClampNeg) (xs (nI i + 2 : Int32).toNatClampNeg)
    have k1 := quick_k e2
    rw [if_pos c15, chk_t b1, chk_t b2, ko_t S0, bd_t e1, chk_t b1, chk_t b2, ko_t k1, bd_t e2, if_pos rfl]
    exact ⟨h2, t77 h2, iv2⟩
  rw [if_neg c15]
  by_cases c16 : nI n = (16 : Int32)
  · obtain ⟨v, h1, h2, e1, e2, iv2⟩ := S_window C Q O (xs (nI i + 1 : Int32).toNatClampNeg) (xs (nI i + 2 : Int32).toNatClampNeg)
    have k1 := window_k e2
    rw [if_pos c16, chk_t b1, chk_t b2, ko_t S0, bd_t e1, chk_t b1, chk_t b2, ko_t k1, bd_t e2, if_pos rfl]
    exact ⟨h2, t77 h2, iv2⟩
  rw [if_neg c16]
  by_cases c17 : nI n = (17 : Int32)
  · obtain ⟨v, h1, h2, e1, e2, iv2⟩ := S_reachers C Q O (xs (nI i + 1 : Int32).toNatClampNeg)
    have k1 := reachers_k e2
    rw [if_pos c17, chk_t b1, ko_t S0, bd_t e1, chk_t b1, ko_t k1, bd_t e2, if_pos rfl]
    exact ⟨h2, t77 h2, iv2⟩
  rw [if_neg c17]
  by_cases c18 : nI n = (18 : Int32)
  · obtain ⟨v, h1, h2, e1, e2, iv2⟩ := S_room C Q O (xs (nI i + 1 : Int32).toNatClampNeg)
    have k1 := room_k e2
    rw [if_pos c18, chk_t b1, ko_t S0, bd_t e1, chk_t b1, ko_t k1, bd_t e2, if_pos rfl]
    exact ⟨h2, t77 h2, iv2⟩
  rw [if_neg c18]
  by_cases c19 : nI n = (19 : Int32)
  · obtain ⟨v, h1, h2, e1, e2, iv2⟩ := S_odds C Q O
    have k1 := odds_k e2
    rw [if_pos c19, ko_t S0, bd_t e1, ko_t k1, bd_t e2, if_pos rfl]
    exact ⟨h2, t77 h2, iv2⟩
  rw [if_neg c19]
  by_cases c20 : nI n = (20 : Int32)
  · obtain ⟨v, h1, h2, e1, e2, iv2⟩ := S_share C Q O (xs (nI i + 1 : Int32).toNatClampNeg)
    have k1 := share_k e2
    rw [if_pos c20, chk_t b1, ko_t S0, bd_t e1, chk_t b1, ko_t k1, bd_t e2, if_pos rfl]
    exact ⟨h2, t77 h2, iv2⟩
  rw [if_neg c20]
  by_cases c21 : nI n = (21 : Int32)
  · obtain ⟨v, h1, h2, e1, e2, iv2⟩ := S_see C Q O
    have k1 := see_k e2
    rw [if_pos c21, ko_t S0, bd_t e1, ko_t k1, bd_t e2, if_pos rfl]
    exact ⟨h2, t77 h2, iv2⟩
  rw [if_neg c21]
  by_cases c22 : nI n = (22 : Int32)
  · obtain ⟨v, h1, h2, e1, e2, iv2⟩ := S_places C Q O (xs (nI i + 1 : Int32).toNatClampNeg) (xs (nI i + 2 : Int32).toNatClampNeg)
    have k1 := places_k e2
    rw [if_pos c22, chk_t b1, chk_t b2, ko_t S0, bd_t e1, chk_t b1, chk_t b2, ko_t k1, bd_t e2, if_pos rfl]
    exact ⟨h2, t77 h2, iv2⟩
  rw [if_neg c22]
  by_cases c23 : nI n = (23 : Int32)
  · obtain ⟨v, h1, h2, e1, e2, iv2⟩ := S_tells C Q O (xs (nI i + 1 : Int32).toNatClampNeg) (xs (nI i + 2 : Int32).toNatClampNeg)
    have k1 := tells_k e2
    rw [if_pos c23, chk_t b1, chk_t b2, ko_t S0, bd_t e1, chk_t b1, chk_t b2, ko_t k1, bd_t e2, if_pos rfl]
    exact ⟨h2, t77 h2, iv2⟩
  rw [if_neg c23]
  by_cases c24 : nI n = (24 : Int32)
  · obtain ⟨v, h1, h2, e1, e2, iv2⟩ := S_alloc C Q O (xs (nI i + 1 : Int32).toNatClampNeg) (xs (nI i + 2 : Int32).toNatClampNeg)
    have k1 := alloc_k e2
    rw [if_pos c24, chk_t b1, chk_t b2, ko_t S0, bd_t e1, chk_t b1, chk_t b2, ko_t k1, bd_t e2, if_pos rfl]
    exact ⟨h2, t77 h2, iv2⟩
  rw [if_neg c24]
  by_cases c25 : nI n = (25 : Int32)
  · obtain ⟨v, h1, h2, e1, e2, iv2⟩ := S_free C Q O (xs (nI i + 1 : Int32).toNatClampNeg)
    have k1 := free_k e2
    rw [if_pos c25, chk_t b1, ko_t S0, bd_t e1, chk_t b1, ko_t k1, bd_t e2, if_pos rfl]
    exact ⟨h2, t77 h2, iv2⟩
  rw [if_neg c25]
  by_cases c26 : nI n = (26 : Int32)
  · obtain ⟨v, h1, h2, e1, e2, iv2⟩ := S_copy C Q O (xs (nI i + 1 : Int32).toNatClampNeg) (xs (nI i + 2 : Int32).toNatClampNeg)
    have k1 := copy_k e2
    rw [if_pos c26, chk_t b1, chk_t b2, ko_t S0, bd_t e1, chk_t b1, chk_t b2, ko_t k1, bd_t e2, if_pos rfl]
    exact ⟨h2, t77 h2, iv2⟩
  rw [if_neg c26]
  by_cases c27 : nI n = (27 : Int32)
  · obtain ⟨v, h1, h2, e1, e2, iv2⟩ := S_move C Q O (xs (nI i + 1 : Int32).toNatClampNeg) (xs (nI i + 2 : Int32).toNatClampNeg)
    have k1 := move_k e2
    rw [if_pos c27, chk_t b1, chk_t b2, ko_t S0, bd_t e1, chk_t b1, chk_t b2, ko_t k1, bd_t e2, if_pos rfl]
    exact ⟨h2, t77 h2, iv2⟩
  rw [if_neg c27]
  by_cases c28 : nI n = (28 : Int32)
  · obtain ⟨v, h1, h2, e1, e2, iv2⟩ := S_narrow C Q O (xs (nI i + 1 : Int32).toNatClampNeg) (xs (nI i + 2 : Int32).toNatClampNeg) (xs (nI i + 3 : Int32).toNatClampNeg)
    have k1 := narrow_k e2
    rw [if_pos c28, chk_t b1, chk_t b2, chk_t b3, ko_t S0, bd_t e1, chk_t b1, chk_t b2, chk_t b3, ko_t k1, bd_t e2, if_pos rfl]
    exact ⟨h2, t77 h2, iv2⟩
  rw [if_neg c28]
  by_cases c29 : nI n = (29 : Int32)
  · obtain ⟨v, h1, h2, e1, e2, iv2⟩ := S_limit C Q O (xs (nI i + 1 : Int32).toNatClampNeg) (xs (nI i + 2 : Int32).toNatClampNeg)
    have k1 := limit_k e2
    rw [if_pos c29, chk_t b1, chk_t b2, ko_t S0, bd_t e1, chk_t b1, chk_t b2, ko_t k1, bd_t e2, if_pos rfl]
    exact ⟨h2, t77 h2, iv2⟩
  rw [if_neg c29]
  by_cases c30 : nI n = (30 : Int32)
  · obtain ⟨v, h1, h2, e1, e2, iv2⟩ := S_seal C Q O (xs (nI i + 1 : Int32).toNatClampNeg) (xs (nI i + 2 : Int32).toNatClampNeg)
    have k1 := seal_k e2
    rw [if_pos c30, chk_t b1, chk_t b2, ko_t S0, bd_t e1, chk_t b1, chk_t b2, ko_t k1, bd_t e2, if_pos rfl]
    exact ⟨h2, t77 h2, iv2⟩
  rw [if_neg c30]
  by_cases c31 : nI n = (31 : Int32)
  · obtain ⟨v, h1, h2, e1, e2, iv2⟩ := S_unseal C Q O (xs (nI i + 1 : Int32).toNatClampNeg) (xs (nI i + 2 : Int32).toNatClampNeg)
    have k1 := unseal_k e2
    rw [if_pos c31, chk_t b1, chk_t b2, ko_t S0, bd_t e1, chk_t b1, chk_t b2, ko_t k1, bd_t e2, if_pos rfl]
    exact ⟨h2, t77 h2, iv2⟩
  rw [if_neg c31]
  by_cases c32 : nI n = (32 : Int32)
  · obtain ⟨v, h1, h2, e1, e2, iv2⟩ := S_load C Q O (xs (nI i + 1 : Int32).toNatClampNeg)
    have k1 := load_k e2
    rw [if_pos c32, chk_t b1, ko_t S0, bd_t e1, chk_t b1, ko_t k1, bd_t e2, if_pos rfl]
    exact ⟨h2, t77 h2, iv2⟩
  rw [if_neg c32]
  by_cases c33 : nI n = (33 : Int32)
  · obtain ⟨v, h1, h2, e1, e2, iv2⟩ := S_store C Q O (xs (nI i + 1 : Int32).toNatClampNeg) (xs (nI i + 2 : Int32).toNatClampNeg)
    have k1 := store_k e2
    rw [if_pos c33, chk_t b1, chk_t b2, ko_t S0, bd_t e1, chk_t b1, chk_t b2, ko_t k1, bd_t e2, if_pos rfl]
    exact ⟨h2, t77 h2, iv2⟩
  rw [if_neg c33]
  by_cases c34 : nI n = (34 : Int32)
  · obtain ⟨v, h1, h2, e1, e2, iv2⟩ := S_shelve C Q O (xs (nI i + 1 : Int32).toNatClampNeg) (xs (nI i + 2 : Int32).toNatClampNeg)
    have k1 := shelve_k e2
    rw [if_pos c34, chk_t b1, chk_t b2, ko_t S0, bd_t e1, chk_t b1, chk_t b2, ko_t k1, bd_t e2, if_pos rfl]
    exact ⟨h2, t77 h2, iv2⟩
  rw [if_neg c34]
  by_cases c35 : nI n = (35 : Int32)
  · obtain ⟨v, h1, h2, e1, e2, iv2⟩ := S_take C Q O (xs (nI i + 1 : Int32).toNatClampNeg) (xs (nI i + 2 : Int32).toNatClampNeg) (xs (nI i + 3 : Int32).toNatClampNeg)
    have k1 := take_k e2
    rw [if_pos c35, chk_t b1, chk_t b2, chk_t b3, ko_t S0, bd_t e1, chk_t b1, chk_t b2, chk_t b3, ko_t k1, bd_t e2, if_pos rfl]
    exact ⟨h2, t77 h2, iv2⟩
  rw [if_neg c35]
  by_cases c36 : nI n = (36 : Int32)
  · obtain ⟨v, h1, h2, e1, e2, iv2⟩ := S_chance C Q O (xs (nI i + 1 : Int32).toNatClampNeg)
    have k1 := chance_k e2
    rw [if_pos c36, chk_t b1, ko_t S0, bd_t e1, chk_t b1, ko_t k1, bd_t e2, if_pos rfl]
    exact ⟨h2, t77 h2, iv2⟩
  rw [if_neg c36]
  by_cases c37 : nI n = (37 : Int32)
  · obtain ⟨v, h1, h2, e1, e2, iv2⟩ := S_undo C Q O
    have k1 := undo_k e2
    rw [if_pos c37, ko_t S0, bd_t e1, ko_t k1, bd_t e2, if_pos rfl]
    exact ⟨h2, t77 h2, iv2⟩
  rw [if_neg c37]
  by_cases c38 : nI n = (38 : Int32)
  · obtain ⟨v, h1, h2, e1, e2, iv2⟩ := S_seed C Q O (xs (nI i + 1 : Int32).toNatClampNeg)
    have k1 := seed_k e2
    rw [if_pos c38, chk_t b1, ko_t S0, bd_t e1, chk_t b1, ko_t k1, bd_t e2, if_pos rfl]
    exact ⟨h2, t77 h2, iv2⟩
  rw [if_neg c38]
  by_cases c39 : nI n = (39 : Int32)
  · obtain ⟨v, h1, h2, e1, e2, iv2⟩ := S_ask C Q O
    have k1 := ask_k e2
    rw [if_pos c39, ko_t S0, bd_t e1, ko_t k1, bd_t e2, if_pos ((lg_cmp_eq v v).mpr rfl)]
    exact ⟨h2, t77 h2, iv2⟩
  rw [if_neg c39]
  by_cases c40 : nI n = (40 : Int32)
  · obtain ⟨v, h1, h2, e1, e2, iv2⟩ := S_image C Q O
    have k1 := image_k e2
    rw [if_pos c40, ko_t S0, bd_t e1, ko_t k1, bd_t e2, if_pos rfl]
    exact ⟨h2, t77 h2, iv2⟩
  rw [if_neg c40]
  by_cases c41 : nI n = (41 : Int32)
  · obtain ⟨v, h1, h2, e1, e2, iv2⟩ := S_octet C Q O (xs (nI i + 1 : Int32).toNatClampNeg)
    have k1 : hK h1 (z + 107) = some (.inl 11) := by rw [octet_h e1]; exact K0
    rw [if_pos c41, chk_t b1, ko_t S0, bd_t e1, chk_t b1, ko_t k1, bd_t e2, if_pos rfl]
    exact ⟨h2, t77 h2, iv2⟩
  rw [if_neg c41]
  by_cases c42 : nI n = (42 : Int32)
  · obtain ⟨v, h1, h2, e1, e2, iv2⟩ := S_on C Q O
    have k1 := on_k e2
    rw [if_pos c42, ko_t S0, bd_t e1, ko_t k1, bd_t e2, if_pos rfl]
    exact ⟨h2, t77 h2, iv2⟩
  rw [if_neg c42]
  by_cases c43 : nI n = (43 : Int32)
  · obtain ⟨v, h1, h2, e1, e2, iv2⟩ := S_status C Q O (xs (nI i + 1 : Int32).toNatClampNeg)
    have k1 : hK h1 (z + 107) = some (.inl 11) := by rw [status_h e1]; exact K0
    rw [if_pos c43, chk_t b1, ko_t S0, bd_t e1, chk_t b1, ko_t k1, bd_t e2, if_pos rfl]
    exact ⟨h2, t77 h2, iv2⟩
  rw [if_neg c43]
  exfalso
  rcases (show n = 0 ∨ n = 1 ∨ n = 2 ∨ n = 3 ∨ n = 4 ∨ n = 5 ∨ n = 6 ∨ n = 7 ∨ n = 8 ∨ n = 9 ∨ n = 10 ∨ n = 11 ∨ n = 12 ∨ n = 13 ∨ n = 14 ∨ n = 15 ∨ n = 16 ∨ n = 17 ∨ n = 18 ∨ n = 19 ∨ n = 20 ∨ n = 21 ∨ n = 22 ∨ n = 23 ∨ n = 24 ∨ n = 25 ∨ n = 26 ∨ n = 27 ∨ n = 28 ∨ n = 29 ∨ n = 30 ∨ n = 31 ∨ n = 32 ∨ n = 33 ∨ n = 34 ∨ n = 35 ∨ n = 36 ∨ n = 37 ∨ n = 38 ∨ n = 39 ∨ n = 40 ∨ n = 41 ∨ n = 42 ∨ n = 43 by omega) with y | y | y | y | y | y | y | y | y | y | y | y | y | y | y | y | y | y | y | y | y | y | y | y | y | y | y | y | y | y | y | y | y | y | y | y | y | y | y | y | y | y | y | y
  · exact c0 (by rw [y]; rfl)
  · exact c1 (by rw [y]; rfl)
  · exact c2 (by rw [y]; rfl)
  · exact c3 (by rw [y]; rfl)
  · exact c4 (by rw [y]; rfl)
  · exact c5 (by rw [y]; rfl)
  · exact c6 (by rw [y]; rfl)
  · exact c7 (by rw [y]; rfl)
  · exact c8 (by rw [y]; rfl)
  · exact c9 (by rw [y]; rfl)
  · exact c10 (by rw [y]; rfl)
  · exact c11 (by rw [y]; rfl)
  · exact c12 (by rw [y]; rfl)
  · exact c13 (by rw [y]; rfl)
  · exact c14 (by rw [y]; rfl)
  · exact c15 (by rw [y]; rfl)
  · exact c16 (by rw [y]; rfl)
  · exact c17 (by rw [y]; rfl)
  · exact c18 (by rw [y]; rfl)
  · exact c19 (by rw [y]; rfl)
  · exact c20 (by rw [y]; rfl)
  · exact c21 (by rw [y]; rfl)
  · exact c22 (by rw [y]; rfl)
  · exact c23 (by rw [y]; rfl)
  · exact c24 (by rw [y]; rfl)
  · exact c25 (by rw [y]; rfl)
  · exact c26 (by rw [y]; rfl)
  · exact c27 (by rw [y]; rfl)
  · exact c28 (by rw [y]; rfl)
  · exact c29 (by rw [y]; rfl)
  · exact c30 (by rw [y]; rfl)
  · exact c31 (by rw [y]; rfl)
  · exact c32 (by rw [y]; rfl)
  · exact c33 (by rw [y]; rfl)
  · exact c34 (by rw [y]; rfl)
  · exact c35 (by rw [y]; rfl)
  · exact c36 (by rw [y]; rfl)
  · exact c37 (by rw [y]; rfl)
  · exact c38 (by rw [y]; rfl)
  · exact c39 (by rw [y]; rfl)
  · exact c40 (by rw [y]; rfl)
  · exact c41 (by rw [y]; rfl)
  · exact c42 (by rw [y]; rfl)
  · exact c43 (by rw [y]; rfl)
end Lw
section Lx
variable {z L : Nat} {xs : Nat → Int32}
/-- the law's loop -/
theorem law_loop (hL : L ≤ 3072) : ∀ (d i fu : Nat) (h : aH), L - i ≤ d → i ≤ L → d < fu → IV z h → ∃ h2, f_L_law_18 L xs fu z (z + 107) (nI i) h = some (1, h2) ∧ IV z h2 := by
  intro d
  induction d using Nat.strongRecOn with
  | ind d ih =>
    intro i fu h hd hi hf iv
    obtain ⟨fu, rfl⟩ : ∃ m, fu = m + 1 := ⟨fu - 1, by omega⟩
    by_cases c : i + 6 ≤ L
    · obtain ⟨h2, e2, iv2⟩ := law_step (xs := xs) (k := f_L_law_18 L xs fu) iv c hL
      obtain ⟨h3, e3, iv3⟩ := ih (d - 6) (by omega) (i + 6) fu h2 (by omega) c (by omega) iv2
      exact ⟨h3, e2.trans e3, iv3⟩
    · refine ⟨h, ?_, iv⟩
      show b_L_law_18 L xs (f_L_law_18 L xs fu) z (z + 107) (nI i) h = _
      unfold b_L_law_18
      rw [if_pos ?_]
      by_cases c6 : 6 ≤ L
      · rw [show Int32.ofNat L - 6 = nI (L - 6) from pk_sub (a := L) (b := 6) c6, nI_ltI (by omega) (by omega)]
        omega
      · have ng : Int32.ofNat L - 6 < nI 0 := by
          have : ∀ q, q < 6 → Int32.ofNat q - 6 < nI 0 := by decide
          exact this L (by omega)
        rw [ng_lt' ng (by omega)]
        trivial
end Lx
