def f_L_law_1477 (L : Nat) (xs : Nat → Int32) (k18 : Nat → Nat → Int32 → aH → Option (Int32 × aH)) (x1 : Nat) (x2 : Nat) (x3 : Int32) (h : aH) : Option (Int32 × aH) :=
  nm (x3 + 6) fun (v1 : Int32) =>
  k18 x1 x2 v1 h
set_option maxRecDepth 100000 in
set_option maxHeartbeats 4000000 in
theorem t_L_law_1477 {Γ : gS} {d : Nat} (hd : 113 ≤ d) {k18 : Nat → Nat → Int32 → aH → Option (Int32 × aH)} (hk18 : ∀ {x1 : Nat} {x2 : Nat} {x3 : Int32} {h : aH} {h' : aH}, k18 x1 x2 x3 h = some (1, h') → Ex Γ gL_law d 18 [(0, .ref (gb Γ)), (1, .ref x1), (2, .ref x2), (3, .int x3)] [] h (some (.int 1)) h') {x1 : Nat} {x2 : Nat} {x3 : Int32} {h : aH} {h' : aH} (H : f_L_law_1477 (gn Γ) (gx Γ) k18 x1 x2 x3 h = some (1, h')) : Ex Γ gL_law d 1477 [(0, .ref (gb Γ)), (1, .ref x1), (2, .ref x2), (3, .int x3)] [] h (some (.int 1)) h' := by
  unfold f_L_law_1477 at H
  obtain ⟨d, rfl⟩ : ∃ e, d = e + 1 := ⟨d - 1, by omega⟩
  obtain ⟨v1, ev1, H⟩ := nm_o H
  refine x_iinc (v := v1) (lv' := [(3, .int v1), (0, .ref (gb Γ)), (1, .ref x1), (2, .ref x2)]) dL_law_1477 3 rfl (by decide) ev1 rfl ?_
  refine x_goto (tgt := 18) dL_law_1480 (by decide) ?_
  refine Ex.sub [1, 2, 3, 0] rfl ?_
  exact hk18 H
def b_L_law_18 (L : Nat) (xs : Nat → Int32) (k18 : Nat → Nat → Int32 → aH → Option (Int32 × aH)) (x1 : Nat) (x2 : Nat) (x3 : Int32) (h : aH) : Option (Int32 × aH) :=
  if ((Int32.ofNat L) - 6) < x3 then
    some (1, h)
  else
    chk (inb x3 L = true) <|
    if ((xs x3.toNatClampNeg) &&& 63) < 0 then
      f_L_law_1477 L xs k18 x1 x2 x3 h
    else
    if 43 < ((xs x3.toNatClampNeg) &&& 63) then
      f_L_law_1477 L xs k18 x1 x2 x3 h
    else
    if ((xs x3.toNatClampNeg) &&& 63) = 0 then
      chk (inb (x3 + 1) L = true) <|
      chk (inb (x3 + 2) L = true) <|
      chk (inb (x3 + 3) L = true) <|
      chk (inb (x3 + 4) L = true) <|
      chk (inb (x3 + 5) L = true) <|
      ko h x1 10 <|
      bd (f_X11_feed x1 (xs (x3 + 1 : Int32).toNatClampNeg) (xs (x3 + 2 : Int32).toNatClampNeg) (xs (x3 + 3 : Int32).toNatClampNeg) (xs (x3 + 4 : Int32).toNatClampNeg) (xs (x3 + 5 : Int32).toNatClampNeg) h) fun v12 h13 =>
      chk (inb (x3 + 1) L = true) <|
      chk (inb (x3 + 2) L = true) <|
      chk (inb (x3 + 3) L = true) <|
      chk (inb (x3 + 4) L = true) <|
      chk (inb (x3 + 5) L = true) <|
      ko h13 x2 11 <|
      bd (f_X12_feed x2 (xs (x3 + 1 : Int32).toNatClampNeg) (xs (x3 + 2 : Int32).toNatClampNeg) (xs (x3 + 3 : Int32).toNatClampNeg) (xs (x3 + 4 : Int32).toNatClampNeg) (xs (x3 + 5 : Int32).toNatClampNeg) h13) fun v20 h21 =>
      if v12 = v20 then
        f_L_law_1477 L xs k18 x1 x2 x3 h21
      else
        some (0, h21)
    else
    if ((xs x3.toNatClampNeg) &&& 63) = 1 then
      chk (inb (x3 + 1) L = true) <|
      ko h x1 10 <|
      bd (f_X11_end x1 (xs (x3 + 1 : Int32).toNatClampNeg) h) fun v28 h29 =>
      chk (inb (x3 + 1) L = true) <|
      ko h29 x2 11 <|
      bd (f_X12_end x2 (xs (x3 + 1 : Int32).toNatClampNeg) h29) fun v32 h33 =>
      if v28 = v32 then
        f_L_law_1477 L xs k18 x1 x2 x3 h33
      else
        some (0, h33)
    else
    if ((xs x3.toNatClampNeg) &&& 63) = 2 then
      ko h x1 10 <|
      bd (f_X11_machine x1 h) fun v39 h40 =>
      ko h40 x2 11 <|
      bd (f_X12_machine x2 h40) fun v42 h43 =>
      if v39 = v42 then
        f_L_law_1477 L xs k18 x1 x2 x3 h43
      else
        some (0, h43)
    else
    if ((xs x3.toNatClampNeg) &&& 63) = 3 then
      chk (inb (x3 + 1) L = true) <|
      ko h x1 10 <|
      bd (f_X11_fault x1 (xs (x3 + 1 : Int32).toNatClampNeg) h) fun v50 h51 =>
      chk (inb (x3 + 1) L = true) <|
      ko h51 x2 11 <|
      bd (f_X12_fault x2 (xs (x3 + 1 : Int32).toNatClampNeg) h51) fun v54 h55 =>
      if v50 = v54 then
        f_L_law_1477 L xs k18 x1 x2 x3 h55
      else
        some (0, h55)
    else
    if ((xs x3.toNatClampNeg) &&& 63) = 4 then
      chk (inb (x3 + 1) L = true) <|
      ko h x1 10 <|
      bd (f_X11_has x1 (xs (x3 + 1 : Int32).toNatClampNeg) h) fun v62 h63 =>
      chk (inb (x3 + 1) L = true) <|
      ko h63 x2 11 <|
      bd (f_X12_has x2 (xs (x3 + 1 : Int32).toNatClampNeg) h63) fun v66 h67 =>
      if v62 = v66 then
        f_L_law_1477 L xs k18 x1 x2 x3 h67
      else
        some (0, h67)
    else
    if ((xs x3.toNatClampNeg) &&& 63) = 5 then
      chk (inb (x3 + 1) L = true) <|
      chk (inb (x3 + 2) L = true) <|
      ko h x1 10 <|
      bd (f_X11_letter x1 (xs (x3 + 1 : Int32).toNatClampNeg) (xs (x3 + 2 : Int32).toNatClampNeg) h) fun v75 h76 =>
      chk (inb (x3 + 1) L = true) <|
      chk (inb (x3 + 2) L = true) <|
      ko h76 x2 11 <|
      bd (f_X12_letter x2 (xs (x3 + 1 : Int32).toNatClampNeg) (xs (x3 + 2 : Int32).toNatClampNeg) h76) fun v80 h81 =>
      if v75 = v80 then
        f_L_law_1477 L xs k18 x1 x2 x3 h81
      else
        some (0, h81)
    else
    if ((xs x3.toNatClampNeg) &&& 63) = 6 then
      chk (inb (x3 + 1) L = true) <|
      chk (inb (x3 + 2) L = true) <|
      ko h x1 10 <|
      bd (f_X11_pointer x1 (xs (x3 + 1 : Int32).toNatClampNeg) (xs (x3 + 2 : Int32).toNatClampNeg) h) fun v89 h90 =>
      chk (inb (x3 + 1) L = true) <|
      chk (inb (x3 + 2) L = true) <|
      ko h90 x2 11 <|
      bd (f_X12_pointer x2 (xs (x3 + 1 : Int32).toNatClampNeg) (xs (x3 + 2 : Int32).toNatClampNeg) h90) fun v94 h95 =>
      if v89 = v94 then
        f_L_law_1477 L xs k18 x1 x2 x3 h95
      else
        some (0, h95)
    else
    if ((xs x3.toNatClampNeg) &&& 63) = 7 then
      chk (inb (x3 + 1) L = true) <|
      chk (inb (x3 + 2) L = true) <|
      chk (inb (x3 + 3) L = true) <|
      ko h x1 10 <|
      bd (f_X11_shelf x1 (xs (x3 + 1 : Int32).toNatClampNeg) (xs (x3 + 2 : Int32).toNatClampNeg) (xs (x3 + 3 : Int32).toNatClampNeg) h) fun v104 h105 =>
      chk (inb (x3 + 1) L = true) <|
      chk (inb (x3 + 2) L = true) <|
      chk (inb (x3 + 3) L = true) <|
      ko h105 x2 11 <|
      bd (f_X12_shelf x2 (xs (x3 + 1 : Int32).toNatClampNeg) (xs (x3 + 2 : Int32).toNatClampNeg) (xs (x3 + 3 : Int32).toNatClampNeg) h105) fun v110 h111 =>
      if v104 = v110 then
        f_L_law_1477 L xs k18 x1 x2 x3 h111
      else
        some (0, h111)
    else
    if ((xs x3.toNatClampNeg) &&& 63) = 8 then
      chk (inb (x3 + 1) L = true) <|
      chk (inb (x3 + 2) L = true) <|
      ko h x1 10 <|
      bd (f_X11_object x1 (xs (x3 + 1 : Int32).toNatClampNeg) (xs (x3 + 2 : Int32).toNatClampNeg) h) fun v119 h120 =>
      chk (inb (x3 + 1) L = true) <|
      chk (inb (x3 + 2) L = true) <|
      ko h120 x2 11 <|
      bd (f_X12_object x2 (xs (x3 + 1 : Int32).toNatClampNeg) (xs (x3 + 2 : Int32).toNatClampNeg) h120) fun v124 h125 =>
      if v119 = v124 then
        f_L_law_1477 L xs k18 x1 x2 x3 h125
      else
        some (0, h125)
    else
    if ((xs x3.toNatClampNeg) &&& 63) = 9 then
      chk (inb (x3 + 1) L = true) <|
      chk (inb (x3 + 2) L = true) <|
      ko h x1 10 <|
      bd (f_X11_hole x1 (xs (x3 + 1 : Int32).toNatClampNeg) (xs (x3 + 2 : Int32).toNatClampNeg) h) fun v133 h134 =>
      chk (inb (x3 + 1) L = true) <|
      chk (inb (x3 + 2) L = true) <|
      ko h134 x2 11 <|
      bd (f_X12_hole x2 (xs (x3 + 1 : Int32).toNatClampNeg) (xs (x3 + 2 : Int32).toNatClampNeg) h134) fun v138 h139 =>
      if v133 = v138 then
        f_L_law_1477 L xs k18 x1 x2 x3 h139
      else
        some (0, h139)
    else
    if ((xs x3.toNatClampNeg) &&& 63) = 10 then
      chk (inb (x3 + 1) L = true) <|
      ko h x1 10 <|
      bd (f_X11_octetAt x1 (xs (x3 + 1 : Int32).toNatClampNeg) h) fun v146 h147 =>
      chk (inb (x3 + 1) L = true) <|
      ko h147 x2 11 <|
      bd (f_X12_octetAt x2 (xs (x3 + 1 : Int32).toNatClampNeg) h147) fun v150 h151 =>
      if v146 = v150 then
        f_L_law_1477 L xs k18 x1 x2 x3 h151
      else
        some (0, h151)
    else
    if ((xs x3.toNatClampNeg) &&& 63) = 11 then
      chk (inb (x3 + 1) L = true) <|
      chk (inb (x3 + 2) L = true) <|
      ko h x1 10 <|
      bd (f_X11_kept x1 (xs (x3 + 1 : Int32).toNatClampNeg) (xs (x3 + 2 : Int32).toNatClampNeg) h) fun v159 h160 =>
      chk (inb (x3 + 1) L = true) <|
      chk (inb (x3 + 2) L = true) <|
      ko h160 x2 11 <|
      bd (f_X12_kept x2 (xs (x3 + 1 : Int32).toNatClampNeg) (xs (x3 + 2 : Int32).toNatClampNeg) h160) fun v164 h165 =>
      if v159 = v164 then
        f_L_law_1477 L xs k18 x1 x2 x3 h165
      else
        some (0, h165)
    else
    if ((xs x3.toNatClampNeg) &&& 63) = 12 then
      chk (inb (x3 + 1) L = true) <|
      chk (inb (x3 + 2) L = true) <|
      chk (inb (x3 + 3) L = true) <|
      ko h x1 10 <|
      bd (f_X11_rounds x1 (xs (x3 + 1 : Int32).toNatClampNeg) (xs (x3 + 2 : Int32).toNatClampNeg) (xs (x3 + 3 : Int32).toNatClampNeg) h) fun v174 h175 =>
      chk (inb (x3 + 1) L = true) <|
      chk (inb (x3 + 2) L = true) <|
      chk (inb (x3 + 3) L = true) <|
      ko h175 x2 11 <|
      bd (f_X12_rounds x2 (xs (x3 + 1 : Int32).toNatClampNeg) (xs (x3 + 2 : Int32).toNatClampNeg) (xs (x3 + 3 : Int32).toNatClampNeg) h175) fun v180 h181 =>
      if v174 = v180 then
        f_L_law_1477 L xs k18 x1 x2 x3 h181
      else
        some (0, h181)
    else
    if ((xs x3.toNatClampNeg) &&& 63) = 13 then
      chk (inb (x3 + 1) L = true) <|
      chk (inb (x3 + 2) L = true) <|
      ko h x1 10 <|
      bd (f_X11_exact x1 (xs (x3 + 1 : Int32).toNatClampNeg) (xs (x3 + 2 : Int32).toNatClampNeg) h) fun v189 h190 =>
      chk (inb (x3 + 1) L = true) <|
      chk (inb (x3 + 2) L = true) <|
      ko h190 x2 11 <|
      bd (f_X12_exact x2 (xs (x3 + 1 : Int32).toNatClampNeg) (xs (x3 + 2 : Int32).toNatClampNeg) h190) fun v194 h195 =>
      if v189 = v194 then
        f_L_law_1477 L xs k18 x1 x2 x3 h195
      else
        some (0, h195)
    else
    if ((xs x3.toNatClampNeg) &&& 63) = 14 then
      chk (inb (x3 + 1) L = true) <|
      chk (inb (x3 + 2) L = true) <|
      ko h x1 10 <|
      bd (f_X11_fits x1 (xs (x3 + 1 : Int32).toNatClampNeg) (xs (x3 + 2 : Int32).toNatClampNeg) h) fun v203 h204 =>
      chk (inb (x3 + 1) L = true) <|
      chk (inb (x3 + 2) L = true) <|
      ko h204 x2 11 <|
      bd (f_X12_fits x2 (xs (x3 + 1 : Int32).toNatClampNeg) (xs (x3 + 2 : Int32).toNatClampNeg) h204) fun v208 h209 =>
      if v203 = v208 then
        f_L_law_1477 L xs k18 x1 x2 x3 h209
      else
        some (0, h209)
    else
    if ((xs x3.toNatClampNeg) &&& 63) = 15 then
      chk (inb (x3 + 1) L = true) <|
      chk (inb (x3 + 2) L = true) <|
      ko h x1 10 <|
      bd (f_X11_quick x1 (xs (x3 + 1 : Int32).toNatClampNeg) (xs (x3 + 2 : Int32).toNatClampNeg) h) fun v217 h218 =>
      chk (inb (x3 + 1) L = true) <|
      chk (inb (x3 + 2) L = true) <|
      ko h218 x2 11 <|
      bd (f_X12_quick x2 (xs (x3 + 1 : Int32).toNatClampNeg) (xs (x3 + 2 : Int32).toNatClampNeg) h218) fun v222 h223 =>
      if v217 = v222 then
        f_L_law_1477 L xs k18 x1 x2 x3 h223
      else
        some (0, h223)
    else
    if ((xs x3.toNatClampNeg) &&& 63) = 16 then
      chk (inb (x3 + 1) L = true) <|
      chk (inb (x3 + 2) L = true) <|
      ko h x1 10 <|
      bd (f_X11_window x1 (xs (x3 + 1 : Int32).toNatClampNeg) (xs (x3 + 2 : Int32).toNatClampNeg) h) fun v231 h232 =>
      chk (inb (x3 + 1) L = true) <|
      chk (inb (x3 + 2) L = true) <|
      ko h232 x2 11 <|
      bd (f_X12_window x2 (xs (x3 + 1 : Int32).toNatClampNeg) (xs (x3 + 2 : Int32).toNatClampNeg) h232) fun v236 h237 =>
      if v231 = v236 then
        f_L_law_1477 L xs k18 x1 x2 x3 h237
      else
        some (0, h237)
    else
    if ((xs x3.toNatClampNeg) &&& 63) = 17 then
      chk (inb (x3 + 1) L = true) <|
      ko h x1 10 <|
      bd (f_X11_reachers x1 (xs (x3 + 1 : Int32).toNatClampNeg) h) fun v244 h245 =>
      chk (inb (x3 + 1) L = true) <|
      ko h245 x2 11 <|
      bd (f_X12_reachers x2 (xs (x3 + 1 : Int32).toNatClampNeg) h245) fun v248 h249 =>
      if v244 = v248 then
        f_L_law_1477 L xs k18 x1 x2 x3 h249
      else
        some (0, h249)
    else
    if ((xs x3.toNatClampNeg) &&& 63) = 18 then
      chk (inb (x3 + 1) L = true) <|
      ko h x1 10 <|
      bd (f_X11_room x1 (xs (x3 + 1 : Int32).toNatClampNeg) h) fun v256 h257 =>
      chk (inb (x3 + 1) L = true) <|
      ko h257 x2 11 <|
      bd (f_X12_room x2 (xs (x3 + 1 : Int32).toNatClampNeg) h257) fun v260 h261 =>
      if v256 = v260 then
        f_L_law_1477 L xs k18 x1 x2 x3 h261
      else
        some (0, h261)
    else
    if ((xs x3.toNatClampNeg) &&& 63) = 19 then
      ko h x1 10 <|
      bd (f_X11_odds x1 h) fun v267 h268 =>
      ko h268 x2 11 <|
      bd (f_X12_odds x2 h268) fun v270 h271 =>
      if v267 = v270 then
        f_L_law_1477 L xs k18 x1 x2 x3 h271
      else
        some (0, h271)
    else
    if ((xs x3.toNatClampNeg) &&& 63) = 20 then
      chk (inb (x3 + 1) L = true) <|
      ko h x1 10 <|
      bd (f_X11_share x1 (xs (x3 + 1 : Int32).toNatClampNeg) h) fun v278 h279 =>
      chk (inb (x3 + 1) L = true) <|
      ko h279 x2 11 <|
      bd (f_X12_share x2 (xs (x3 + 1 : Int32).toNatClampNeg) h279) fun v282 h283 =>
      if v278 = v282 then
        f_L_law_1477 L xs k18 x1 x2 x3 h283
      else
        some (0, h283)
    else
    if ((xs x3.toNatClampNeg) &&& 63) = 21 then
      ko h x1 10 <|
      bd (f_X11_see x1 h) fun v289 h290 =>
      ko h290 x2 11 <|
      bd (f_X12_see x2 h290) fun v292 h293 =>
      if v289 = v292 then
        f_L_law_1477 L xs k18 x1 x2 x3 h293
      else
        some (0, h293)
    else
    if ((xs x3.toNatClampNeg) &&& 63) = 22 then
      chk (inb (x3 + 1) L = true) <|
      chk (inb (x3 + 2) L = true) <|
      ko h x1 10 <|
      bd (f_X11_places x1 (xs (x3 + 1 : Int32).toNatClampNeg) (xs (x3 + 2 : Int32).toNatClampNeg) h) fun v301 h302 =>
      chk (inb (x3 + 1) L = true) <|
      chk (inb (x3 + 2) L = true) <|
      ko h302 x2 11 <|
      bd (f_X12_places x2 (xs (x3 + 1 : Int32).toNatClampNeg) (xs (x3 + 2 : Int32).toNatClampNeg) h302) fun v306 h307 =>
      if v301 = v306 then
        f_L_law_1477 L xs k18 x1 x2 x3 h307
      else
        some (0, h307)
    else
    if ((xs x3.toNatClampNeg) &&& 63) = 23 then
      chk (inb (x3 + 1) L = true) <|
      chk (inb (x3 + 2) L = true) <|
      ko h x1 10 <|
      bd (f_X11_tells x1 (xs (x3 + 1 : Int32).toNatClampNeg) (xs (x3 + 2 : Int32).toNatClampNeg) h) fun v315 h316 =>
      chk (inb (x3 + 1) L = true) <|
      chk (inb (x3 + 2) L = true) <|
      ko h316 x2 11 <|
      bd (f_X12_tells x2 (xs (x3 + 1 : Int32).toNatClampNeg) (xs (x3 + 2 : Int32).toNatClampNeg) h316) fun v320 h321 =>
      if v315 = v320 then
        f_L_law_1477 L xs k18 x1 x2 x3 h321
      else
        some (0, h321)
    else
    if ((xs x3.toNatClampNeg) &&& 63) = 24 then
      chk (inb (x3 + 1) L = true) <|
      chk (inb (x3 + 2) L = true) <|
      ko h x1 10 <|
      bd (f_X11_alloc x1 (xs (x3 + 1 : Int32).toNatClampNeg) (xs (x3 + 2 : Int32).toNatClampNeg) h) fun v329 h330 =>
      chk (inb (x3 + 1) L = true) <|
      chk (inb (x3 + 2) L = true) <|
      ko h330 x2 11 <|
      bd (f_X12_alloc x2 (xs (x3 + 1 : Int32).toNatClampNeg) (xs (x3 + 2 : Int32).toNatClampNeg) h330) fun v334 h335 =>
      if v329 = v334 then
        f_L_law_1477 L xs k18 x1 x2 x3 h335
      else
        some (0, h335)
    else
    if ((xs x3.toNatClampNeg) &&& 63) = 25 then
      chk (inb (x3 + 1) L = true) <|
      ko h x1 10 <|
      bd (f_X11_free x1 (xs (x3 + 1 : Int32).toNatClampNeg) h) fun v342 h343 =>
      chk (inb (x3 + 1) L = true) <|
      ko h343 x2 11 <|
      bd (f_X12_free x2 (xs (x3 + 1 : Int32).toNatClampNeg) h343) fun v346 h347 =>
      if v342 = v346 then
        f_L_law_1477 L xs k18 x1 x2 x3 h347
      else
        some (0, h347)
    else
    if ((xs x3.toNatClampNeg) &&& 63) = 26 then
      chk (inb (x3 + 1) L = true) <|
      chk (inb (x3 + 2) L = true) <|
      ko h x1 10 <|
      bd (f_X11_copy x1 (xs (x3 + 1 : Int32).toNatClampNeg) (xs (x3 + 2 : Int32).toNatClampNeg) h) fun v355 h356 =>
      chk (inb (x3 + 1) L = true) <|
      chk (inb (x3 + 2) L = true) <|
      ko h356 x2 11 <|
      bd (f_X12_copy x2 (xs (x3 + 1 : Int32).toNatClampNeg) (xs (x3 + 2 : Int32).toNatClampNeg) h356) fun v360 h361 =>
      if v355 = v360 then
        f_L_law_1477 L xs k18 x1 x2 x3 h361
      else
        some (0, h361)
    else
    if ((xs x3.toNatClampNeg) &&& 63) = 27 then
      chk (inb (x3 + 1) L = true) <|
      chk (inb (x3 + 2) L = true) <|
      ko h x1 10 <|
      bd (f_X11_move x1 (xs (x3 + 1 : Int32).toNatClampNeg) (xs (x3 + 2 : Int32).toNatClampNeg) h) fun v369 h370 =>
      chk (inb (x3 + 1) L = true) <|
      chk (inb (x3 + 2) L = true) <|
      ko h370 x2 11 <|
      bd (f_X12_move x2 (xs (x3 + 1 : Int32).toNatClampNeg) (xs (x3 + 2 : Int32).toNatClampNeg) h370) fun v374 h375 =>
      if v369 = v374 then
        f_L_law_1477 L xs k18 x1 x2 x3 h375
      else
        some (0, h375)
    else
    if ((xs x3.toNatClampNeg) &&& 63) = 28 then
      chk (inb (x3 + 1) L = true) <|
      chk (inb (x3 + 2) L = true) <|
      chk (inb (x3 + 3) L = true) <|
      ko h x1 10 <|
      bd (f_X11_narrow x1 (xs (x3 + 1 : Int32).toNatClampNeg) (xs (x3 + 2 : Int32).toNatClampNeg) (xs (x3 + 3 : Int32).toNatClampNeg) h) fun v384 h385 =>
      chk (inb (x3 + 1) L = true) <|
      chk (inb (x3 + 2) L = true) <|
      chk (inb (x3 + 3) L = true) <|
      ko h385 x2 11 <|
      bd (f_X12_narrow x2 (xs (x3 + 1 : Int32).toNatClampNeg) (xs (x3 + 2 : Int32).toNatClampNeg) (xs (x3 + 3 : Int32).toNatClampNeg) h385) fun v390 h391 =>
      if v384 = v390 then
        f_L_law_1477 L xs k18 x1 x2 x3 h391
      else
        some (0, h391)
    else
    if ((xs x3.toNatClampNeg) &&& 63) = 29 then
      chk (inb (x3 + 1) L = true) <|
      chk (inb (x3 + 2) L = true) <|
      ko h x1 10 <|
      bd (f_X11_limit x1 (xs (x3 + 1 : Int32).toNatClampNeg) (xs (x3 + 2 : Int32).toNatClampNeg) h) fun v399 h400 =>
      chk (inb (x3 + 1) L = true) <|
      chk (inb (x3 + 2) L = true) <|
      ko h400 x2 11 <|
      bd (f_X12_limit x2 (xs (x3 + 1 : Int32).toNatClampNeg) (xs (x3 + 2 : Int32).toNatClampNeg) h400) fun v404 h405 =>
      if v399 = v404 then
        f_L_law_1477 L xs k18 x1 x2 x3 h405
      else
        some (0, h405)
    else
    if ((xs x3.toNatClampNeg) &&& 63) = 30 then
      chk (inb (x3 + 1) L = true) <|
      chk (inb (x3 + 2) L = true) <|
      ko h x1 10 <|
      bd (f_X11_seal x1 (xs (x3 + 1 : Int32).toNatClampNeg) (xs (x3 + 2 : Int32).toNatClampNeg) h) fun v413 h414 =>
      chk (inb (x3 + 1) L = true) <|
      chk (inb (x3 + 2) L = true) <|
      ko h414 x2 11 <|
      bd (f_X12_seal x2 (xs (x3 + 1 : Int32).toNatClampNeg) (xs (x3 + 2 : Int32).toNatClampNeg) h414) fun v418 h419 =>
      if v413 = v418 then
        f_L_law_1477 L xs k18 x1 x2 x3 h419
      else
        some (0, h419)
    else
    if ((xs x3.toNatClampNeg) &&& 63) = 31 then
      chk (inb (x3 + 1) L = true) <|
      chk (inb (x3 + 2) L = true) <|
      ko h x1 10 <|
      bd (f_X11_unseal x1 (xs (x3 + 1 : Int32).toNatClampNeg) (xs (x3 + 2 : Int32).toNatClampNeg) h) fun v427 h428 =>
      chk (inb (x3 + 1) L = true) <|
      chk (inb (x3 + 2) L = true) <|
      ko h428 x2 11 <|
      bd (f_X12_unseal x2 (xs (x3 + 1 : Int32).toNatClampNeg) (xs (x3 + 2 : Int32).toNatClampNeg) h428) fun v432 h433 =>
      if v427 = v432 then
        f_L_law_1477 L xs k18 x1 x2 x3 h433
      else
        some (0, h433)
    else
    if ((xs x3.toNatClampNeg) &&& 63) = 32 then
      chk (inb (x3 + 1) L = true) <|
      ko h x1 10 <|
      bd (f_X11_load x1 (xs (x3 + 1 : Int32).toNatClampNeg) h) fun v440 h441 =>
      chk (inb (x3 + 1) L = true) <|
      ko h441 x2 11 <|
      bd (f_X12_load x2 (xs (x3 + 1 : Int32).toNatClampNeg) h441) fun v444 h445 =>
      if v440 = v444 then
        f_L_law_1477 L xs k18 x1 x2 x3 h445
      else
        some (0, h445)
    else
    if ((xs x3.toNatClampNeg) &&& 63) = 33 then
      chk (inb (x3 + 1) L = true) <|
      chk (inb (x3 + 2) L = true) <|
      ko h x1 10 <|
      bd (f_X11_store x1 (xs (x3 + 1 : Int32).toNatClampNeg) (xs (x3 + 2 : Int32).toNatClampNeg) h) fun v453 h454 =>
      chk (inb (x3 + 1) L = true) <|
      chk (inb (x3 + 2) L = true) <|
      ko h454 x2 11 <|
      bd (f_X12_store x2 (xs (x3 + 1 : Int32).toNatClampNeg) (xs (x3 + 2 : Int32).toNatClampNeg) h454) fun v458 h459 =>
      if v453 = v458 then
        f_L_law_1477 L xs k18 x1 x2 x3 h459
      else
        some (0, h459)
    else
    if ((xs x3.toNatClampNeg) &&& 63) = 34 then
      chk (inb (x3 + 1) L = true) <|
      chk (inb (x3 + 2) L = true) <|
      ko h x1 10 <|
      bd (f_X11_shelve x1 (xs (x3 + 1 : Int32).toNatClampNeg) (xs (x3 + 2 : Int32).toNatClampNeg) h) fun v467 h468 =>
      chk (inb (x3 + 1) L = true) <|
      chk (inb (x3 + 2) L = true) <|
      ko h468 x2 11 <|
      bd (f_X12_shelve x2 (xs (x3 + 1 : Int32).toNatClampNeg) (xs (x3 + 2 : Int32).toNatClampNeg) h468) fun v472 h473 =>
      if v467 = v472 then
        f_L_law_1477 L xs k18 x1 x2 x3 h473
      else
        some (0, h473)
    else
    if ((xs x3.toNatClampNeg) &&& 63) = 35 then
      chk (inb (x3 + 1) L = true) <|
      chk (inb (x3 + 2) L = true) <|
      chk (inb (x3 + 3) L = true) <|
      ko h x1 10 <|
      bd (f_X11_take x1 (xs (x3 + 1 : Int32).toNatClampNeg) (xs (x3 + 2 : Int32).toNatClampNeg) (xs (x3 + 3 : Int32).toNatClampNeg) h) fun v482 h483 =>
      chk (inb (x3 + 1) L = true) <|
      chk (inb (x3 + 2) L = true) <|
      chk (inb (x3 + 3) L = true) <|
      ko h483 x2 11 <|
      bd (f_X12_take x2 (xs (x3 + 1 : Int32).toNatClampNeg) (xs (x3 + 2 : Int32).toNatClampNeg) (xs (x3 + 3 : Int32).toNatClampNeg) h483) fun v488 h489 =>
      if v482 = v488 then
        f_L_law_1477 L xs k18 x1 x2 x3 h489
      else
        some (0, h489)
    else
    if ((xs x3.toNatClampNeg) &&& 63) = 36 then
      chk (inb (x3 + 1) L = true) <|
      ko h x1 10 <|
      bd (f_X11_chance x1 (xs (x3 + 1 : Int32).toNatClampNeg) h) fun v496 h497 =>
      chk (inb (x3 + 1) L = true) <|
      ko h497 x2 11 <|
      bd (f_X12_chance x2 (xs (x3 + 1 : Int32).toNatClampNeg) h497) fun v500 h501 =>
      if v496 = v500 then
        f_L_law_1477 L xs k18 x1 x2 x3 h501
      else
        some (0, h501)
    else
    if ((xs x3.toNatClampNeg) &&& 63) = 37 then
      ko h x1 10 <|
      bd (f_X11_undo x1 h) fun v507 h508 =>
      ko h508 x2 11 <|
      bd (f_X12_undo x2 h508) fun v510 h511 =>
      if v507 = v510 then
        f_L_law_1477 L xs k18 x1 x2 x3 h511
      else
        some (0, h511)
    else
    if ((xs x3.toNatClampNeg) &&& 63) = 38 then
      chk (inb (x3 + 1) L = true) <|
      ko h x1 10 <|
      bd (f_X11_seed x1 (xs (x3 + 1 : Int32).toNatClampNeg) h) fun v518 h519 =>
      chk (inb (x3 + 1) L = true) <|
      ko h519 x2 11 <|
      bd (f_X12_seed x2 (xs (x3 + 1 : Int32).toNatClampNeg) h519) fun v522 h523 =>
      if v518 = v522 then
        f_L_law_1477 L xs k18 x1 x2 x3 h523
      else
        some (0, h523)
    else
    if ((xs x3.toNatClampNeg) &&& 63) = 39 then
      ko h x1 10 <|
      bd (f_X11_ask x1 h) fun v529 h530 =>
      ko h530 x2 11 <|
      bd (f_X12_ask x2 h530) fun v532 h533 =>
      if (lg_cmp v529 v532) = 0 then
        f_L_law_1477 L xs k18 x1 x2 x3 h533
      else
        some (0, h533)
    else
    if ((xs x3.toNatClampNeg) &&& 63) = 40 then
      ko h x1 10 <|
      bd (f_X11_image x1 h) fun v539 h540 =>
      ko h540 x2 11 <|
      bd (f_X12_image x2 h540) fun v542 h543 =>
      if v539 = v542 then
        f_L_law_1477 L xs k18 x1 x2 x3 h543
      else
        some (0, h543)
    else
    if ((xs x3.toNatClampNeg) &&& 63) = 41 then
      chk (inb (x3 + 1) L = true) <|
      ko h x1 10 <|
      bd (f_X11_octet x1 (xs (x3 + 1 : Int32).toNatClampNeg) h) fun v550 h551 =>
      chk (inb (x3 + 1) L = true) <|
      ko h551 x2 11 <|
      bd (f_X12_octet x2 (xs (x3 + 1 : Int32).toNatClampNeg) h551) fun v554 h555 =>
      if v550 = v554 then
        f_L_law_1477 L xs k18 x1 x2 x3 h555
      else
        some (0, h555)
    else
    if ((xs x3.toNatClampNeg) &&& 63) = 42 then
      ko h x1 10 <|
      bd (f_X11_on x1 h) fun v561 h562 =>
      ko h562 x2 11 <|
      bd (f_X12_on x2 h562) fun v564 h565 =>
      if v561 = v564 then
        f_L_law_1477 L xs k18 x1 x2 x3 h565
      else
        some (0, h565)
    else
    if ((xs x3.toNatClampNeg) &&& 63) = 43 then
      chk (inb (x3 + 1) L = true) <|
      ko h x1 10 <|
      bd (f_X11_status x1 (xs (x3 + 1 : Int32).toNatClampNeg) h) fun v572 h573 =>
      chk (inb (x3 + 1) L = true) <|
      ko h573 x2 11 <|
      bd (f_X12_status x2 (xs (x3 + 1 : Int32).toNatClampNeg) h573) fun v576 h577 =>
      if v572 = v576 then
        f_L_law_1477 L xs k18 x1 x2 x3 h577
      else
        some (0, h577)
    else
    none
set_option maxRecDepth 100000 in
set_option maxHeartbeats 4000000 in
theorem tb_L_law_18 {Γ : gS} {d : Nat} (hd : 113 ≤ d) {k18 : Nat → Nat → Int32 → aH → Option (Int32 × aH)} (hk18 : ∀ {x1 : Nat} {x2 : Nat} {x3 : Int32} {h : aH} {h' : aH}, k18 x1 x2 x3 h = some (1, h') → Ex Γ gL_law d 18 [(0, .ref (gb Γ)), (1, .ref x1), (2, .ref x2), (3, .int x3)] [] h (some (.int 1)) h') {x1 : Nat} {x2 : Nat} {x3 : Int32} {h : aH} {h' : aH} (H : b_L_law_18 (gn Γ) (gx Γ) k18 x1 x2 x3 h = some (1, h')) : Ex Γ gL_law d 18 [(0, .ref (gb Γ)), (1, .ref x1), (2, .ref x2), (3, .int x3)] [] h (some (.int 1)) h' := by
  unfold b_L_law_18 at H
  obtain ⟨d, rfl⟩ : ∃ e, d = e + 1 := ⟨d - 1, by omega⟩
  refine x_iload_n dL_law_18 rfl 3 rfl ?_
  refine x_aload_n dL_law_19 rfl 0 rfl ?_
  refine x_slen dL_law_20 ?_
  refine x_bipush (v := 6) dL_law_21 (by decide) ?_
  refine x_isub dL_law_23 ?_
  refine x_icmp_gt (tgt := 1483) dL_law_24 (by decide) (fun c2 => ?_) (fun c2 => ?_)
  · replace H := ite_p H c2
    refine x_iconst (v := 1) dL_law_1483 (by decide) ?_
    obtain ⟨-, rfl⟩ := so_1 H
    exact x_lawret dL_law_1484
  · replace H := ite_m H c2
    refine x_aload_n dL_law_27 rfl 0 rfl ?_
    refine x_iload_n dL_law_28 rfl 3 rfl ?_
    obtain ⟨c3, H⟩ := chk_o H
    refine x_sld dL_law_29 (inb_in.mp c3) ?_
    refine x_bipush (v := 63) dL_law_30 (by decide) ?_
    refine x_iand dL_law_32 ?_
    by_cases c4 : (((gx Γ) x3.toNatClampNeg) &&& 63) < 0
    · replace H := ite_p H c4
      refine x_tableOut (tgt := 1477) dL_law_33 (Or.inl (sw_lo c4 (by decide))) (by decide) ?_
      exact t_L_law_1477 hd hk18 H
    replace H := ite_m H c4
    by_cases c5 : 43 < (((gx Γ) x3.toNatClampNeg) &&& 63)
    · replace H := ite_p H c5
      refine x_tableOut (tgt := 1477) dL_law_33 (Or.inr (sw_hi c5 (by decide))) (by decide) ?_
      exact t_L_law_1477 hd hk18 H
    replace H := ite_m H c5
    by_cases c6 : (((gx Γ) x3.toNatClampNeg) &&& 63) = 0
    · replace H := ite_p H c6
      refine x_tableIn (tgt := 224) dL_law_33 (by rw [c6]; decide) (by rw [c6]; decide) (by rw [c6]; rfl) (by decide) ?_
      refine x_aload_n dL_law_224 rfl 1 rfl ?_
      refine x_aload_n dL_law_225 rfl 0 rfl ?_
      refine x_iload_n dL_law_226 rfl 3 rfl ?_
      refine x_iconst (v := 1) dL_law_227 (by decide) ?_
      refine x_iadd dL_law_228 ?_
      obtain ⟨c7, H⟩ := chk_o H
      refine x_sld dL_law_229 (inb_in.mp c7) ?_
      refine x_aload_n dL_law_230 rfl 0 rfl ?_
      refine x_iload_n dL_law_231 rfl 3 rfl ?_
      refine x_iconst (v := 2) dL_law_232 (by decide) ?_
      refine x_iadd dL_law_233 ?_
      obtain ⟨c8, H⟩ := chk_o H
      refine x_sld dL_law_234 (inb_in.mp c8) ?_
      refine x_aload_n dL_law_235 rfl 0 rfl ?_
      refine x_iload_n dL_law_236 rfl 3 rfl ?_
      refine x_iconst (v := 3) dL_law_237 (by decide) ?_
      refine x_iadd dL_law_238 ?_
      obtain ⟨c9, H⟩ := chk_o H
      refine x_sld dL_law_239 (inb_in.mp c9) ?_
      refine x_aload_n dL_law_240 rfl 0 rfl ?_
      refine x_iload_n dL_law_241 rfl 3 rfl ?_
      refine x_iconst (v := 4) dL_law_242 (by decide) ?_
      refine x_iadd dL_law_243 ?_
      obtain ⟨c10, H⟩ := chk_o H
      refine x_sld dL_law_244 (inb_in.mp c10) ?_
      refine x_aload_n dL_law_245 rfl 0 rfl ?_
      refine x_iload_n dL_law_246 rfl 3 rfl ?_
      refine x_iconst (v := 5) dL_law_247 (by decide) ?_
      refine x_iadd dL_law_248 ?_
      obtain ⟨c11, H⟩ := chk_o H
      refine x_sld dL_law_249 (inb_in.mp c11) ?_
      obtain ⟨c25, H⟩ := ko_o H
      obtain ⟨v12, h13, hc14, H⟩ := bd_o H
      refine x_callVi (As := [.int ((gx Γ) (x3 + 1 : Int32).toNatClampNeg), .int ((gx Γ) (x3 + 2 : Int32).toNatClampNeg), .int ((gx Γ) (x3 + 3 : Int32).toNatClampNeg), .int ((gx Γ) (x3 + 4 : Int32).toNatClampNeg), .int ((gx Γ) (x3 + 5 : Int32).toNatClampNeg)]) (q := (RX11, TX11, 17)) dL_law_250 mi_X11_feed lk_L_13 im_X11_feed se_X11_feed rfl c25 rfl rfl (Nat.le_of_ble_eq_true rfl) (t_X11_feed (by omega) hc14) ?_
      refine x_aload_n dL_law_253 rfl 2 rfl ?_
      refine x_aload_n dL_law_254 rfl 0 rfl ?_
      refine x_iload_n dL_law_255 rfl 3 rfl ?_
      refine x_iconst (v := 1) dL_law_256 (by decide) ?_
      refine x_iadd dL_law_257 ?_
      obtain ⟨c15, H⟩ := chk_o H
      refine x_sld dL_law_258 (inb_in.mp c15) ?_
      refine x_aload_n dL_law_259 rfl 0 rfl ?_
      refine x_iload_n dL_law_260 rfl 3 rfl ?_
      refine x_iconst (v := 2) dL_law_261 (by decide) ?_
      refine x_iadd dL_law_262 ?_
      obtain ⟨c16, H⟩ := chk_o H
      refine x_sld dL_law_263 (inb_in.mp c16) ?_
      refine x_aload_n dL_law_264 rfl 0 rfl ?_
      refine x_iload_n dL_law_265 rfl 3 rfl ?_
      refine x_iconst (v := 3) dL_law_266 (by decide) ?_
      refine x_iadd dL_law_267 ?_
      obtain ⟨c17, H⟩ := chk_o H
      refine x_sld dL_law_268 (inb_in.mp c17) ?_
      refine x_aload_n dL_law_269 rfl 0 rfl ?_
      refine x_iload_n dL_law_270 rfl 3 rfl ?_
      refine x_iconst (v := 4) dL_law_271 (by decide) ?_
      refine x_iadd dL_law_272 ?_
      obtain ⟨c18, H⟩ := chk_o H
      refine x_sld dL_law_273 (inb_in.mp c18) ?_
      refine x_aload_n dL_law_274 rfl 0 rfl ?_
      refine x_iload_n dL_law_275 rfl 3 rfl ?_
      refine x_iconst (v := 5) dL_law_276 (by decide) ?_
      refine x_iadd dL_law_277 ?_
      obtain ⟨c19, H⟩ := chk_o H
      refine x_sld dL_law_278 (inb_in.mp c19) ?_
      obtain ⟨c24, H⟩ := ko_o H
      obtain ⟨v20, h21, hc22, H⟩ := bd_o H
      refine x_callVi (As := [.int ((gx Γ) (x3 + 1 : Int32).toNatClampNeg), .int ((gx Γ) (x3 + 2 : Int32).toNatClampNeg), .int ((gx Γ) (x3 + 3 : Int32).toNatClampNeg), .int ((gx Γ) (x3 + 4 : Int32).toNatClampNeg), .int ((gx Γ) (x3 + 5 : Int32).toNatClampNeg)]) (q := (RX12, TX12, 103)) dL_law_279 mi_X12_feed lk_L_17 im_X12_feed se_X12_feed rfl c24 rfl rfl (Nat.le_of_ble_eq_true rfl) (t_X12_feed (by omega) hc22) ?_
      refine x_icmp_eq (tgt := 1477) dL_law_282 (by decide) (fun c23 => ?_) (fun c23 => ?_)
      · replace H := ite_p H c23
        exact t_L_law_1477 hd hk18 H
      · replace H := ite_m H c23
        refine x_iconst (v := 0) dL_law_285 (by decide) ?_
        exact absurd (so_1 H).1 (by decide)
    replace H := ite_m H c6
    by_cases c26 : (((gx Γ) x3.toNatClampNeg) &&& 63) = 1
    · replace H := ite_p H c26
      refine x_tableIn (tgt := 287) dL_law_33 (by rw [c26]; decide) (by rw [c26]; decide) (by rw [c26]; rfl) (by decide) ?_
      refine x_aload_n dL_law_287 rfl 1 rfl ?_
      refine x_aload_n dL_law_288 rfl 0 rfl ?_
      refine x_iload_n dL_law_289 rfl 3 rfl ?_
      refine x_iconst (v := 1) dL_law_290 (by decide) ?_
      refine x_iadd dL_law_291 ?_
      obtain ⟨c27, H⟩ := chk_o H
      refine x_sld dL_law_292 (inb_in.mp c27) ?_
      obtain ⟨c37, H⟩ := ko_o H
      obtain ⟨v28, h29, hc30, H⟩ := bd_o H
      refine x_callVi (As := [.int ((gx Γ) (x3 + 1 : Int32).toNatClampNeg)]) (q := (RX11, TX11, 17)) dL_law_293 mi_X11_end lk_L_18 im_X11_end se_X11_end rfl c37 rfl rfl (Nat.le_of_ble_eq_true rfl) (t_X11_end (by omega) hc30) ?_
      refine x_aload_n dL_law_296 rfl 2 rfl ?_
      refine x_aload_n dL_law_297 rfl 0 rfl ?_
      refine x_iload_n dL_law_298 rfl 3 rfl ?_
      refine x_iconst (v := 1) dL_law_299 (by decide) ?_
      refine x_iadd dL_law_300 ?_
      obtain ⟨c31, H⟩ := chk_o H
      refine x_sld dL_law_301 (inb_in.mp c31) ?_
      obtain ⟨c36, H⟩ := ko_o H
      obtain ⟨v32, h33, hc34, H⟩ := bd_o H
      refine x_callVi (As := [.int ((gx Γ) (x3 + 1 : Int32).toNatClampNeg)]) (q := (RX12, TX12, 103)) dL_law_302 mi_X12_end lk_L_22 im_X12_end se_X12_end rfl c36 rfl rfl (Nat.le_of_ble_eq_true rfl) (t_X12_end (by omega) hc34) ?_
      refine x_icmp_eq (tgt := 1477) dL_law_305 (by decide) (fun c35 => ?_) (fun c35 => ?_)
      · replace H := ite_p H c35
        exact t_L_law_1477 hd hk18 H
      · replace H := ite_m H c35
        refine x_iconst (v := 0) dL_law_308 (by decide) ?_
        exact absurd (so_1 H).1 (by decide)
    replace H := ite_m H c26
    by_cases c38 : (((gx Γ) x3.toNatClampNeg) &&& 63) = 2
    · replace H := ite_p H c38
      refine x_tableIn (tgt := 310) dL_law_33 (by rw [c38]; decide) (by rw [c38]; decide) (by rw [c38]; rfl) (by decide) ?_
      refine x_aload_n dL_law_310 rfl 1 rfl ?_
      obtain ⟨c47, H⟩ := ko_o H
      obtain ⟨v39, h40, hc41, H⟩ := bd_o H
      refine x_callVi (As := []) (q := (RX11, TX11, 17)) dL_law_311 mi_X11_machine lk_L_23 im_X11_machine se_X11_machine rfl c47 rfl rfl (Nat.le_of_ble_eq_true rfl) (t_X11_machine (by omega) hc41) ?_
      refine x_aload_n dL_law_314 rfl 2 rfl ?_
      obtain ⟨c46, H⟩ := ko_o H
      obtain ⟨v42, h43, hc44, H⟩ := bd_o H
      refine x_callVi (As := []) (q := (RX12, TX12, 103)) dL_law_315 mi_X12_machine lk_L_27 im_X12_machine se_X12_machine rfl c46 rfl rfl (Nat.le_of_ble_eq_true rfl) (t_X12_machine (by omega) hc44) ?_
      refine x_icmp_eq (tgt := 1477) dL_law_318 (by decide) (fun c45 => ?_) (fun c45 => ?_)
      · replace H := ite_p H c45
        exact t_L_law_1477 hd hk18 H
      · replace H := ite_m H c45
        refine x_iconst (v := 0) dL_law_321 (by decide) ?_
        exact absurd (so_1 H).1 (by decide)
    replace H := ite_m H c38
    by_cases c48 : (((gx Γ) x3.toNatClampNeg) &&& 63) = 3
    · replace H := ite_p H c48
      refine x_tableIn (tgt := 323) dL_law_33 (by rw [c48]; decide) (by rw [c48]; decide) (by rw [c48]; rfl) (by decide) ?_
      refine x_aload_n dL_law_323 rfl 1 rfl ?_
      refine x_aload_n dL_law_324 rfl 0 rfl ?_
      refine x_iload_n dL_law_325 rfl 3 rfl ?_
      refine x_iconst (v := 1) dL_law_326 (by decide) ?_
      refine x_iadd dL_law_327 ?_
      obtain ⟨c49, H⟩ := chk_o H
      refine x_sld dL_law_328 (inb_in.mp c49) ?_
      obtain ⟨c59, H⟩ := ko_o H
      obtain ⟨v50, h51, hc52, H⟩ := bd_o H
      refine x_callVi (As := [.int ((gx Γ) (x3 + 1 : Int32).toNatClampNeg)]) (q := (RX11, TX11, 17)) dL_law_329 mi_X11_fault lk_L_28 im_X11_fault se_X11_fault rfl c59 rfl rfl (Nat.le_of_ble_eq_true rfl) (t_X11_fault (by omega) hc52) ?_
      refine x_aload_n dL_law_332 rfl 2 rfl ?_
      refine x_aload_n dL_law_333 rfl 0 rfl ?_
      refine x_iload_n dL_law_334 rfl 3 rfl ?_
      refine x_iconst (v := 1) dL_law_335 (by decide) ?_
      refine x_iadd dL_law_336 ?_
      obtain ⟨c53, H⟩ := chk_o H
      refine x_sld dL_law_337 (inb_in.mp c53) ?_
      obtain ⟨c58, H⟩ := ko_o H
      obtain ⟨v54, h55, hc56, H⟩ := bd_o H
      refine x_callVi (As := [.int ((gx Γ) (x3 + 1 : Int32).toNatClampNeg)]) (q := (RX12, TX12, 103)) dL_law_338 mi_X12_fault lk_L_32 im_X12_fault se_X12_fault rfl c58 rfl rfl (Nat.le_of_ble_eq_true rfl) (t_X12_fault (by omega) hc56) ?_
      refine x_icmp_eq (tgt := 1477) dL_law_341 (by decide) (fun c57 => ?_) (fun c57 => ?_)
      · replace H := ite_p H c57
        exact t_L_law_1477 hd hk18 H
      · replace H := ite_m H c57
        refine x_iconst (v := 0) dL_law_344 (by decide) ?_
        exact absurd (so_1 H).1 (by decide)
    replace H := ite_m H c48
    by_cases c60 : (((gx Γ) x3.toNatClampNeg) &&& 63) = 4
    · replace H := ite_p H c60
      refine x_tableIn (tgt := 346) dL_law_33 (by rw [c60]; decide) (by rw [c60]; decide) (by rw [c60]; rfl) (by decide) ?_
      refine x_aload_n dL_law_346 rfl 1 rfl ?_
      refine x_aload_n dL_law_347 rfl 0 rfl ?_
      refine x_iload_n dL_law_348 rfl 3 rfl ?_
      refine x_iconst (v := 1) dL_law_349 (by decide) ?_
      refine x_iadd dL_law_350 ?_
      obtain ⟨c61, H⟩ := chk_o H
      refine x_sld dL_law_351 (inb_in.mp c61) ?_
      obtain ⟨c71, H⟩ := ko_o H
      obtain ⟨v62, h63, hc64, H⟩ := bd_o H
      refine x_callVi (As := [.int ((gx Γ) (x3 + 1 : Int32).toNatClampNeg)]) (q := (RX11, TX11, 17)) dL_law_352 mi_X11_has lk_L_33 im_X11_has se_X11_has rfl c71 rfl rfl (Nat.le_of_ble_eq_true rfl) (t_X11_has (by omega) hc64) ?_
      refine x_aload_n dL_law_355 rfl 2 rfl ?_
      refine x_aload_n dL_law_356 rfl 0 rfl ?_
      refine x_iload_n dL_law_357 rfl 3 rfl ?_
      refine x_iconst (v := 1) dL_law_358 (by decide) ?_
      refine x_iadd dL_law_359 ?_
      obtain ⟨c65, H⟩ := chk_o H
      refine x_sld dL_law_360 (inb_in.mp c65) ?_
      obtain ⟨c70, H⟩ := ko_o H
      obtain ⟨v66, h67, hc68, H⟩ := bd_o H
      refine x_callVi (As := [.int ((gx Γ) (x3 + 1 : Int32).toNatClampNeg)]) (q := (RX12, TX12, 103)) dL_law_361 mi_X12_has lk_L_36 im_X12_has se_X12_has rfl c70 rfl rfl (Nat.le_of_ble_eq_true rfl) (t_X12_has (by omega) hc68) ?_
      refine x_icmp_eq (tgt := 1477) dL_law_364 (by decide) (fun c69 => ?_) (fun c69 => ?_)
      · replace H := ite_p H c69
        exact t_L_law_1477 hd hk18 H
      · replace H := ite_m H c69
        refine x_iconst (v := 0) dL_law_367 (by decide) ?_
        exact absurd (so_1 H).1 (by decide)
    replace H := ite_m H c60
    by_cases c72 : (((gx Γ) x3.toNatClampNeg) &&& 63) = 5
    · replace H := ite_p H c72
      refine x_tableIn (tgt := 369) dL_law_33 (by rw [c72]; decide) (by rw [c72]; decide) (by rw [c72]; rfl) (by decide) ?_
      refine x_aload_n dL_law_369 rfl 1 rfl ?_
      refine x_aload_n dL_law_370 rfl 0 rfl ?_
      refine x_iload_n dL_law_371 rfl 3 rfl ?_
      refine x_iconst (v := 1) dL_law_372 (by decide) ?_
      refine x_iadd dL_law_373 ?_
      obtain ⟨c73, H⟩ := chk_o H
      refine x_sld dL_law_374 (inb_in.mp c73) ?_
      refine x_aload_n dL_law_375 rfl 0 rfl ?_
      refine x_iload_n dL_law_376 rfl 3 rfl ?_
      refine x_iconst (v := 2) dL_law_377 (by decide) ?_
      refine x_iadd dL_law_378 ?_
      obtain ⟨c74, H⟩ := chk_o H
      refine x_sld dL_law_379 (inb_in.mp c74) ?_
      obtain ⟨c85, H⟩ := ko_o H
      obtain ⟨v75, h76, hc77, H⟩ := bd_o H
      refine x_callVi (As := [.int ((gx Γ) (x3 + 1 : Int32).toNatClampNeg), .int ((gx Γ) (x3 + 2 : Int32).toNatClampNeg)]) (q := (RX11, TX11, 17)) dL_law_380 mi_X11_letter lk_L_37 im_X11_letter se_X11_letter rfl c85 rfl rfl (Nat.le_of_ble_eq_true rfl) (t_X11_letter (by omega) hc77) ?_
      refine x_aload_n dL_law_383 rfl 2 rfl ?_
      refine x_aload_n dL_law_384 rfl 0 rfl ?_
      refine x_iload_n dL_law_385 rfl 3 rfl ?_
      refine x_iconst (v := 1) dL_law_386 (by decide) ?_
      refine x_iadd dL_law_387 ?_
      obtain ⟨c78, H⟩ := chk_o H
      refine x_sld dL_law_388 (inb_in.mp c78) ?_
      refine x_aload_n dL_law_389 rfl 0 rfl ?_
      refine x_iload_n dL_law_390 rfl 3 rfl ?_
      refine x_iconst (v := 2) dL_law_391 (by decide) ?_
      refine x_iadd dL_law_392 ?_
      obtain ⟨c79, H⟩ := chk_o H
      refine x_sld dL_law_393 (inb_in.mp c79) ?_
      obtain ⟨c84, H⟩ := ko_o H
      obtain ⟨v80, h81, hc82, H⟩ := bd_o H
      refine x_callVi (As := [.int ((gx Γ) (x3 + 1 : Int32).toNatClampNeg), .int ((gx Γ) (x3 + 2 : Int32).toNatClampNeg)]) (q := (RX12, TX12, 103)) dL_law_394 mi_X12_letter lk_L_41 im_X12_letter se_X12_letter rfl c84 rfl rfl (Nat.le_of_ble_eq_true rfl) (t_X12_letter (by omega) hc82) ?_
      refine x_icmp_eq (tgt := 1477) dL_law_397 (by decide) (fun c83 => ?_) (fun c83 => ?_)
      · replace H := ite_p H c83
        exact t_L_law_1477 hd hk18 H
      · replace H := ite_m H c83
        refine x_iconst (v := 0) dL_law_400 (by decide) ?_
        exact absurd (so_1 H).1 (by decide)
    replace H := ite_m H c72
    by_cases c86 : (((gx Γ) x3.toNatClampNeg) &&& 63) = 6
    · replace H := ite_p H c86
      refine x_tableIn (tgt := 402) dL_law_33 (by rw [c86]; decide) (by rw [c86]; decide) (by rw [c86]; rfl) (by decide) ?_
      refine x_aload_n dL_law_402 rfl 1 rfl ?_
      refine x_aload_n dL_law_403 rfl 0 rfl ?_
      refine x_iload_n dL_law_404 rfl 3 rfl ?_
      refine x_iconst (v := 1) dL_law_405 (by decide) ?_
      refine x_iadd dL_law_406 ?_
      obtain ⟨c87, H⟩ := chk_o H
      refine x_sld dL_law_407 (inb_in.mp c87) ?_
      refine x_aload_n dL_law_408 rfl 0 rfl ?_
      refine x_iload_n dL_law_409 rfl 3 rfl ?_
      refine x_iconst (v := 2) dL_law_410 (by decide) ?_
      refine x_iadd dL_law_411 ?_
      obtain ⟨c88, H⟩ := chk_o H
      refine x_sld dL_law_412 (inb_in.mp c88) ?_
      obtain ⟨c99, H⟩ := ko_o H
      obtain ⟨v89, h90, hc91, H⟩ := bd_o H
      refine x_callVi (As := [.int ((gx Γ) (x3 + 1 : Int32).toNatClampNeg), .int ((gx Γ) (x3 + 2 : Int32).toNatClampNeg)]) (q := (RX11, TX11, 17)) dL_law_413 mi_X11_pointer lk_L_42 im_X11_pointer se_X11_pointer rfl c99 rfl rfl (Nat.le_of_ble_eq_true rfl) (t_X11_pointer (by omega) hc91) ?_
      refine x_aload_n dL_law_416 rfl 2 rfl ?_
      refine x_aload_n dL_law_417 rfl 0 rfl ?_
      refine x_iload_n dL_law_418 rfl 3 rfl ?_
      refine x_iconst (v := 1) dL_law_419 (by decide) ?_
      refine x_iadd dL_law_420 ?_
      obtain ⟨c92, H⟩ := chk_o H
      refine x_sld dL_law_421 (inb_in.mp c92) ?_
      refine x_aload_n dL_law_422 rfl 0 rfl ?_
      refine x_iload_n dL_law_423 rfl 3 rfl ?_
      refine x_iconst (v := 2) dL_law_424 (by decide) ?_
      refine x_iadd dL_law_425 ?_
      obtain ⟨c93, H⟩ := chk_o H
      refine x_sld dL_law_426 (inb_in.mp c93) ?_
      obtain ⟨c98, H⟩ := ko_o H
      obtain ⟨v94, h95, hc96, H⟩ := bd_o H
      refine x_callVi (As := [.int ((gx Γ) (x3 + 1 : Int32).toNatClampNeg), .int ((gx Γ) (x3 + 2 : Int32).toNatClampNeg)]) (q := (RX12, TX12, 103)) dL_law_427 mi_X12_pointer lk_L_45 im_X12_pointer se_X12_pointer rfl c98 rfl rfl (Nat.le_of_ble_eq_true rfl) (t_X12_pointer (by omega) hc96) ?_
      refine x_icmp_eq (tgt := 1477) dL_law_430 (by decide) (fun c97 => ?_) (fun c97 => ?_)
      · replace H := ite_p H c97
        exact t_L_law_1477 hd hk18 H
      · replace H := ite_m H c97
        refine x_iconst (v := 0) dL_law_433 (by decide) ?_
        exact absurd (so_1 H).1 (by decide)
    replace H := ite_m H c86
    by_cases c100 : (((gx Γ) x3.toNatClampNeg) &&& 63) = 7
    · replace H := ite_p H c100
      refine x_tableIn (tgt := 435) dL_law_33 (by rw [c100]; decide) (by rw [c100]; decide) (by rw [c100]; rfl) (by decide) ?_
      refine x_aload_n dL_law_435 rfl 1 rfl ?_
      refine x_aload_n dL_law_436 rfl 0 rfl ?_
      refine x_iload_n dL_law_437 rfl 3 rfl ?_
      refine x_iconst (v := 1) dL_law_438 (by decide) ?_
      refine x_iadd dL_law_439 ?_
      obtain ⟨c101, H⟩ := chk_o H
      refine x_sld dL_law_440 (inb_in.mp c101) ?_
      refine x_aload_n dL_law_441 rfl 0 rfl ?_
      refine x_iload_n dL_law_442 rfl 3 rfl ?_
      refine x_iconst (v := 2) dL_law_443 (by decide) ?_
      refine x_iadd dL_law_444 ?_
      obtain ⟨c102, H⟩ := chk_o H
      refine x_sld dL_law_445 (inb_in.mp c102) ?_
      refine x_aload_n dL_law_446 rfl 0 rfl ?_
      refine x_iload_n dL_law_447 rfl 3 rfl ?_
      refine x_iconst (v := 3) dL_law_448 (by decide) ?_
      refine x_iadd dL_law_449 ?_
      obtain ⟨c103, H⟩ := chk_o H
      refine x_sld dL_law_450 (inb_in.mp c103) ?_
      obtain ⟨c115, H⟩ := ko_o H
      obtain ⟨v104, h105, hc106, H⟩ := bd_o H
      refine x_callVi (As := [.int ((gx Γ) (x3 + 1 : Int32).toNatClampNeg), .int ((gx Γ) (x3 + 2 : Int32).toNatClampNeg), .int ((gx Γ) (x3 + 3 : Int32).toNatClampNeg)]) (q := (RX11, TX11, 17)) dL_law_451 mi_X11_shelf lk_L_46 im_X11_shelf se_X11_shelf rfl c115 rfl rfl (Nat.le_of_ble_eq_true rfl) (t_X11_shelf (by omega) hc106) ?_
      refine x_aload_n dL_law_454 rfl 2 rfl ?_
      refine x_aload_n dL_law_455 rfl 0 rfl ?_
      refine x_iload_n dL_law_456 rfl 3 rfl ?_
      refine x_iconst (v := 1) dL_law_457 (by decide) ?_
      refine x_iadd dL_law_458 ?_
      obtain ⟨c107, H⟩ := chk_o H
      refine x_sld dL_law_459 (inb_in.mp c107) ?_
      refine x_aload_n dL_law_460 rfl 0 rfl ?_
      refine x_iload_n dL_law_461 rfl 3 rfl ?_
      refine x_iconst (v := 2) dL_law_462 (by decide) ?_
      refine x_iadd dL_law_463 ?_
      obtain ⟨c108, H⟩ := chk_o H
      refine x_sld dL_law_464 (inb_in.mp c108) ?_
      refine x_aload_n dL_law_465 rfl 0 rfl ?_
      refine x_iload_n dL_law_466 rfl 3 rfl ?_
      refine x_iconst (v := 3) dL_law_467 (by decide) ?_
      refine x_iadd dL_law_468 ?_
      obtain ⟨c109, H⟩ := chk_o H
      refine x_sld dL_law_469 (inb_in.mp c109) ?_
      obtain ⟨c114, H⟩ := ko_o H
      obtain ⟨v110, h111, hc112, H⟩ := bd_o H
      refine x_callVi (As := [.int ((gx Γ) (x3 + 1 : Int32).toNatClampNeg), .int ((gx Γ) (x3 + 2 : Int32).toNatClampNeg), .int ((gx Γ) (x3 + 3 : Int32).toNatClampNeg)]) (q := (RX12, TX12, 103)) dL_law_470 mi_X12_shelf lk_L_50 im_X12_shelf se_X12_shelf rfl c114 rfl rfl (Nat.le_of_ble_eq_true rfl) (t_X12_shelf (by omega) hc112) ?_
      refine x_icmp_eq (tgt := 1477) dL_law_473 (by decide) (fun c113 => ?_) (fun c113 => ?_)
      · replace H := ite_p H c113
        exact t_L_law_1477 hd hk18 H
      · replace H := ite_m H c113
        refine x_iconst (v := 0) dL_law_476 (by decide) ?_
        exact absurd (so_1 H).1 (by decide)
    replace H := ite_m H c100
    by_cases c116 : (((gx Γ) x3.toNatClampNeg) &&& 63) = 8
    · replace H := ite_p H c116
      refine x_tableIn (tgt := 478) dL_law_33 (by rw [c116]; decide) (by rw [c116]; decide) (by rw [c116]; rfl) (by decide) ?_
      refine x_aload_n dL_law_478 rfl 1 rfl ?_
      refine x_aload_n dL_law_479 rfl 0 rfl ?_
      refine x_iload_n dL_law_480 rfl 3 rfl ?_
      refine x_iconst (v := 1) dL_law_481 (by decide) ?_
      refine x_iadd dL_law_482 ?_
      obtain ⟨c117, H⟩ := chk_o H
      refine x_sld dL_law_483 (inb_in.mp c117) ?_
      refine x_aload_n dL_law_484 rfl 0 rfl ?_
      refine x_iload_n dL_law_485 rfl 3 rfl ?_
      refine x_iconst (v := 2) dL_law_486 (by decide) ?_
      refine x_iadd dL_law_487 ?_
      obtain ⟨c118, H⟩ := chk_o H
      refine x_sld dL_law_488 (inb_in.mp c118) ?_
      obtain ⟨c129, H⟩ := ko_o H
      obtain ⟨v119, h120, hc121, H⟩ := bd_o H
      refine x_callVi (As := [.int ((gx Γ) (x3 + 1 : Int32).toNatClampNeg), .int ((gx Γ) (x3 + 2 : Int32).toNatClampNeg)]) (q := (RX11, TX11, 17)) dL_law_489 mi_X11_object lk_L_51 im_X11_object se_X11_object rfl c129 rfl rfl (Nat.le_of_ble_eq_true rfl) (t_X11_object (by omega) hc121) ?_
      refine x_aload_n dL_law_492 rfl 2 rfl ?_
      refine x_aload_n dL_law_493 rfl 0 rfl ?_
      refine x_iload_n dL_law_494 rfl 3 rfl ?_
      refine x_iconst (v := 1) dL_law_495 (by decide) ?_
      refine x_iadd dL_law_496 ?_
      obtain ⟨c122, H⟩ := chk_o H
      refine x_sld dL_law_497 (inb_in.mp c122) ?_
      refine x_aload_n dL_law_498 rfl 0 rfl ?_
      refine x_iload_n dL_law_499 rfl 3 rfl ?_
      refine x_iconst (v := 2) dL_law_500 (by decide) ?_
      refine x_iadd dL_law_501 ?_
      obtain ⟨c123, H⟩ := chk_o H
      refine x_sld dL_law_502 (inb_in.mp c123) ?_
      obtain ⟨c128, H⟩ := ko_o H
      obtain ⟨v124, h125, hc126, H⟩ := bd_o H
      refine x_callVi (As := [.int ((gx Γ) (x3 + 1 : Int32).toNatClampNeg), .int ((gx Γ) (x3 + 2 : Int32).toNatClampNeg)]) (q := (RX12, TX12, 103)) dL_law_503 mi_X12_object lk_L_54 im_X12_object se_X12_object rfl c128 rfl rfl (Nat.le_of_ble_eq_true rfl) (t_X12_object (by omega) hc126) ?_
      refine x_icmp_eq (tgt := 1477) dL_law_506 (by decide) (fun c127 => ?_) (fun c127 => ?_)
      · replace H := ite_p H c127
        exact t_L_law_1477 hd hk18 H
      · replace H := ite_m H c127
        refine x_iconst (v := 0) dL_law_509 (by decide) ?_
        exact absurd (so_1 H).1 (by decide)
    replace H := ite_m H c116
    by_cases c130 : (((gx Γ) x3.toNatClampNeg) &&& 63) = 9
    · replace H := ite_p H c130
      refine x_tableIn (tgt := 511) dL_law_33 (by rw [c130]; decide) (by rw [c130]; decide) (by rw [c130]; rfl) (by decide) ?_
      refine x_aload_n dL_law_511 rfl 1 rfl ?_
      refine x_aload_n dL_law_512 rfl 0 rfl ?_
      refine x_iload_n dL_law_513 rfl 3 rfl ?_
      refine x_iconst (v := 1) dL_law_514 (by decide) ?_
      refine x_iadd dL_law_515 ?_
      obtain ⟨c131, H⟩ := chk_o H
      refine x_sld dL_law_516 (inb_in.mp c131) ?_
      refine x_aload_n dL_law_517 rfl 0 rfl ?_
      refine x_iload_n dL_law_518 rfl 3 rfl ?_
      refine x_iconst (v := 2) dL_law_519 (by decide) ?_
      refine x_iadd dL_law_520 ?_
      obtain ⟨c132, H⟩ := chk_o H
      refine x_sld dL_law_521 (inb_in.mp c132) ?_
      obtain ⟨c143, H⟩ := ko_o H
      obtain ⟨v133, h134, hc135, H⟩ := bd_o H
      refine x_callVi (As := [.int ((gx Γ) (x3 + 1 : Int32).toNatClampNeg), .int ((gx Γ) (x3 + 2 : Int32).toNatClampNeg)]) (q := (RX11, TX11, 17)) dL_law_522 mi_X11_hole lk_L_55 im_X11_hole se_X11_hole rfl c143 rfl rfl (Nat.le_of_ble_eq_true rfl) (t_X11_hole (by omega) hc135) ?_
      refine x_aload_n dL_law_525 rfl 2 rfl ?_
      refine x_aload_n dL_law_526 rfl 0 rfl ?_
      refine x_iload_n dL_law_527 rfl 3 rfl ?_
      refine x_iconst (v := 1) dL_law_528 (by decide) ?_
      refine x_iadd dL_law_529 ?_
      obtain ⟨c136, H⟩ := chk_o H
      refine x_sld dL_law_530 (inb_in.mp c136) ?_
      refine x_aload_n dL_law_531 rfl 0 rfl ?_
      refine x_iload_n dL_law_532 rfl 3 rfl ?_
      refine x_iconst (v := 2) dL_law_533 (by decide) ?_
      refine x_iadd dL_law_534 ?_
      obtain ⟨c137, H⟩ := chk_o H
      refine x_sld dL_law_535 (inb_in.mp c137) ?_
      obtain ⟨c142, H⟩ := ko_o H
      obtain ⟨v138, h139, hc140, H⟩ := bd_o H
      refine x_callVi (As := [.int ((gx Γ) (x3 + 1 : Int32).toNatClampNeg), .int ((gx Γ) (x3 + 2 : Int32).toNatClampNeg)]) (q := (RX12, TX12, 103)) dL_law_536 mi_X12_hole lk_L_58 im_X12_hole se_X12_hole rfl c142 rfl rfl (Nat.le_of_ble_eq_true rfl) (t_X12_hole (by omega) hc140) ?_
      refine x_icmp_eq (tgt := 1477) dL_law_539 (by decide) (fun c141 => ?_) (fun c141 => ?_)
      · replace H := ite_p H c141
        exact t_L_law_1477 hd hk18 H
      · replace H := ite_m H c141
        refine x_iconst (v := 0) dL_law_542 (by decide) ?_
        exact absurd (so_1 H).1 (by decide)
    replace H := ite_m H c130
    by_cases c144 : (((gx Γ) x3.toNatClampNeg) &&& 63) = 10
    · replace H := ite_p H c144
      refine x_tableIn (tgt := 544) dL_law_33 (by rw [c144]; decide) (by rw [c144]; decide) (by rw [c144]; rfl) (by decide) ?_
      refine x_aload_n dL_law_544 rfl 1 rfl ?_
      refine x_aload_n dL_law_545 rfl 0 rfl ?_
      refine x_iload_n dL_law_546 rfl 3 rfl ?_
      refine x_iconst (v := 1) dL_law_547 (by decide) ?_
      refine x_iadd dL_law_548 ?_
      obtain ⟨c145, H⟩ := chk_o H
      refine x_sld dL_law_549 (inb_in.mp c145) ?_
      obtain ⟨c155, H⟩ := ko_o H
      obtain ⟨v146, h147, hc148, H⟩ := bd_o H
      refine x_callVi (As := [.int ((gx Γ) (x3 + 1 : Int32).toNatClampNeg)]) (q := (RX11, TX11, 17)) dL_law_550 mi_X11_octetAt lk_L_59 im_X11_octetAt se_X11_octetAt rfl c155 rfl rfl (Nat.le_of_ble_eq_true rfl) (t_X11_octetAt (by omega) hc148) ?_
      refine x_aload_n dL_law_553 rfl 2 rfl ?_
      refine x_aload_n dL_law_554 rfl 0 rfl ?_
      refine x_iload_n dL_law_555 rfl 3 rfl ?_
      refine x_iconst (v := 1) dL_law_556 (by decide) ?_
      refine x_iadd dL_law_557 ?_
      obtain ⟨c149, H⟩ := chk_o H
      refine x_sld dL_law_558 (inb_in.mp c149) ?_
      obtain ⟨c154, H⟩ := ko_o H
      obtain ⟨v150, h151, hc152, H⟩ := bd_o H
      refine x_callVi (As := [.int ((gx Γ) (x3 + 1 : Int32).toNatClampNeg)]) (q := (RX12, TX12, 103)) dL_law_559 mi_X12_octetAt lk_L_62 im_X12_octetAt se_X12_octetAt rfl c154 rfl rfl (Nat.le_of_ble_eq_true rfl) (t_X12_octetAt (by omega) hc152) ?_
      refine x_icmp_eq (tgt := 1477) dL_law_562 (by decide) (fun c153 => ?_) (fun c153 => ?_)
      · replace H := ite_p H c153
        exact t_L_law_1477 hd hk18 H
      · replace H := ite_m H c153
        refine x_iconst (v := 0) dL_law_565 (by decide) ?_
        exact absurd (so_1 H).1 (by decide)
    replace H := ite_m H c144
    by_cases c156 : (((gx Γ) x3.toNatClampNeg) &&& 63) = 11
    · replace H := ite_p H c156
      refine x_tableIn (tgt := 567) dL_law_33 (by rw [c156]; decide) (by rw [c156]; decide) (by rw [c156]; rfl) (by decide) ?_
      refine x_aload_n dL_law_567 rfl 1 rfl ?_
      refine x_aload_n dL_law_568 rfl 0 rfl ?_
      refine x_iload_n dL_law_569 rfl 3 rfl ?_
      refine x_iconst (v := 1) dL_law_570 (by decide) ?_
      refine x_iadd dL_law_571 ?_
      obtain ⟨c157, H⟩ := chk_o H
      refine x_sld dL_law_572 (inb_in.mp c157) ?_
      refine x_aload_n dL_law_573 rfl 0 rfl ?_
      refine x_iload_n dL_law_574 rfl 3 rfl ?_
      refine x_iconst (v := 2) dL_law_575 (by decide) ?_
      refine x_iadd dL_law_576 ?_
      obtain ⟨c158, H⟩ := chk_o H
      refine x_sld dL_law_577 (inb_in.mp c158) ?_
      obtain ⟨c169, H⟩ := ko_o H
      obtain ⟨v159, h160, hc161, H⟩ := bd_o H
      refine x_callVi (As := [.int ((gx Γ) (x3 + 1 : Int32).toNatClampNeg), .int ((gx Γ) (x3 + 2 : Int32).toNatClampNeg)]) (q := (RX11, TX11, 17)) dL_law_578 mi_X11_kept lk_L_63 im_X11_kept se_X11_kept rfl c169 rfl rfl (Nat.le_of_ble_eq_true rfl) (t_X11_kept (by omega) hc161) ?_
      refine x_aload_n dL_law_581 rfl 2 rfl ?_
      refine x_aload_n dL_law_582 rfl 0 rfl ?_
      refine x_iload_n dL_law_583 rfl 3 rfl ?_
      refine x_iconst (v := 1) dL_law_584 (by decide) ?_
      refine x_iadd dL_law_585 ?_
      obtain ⟨c162, H⟩ := chk_o H
      refine x_sld dL_law_586 (inb_in.mp c162) ?_
      refine x_aload_n dL_law_587 rfl 0 rfl ?_
      refine x_iload_n dL_law_588 rfl 3 rfl ?_
      refine x_iconst (v := 2) dL_law_589 (by decide) ?_
      refine x_iadd dL_law_590 ?_
      obtain ⟨c163, H⟩ := chk_o H
      refine x_sld dL_law_591 (inb_in.mp c163) ?_
      obtain ⟨c168, H⟩ := ko_o H
      obtain ⟨v164, h165, hc166, H⟩ := bd_o H
      refine x_callVi (As := [.int ((gx Γ) (x3 + 1 : Int32).toNatClampNeg), .int ((gx Γ) (x3 + 2 : Int32).toNatClampNeg)]) (q := (RX12, TX12, 103)) dL_law_592 mi_X12_kept lk_L_66 im_X12_kept se_X12_kept rfl c168 rfl rfl (Nat.le_of_ble_eq_true rfl) (t_X12_kept (by omega) hc166) ?_
      refine x_icmp_eq (tgt := 1477) dL_law_595 (by decide) (fun c167 => ?_) (fun c167 => ?_)
      · replace H := ite_p H c167
        exact t_L_law_1477 hd hk18 H
      · replace H := ite_m H c167
        refine x_iconst (v := 0) dL_law_598 (by decide) ?_
        exact absurd (so_1 H).1 (by decide)
    replace H := ite_m H c156
    by_cases c170 : (((gx Γ) x3.toNatClampNeg) &&& 63) = 12
    · replace H := ite_p H c170
      refine x_tableIn (tgt := 600) dL_law_33 (by rw [c170]; decide) (by rw [c170]; decide) (by rw [c170]; rfl) (by decide) ?_
      refine x_aload_n dL_law_600 rfl 1 rfl ?_
      refine x_aload_n dL_law_601 rfl 0 rfl ?_
      refine x_iload_n dL_law_602 rfl 3 rfl ?_
      refine x_iconst (v := 1) dL_law_603 (by decide) ?_
      refine x_iadd dL_law_604 ?_
      obtain ⟨c171, H⟩ := chk_o H
      refine x_sld dL_law_605 (inb_in.mp c171) ?_
      refine x_aload_n dL_law_606 rfl 0 rfl ?_
      refine x_iload_n dL_law_607 rfl 3 rfl ?_
      refine x_iconst (v := 2) dL_law_608 (by decide) ?_
      refine x_iadd dL_law_609 ?_
      obtain ⟨c172, H⟩ := chk_o H
      refine x_sld dL_law_610 (inb_in.mp c172) ?_
      refine x_aload_n dL_law_611 rfl 0 rfl ?_
      refine x_iload_n dL_law_612 rfl 3 rfl ?_
      refine x_iconst (v := 3) dL_law_613 (by decide) ?_
      refine x_iadd dL_law_614 ?_
      obtain ⟨c173, H⟩ := chk_o H
      refine x_sld dL_law_615 (inb_in.mp c173) ?_
      obtain ⟨c185, H⟩ := ko_o H
      obtain ⟨v174, h175, hc176, H⟩ := bd_o H
      refine x_callVi (As := [.int ((gx Γ) (x3 + 1 : Int32).toNatClampNeg), .int ((gx Γ) (x3 + 2 : Int32).toNatClampNeg), .int ((gx Γ) (x3 + 3 : Int32).toNatClampNeg)]) (q := (RX11, TX11, 17)) dL_law_616 mi_X11_rounds lk_L_67 im_X11_rounds se_X11_rounds rfl c185 rfl rfl (Nat.le_of_ble_eq_true rfl) (t_X11_rounds (by omega) hc176) ?_
      refine x_aload_n dL_law_619 rfl 2 rfl ?_
      refine x_aload_n dL_law_620 rfl 0 rfl ?_
      refine x_iload_n dL_law_621 rfl 3 rfl ?_
      refine x_iconst (v := 1) dL_law_622 (by decide) ?_
      refine x_iadd dL_law_623 ?_
      obtain ⟨c177, H⟩ := chk_o H
      refine x_sld dL_law_624 (inb_in.mp c177) ?_
      refine x_aload_n dL_law_625 rfl 0 rfl ?_
      refine x_iload_n dL_law_626 rfl 3 rfl ?_
      refine x_iconst (v := 2) dL_law_627 (by decide) ?_
      refine x_iadd dL_law_628 ?_
      obtain ⟨c178, H⟩ := chk_o H
      refine x_sld dL_law_629 (inb_in.mp c178) ?_
      refine x_aload_n dL_law_630 rfl 0 rfl ?_
      refine x_iload_n dL_law_631 rfl 3 rfl ?_
      refine x_iconst (v := 3) dL_law_632 (by decide) ?_
      refine x_iadd dL_law_633 ?_
      obtain ⟨c179, H⟩ := chk_o H
      refine x_sld dL_law_634 (inb_in.mp c179) ?_
      obtain ⟨c184, H⟩ := ko_o H
      obtain ⟨v180, h181, hc182, H⟩ := bd_o H
      refine x_callVi (As := [.int ((gx Γ) (x3 + 1 : Int32).toNatClampNeg), .int ((gx Γ) (x3 + 2 : Int32).toNatClampNeg), .int ((gx Γ) (x3 + 3 : Int32).toNatClampNeg)]) (q := (RX12, TX12, 103)) dL_law_635 mi_X12_rounds lk_L_70 im_X12_rounds se_X12_rounds rfl c184 rfl rfl (Nat.le_of_ble_eq_true rfl) (t_X12_rounds (by omega) hc182) ?_
      refine x_icmp_eq (tgt := 1477) dL_law_638 (by decide) (fun c183 => ?_) (fun c183 => ?_)
      · replace H := ite_p H c183
        exact t_L_law_1477 hd hk18 H
      · replace H := ite_m H c183
        refine x_iconst (v := 0) dL_law_641 (by decide) ?_
        exact absurd (so_1 H).1 (by decide)
    replace H := ite_m H c170
    by_cases c186 : (((gx Γ) x3.toNatClampNeg) &&& 63) = 13
    · replace H := ite_p H c186
      refine x_tableIn (tgt := 643) dL_law_33 (by rw [c186]; decide) (by rw [c186]; decide) (by rw [c186]; rfl) (by decide) ?_
      refine x_aload_n dL_law_643 rfl 1 rfl ?_
      refine x_aload_n dL_law_644 rfl 0 rfl ?_
      refine x_iload_n dL_law_645 rfl 3 rfl ?_
      refine x_iconst (v := 1) dL_law_646 (by decide) ?_
      refine x_iadd dL_law_647 ?_
      obtain ⟨c187, H⟩ := chk_o H
      refine x_sld dL_law_648 (inb_in.mp c187) ?_
      refine x_aload_n dL_law_649 rfl 0 rfl ?_
      refine x_iload_n dL_law_650 rfl 3 rfl ?_
      refine x_iconst (v := 2) dL_law_651 (by decide) ?_
      refine x_iadd dL_law_652 ?_
      obtain ⟨c188, H⟩ := chk_o H
      refine x_sld dL_law_653 (inb_in.mp c188) ?_
      obtain ⟨c199, H⟩ := ko_o H
      obtain ⟨v189, h190, hc191, H⟩ := bd_o H
      refine x_callVi (As := [.int ((gx Γ) (x3 + 1 : Int32).toNatClampNeg), .int ((gx Γ) (x3 + 2 : Int32).toNatClampNeg)]) (q := (RX11, TX11, 17)) dL_law_654 mi_X11_exact lk_L_71 im_X11_exact se_X11_exact rfl c199 rfl rfl (Nat.le_of_ble_eq_true rfl) (t_X11_exact (by omega) hc191) ?_
      refine x_aload_n dL_law_657 rfl 2 rfl ?_
      refine x_aload_n dL_law_658 rfl 0 rfl ?_
      refine x_iload_n dL_law_659 rfl 3 rfl ?_
      refine x_iconst (v := 1) dL_law_660 (by decide) ?_
      refine x_iadd dL_law_661 ?_
      obtain ⟨c192, H⟩ := chk_o H
      refine x_sld dL_law_662 (inb_in.mp c192) ?_
      refine x_aload_n dL_law_663 rfl 0 rfl ?_
      refine x_iload_n dL_law_664 rfl 3 rfl ?_
      refine x_iconst (v := 2) dL_law_665 (by decide) ?_
      refine x_iadd dL_law_666 ?_
      obtain ⟨c193, H⟩ := chk_o H
      refine x_sld dL_law_667 (inb_in.mp c193) ?_
      obtain ⟨c198, H⟩ := ko_o H
      obtain ⟨v194, h195, hc196, H⟩ := bd_o H
      refine x_callVi (As := [.int ((gx Γ) (x3 + 1 : Int32).toNatClampNeg), .int ((gx Γ) (x3 + 2 : Int32).toNatClampNeg)]) (q := (RX12, TX12, 103)) dL_law_668 mi_X12_exact lk_L_74 im_X12_exact se_X12_exact rfl c198 rfl rfl (Nat.le_of_ble_eq_true rfl) (t_X12_exact (by omega) hc196) ?_
      refine x_icmp_eq (tgt := 1477) dL_law_671 (by decide) (fun c197 => ?_) (fun c197 => ?_)
      · replace H := ite_p H c197
        exact t_L_law_1477 hd hk18 H
      · replace H := ite_m H c197
        refine x_iconst (v := 0) dL_law_674 (by decide) ?_
        exact absurd (so_1 H).1 (by decide)
    replace H := ite_m H c186
    by_cases c200 : (((gx Γ) x3.toNatClampNeg) &&& 63) = 14
    · replace H := ite_p H c200
      refine x_tableIn (tgt := 676) dL_law_33 (by rw [c200]; decide) (by rw [c200]; decide) (by rw [c200]; rfl) (by decide) ?_
      refine x_aload_n dL_law_676 rfl 1 rfl ?_
      refine x_aload_n dL_law_677 rfl 0 rfl ?_
      refine x_iload_n dL_law_678 rfl 3 rfl ?_
      refine x_iconst (v := 1) dL_law_679 (by decide) ?_
      refine x_iadd dL_law_680 ?_
      obtain ⟨c201, H⟩ := chk_o H
      refine x_sld dL_law_681 (inb_in.mp c201) ?_
      refine x_aload_n dL_law_682 rfl 0 rfl ?_
      refine x_iload_n dL_law_683 rfl 3 rfl ?_
      refine x_iconst (v := 2) dL_law_684 (by decide) ?_
      refine x_iadd dL_law_685 ?_
      obtain ⟨c202, H⟩ := chk_o H
      refine x_sld dL_law_686 (inb_in.mp c202) ?_
      obtain ⟨c213, H⟩ := ko_o H
      obtain ⟨v203, h204, hc205, H⟩ := bd_o H
      refine x_callVi (As := [.int ((gx Γ) (x3 + 1 : Int32).toNatClampNeg), .int ((gx Γ) (x3 + 2 : Int32).toNatClampNeg)]) (q := (RX11, TX11, 17)) dL_law_687 mi_X11_fits lk_L_75 im_X11_fits se_X11_fits rfl c213 rfl rfl (Nat.le_of_ble_eq_true rfl) (t_X11_fits (by omega) hc205) ?_
      refine x_aload_n dL_law_690 rfl 2 rfl ?_
      refine x_aload_n dL_law_691 rfl 0 rfl ?_
      refine x_iload_n dL_law_692 rfl 3 rfl ?_
      refine x_iconst (v := 1) dL_law_693 (by decide) ?_
      refine x_iadd dL_law_694 ?_
      obtain ⟨c206, H⟩ := chk_o H
      refine x_sld dL_law_695 (inb_in.mp c206) ?_
      refine x_aload_n dL_law_696 rfl 0 rfl ?_
      refine x_iload_n dL_law_697 rfl 3 rfl ?_
      refine x_iconst (v := 2) dL_law_698 (by decide) ?_
      refine x_iadd dL_law_699 ?_
      obtain ⟨c207, H⟩ := chk_o H
      refine x_sld dL_law_700 (inb_in.mp c207) ?_
      obtain ⟨c212, H⟩ := ko_o H
      obtain ⟨v208, h209, hc210, H⟩ := bd_o H
      refine x_callVi (As := [.int ((gx Γ) (x3 + 1 : Int32).toNatClampNeg), .int ((gx Γ) (x3 + 2 : Int32).toNatClampNeg)]) (q := (RX12, TX12, 103)) dL_law_701 mi_X12_fits lk_L_78 im_X12_fits se_X12_fits rfl c212 rfl rfl (Nat.le_of_ble_eq_true rfl) (t_X12_fits (by omega) hc210) ?_
      refine x_icmp_eq (tgt := 1477) dL_law_704 (by decide) (fun c211 => ?_) (fun c211 => ?_)
      · replace H := ite_p H c211
        exact t_L_law_1477 hd hk18 H
      · replace H := ite_m H c211
        refine x_iconst (v := 0) dL_law_707 (by decide) ?_
        exact absurd (so_1 H).1 (by decide)
    replace H := ite_m H c200
    by_cases c214 : (((gx Γ) x3.toNatClampNeg) &&& 63) = 15
    · replace H := ite_p H c214
      refine x_tableIn (tgt := 709) dL_law_33 (by rw [c214]; decide) (by rw [c214]; decide) (by rw [c214]; rfl) (by decide) ?_
      refine x_aload_n dL_law_709 rfl 1 rfl ?_
      refine x_aload_n dL_law_710 rfl 0 rfl ?_
      refine x_iload_n dL_law_711 rfl 3 rfl ?_
      refine x_iconst (v := 1) dL_law_712 (by decide) ?_
      refine x_iadd dL_law_713 ?_
      obtain ⟨c215, H⟩ := chk_o H
      refine x_sld dL_law_714 (inb_in.mp c215) ?_
      refine x_aload_n dL_law_715 rfl 0 rfl ?_
      refine x_iload_n dL_law_716 rfl 3 rfl ?_
      refine x_iconst (v := 2) dL_law_717 (by decide) ?_
      refine x_iadd dL_law_718 ?_
      obtain ⟨c216, H⟩ := chk_o H
      refine x_sld dL_law_719 (inb_in.mp c216) ?_
      obtain ⟨c227, H⟩ := ko_o H
      obtain ⟨v217, h218, hc219, H⟩ := bd_o H
      refine x_callVi (As := [.int ((gx Γ) (x3 + 1 : Int32).toNatClampNeg), .int ((gx Γ) (x3 + 2 : Int32).toNatClampNeg)]) (q := (RX11, TX11, 17)) dL_law_720 mi_X11_quick lk_L_79 im_X11_quick se_X11_quick rfl c227 rfl rfl (Nat.le_of_ble_eq_true rfl) (t_X11_quick (by omega) hc219) ?_
      refine x_aload_n dL_law_723 rfl 2 rfl ?_
      refine x_aload_n dL_law_724 rfl 0 rfl ?_
      refine x_iload_n dL_law_725 rfl 3 rfl ?_
      refine x_iconst (v := 1) dL_law_726 (by decide) ?_
      refine x_iadd dL_law_727 ?_
      obtain ⟨c220, H⟩ := chk_o H
      refine x_sld dL_law_728 (inb_in.mp c220) ?_
      refine x_aload_n dL_law_729 rfl 0 rfl ?_
      refine x_iload_n dL_law_730 rfl 3 rfl ?_
      refine x_iconst (v := 2) dL_law_731 (by decide) ?_
      refine x_iadd dL_law_732 ?_
      obtain ⟨c221, H⟩ := chk_o H
      refine x_sld dL_law_733 (inb_in.mp c221) ?_
      obtain ⟨c226, H⟩ := ko_o H
      obtain ⟨v222, h223, hc224, H⟩ := bd_o H
      refine x_callVi (As := [.int ((gx Γ) (x3 + 1 : Int32).toNatClampNeg), .int ((gx Γ) (x3 + 2 : Int32).toNatClampNeg)]) (q := (RX12, TX12, 103)) dL_law_734 mi_X12_quick lk_L_82 im_X12_quick se_X12_quick rfl c226 rfl rfl (Nat.le_of_ble_eq_true rfl) (t_X12_quick (by omega) hc224) ?_
      refine x_icmp_eq (tgt := 1477) dL_law_737 (by decide) (fun c225 => ?_) (fun c225 => ?_)
      · replace H := ite_p H c225
        exact t_L_law_1477 hd hk18 H
      · replace H := ite_m H c225
        refine x_iconst (v := 0) dL_law_740 (by decide) ?_
        exact absurd (so_1 H).1 (by decide)
    replace H := ite_m H c214
    by_cases c228 : (((gx Γ) x3.toNatClampNeg) &&& 63) = 16
    · replace H := ite_p H c228
      refine x_tableIn (tgt := 742) dL_law_33 (by rw [c228]; decide) (by rw [c228]; decide) (by rw [c228]; rfl) (by decide) ?_
      refine x_aload_n dL_law_742 rfl 1 rfl ?_
      refine x_aload_n dL_law_743 rfl 0 rfl ?_
      refine x_iload_n dL_law_744 rfl 3 rfl ?_
      refine x_iconst (v := 1) dL_law_745 (by decide) ?_
      refine x_iadd dL_law_746 ?_
      obtain ⟨c229, H⟩ := chk_o H
      refine x_sld dL_law_747 (inb_in.mp c229) ?_
      refine x_aload_n dL_law_748 rfl 0 rfl ?_
      refine x_iload_n dL_law_749 rfl 3 rfl ?_
      refine x_iconst (v := 2) dL_law_750 (by decide) ?_
      refine x_iadd dL_law_751 ?_
      obtain ⟨c230, H⟩ := chk_o H
      refine x_sld dL_law_752 (inb_in.mp c230) ?_
      obtain ⟨c241, H⟩ := ko_o H
      obtain ⟨v231, h232, hc233, H⟩ := bd_o H
      refine x_callVi (As := [.int ((gx Γ) (x3 + 1 : Int32).toNatClampNeg), .int ((gx Γ) (x3 + 2 : Int32).toNatClampNeg)]) (q := (RX11, TX11, 17)) dL_law_753 mi_X11_window lk_L_83 im_X11_window se_X11_window rfl c241 rfl rfl (Nat.le_of_ble_eq_true rfl) (t_X11_window (by omega) hc233) ?_
      refine x_aload_n dL_law_756 rfl 2 rfl ?_
      refine x_aload_n dL_law_757 rfl 0 rfl ?_
      refine x_iload_n dL_law_758 rfl 3 rfl ?_
      refine x_iconst (v := 1) dL_law_759 (by decide) ?_
      refine x_iadd dL_law_760 ?_
      obtain ⟨c234, H⟩ := chk_o H
      refine x_sld dL_law_761 (inb_in.mp c234) ?_
      refine x_aload_n dL_law_762 rfl 0 rfl ?_
      refine x_iload_n dL_law_763 rfl 3 rfl ?_
      refine x_iconst (v := 2) dL_law_764 (by decide) ?_
      refine x_iadd dL_law_765 ?_
      obtain ⟨c235, H⟩ := chk_o H
      refine x_sld dL_law_766 (inb_in.mp c235) ?_
      obtain ⟨c240, H⟩ := ko_o H
      obtain ⟨v236, h237, hc238, H⟩ := bd_o H
      refine x_callVi (As := [.int ((gx Γ) (x3 + 1 : Int32).toNatClampNeg), .int ((gx Γ) (x3 + 2 : Int32).toNatClampNeg)]) (q := (RX12, TX12, 103)) dL_law_767 mi_X12_window lk_L_86 im_X12_window se_X12_window rfl c240 rfl rfl (Nat.le_of_ble_eq_true rfl) (t_X12_window (by omega) hc238) ?_
      refine x_icmp_eq (tgt := 1477) dL_law_770 (by decide) (fun c239 => ?_) (fun c239 => ?_)
      · replace H := ite_p H c239
        exact t_L_law_1477 hd hk18 H
      · replace H := ite_m H c239
        refine x_iconst (v := 0) dL_law_773 (by decide) ?_
        exact absurd (so_1 H).1 (by decide)
    replace H := ite_m H c228
    by_cases c242 : (((gx Γ) x3.toNatClampNeg) &&& 63) = 17
    · replace H := ite_p H c242
      refine x_tableIn (tgt := 775) dL_law_33 (by rw [c242]; decide) (by rw [c242]; decide) (by rw [c242]; rfl) (by decide) ?_
      refine x_aload_n dL_law_775 rfl 1 rfl ?_
      refine x_aload_n dL_law_776 rfl 0 rfl ?_
      refine x_iload_n dL_law_777 rfl 3 rfl ?_
      refine x_iconst (v := 1) dL_law_778 (by decide) ?_
      refine x_iadd dL_law_779 ?_
      obtain ⟨c243, H⟩ := chk_o H
      refine x_sld dL_law_780 (inb_in.mp c243) ?_
      obtain ⟨c253, H⟩ := ko_o H
      obtain ⟨v244, h245, hc246, H⟩ := bd_o H
      refine x_callVi (As := [.int ((gx Γ) (x3 + 1 : Int32).toNatClampNeg)]) (q := (RX11, TX11, 17)) dL_law_781 mi_X11_reachers lk_L_87 im_X11_reachers se_X11_reachers rfl c253 rfl rfl (Nat.le_of_ble_eq_true rfl) (t_X11_reachers (by omega) hc246) ?_
      refine x_aload_n dL_law_784 rfl 2 rfl ?_
      refine x_aload_n dL_law_785 rfl 0 rfl ?_
      refine x_iload_n dL_law_786 rfl 3 rfl ?_
      refine x_iconst (v := 1) dL_law_787 (by decide) ?_
      refine x_iadd dL_law_788 ?_
      obtain ⟨c247, H⟩ := chk_o H
      refine x_sld dL_law_789 (inb_in.mp c247) ?_
      obtain ⟨c252, H⟩ := ko_o H
      obtain ⟨v248, h249, hc250, H⟩ := bd_o H
      refine x_callVi (As := [.int ((gx Γ) (x3 + 1 : Int32).toNatClampNeg)]) (q := (RX12, TX12, 103)) dL_law_790 mi_X12_reachers lk_L_90 im_X12_reachers se_X12_reachers rfl c252 rfl rfl (Nat.le_of_ble_eq_true rfl) (t_X12_reachers (by omega) hc250) ?_
      refine x_icmp_eq (tgt := 1477) dL_law_793 (by decide) (fun c251 => ?_) (fun c251 => ?_)
      · replace H := ite_p H c251
        exact t_L_law_1477 hd hk18 H
      · replace H := ite_m H c251
        refine x_iconst (v := 0) dL_law_796 (by decide) ?_
        exact absurd (so_1 H).1 (by decide)
    replace H := ite_m H c242
    by_cases c254 : (((gx Γ) x3.toNatClampNeg) &&& 63) = 18
    · replace H := ite_p H c254
      refine x_tableIn (tgt := 798) dL_law_33 (by rw [c254]; decide) (by rw [c254]; decide) (by rw [c254]; rfl) (by decide) ?_
      refine x_aload_n dL_law_798 rfl 1 rfl ?_
      refine x_aload_n dL_law_799 rfl 0 rfl ?_
      refine x_iload_n dL_law_800 rfl 3 rfl ?_
      refine x_iconst (v := 1) dL_law_801 (by decide) ?_
      refine x_iadd dL_law_802 ?_
      obtain ⟨c255, H⟩ := chk_o H
      refine x_sld dL_law_803 (inb_in.mp c255) ?_
      obtain ⟨c265, H⟩ := ko_o H
      obtain ⟨v256, h257, hc258, H⟩ := bd_o H
      refine x_callVi (As := [.int ((gx Γ) (x3 + 1 : Int32).toNatClampNeg)]) (q := (RX11, TX11, 17)) dL_law_804 mi_X11_room lk_L_91 im_X11_room se_X11_room rfl c265 rfl rfl (Nat.le_of_ble_eq_true rfl) (t_X11_room (by omega) hc258) ?_
      refine x_aload_n dL_law_807 rfl 2 rfl ?_
      refine x_aload_n dL_law_808 rfl 0 rfl ?_
      refine x_iload_n dL_law_809 rfl 3 rfl ?_
      refine x_iconst (v := 1) dL_law_810 (by decide) ?_
      refine x_iadd dL_law_811 ?_
      obtain ⟨c259, H⟩ := chk_o H
      refine x_sld dL_law_812 (inb_in.mp c259) ?_
      obtain ⟨c264, H⟩ := ko_o H
      obtain ⟨v260, h261, hc262, H⟩ := bd_o H
      refine x_callVi (As := [.int ((gx Γ) (x3 + 1 : Int32).toNatClampNeg)]) (q := (RX12, TX12, 103)) dL_law_813 mi_X12_room lk_L_94 im_X12_room se_X12_room rfl c264 rfl rfl (Nat.le_of_ble_eq_true rfl) (t_X12_room (by omega) hc262) ?_
      refine x_icmp_eq (tgt := 1477) dL_law_816 (by decide) (fun c263 => ?_) (fun c263 => ?_)
      · replace H := ite_p H c263
        exact t_L_law_1477 hd hk18 H
      · replace H := ite_m H c263
        refine x_iconst (v := 0) dL_law_819 (by decide) ?_
        exact absurd (so_1 H).1 (by decide)
    replace H := ite_m H c254
    by_cases c266 : (((gx Γ) x3.toNatClampNeg) &&& 63) = 19
    · replace H := ite_p H c266
      refine x_tableIn (tgt := 821) dL_law_33 (by rw [c266]; decide) (by rw [c266]; decide) (by rw [c266]; rfl) (by decide) ?_
      refine x_aload_n dL_law_821 rfl 1 rfl ?_
      obtain ⟨c275, H⟩ := ko_o H
      obtain ⟨v267, h268, hc269, H⟩ := bd_o H
      refine x_callVi (As := []) (q := (RX11, TX11, 17)) dL_law_822 mi_X11_odds lk_L_95 im_X11_odds se_X11_odds rfl c275 rfl rfl (Nat.le_of_ble_eq_true rfl) (t_X11_odds (by omega) hc269) ?_
      refine x_aload_n dL_law_825 rfl 2 rfl ?_
      obtain ⟨c274, H⟩ := ko_o H
      obtain ⟨v270, h271, hc272, H⟩ := bd_o H
      refine x_callVi (As := []) (q := (RX12, TX12, 103)) dL_law_826 mi_X12_odds lk_L_98 im_X12_odds se_X12_odds rfl c274 rfl rfl (Nat.le_of_ble_eq_true rfl) (t_X12_odds (by omega) hc272) ?_
      refine x_icmp_eq (tgt := 1477) dL_law_829 (by decide) (fun c273 => ?_) (fun c273 => ?_)
      · replace H := ite_p H c273
        exact t_L_law_1477 hd hk18 H
      · replace H := ite_m H c273
        refine x_iconst (v := 0) dL_law_832 (by decide) ?_
        exact absurd (so_1 H).1 (by decide)
    replace H := ite_m H c266
    by_cases c276 : (((gx Γ) x3.toNatClampNeg) &&& 63) = 20
    · replace H := ite_p H c276
      refine x_tableIn (tgt := 834) dL_law_33 (by rw [c276]; decide) (by rw [c276]; decide) (by rw [c276]; rfl) (by decide) ?_
      refine x_aload_n dL_law_834 rfl 1 rfl ?_
      refine x_aload_n dL_law_835 rfl 0 rfl ?_
      refine x_iload_n dL_law_836 rfl 3 rfl ?_
      refine x_iconst (v := 1) dL_law_837 (by decide) ?_
      refine x_iadd dL_law_838 ?_
      obtain ⟨c277, H⟩ := chk_o H
      refine x_sld dL_law_839 (inb_in.mp c277) ?_
      obtain ⟨c287, H⟩ := ko_o H
      obtain ⟨v278, h279, hc280, H⟩ := bd_o H
      refine x_callVi (As := [.int ((gx Γ) (x3 + 1 : Int32).toNatClampNeg)]) (q := (RX11, TX11, 17)) dL_law_840 mi_X11_share lk_L_99 im_X11_share se_X11_share rfl c287 rfl rfl (Nat.le_of_ble_eq_true rfl) (t_X11_share (by omega) hc280) ?_
      refine x_aload_n dL_law_843 rfl 2 rfl ?_
      refine x_aload_n dL_law_844 rfl 0 rfl ?_
      refine x_iload_n dL_law_845 rfl 3 rfl ?_
      refine x_iconst (v := 1) dL_law_846 (by decide) ?_
      refine x_iadd dL_law_847 ?_
      obtain ⟨c281, H⟩ := chk_o H
      refine x_sld dL_law_848 (inb_in.mp c281) ?_
      obtain ⟨c286, H⟩ := ko_o H
      obtain ⟨v282, h283, hc284, H⟩ := bd_o H
      refine x_callVi (As := [.int ((gx Γ) (x3 + 1 : Int32).toNatClampNeg)]) (q := (RX12, TX12, 103)) dL_law_849 mi_X12_share lk_L_102 im_X12_share se_X12_share rfl c286 rfl rfl (Nat.le_of_ble_eq_true rfl) (t_X12_share (by omega) hc284) ?_
      refine x_icmp_eq (tgt := 1477) dL_law_852 (by decide) (fun c285 => ?_) (fun c285 => ?_)
      · replace H := ite_p H c285
        exact t_L_law_1477 hd hk18 H
      · replace H := ite_m H c285
        refine x_iconst (v := 0) dL_law_855 (by decide) ?_
        exact absurd (so_1 H).1 (by decide)
    replace H := ite_m H c276
    by_cases c288 : (((gx Γ) x3.toNatClampNeg) &&& 63) = 21
    · replace H := ite_p H c288
      refine x_tableIn (tgt := 857) dL_law_33 (by rw [c288]; decide) (by rw [c288]; decide) (by rw [c288]; rfl) (by decide) ?_
      refine x_aload_n dL_law_857 rfl 1 rfl ?_
      obtain ⟨c297, H⟩ := ko_o H
      obtain ⟨v289, h290, hc291, H⟩ := bd_o H
      refine x_callVi (As := []) (q := (RX11, TX11, 17)) dL_law_858 mi_X11_see lk_L_103 im_X11_see se_X11_see rfl c297 rfl rfl (Nat.le_of_ble_eq_true rfl) (t_X11_see (by omega) hc291) ?_
      refine x_aload_n dL_law_861 rfl 2 rfl ?_
      obtain ⟨c296, H⟩ := ko_o H
      obtain ⟨v292, h293, hc294, H⟩ := bd_o H
      refine x_callVi (As := []) (q := (RX12, TX12, 103)) dL_law_862 mi_X12_see lk_L_106 im_X12_see se_X12_see rfl c296 rfl rfl (Nat.le_of_ble_eq_true rfl) (t_X12_see (by omega) hc294) ?_
      refine x_icmp_eq (tgt := 1477) dL_law_865 (by decide) (fun c295 => ?_) (fun c295 => ?_)
      · replace H := ite_p H c295
        exact t_L_law_1477 hd hk18 H
      · replace H := ite_m H c295
        refine x_iconst (v := 0) dL_law_868 (by decide) ?_
        exact absurd (so_1 H).1 (by decide)
    replace H := ite_m H c288
    by_cases c298 : (((gx Γ) x3.toNatClampNeg) &&& 63) = 22
    · replace H := ite_p H c298
      refine x_tableIn (tgt := 870) dL_law_33 (by rw [c298]; decide) (by rw [c298]; decide) (by rw [c298]; rfl) (by decide) ?_
      refine x_aload_n dL_law_870 rfl 1 rfl ?_
      refine x_aload_n dL_law_871 rfl 0 rfl ?_
      refine x_iload_n dL_law_872 rfl 3 rfl ?_
      refine x_iconst (v := 1) dL_law_873 (by decide) ?_
      refine x_iadd dL_law_874 ?_
      obtain ⟨c299, H⟩ := chk_o H
      refine x_sld dL_law_875 (inb_in.mp c299) ?_
      refine x_aload_n dL_law_876 rfl 0 rfl ?_
      refine x_iload_n dL_law_877 rfl 3 rfl ?_
      refine x_iconst (v := 2) dL_law_878 (by decide) ?_
      refine x_iadd dL_law_879 ?_
      obtain ⟨c300, H⟩ := chk_o H
      refine x_sld dL_law_880 (inb_in.mp c300) ?_
      obtain ⟨c311, H⟩ := ko_o H
      obtain ⟨v301, h302, hc303, H⟩ := bd_o H
      refine x_callVi (As := [.int ((gx Γ) (x3 + 1 : Int32).toNatClampNeg), .int ((gx Γ) (x3 + 2 : Int32).toNatClampNeg)]) (q := (RX11, TX11, 17)) dL_law_881 mi_X11_places lk_L_107 im_X11_places se_X11_places rfl c311 rfl rfl (Nat.le_of_ble_eq_true rfl) (t_X11_places (by omega) hc303) ?_
      refine x_aload_n dL_law_884 rfl 2 rfl ?_
      refine x_aload_n dL_law_885 rfl 0 rfl ?_
      refine x_iload_n dL_law_886 rfl 3 rfl ?_
      refine x_iconst (v := 1) dL_law_887 (by decide) ?_
      refine x_iadd dL_law_888 ?_
      obtain ⟨c304, H⟩ := chk_o H
      refine x_sld dL_law_889 (inb_in.mp c304) ?_
      refine x_aload_n dL_law_890 rfl 0 rfl ?_
      refine x_iload_n dL_law_891 rfl 3 rfl ?_
      refine x_iconst (v := 2) dL_law_892 (by decide) ?_
      refine x_iadd dL_law_893 ?_
      obtain ⟨c305, H⟩ := chk_o H
      refine x_sld dL_law_894 (inb_in.mp c305) ?_
      obtain ⟨c310, H⟩ := ko_o H
      obtain ⟨v306, h307, hc308, H⟩ := bd_o H
      refine x_callVi (As := [.int ((gx Γ) (x3 + 1 : Int32).toNatClampNeg), .int ((gx Γ) (x3 + 2 : Int32).toNatClampNeg)]) (q := (RX12, TX12, 103)) dL_law_895 mi_X12_places lk_L_110 im_X12_places se_X12_places rfl c310 rfl rfl (Nat.le_of_ble_eq_true rfl) (t_X12_places (by omega) hc308) ?_
      refine x_icmp_eq (tgt := 1477) dL_law_898 (by decide) (fun c309 => ?_) (fun c309 => ?_)
      · replace H := ite_p H c309
        exact t_L_law_1477 hd hk18 H
      · replace H := ite_m H c309
        refine x_iconst (v := 0) dL_law_901 (by decide) ?_
        exact absurd (so_1 H).1 (by decide)
    replace H := ite_m H c298
    by_cases c312 : (((gx Γ) x3.toNatClampNeg) &&& 63) = 23
    · replace H := ite_p H c312
      refine x_tableIn (tgt := 903) dL_law_33 (by rw [c312]; decide) (by rw [c312]; decide) (by rw [c312]; rfl) (by decide) ?_
      refine x_aload_n dL_law_903 rfl 1 rfl ?_
      refine x_aload_n dL_law_904 rfl 0 rfl ?_
      refine x_iload_n dL_law_905 rfl 3 rfl ?_
      refine x_iconst (v := 1) dL_law_906 (by decide) ?_
      refine x_iadd dL_law_907 ?_
      obtain ⟨c313, H⟩ := chk_o H
      refine x_sld dL_law_908 (inb_in.mp c313) ?_
      refine x_aload_n dL_law_909 rfl 0 rfl ?_
      refine x_iload_n dL_law_910 rfl 3 rfl ?_
      refine x_iconst (v := 2) dL_law_911 (by decide) ?_
      refine x_iadd dL_law_912 ?_
      obtain ⟨c314, H⟩ := chk_o H
      refine x_sld dL_law_913 (inb_in.mp c314) ?_
      obtain ⟨c325, H⟩ := ko_o H
      obtain ⟨v315, h316, hc317, H⟩ := bd_o H
      refine x_callVi (As := [.int ((gx Γ) (x3 + 1 : Int32).toNatClampNeg), .int ((gx Γ) (x3 + 2 : Int32).toNatClampNeg)]) (q := (RX11, TX11, 17)) dL_law_914 mi_X11_tells lk_L_111 im_X11_tells se_X11_tells rfl c325 rfl rfl (Nat.le_of_ble_eq_true rfl) (t_X11_tells (by omega) hc317) ?_
      refine x_aload_n dL_law_917 rfl 2 rfl ?_
      refine x_aload_n dL_law_918 rfl 0 rfl ?_
      refine x_iload_n dL_law_919 rfl 3 rfl ?_
      refine x_iconst (v := 1) dL_law_920 (by decide) ?_
      refine x_iadd dL_law_921 ?_
      obtain ⟨c318, H⟩ := chk_o H
      refine x_sld dL_law_922 (inb_in.mp c318) ?_
      refine x_aload_n dL_law_923 rfl 0 rfl ?_
      refine x_iload_n dL_law_924 rfl 3 rfl ?_
      refine x_iconst (v := 2) dL_law_925 (by decide) ?_
      refine x_iadd dL_law_926 ?_
      obtain ⟨c319, H⟩ := chk_o H
      refine x_sld dL_law_927 (inb_in.mp c319) ?_
      obtain ⟨c324, H⟩ := ko_o H
      obtain ⟨v320, h321, hc322, H⟩ := bd_o H
      refine x_callVi (As := [.int ((gx Γ) (x3 + 1 : Int32).toNatClampNeg), .int ((gx Γ) (x3 + 2 : Int32).toNatClampNeg)]) (q := (RX12, TX12, 103)) dL_law_928 mi_X12_tells lk_L_114 im_X12_tells se_X12_tells rfl c324 rfl rfl (Nat.le_of_ble_eq_true rfl) (t_X12_tells (by omega) hc322) ?_
      refine x_icmp_eq (tgt := 1477) dL_law_931 (by decide) (fun c323 => ?_) (fun c323 => ?_)
      · replace H := ite_p H c323
        exact t_L_law_1477 hd hk18 H
      · replace H := ite_m H c323
        refine x_iconst (v := 0) dL_law_934 (by decide) ?_
        exact absurd (so_1 H).1 (by decide)
    replace H := ite_m H c312
    by_cases c326 : (((gx Γ) x3.toNatClampNeg) &&& 63) = 24
    · replace H := ite_p H c326
      refine x_tableIn (tgt := 936) dL_law_33 (by rw [c326]; decide) (by rw [c326]; decide) (by rw [c326]; rfl) (by decide) ?_
      refine x_aload_n dL_law_936 rfl 1 rfl ?_
      refine x_aload_n dL_law_937 rfl 0 rfl ?_
      refine x_iload_n dL_law_938 rfl 3 rfl ?_
      refine x_iconst (v := 1) dL_law_939 (by decide) ?_
      refine x_iadd dL_law_940 ?_
      obtain ⟨c327, H⟩ := chk_o H
      refine x_sld dL_law_941 (inb_in.mp c327) ?_
      refine x_aload_n dL_law_942 rfl 0 rfl ?_
      refine x_iload_n dL_law_943 rfl 3 rfl ?_
      refine x_iconst (v := 2) dL_law_944 (by decide) ?_
      refine x_iadd dL_law_945 ?_
      obtain ⟨c328, H⟩ := chk_o H
      refine x_sld dL_law_946 (inb_in.mp c328) ?_
      obtain ⟨c339, H⟩ := ko_o H
      obtain ⟨v329, h330, hc331, H⟩ := bd_o H
      refine x_callVi (As := [.int ((gx Γ) (x3 + 1 : Int32).toNatClampNeg), .int ((gx Γ) (x3 + 2 : Int32).toNatClampNeg)]) (q := (RX11, TX11, 17)) dL_law_947 mi_X11_alloc lk_L_115 im_X11_alloc se_X11_alloc rfl c339 rfl rfl (Nat.le_of_ble_eq_true rfl) (t_X11_alloc (by omega) hc331) ?_
      refine x_aload_n dL_law_950 rfl 2 rfl ?_
      refine x_aload_n dL_law_951 rfl 0 rfl ?_
      refine x_iload_n dL_law_952 rfl 3 rfl ?_
      refine x_iconst (v := 1) dL_law_953 (by decide) ?_
      refine x_iadd dL_law_954 ?_
      obtain ⟨c332, H⟩ := chk_o H
      refine x_sld dL_law_955 (inb_in.mp c332) ?_
      refine x_aload_n dL_law_956 rfl 0 rfl ?_
      refine x_iload_n dL_law_957 rfl 3 rfl ?_
      refine x_iconst (v := 2) dL_law_958 (by decide) ?_
      refine x_iadd dL_law_959 ?_
      obtain ⟨c333, H⟩ := chk_o H
      refine x_sld dL_law_960 (inb_in.mp c333) ?_
      obtain ⟨c338, H⟩ := ko_o H
      obtain ⟨v334, h335, hc336, H⟩ := bd_o H
      refine x_callVi (As := [.int ((gx Γ) (x3 + 1 : Int32).toNatClampNeg), .int ((gx Γ) (x3 + 2 : Int32).toNatClampNeg)]) (q := (RX12, TX12, 103)) dL_law_961 mi_X12_alloc lk_L_118 im_X12_alloc se_X12_alloc rfl c338 rfl rfl (Nat.le_of_ble_eq_true rfl) (t_X12_alloc (by omega) hc336) ?_
      refine x_icmp_eq (tgt := 1477) dL_law_964 (by decide) (fun c337 => ?_) (fun c337 => ?_)
      · replace H := ite_p H c337
        exact t_L_law_1477 hd hk18 H
      · replace H := ite_m H c337
        refine x_iconst (v := 0) dL_law_967 (by decide) ?_
        exact absurd (so_1 H).1 (by decide)
    replace H := ite_m H c326
    by_cases c340 : (((gx Γ) x3.toNatClampNeg) &&& 63) = 25
    · replace H := ite_p H c340
      refine x_tableIn (tgt := 969) dL_law_33 (by rw [c340]; decide) (by rw [c340]; decide) (by rw [c340]; rfl) (by decide) ?_
      refine x_aload_n dL_law_969 rfl 1 rfl ?_
      refine x_aload_n dL_law_970 rfl 0 rfl ?_
      refine x_iload_n dL_law_971 rfl 3 rfl ?_
      refine x_iconst (v := 1) dL_law_972 (by decide) ?_
      refine x_iadd dL_law_973 ?_
      obtain ⟨c341, H⟩ := chk_o H
      refine x_sld dL_law_974 (inb_in.mp c341) ?_
      obtain ⟨c351, H⟩ := ko_o H
      obtain ⟨v342, h343, hc344, H⟩ := bd_o H
      refine x_callVi (As := [.int ((gx Γ) (x3 + 1 : Int32).toNatClampNeg)]) (q := (RX11, TX11, 17)) dL_law_975 mi_X11_free lk_L_119 im_X11_free se_X11_free rfl c351 rfl rfl (Nat.le_of_ble_eq_true rfl) (t_X11_free (by omega) hc344) ?_
      refine x_aload_n dL_law_978 rfl 2 rfl ?_
      refine x_aload_n dL_law_979 rfl 0 rfl ?_
      refine x_iload_n dL_law_980 rfl 3 rfl ?_
      refine x_iconst (v := 1) dL_law_981 (by decide) ?_
      refine x_iadd dL_law_982 ?_
      obtain ⟨c345, H⟩ := chk_o H
      refine x_sld dL_law_983 (inb_in.mp c345) ?_
      obtain ⟨c350, H⟩ := ko_o H
      obtain ⟨v346, h347, hc348, H⟩ := bd_o H
      refine x_callVi (As := [.int ((gx Γ) (x3 + 1 : Int32).toNatClampNeg)]) (q := (RX12, TX12, 103)) dL_law_984 mi_X12_free lk_L_122 im_X12_free se_X12_free rfl c350 rfl rfl (Nat.le_of_ble_eq_true rfl) (t_X12_free (by omega) hc348) ?_
      refine x_icmp_eq (tgt := 1477) dL_law_987 (by decide) (fun c349 => ?_) (fun c349 => ?_)
      · replace H := ite_p H c349
        exact t_L_law_1477 hd hk18 H
      · replace H := ite_m H c349
        refine x_iconst (v := 0) dL_law_990 (by decide) ?_
        exact absurd (so_1 H).1 (by decide)
    replace H := ite_m H c340
    by_cases c352 : (((gx Γ) x3.toNatClampNeg) &&& 63) = 26
    · replace H := ite_p H c352
      refine x_tableIn (tgt := 992) dL_law_33 (by rw [c352]; decide) (by rw [c352]; decide) (by rw [c352]; rfl) (by decide) ?_
      refine x_aload_n dL_law_992 rfl 1 rfl ?_
      refine x_aload_n dL_law_993 rfl 0 rfl ?_
      refine x_iload_n dL_law_994 rfl 3 rfl ?_
      refine x_iconst (v := 1) dL_law_995 (by decide) ?_
      refine x_iadd dL_law_996 ?_
      obtain ⟨c353, H⟩ := chk_o H
      refine x_sld dL_law_997 (inb_in.mp c353) ?_
      refine x_aload_n dL_law_998 rfl 0 rfl ?_
      refine x_iload_n dL_law_999 rfl 3 rfl ?_
      refine x_iconst (v := 2) dL_law_1000 (by decide) ?_
      refine x_iadd dL_law_1001 ?_
      obtain ⟨c354, H⟩ := chk_o H
      refine x_sld dL_law_1002 (inb_in.mp c354) ?_
      obtain ⟨c365, H⟩ := ko_o H
      obtain ⟨v355, h356, hc357, H⟩ := bd_o H
      refine x_callVi (As := [.int ((gx Γ) (x3 + 1 : Int32).toNatClampNeg), .int ((gx Γ) (x3 + 2 : Int32).toNatClampNeg)]) (q := (RX11, TX11, 17)) dL_law_1003 mi_X11_copy lk_L_123 im_X11_copy se_X11_copy rfl c365 rfl rfl (Nat.le_of_ble_eq_true rfl) (t_X11_copy (by omega) hc357) ?_
      refine x_aload_n dL_law_1006 rfl 2 rfl ?_
      refine x_aload_n dL_law_1007 rfl 0 rfl ?_
      refine x_iload_n dL_law_1008 rfl 3 rfl ?_
      refine x_iconst (v := 1) dL_law_1009 (by decide) ?_
      refine x_iadd dL_law_1010 ?_
      obtain ⟨c358, H⟩ := chk_o H
      refine x_sld dL_law_1011 (inb_in.mp c358) ?_
      refine x_aload_n dL_law_1012 rfl 0 rfl ?_
      refine x_iload_n dL_law_1013 rfl 3 rfl ?_
      refine x_iconst (v := 2) dL_law_1014 (by decide) ?_
      refine x_iadd dL_law_1015 ?_
      obtain ⟨c359, H⟩ := chk_o H
      refine x_sld dL_law_1016 (inb_in.mp c359) ?_
      obtain ⟨c364, H⟩ := ko_o H
      obtain ⟨v360, h361, hc362, H⟩ := bd_o H
      refine x_callVi (As := [.int ((gx Γ) (x3 + 1 : Int32).toNatClampNeg), .int ((gx Γ) (x3 + 2 : Int32).toNatClampNeg)]) (q := (RX12, TX12, 103)) dL_law_1017 mi_X12_copy lk_L_127 im_X12_copy se_X12_copy rfl c364 rfl rfl (Nat.le_of_ble_eq_true rfl) (t_X12_copy (by omega) hc362) ?_
      refine x_icmp_eq (tgt := 1477) dL_law_1020 (by decide) (fun c363 => ?_) (fun c363 => ?_)
      · replace H := ite_p H c363
        exact t_L_law_1477 hd hk18 H
      · replace H := ite_m H c363
        refine x_iconst (v := 0) dL_law_1023 (by decide) ?_
        exact absurd (so_1 H).1 (by decide)
    replace H := ite_m H c352
    by_cases c366 : (((gx Γ) x3.toNatClampNeg) &&& 63) = 27
    · replace H := ite_p H c366
      refine x_tableIn (tgt := 1025) dL_law_33 (by rw [c366]; decide) (by rw [c366]; decide) (by rw [c366]; rfl) (by decide) ?_
      refine x_aload_n dL_law_1025 rfl 1 rfl ?_
      refine x_aload_n dL_law_1026 rfl 0 rfl ?_
      refine x_iload_n dL_law_1027 rfl 3 rfl ?_
      refine x_iconst (v := 1) dL_law_1028 (by decide) ?_
      refine x_iadd dL_law_1029 ?_
      obtain ⟨c367, H⟩ := chk_o H
      refine x_sld dL_law_1030 (inb_in.mp c367) ?_
      refine x_aload_n dL_law_1031 rfl 0 rfl ?_
      refine x_iload_n dL_law_1032 rfl 3 rfl ?_
      refine x_iconst (v := 2) dL_law_1033 (by decide) ?_
      refine x_iadd dL_law_1034 ?_
      obtain ⟨c368, H⟩ := chk_o H
      refine x_sld dL_law_1035 (inb_in.mp c368) ?_
      obtain ⟨c379, H⟩ := ko_o H
      obtain ⟨v369, h370, hc371, H⟩ := bd_o H
      refine x_callVi (As := [.int ((gx Γ) (x3 + 1 : Int32).toNatClampNeg), .int ((gx Γ) (x3 + 2 : Int32).toNatClampNeg)]) (q := (RX11, TX11, 17)) dL_law_1036 mi_X11_move lk_L_128 im_X11_move se_X11_move rfl c379 rfl rfl (Nat.le_of_ble_eq_true rfl) (t_X11_move (by omega) hc371) ?_
      refine x_aload_n dL_law_1039 rfl 2 rfl ?_
      refine x_aload_n dL_law_1040 rfl 0 rfl ?_
      refine x_iload_n dL_law_1041 rfl 3 rfl ?_
      refine x_iconst (v := 1) dL_law_1042 (by decide) ?_
      refine x_iadd dL_law_1043 ?_
      obtain ⟨c372, H⟩ := chk_o H
      refine x_sld dL_law_1044 (inb_in.mp c372) ?_
      refine x_aload_n dL_law_1045 rfl 0 rfl ?_
      refine x_iload_n dL_law_1046 rfl 3 rfl ?_
      refine x_iconst (v := 2) dL_law_1047 (by decide) ?_
      refine x_iadd dL_law_1048 ?_
      obtain ⟨c373, H⟩ := chk_o H
      refine x_sld dL_law_1049 (inb_in.mp c373) ?_
      obtain ⟨c378, H⟩ := ko_o H
      obtain ⟨v374, h375, hc376, H⟩ := bd_o H
      refine x_callVi (As := [.int ((gx Γ) (x3 + 1 : Int32).toNatClampNeg), .int ((gx Γ) (x3 + 2 : Int32).toNatClampNeg)]) (q := (RX12, TX12, 103)) dL_law_1050 mi_X12_move lk_L_131 im_X12_move se_X12_move rfl c378 rfl rfl (Nat.le_of_ble_eq_true rfl) (t_X12_move (by omega) hc376) ?_
      refine x_icmp_eq (tgt := 1477) dL_law_1053 (by decide) (fun c377 => ?_) (fun c377 => ?_)
      · replace H := ite_p H c377
        exact t_L_law_1477 hd hk18 H
      · replace H := ite_m H c377
        refine x_iconst (v := 0) dL_law_1056 (by decide) ?_
        exact absurd (so_1 H).1 (by decide)
    replace H := ite_m H c366
    by_cases c380 : (((gx Γ) x3.toNatClampNeg) &&& 63) = 28
    · replace H := ite_p H c380
      refine x_tableIn (tgt := 1058) dL_law_33 (by rw [c380]; decide) (by rw [c380]; decide) (by rw [c380]; rfl) (by decide) ?_
      refine x_aload_n dL_law_1058 rfl 1 rfl ?_
      refine x_aload_n dL_law_1059 rfl 0 rfl ?_
      refine x_iload_n dL_law_1060 rfl 3 rfl ?_
      refine x_iconst (v := 1) dL_law_1061 (by decide) ?_
      refine x_iadd dL_law_1062 ?_
      obtain ⟨c381, H⟩ := chk_o H
      refine x_sld dL_law_1063 (inb_in.mp c381) ?_
      refine x_aload_n dL_law_1064 rfl 0 rfl ?_
      refine x_iload_n dL_law_1065 rfl 3 rfl ?_
      refine x_iconst (v := 2) dL_law_1066 (by decide) ?_
      refine x_iadd dL_law_1067 ?_
      obtain ⟨c382, H⟩ := chk_o H
      refine x_sld dL_law_1068 (inb_in.mp c382) ?_
      refine x_aload_n dL_law_1069 rfl 0 rfl ?_
      refine x_iload_n dL_law_1070 rfl 3 rfl ?_
      refine x_iconst (v := 3) dL_law_1071 (by decide) ?_
      refine x_iadd dL_law_1072 ?_
      obtain ⟨c383, H⟩ := chk_o H
      refine x_sld dL_law_1073 (inb_in.mp c383) ?_
      obtain ⟨c395, H⟩ := ko_o H
      obtain ⟨v384, h385, hc386, H⟩ := bd_o H
      refine x_callVi (As := [.int ((gx Γ) (x3 + 1 : Int32).toNatClampNeg), .int ((gx Γ) (x3 + 2 : Int32).toNatClampNeg), .int ((gx Γ) (x3 + 3 : Int32).toNatClampNeg)]) (q := (RX11, TX11, 17)) dL_law_1074 mi_X11_narrow lk_L_132 im_X11_narrow se_X11_narrow rfl c395 rfl rfl (Nat.le_of_ble_eq_true rfl) (t_X11_narrow (by omega) hc386) ?_
      refine x_aload_n dL_law_1077 rfl 2 rfl ?_
      refine x_aload_n dL_law_1078 rfl 0 rfl ?_
      refine x_iload_n dL_law_1079 rfl 3 rfl ?_
      refine x_iconst (v := 1) dL_law_1080 (by decide) ?_
      refine x_iadd dL_law_1081 ?_
      obtain ⟨c387, H⟩ := chk_o H
      refine x_sld dL_law_1082 (inb_in.mp c387) ?_
      refine x_aload_n dL_law_1083 rfl 0 rfl ?_
      refine x_iload_n dL_law_1084 rfl 3 rfl ?_
      refine x_iconst (v := 2) dL_law_1085 (by decide) ?_
      refine x_iadd dL_law_1086 ?_
      obtain ⟨c388, H⟩ := chk_o H
      refine x_sld dL_law_1087 (inb_in.mp c388) ?_
      refine x_aload_n dL_law_1088 rfl 0 rfl ?_
      refine x_iload_n dL_law_1089 rfl 3 rfl ?_
      refine x_iconst (v := 3) dL_law_1090 (by decide) ?_
      refine x_iadd dL_law_1091 ?_
      obtain ⟨c389, H⟩ := chk_o H
      refine x_sld dL_law_1092 (inb_in.mp c389) ?_
      obtain ⟨c394, H⟩ := ko_o H
      obtain ⟨v390, h391, hc392, H⟩ := bd_o H
      refine x_callVi (As := [.int ((gx Γ) (x3 + 1 : Int32).toNatClampNeg), .int ((gx Γ) (x3 + 2 : Int32).toNatClampNeg), .int ((gx Γ) (x3 + 3 : Int32).toNatClampNeg)]) (q := (RX12, TX12, 103)) dL_law_1093 mi_X12_narrow lk_L_135 im_X12_narrow se_X12_narrow rfl c394 rfl rfl (Nat.le_of_ble_eq_true rfl) (t_X12_narrow (by omega) hc392) ?_
      refine x_icmp_eq (tgt := 1477) dL_law_1096 (by decide) (fun c393 => ?_) (fun c393 => ?_)
      · replace H := ite_p H c393
        exact t_L_law_1477 hd hk18 H
      · replace H := ite_m H c393
        refine x_iconst (v := 0) dL_law_1099 (by decide) ?_
        exact absurd (so_1 H).1 (by decide)
    replace H := ite_m H c380
    by_cases c396 : (((gx Γ) x3.toNatClampNeg) &&& 63) = 29
    · replace H := ite_p H c396
      refine x_tableIn (tgt := 1101) dL_law_33 (by rw [c396]; decide) (by rw [c396]; decide) (by rw [c396]; rfl) (by decide) ?_
      refine x_aload_n dL_law_1101 rfl 1 rfl ?_
      refine x_aload_n dL_law_1102 rfl 0 rfl ?_
      refine x_iload_n dL_law_1103 rfl 3 rfl ?_
      refine x_iconst (v := 1) dL_law_1104 (by decide) ?_
      refine x_iadd dL_law_1105 ?_
      obtain ⟨c397, H⟩ := chk_o H
      refine x_sld dL_law_1106 (inb_in.mp c397) ?_
      refine x_aload_n dL_law_1107 rfl 0 rfl ?_
      refine x_iload_n dL_law_1108 rfl 3 rfl ?_
      refine x_iconst (v := 2) dL_law_1109 (by decide) ?_
      refine x_iadd dL_law_1110 ?_
      obtain ⟨c398, H⟩ := chk_o H
      refine x_sld dL_law_1111 (inb_in.mp c398) ?_
      obtain ⟨c409, H⟩ := ko_o H
      obtain ⟨v399, h400, hc401, H⟩ := bd_o H
      refine x_callVi (As := [.int ((gx Γ) (x3 + 1 : Int32).toNatClampNeg), .int ((gx Γ) (x3 + 2 : Int32).toNatClampNeg)]) (q := (RX11, TX11, 17)) dL_law_1112 mi_X11_limit lk_L_136 im_X11_limit se_X11_limit rfl c409 rfl rfl (Nat.le_of_ble_eq_true rfl) (t_X11_limit (by omega) hc401) ?_
      refine x_aload_n dL_law_1115 rfl 2 rfl ?_
      refine x_aload_n dL_law_1116 rfl 0 rfl ?_
      refine x_iload_n dL_law_1117 rfl 3 rfl ?_
      refine x_iconst (v := 1) dL_law_1118 (by decide) ?_
      refine x_iadd dL_law_1119 ?_
      obtain ⟨c402, H⟩ := chk_o H
      refine x_sld dL_law_1120 (inb_in.mp c402) ?_
      refine x_aload_n dL_law_1121 rfl 0 rfl ?_
      refine x_iload_n dL_law_1122 rfl 3 rfl ?_
      refine x_iconst (v := 2) dL_law_1123 (by decide) ?_
      refine x_iadd dL_law_1124 ?_
      obtain ⟨c403, H⟩ := chk_o H
      refine x_sld dL_law_1125 (inb_in.mp c403) ?_
      obtain ⟨c408, H⟩ := ko_o H
      obtain ⟨v404, h405, hc406, H⟩ := bd_o H
      refine x_callVi (As := [.int ((gx Γ) (x3 + 1 : Int32).toNatClampNeg), .int ((gx Γ) (x3 + 2 : Int32).toNatClampNeg)]) (q := (RX12, TX12, 103)) dL_law_1126 mi_X12_limit lk_L_139 im_X12_limit se_X12_limit rfl c408 rfl rfl (Nat.le_of_ble_eq_true rfl) (t_X12_limit (by omega) hc406) ?_
      refine x_icmp_eq (tgt := 1477) dL_law_1129 (by decide) (fun c407 => ?_) (fun c407 => ?_)
      · replace H := ite_p H c407
        exact t_L_law_1477 hd hk18 H
      · replace H := ite_m H c407
        refine x_iconst (v := 0) dL_law_1132 (by decide) ?_
        exact absurd (so_1 H).1 (by decide)
    replace H := ite_m H c396
    by_cases c410 : (((gx Γ) x3.toNatClampNeg) &&& 63) = 30
    · replace H := ite_p H c410
      refine x_tableIn (tgt := 1134) dL_law_33 (by rw [c410]; decide) (by rw [c410]; decide) (by rw [c410]; rfl) (by decide) ?_
      refine x_aload_n dL_law_1134 rfl 1 rfl ?_
      refine x_aload_n dL_law_1135 rfl 0 rfl ?_
      refine x_iload_n dL_law_1136 rfl 3 rfl ?_
      refine x_iconst (v := 1) dL_law_1137 (by decide) ?_
      refine x_iadd dL_law_1138 ?_
      obtain ⟨c411, H⟩ := chk_o H
      refine x_sld dL_law_1139 (inb_in.mp c411) ?_
      refine x_aload_n dL_law_1140 rfl 0 rfl ?_
      refine x_iload_n dL_law_1141 rfl 3 rfl ?_
      refine x_iconst (v := 2) dL_law_1142 (by decide) ?_
      refine x_iadd dL_law_1143 ?_
      obtain ⟨c412, H⟩ := chk_o H
      refine x_sld dL_law_1144 (inb_in.mp c412) ?_
      obtain ⟨c423, H⟩ := ko_o H
      obtain ⟨v413, h414, hc415, H⟩ := bd_o H
      refine x_callVi (As := [.int ((gx Γ) (x3 + 1 : Int32).toNatClampNeg), .int ((gx Γ) (x3 + 2 : Int32).toNatClampNeg)]) (q := (RX11, TX11, 17)) dL_law_1145 mi_X11_seal lk_L_140 im_X11_seal se_X11_seal rfl c423 rfl rfl (Nat.le_of_ble_eq_true rfl) (t_X11_seal (by omega) hc415) ?_
      refine x_aload_n dL_law_1148 rfl 2 rfl ?_
      refine x_aload_n dL_law_1149 rfl 0 rfl ?_
      refine x_iload_n dL_law_1150 rfl 3 rfl ?_
      refine x_iconst (v := 1) dL_law_1151 (by decide) ?_
      refine x_iadd dL_law_1152 ?_
      obtain ⟨c416, H⟩ := chk_o H
      refine x_sld dL_law_1153 (inb_in.mp c416) ?_
      refine x_aload_n dL_law_1154 rfl 0 rfl ?_
      refine x_iload_n dL_law_1155 rfl 3 rfl ?_
      refine x_iconst (v := 2) dL_law_1156 (by decide) ?_
      refine x_iadd dL_law_1157 ?_
      obtain ⟨c417, H⟩ := chk_o H
      refine x_sld dL_law_1158 (inb_in.mp c417) ?_
      obtain ⟨c422, H⟩ := ko_o H
      obtain ⟨v418, h419, hc420, H⟩ := bd_o H
      refine x_callVi (As := [.int ((gx Γ) (x3 + 1 : Int32).toNatClampNeg), .int ((gx Γ) (x3 + 2 : Int32).toNatClampNeg)]) (q := (RX12, TX12, 103)) dL_law_1159 mi_X12_seal lk_L_143 im_X12_seal se_X12_seal rfl c422 rfl rfl (Nat.le_of_ble_eq_true rfl) (t_X12_seal (by omega) hc420) ?_
      refine x_icmp_eq (tgt := 1477) dL_law_1162 (by decide) (fun c421 => ?_) (fun c421 => ?_)
      · replace H := ite_p H c421
        exact t_L_law_1477 hd hk18 H
      · replace H := ite_m H c421
        refine x_iconst (v := 0) dL_law_1165 (by decide) ?_
        exact absurd (so_1 H).1 (by decide)
    replace H := ite_m H c410
    by_cases c424 : (((gx Γ) x3.toNatClampNeg) &&& 63) = 31
    · replace H := ite_p H c424
      refine x_tableIn (tgt := 1167) dL_law_33 (by rw [c424]; decide) (by rw [c424]; decide) (by rw [c424]; rfl) (by decide) ?_
      refine x_aload_n dL_law_1167 rfl 1 rfl ?_
      refine x_aload_n dL_law_1168 rfl 0 rfl ?_
      refine x_iload_n dL_law_1169 rfl 3 rfl ?_
      refine x_iconst (v := 1) dL_law_1170 (by decide) ?_
      refine x_iadd dL_law_1171 ?_
      obtain ⟨c425, H⟩ := chk_o H
      refine x_sld dL_law_1172 (inb_in.mp c425) ?_
      refine x_aload_n dL_law_1173 rfl 0 rfl ?_
      refine x_iload_n dL_law_1174 rfl 3 rfl ?_
      refine x_iconst (v := 2) dL_law_1175 (by decide) ?_
      refine x_iadd dL_law_1176 ?_
      obtain ⟨c426, H⟩ := chk_o H
      refine x_sld dL_law_1177 (inb_in.mp c426) ?_
      obtain ⟨c437, H⟩ := ko_o H
      obtain ⟨v427, h428, hc429, H⟩ := bd_o H
      refine x_callVi (As := [.int ((gx Γ) (x3 + 1 : Int32).toNatClampNeg), .int ((gx Γ) (x3 + 2 : Int32).toNatClampNeg)]) (q := (RX11, TX11, 17)) dL_law_1178 mi_X11_unseal lk_L_144 im_X11_unseal se_X11_unseal rfl c437 rfl rfl (Nat.le_of_ble_eq_true rfl) (t_X11_unseal (by omega) hc429) ?_
      refine x_aload_n dL_law_1181 rfl 2 rfl ?_
      refine x_aload_n dL_law_1182 rfl 0 rfl ?_
      refine x_iload_n dL_law_1183 rfl 3 rfl ?_
      refine x_iconst (v := 1) dL_law_1184 (by decide) ?_
      refine x_iadd dL_law_1185 ?_
      obtain ⟨c430, H⟩ := chk_o H
      refine x_sld dL_law_1186 (inb_in.mp c430) ?_
      refine x_aload_n dL_law_1187 rfl 0 rfl ?_
      refine x_iload_n dL_law_1188 rfl 3 rfl ?_
      refine x_iconst (v := 2) dL_law_1189 (by decide) ?_
      refine x_iadd dL_law_1190 ?_
      obtain ⟨c431, H⟩ := chk_o H
      refine x_sld dL_law_1191 (inb_in.mp c431) ?_
      obtain ⟨c436, H⟩ := ko_o H
      obtain ⟨v432, h433, hc434, H⟩ := bd_o H
      refine x_callVi (As := [.int ((gx Γ) (x3 + 1 : Int32).toNatClampNeg), .int ((gx Γ) (x3 + 2 : Int32).toNatClampNeg)]) (q := (RX12, TX12, 103)) dL_law_1192 mi_X12_unseal lk_L_147 im_X12_unseal se_X12_unseal rfl c436 rfl rfl (Nat.le_of_ble_eq_true rfl) (t_X12_unseal (by omega) hc434) ?_
      refine x_icmp_eq (tgt := 1477) dL_law_1195 (by decide) (fun c435 => ?_) (fun c435 => ?_)
      · replace H := ite_p H c435
        exact t_L_law_1477 hd hk18 H
      · replace H := ite_m H c435
        refine x_iconst (v := 0) dL_law_1198 (by decide) ?_
        exact absurd (so_1 H).1 (by decide)
    replace H := ite_m H c424
    by_cases c438 : (((gx Γ) x3.toNatClampNeg) &&& 63) = 32
    · replace H := ite_p H c438
      refine x_tableIn (tgt := 1200) dL_law_33 (by rw [c438]; decide) (by rw [c438]; decide) (by rw [c438]; rfl) (by decide) ?_
      refine x_aload_n dL_law_1200 rfl 1 rfl ?_
      refine x_aload_n dL_law_1201 rfl 0 rfl ?_
      refine x_iload_n dL_law_1202 rfl 3 rfl ?_
      refine x_iconst (v := 1) dL_law_1203 (by decide) ?_
      refine x_iadd dL_law_1204 ?_
      obtain ⟨c439, H⟩ := chk_o H
      refine x_sld dL_law_1205 (inb_in.mp c439) ?_
      obtain ⟨c449, H⟩ := ko_o H
      obtain ⟨v440, h441, hc442, H⟩ := bd_o H
      refine x_callVi (As := [.int ((gx Γ) (x3 + 1 : Int32).toNatClampNeg)]) (q := (RX11, TX11, 17)) dL_law_1206 mi_X11_load lk_L_148 im_X11_load se_X11_load rfl c449 rfl rfl (Nat.le_of_ble_eq_true rfl) (t_X11_load (by omega) hc442) ?_
      refine x_aload_n dL_law_1209 rfl 2 rfl ?_
      refine x_aload_n dL_law_1210 rfl 0 rfl ?_
      refine x_iload_n dL_law_1211 rfl 3 rfl ?_
      refine x_iconst (v := 1) dL_law_1212 (by decide) ?_
      refine x_iadd dL_law_1213 ?_
      obtain ⟨c443, H⟩ := chk_o H
      refine x_sld dL_law_1214 (inb_in.mp c443) ?_
      obtain ⟨c448, H⟩ := ko_o H
      obtain ⟨v444, h445, hc446, H⟩ := bd_o H
      refine x_callVi (As := [.int ((gx Γ) (x3 + 1 : Int32).toNatClampNeg)]) (q := (RX12, TX12, 103)) dL_law_1215 mi_X12_load lk_L_151 im_X12_load se_X12_load rfl c448 rfl rfl (Nat.le_of_ble_eq_true rfl) (t_X12_load (by omega) hc446) ?_
      refine x_icmp_eq (tgt := 1477) dL_law_1218 (by decide) (fun c447 => ?_) (fun c447 => ?_)
      · replace H := ite_p H c447
        exact t_L_law_1477 hd hk18 H
      · replace H := ite_m H c447
        refine x_iconst (v := 0) dL_law_1221 (by decide) ?_
        exact absurd (so_1 H).1 (by decide)
    replace H := ite_m H c438
    by_cases c450 : (((gx Γ) x3.toNatClampNeg) &&& 63) = 33
    · replace H := ite_p H c450
      refine x_tableIn (tgt := 1223) dL_law_33 (by rw [c450]; decide) (by rw [c450]; decide) (by rw [c450]; rfl) (by decide) ?_
      refine x_aload_n dL_law_1223 rfl 1 rfl ?_
      refine x_aload_n dL_law_1224 rfl 0 rfl ?_
      refine x_iload_n dL_law_1225 rfl 3 rfl ?_
      refine x_iconst (v := 1) dL_law_1226 (by decide) ?_
      refine x_iadd dL_law_1227 ?_
      obtain ⟨c451, H⟩ := chk_o H
      refine x_sld dL_law_1228 (inb_in.mp c451) ?_
      refine x_aload_n dL_law_1229 rfl 0 rfl ?_
      refine x_iload_n dL_law_1230 rfl 3 rfl ?_
      refine x_iconst (v := 2) dL_law_1231 (by decide) ?_
      refine x_iadd dL_law_1232 ?_
      obtain ⟨c452, H⟩ := chk_o H
      refine x_sld dL_law_1233 (inb_in.mp c452) ?_
      obtain ⟨c463, H⟩ := ko_o H
      obtain ⟨v453, h454, hc455, H⟩ := bd_o H
      refine x_callVi (As := [.int ((gx Γ) (x3 + 1 : Int32).toNatClampNeg), .int ((gx Γ) (x3 + 2 : Int32).toNatClampNeg)]) (q := (RX11, TX11, 17)) dL_law_1234 mi_X11_store lk_L_152 im_X11_store se_X11_store rfl c463 rfl rfl (Nat.le_of_ble_eq_true rfl) (t_X11_store (by omega) hc455) ?_
      refine x_aload_n dL_law_1237 rfl 2 rfl ?_
      refine x_aload_n dL_law_1238 rfl 0 rfl ?_
      refine x_iload_n dL_law_1239 rfl 3 rfl ?_
      refine x_iconst (v := 1) dL_law_1240 (by decide) ?_
      refine x_iadd dL_law_1241 ?_
      obtain ⟨c456, H⟩ := chk_o H
      refine x_sld dL_law_1242 (inb_in.mp c456) ?_
      refine x_aload_n dL_law_1243 rfl 0 rfl ?_
      refine x_iload_n dL_law_1244 rfl 3 rfl ?_
      refine x_iconst (v := 2) dL_law_1245 (by decide) ?_
      refine x_iadd dL_law_1246 ?_
      obtain ⟨c457, H⟩ := chk_o H
      refine x_sld dL_law_1247 (inb_in.mp c457) ?_
      obtain ⟨c462, H⟩ := ko_o H
      obtain ⟨v458, h459, hc460, H⟩ := bd_o H
      refine x_callVi (As := [.int ((gx Γ) (x3 + 1 : Int32).toNatClampNeg), .int ((gx Γ) (x3 + 2 : Int32).toNatClampNeg)]) (q := (RX12, TX12, 103)) dL_law_1248 mi_X12_store lk_L_155 im_X12_store se_X12_store rfl c462 rfl rfl (Nat.le_of_ble_eq_true rfl) (t_X12_store (by omega) hc460) ?_
      refine x_icmp_eq (tgt := 1477) dL_law_1251 (by decide) (fun c461 => ?_) (fun c461 => ?_)
      · replace H := ite_p H c461
        exact t_L_law_1477 hd hk18 H
      · replace H := ite_m H c461
        refine x_iconst (v := 0) dL_law_1254 (by decide) ?_
        exact absurd (so_1 H).1 (by decide)
    replace H := ite_m H c450
    by_cases c464 : (((gx Γ) x3.toNatClampNeg) &&& 63) = 34
    · replace H := ite_p H c464
      refine x_tableIn (tgt := 1256) dL_law_33 (by rw [c464]; decide) (by rw [c464]; decide) (by rw [c464]; rfl) (by decide) ?_
      refine x_aload_n dL_law_1256 rfl 1 rfl ?_
      refine x_aload_n dL_law_1257 rfl 0 rfl ?_
      refine x_iload_n dL_law_1258 rfl 3 rfl ?_
      refine x_iconst (v := 1) dL_law_1259 (by decide) ?_
      refine x_iadd dL_law_1260 ?_
      obtain ⟨c465, H⟩ := chk_o H
      refine x_sld dL_law_1261 (inb_in.mp c465) ?_
      refine x_aload_n dL_law_1262 rfl 0 rfl ?_
      refine x_iload_n dL_law_1263 rfl 3 rfl ?_
      refine x_iconst (v := 2) dL_law_1264 (by decide) ?_
      refine x_iadd dL_law_1265 ?_
      obtain ⟨c466, H⟩ := chk_o H
      refine x_sld dL_law_1266 (inb_in.mp c466) ?_
      obtain ⟨c477, H⟩ := ko_o H
      obtain ⟨v467, h468, hc469, H⟩ := bd_o H
      refine x_callVi (As := [.int ((gx Γ) (x3 + 1 : Int32).toNatClampNeg), .int ((gx Γ) (x3 + 2 : Int32).toNatClampNeg)]) (q := (RX11, TX11, 17)) dL_law_1267 mi_X11_shelve lk_L_156 im_X11_shelve se_X11_shelve rfl c477 rfl rfl (Nat.le_of_ble_eq_true rfl) (t_X11_shelve (by omega) hc469) ?_
      refine x_aload_n dL_law_1270 rfl 2 rfl ?_
      refine x_aload_n dL_law_1271 rfl 0 rfl ?_
      refine x_iload_n dL_law_1272 rfl 3 rfl ?_
      refine x_iconst (v := 1) dL_law_1273 (by decide) ?_
      refine x_iadd dL_law_1274 ?_
      obtain ⟨c470, H⟩ := chk_o H
      refine x_sld dL_law_1275 (inb_in.mp c470) ?_
      refine x_aload_n dL_law_1276 rfl 0 rfl ?_
      refine x_iload_n dL_law_1277 rfl 3 rfl ?_
      refine x_iconst (v := 2) dL_law_1278 (by decide) ?_
      refine x_iadd dL_law_1279 ?_
      obtain ⟨c471, H⟩ := chk_o H
      refine x_sld dL_law_1280 (inb_in.mp c471) ?_
      obtain ⟨c476, H⟩ := ko_o H
      obtain ⟨v472, h473, hc474, H⟩ := bd_o H
      refine x_callVi (As := [.int ((gx Γ) (x3 + 1 : Int32).toNatClampNeg), .int ((gx Γ) (x3 + 2 : Int32).toNatClampNeg)]) (q := (RX12, TX12, 103)) dL_law_1281 mi_X12_shelve lk_L_159 im_X12_shelve se_X12_shelve rfl c476 rfl rfl (Nat.le_of_ble_eq_true rfl) (t_X12_shelve (by omega) hc474) ?_
      refine x_icmp_eq (tgt := 1477) dL_law_1284 (by decide) (fun c475 => ?_) (fun c475 => ?_)
      · replace H := ite_p H c475
        exact t_L_law_1477 hd hk18 H
      · replace H := ite_m H c475
        refine x_iconst (v := 0) dL_law_1287 (by decide) ?_
        exact absurd (so_1 H).1 (by decide)
    replace H := ite_m H c464
    by_cases c478 : (((gx Γ) x3.toNatClampNeg) &&& 63) = 35
    · replace H := ite_p H c478
      refine x_tableIn (tgt := 1289) dL_law_33 (by rw [c478]; decide) (by rw [c478]; decide) (by rw [c478]; rfl) (by decide) ?_
      refine x_aload_n dL_law_1289 rfl 1 rfl ?_
      refine x_aload_n dL_law_1290 rfl 0 rfl ?_
      refine x_iload_n dL_law_1291 rfl 3 rfl ?_
      refine x_iconst (v := 1) dL_law_1292 (by decide) ?_
      refine x_iadd dL_law_1293 ?_
      obtain ⟨c479, H⟩ := chk_o H
      refine x_sld dL_law_1294 (inb_in.mp c479) ?_
      refine x_aload_n dL_law_1295 rfl 0 rfl ?_
      refine x_iload_n dL_law_1296 rfl 3 rfl ?_
      refine x_iconst (v := 2) dL_law_1297 (by decide) ?_
      refine x_iadd dL_law_1298 ?_
      obtain ⟨c480, H⟩ := chk_o H
      refine x_sld dL_law_1299 (inb_in.mp c480) ?_
      refine x_aload_n dL_law_1300 rfl 0 rfl ?_
      refine x_iload_n dL_law_1301 rfl 3 rfl ?_
      refine x_iconst (v := 3) dL_law_1302 (by decide) ?_
      refine x_iadd dL_law_1303 ?_
      obtain ⟨c481, H⟩ := chk_o H
      refine x_sld dL_law_1304 (inb_in.mp c481) ?_
      obtain ⟨c493, H⟩ := ko_o H
      obtain ⟨v482, h483, hc484, H⟩ := bd_o H
      refine x_callVi (As := [.int ((gx Γ) (x3 + 1 : Int32).toNatClampNeg), .int ((gx Γ) (x3 + 2 : Int32).toNatClampNeg), .int ((gx Γ) (x3 + 3 : Int32).toNatClampNeg)]) (q := (RX11, TX11, 17)) dL_law_1305 mi_X11_take lk_L_160 im_X11_take se_X11_take rfl c493 rfl rfl (Nat.le_of_ble_eq_true rfl) (t_X11_take (by omega) hc484) ?_
      refine x_aload_n dL_law_1308 rfl 2 rfl ?_
      refine x_aload_n dL_law_1309 rfl 0 rfl ?_
      refine x_iload_n dL_law_1310 rfl 3 rfl ?_
      refine x_iconst (v := 1) dL_law_1311 (by decide) ?_
      refine x_iadd dL_law_1312 ?_
      obtain ⟨c485, H⟩ := chk_o H
      refine x_sld dL_law_1313 (inb_in.mp c485) ?_
      refine x_aload_n dL_law_1314 rfl 0 rfl ?_
      refine x_iload_n dL_law_1315 rfl 3 rfl ?_
      refine x_iconst (v := 2) dL_law_1316 (by decide) ?_
      refine x_iadd dL_law_1317 ?_
      obtain ⟨c486, H⟩ := chk_o H
      refine x_sld dL_law_1318 (inb_in.mp c486) ?_
      refine x_aload_n dL_law_1319 rfl 0 rfl ?_
      refine x_iload_n dL_law_1320 rfl 3 rfl ?_
      refine x_iconst (v := 3) dL_law_1321 (by decide) ?_
      refine x_iadd dL_law_1322 ?_
      obtain ⟨c487, H⟩ := chk_o H
      refine x_sld dL_law_1323 (inb_in.mp c487) ?_
      obtain ⟨c492, H⟩ := ko_o H
      obtain ⟨v488, h489, hc490, H⟩ := bd_o H
      refine x_callVi (As := [.int ((gx Γ) (x3 + 1 : Int32).toNatClampNeg), .int ((gx Γ) (x3 + 2 : Int32).toNatClampNeg), .int ((gx Γ) (x3 + 3 : Int32).toNatClampNeg)]) (q := (RX12, TX12, 103)) dL_law_1324 mi_X12_take lk_L_164 im_X12_take se_X12_take rfl c492 rfl rfl (Nat.le_of_ble_eq_true rfl) (t_X12_take (by omega) hc490) ?_
      refine x_icmp_eq (tgt := 1477) dL_law_1327 (by decide) (fun c491 => ?_) (fun c491 => ?_)
      · replace H := ite_p H c491
        exact t_L_law_1477 hd hk18 H
      · replace H := ite_m H c491
        refine x_iconst (v := 0) dL_law_1330 (by decide) ?_
        exact absurd (so_1 H).1 (by decide)
    replace H := ite_m H c478
    by_cases c494 : (((gx Γ) x3.toNatClampNeg) &&& 63) = 36
    · replace H := ite_p H c494
      refine x_tableIn (tgt := 1332) dL_law_33 (by rw [c494]; decide) (by rw [c494]; decide) (by rw [c494]; rfl) (by decide) ?_
      refine x_aload_n dL_law_1332 rfl 1 rfl ?_
      refine x_aload_n dL_law_1333 rfl 0 rfl ?_
      refine x_iload_n dL_law_1334 rfl 3 rfl ?_
      refine x_iconst (v := 1) dL_law_1335 (by decide) ?_
      refine x_iadd dL_law_1336 ?_
      obtain ⟨c495, H⟩ := chk_o H
      refine x_sld dL_law_1337 (inb_in.mp c495) ?_
      obtain ⟨c505, H⟩ := ko_o H
      obtain ⟨v496, h497, hc498, H⟩ := bd_o H
      refine x_callVi (As := [.int ((gx Γ) (x3 + 1 : Int32).toNatClampNeg)]) (q := (RX11, TX11, 17)) dL_law_1338 mi_X11_chance lk_L_165 im_X11_chance se_X11_chance rfl c505 rfl rfl (Nat.le_of_ble_eq_true rfl) (t_X11_chance (by omega) hc498) ?_
      refine x_aload_n dL_law_1341 rfl 2 rfl ?_
      refine x_aload_n dL_law_1342 rfl 0 rfl ?_
      refine x_iload_n dL_law_1343 rfl 3 rfl ?_
      refine x_iconst (v := 1) dL_law_1344 (by decide) ?_
      refine x_iadd dL_law_1345 ?_
      obtain ⟨c499, H⟩ := chk_o H
      refine x_sld dL_law_1346 (inb_in.mp c499) ?_
      obtain ⟨c504, H⟩ := ko_o H
      obtain ⟨v500, h501, hc502, H⟩ := bd_o H
      refine x_callVi (As := [.int ((gx Γ) (x3 + 1 : Int32).toNatClampNeg)]) (q := (RX12, TX12, 103)) dL_law_1347 mi_X12_chance lk_L_168 im_X12_chance se_X12_chance rfl c504 rfl rfl (Nat.le_of_ble_eq_true rfl) (t_X12_chance (by omega) hc502) ?_
      refine x_icmp_eq (tgt := 1477) dL_law_1350 (by decide) (fun c503 => ?_) (fun c503 => ?_)
      · replace H := ite_p H c503
        exact t_L_law_1477 hd hk18 H
      · replace H := ite_m H c503
        refine x_iconst (v := 0) dL_law_1353 (by decide) ?_
        exact absurd (so_1 H).1 (by decide)
    replace H := ite_m H c494
    by_cases c506 : (((gx Γ) x3.toNatClampNeg) &&& 63) = 37
    · replace H := ite_p H c506
      refine x_tableIn (tgt := 1355) dL_law_33 (by rw [c506]; decide) (by rw [c506]; decide) (by rw [c506]; rfl) (by decide) ?_
      refine x_aload_n dL_law_1355 rfl 1 rfl ?_
      obtain ⟨c515, H⟩ := ko_o H
      obtain ⟨v507, h508, hc509, H⟩ := bd_o H
      refine x_callVi (As := []) (q := (RX11, TX11, 17)) dL_law_1356 mi_X11_undo lk_L_169 im_X11_undo se_X11_undo rfl c515 rfl rfl (Nat.le_of_ble_eq_true rfl) (t_X11_undo (by omega) hc509) ?_
      refine x_aload_n dL_law_1359 rfl 2 rfl ?_
      obtain ⟨c514, H⟩ := ko_o H
      obtain ⟨v510, h511, hc512, H⟩ := bd_o H
      refine x_callVi (As := []) (q := (RX12, TX12, 103)) dL_law_1360 mi_X12_undo lk_L_173 im_X12_undo se_X12_undo rfl c514 rfl rfl (Nat.le_of_ble_eq_true rfl) (t_X12_undo (by omega) hc512) ?_
      refine x_icmp_eq (tgt := 1477) dL_law_1363 (by decide) (fun c513 => ?_) (fun c513 => ?_)
      · replace H := ite_p H c513
        exact t_L_law_1477 hd hk18 H
      · replace H := ite_m H c513
        refine x_iconst (v := 0) dL_law_1366 (by decide) ?_
        exact absurd (so_1 H).1 (by decide)
    replace H := ite_m H c506
    by_cases c516 : (((gx Γ) x3.toNatClampNeg) &&& 63) = 38
    · replace H := ite_p H c516
      refine x_tableIn (tgt := 1368) dL_law_33 (by rw [c516]; decide) (by rw [c516]; decide) (by rw [c516]; rfl) (by decide) ?_
      refine x_aload_n dL_law_1368 rfl 1 rfl ?_
      refine x_aload_n dL_law_1369 rfl 0 rfl ?_
      refine x_iload_n dL_law_1370 rfl 3 rfl ?_
      refine x_iconst (v := 1) dL_law_1371 (by decide) ?_
      refine x_iadd dL_law_1372 ?_
      obtain ⟨c517, H⟩ := chk_o H
      refine x_sld dL_law_1373 (inb_in.mp c517) ?_
      obtain ⟨c527, H⟩ := ko_o H
      obtain ⟨v518, h519, hc520, H⟩ := bd_o H
      refine x_callVi (As := [.int ((gx Γ) (x3 + 1 : Int32).toNatClampNeg)]) (q := (RX11, TX11, 17)) dL_law_1374 mi_X11_seed lk_L_174 im_X11_seed se_X11_seed rfl c527 rfl rfl (Nat.le_of_ble_eq_true rfl) (t_X11_seed (by omega) hc520) ?_
      refine x_aload_n dL_law_1377 rfl 2 rfl ?_
      refine x_aload_n dL_law_1378 rfl 0 rfl ?_
      refine x_iload_n dL_law_1379 rfl 3 rfl ?_
      refine x_iconst (v := 1) dL_law_1380 (by decide) ?_
      refine x_iadd dL_law_1381 ?_
      obtain ⟨c521, H⟩ := chk_o H
      refine x_sld dL_law_1382 (inb_in.mp c521) ?_
      obtain ⟨c526, H⟩ := ko_o H
      obtain ⟨v522, h523, hc524, H⟩ := bd_o H
      refine x_callVi (As := [.int ((gx Γ) (x3 + 1 : Int32).toNatClampNeg)]) (q := (RX12, TX12, 103)) dL_law_1383 mi_X12_seed lk_L_177 im_X12_seed se_X12_seed rfl c526 rfl rfl (Nat.le_of_ble_eq_true rfl) (t_X12_seed (by omega) hc524) ?_
      refine x_icmp_eq (tgt := 1477) dL_law_1386 (by decide) (fun c525 => ?_) (fun c525 => ?_)
      · replace H := ite_p H c525
        exact t_L_law_1477 hd hk18 H
      · replace H := ite_m H c525
        refine x_iconst (v := 0) dL_law_1389 (by decide) ?_
        exact absurd (so_1 H).1 (by decide)
    replace H := ite_m H c516
    by_cases c528 : (((gx Γ) x3.toNatClampNeg) &&& 63) = 39
    · replace H := ite_p H c528
      refine x_tableIn (tgt := 1391) dL_law_33 (by rw [c528]; decide) (by rw [c528]; decide) (by rw [c528]; rfl) (by decide) ?_
      refine x_aload_n dL_law_1391 rfl 1 rfl ?_
      obtain ⟨c537, H⟩ := ko_o H
      obtain ⟨v529, h530, hc531, H⟩ := bd_o H
      refine x_callVl (As := []) (q := (RX11, TX11, 17)) dL_law_1392 mi_X11_ask lk_L_178 im_X11_ask se_X11_ask rfl c537 rfl rfl (Nat.le_of_ble_eq_true rfl) (t_X11_ask (by omega) hc531) ?_
      refine x_aload_n dL_law_1395 rfl 2 rfl ?_
      obtain ⟨c536, H⟩ := ko_o H
      obtain ⟨v532, h533, hc534, H⟩ := bd_o H
      refine x_callVl (As := []) (q := (RX12, TX12, 103)) dL_law_1396 mi_X12_ask lk_L_182 im_X12_ask se_X12_ask rfl c536 rfl rfl (Nat.le_of_ble_eq_true rfl) (t_X12_ask (by omega) hc534) ?_
      refine x_lcmp dL_law_1399 ?_
      refine x_if_eq (tgt := 1477) dL_law_1400 (by decide) (fun c535 => ?_) (fun c535 => ?_)
      · replace H := ite_p H c535
        exact t_L_law_1477 hd hk18 H
      · replace H := ite_m H c535
        refine x_iconst (v := 0) dL_law_1403 (by decide) ?_
        exact absurd (so_1 H).1 (by decide)
    replace H := ite_m H c528
    by_cases c538 : (((gx Γ) x3.toNatClampNeg) &&& 63) = 40
    · replace H := ite_p H c538
      refine x_tableIn (tgt := 1405) dL_law_33 (by rw [c538]; decide) (by rw [c538]; decide) (by rw [c538]; rfl) (by decide) ?_
      refine x_aload_n dL_law_1405 rfl 1 rfl ?_
      obtain ⟨c547, H⟩ := ko_o H
      obtain ⟨v539, h540, hc541, H⟩ := bd_o H
      refine x_callVi (As := []) (q := (RX11, TX11, 17)) dL_law_1406 mi_X11_image lk_L_183 im_X11_image se_X11_image rfl c547 rfl rfl (Nat.le_of_ble_eq_true rfl) (t_X11_image (by omega) hc541) ?_
      refine x_aload_n dL_law_1409 rfl 2 rfl ?_
      obtain ⟨c546, H⟩ := ko_o H
      obtain ⟨v542, h543, hc544, H⟩ := bd_o H
      refine x_callVi (As := []) (q := (RX12, TX12, 103)) dL_law_1410 mi_X12_image lk_L_186 im_X12_image se_X12_image rfl c546 rfl rfl (Nat.le_of_ble_eq_true rfl) (t_X12_image (by omega) hc544) ?_
      refine x_icmp_eq (tgt := 1477) dL_law_1413 (by decide) (fun c545 => ?_) (fun c545 => ?_)
      · replace H := ite_p H c545
        exact t_L_law_1477 hd hk18 H
      · replace H := ite_m H c545
        refine x_iconst (v := 0) dL_law_1416 (by decide) ?_
        exact absurd (so_1 H).1 (by decide)
    replace H := ite_m H c538
    by_cases c548 : (((gx Γ) x3.toNatClampNeg) &&& 63) = 41
    · replace H := ite_p H c548
      refine x_tableIn (tgt := 1418) dL_law_33 (by rw [c548]; decide) (by rw [c548]; decide) (by rw [c548]; rfl) (by decide) ?_
      refine x_aload_n dL_law_1418 rfl 1 rfl ?_
      refine x_aload_n dL_law_1419 rfl 0 rfl ?_
      refine x_iload_n dL_law_1420 rfl 3 rfl ?_
      refine x_iconst (v := 1) dL_law_1421 (by decide) ?_
      refine x_iadd dL_law_1422 ?_
      obtain ⟨c549, H⟩ := chk_o H
      refine x_sld dL_law_1423 (inb_in.mp c549) ?_
      obtain ⟨c559, H⟩ := ko_o H
      obtain ⟨v550, h551, hc552, H⟩ := bd_o H
      refine x_callVi (As := [.int ((gx Γ) (x3 + 1 : Int32).toNatClampNeg)]) (q := (RX11, TX11, 17)) dL_law_1424 mi_X11_octet lk_L_187 im_X11_octet se_X11_octet rfl c559 rfl rfl (Nat.le_of_ble_eq_true rfl) (t_X11_octet (by omega) hc552) ?_
      refine x_aload_n dL_law_1427 rfl 2 rfl ?_
      refine x_aload_n dL_law_1428 rfl 0 rfl ?_
      refine x_iload_n dL_law_1429 rfl 3 rfl ?_
      refine x_iconst (v := 1) dL_law_1430 (by decide) ?_
      refine x_iadd dL_law_1431 ?_
      obtain ⟨c553, H⟩ := chk_o H
      refine x_sld dL_law_1432 (inb_in.mp c553) ?_
      obtain ⟨c558, H⟩ := ko_o H
      obtain ⟨v554, h555, hc556, H⟩ := bd_o H
      refine x_callVi (As := [.int ((gx Γ) (x3 + 1 : Int32).toNatClampNeg)]) (q := (RX12, TX12, 103)) dL_law_1433 mi_X12_octet lk_L_190 im_X12_octet se_X12_octet rfl c558 rfl rfl (Nat.le_of_ble_eq_true rfl) (t_X12_octet (by omega) hc556) ?_
      refine x_icmp_eq (tgt := 1477) dL_law_1436 (by decide) (fun c557 => ?_) (fun c557 => ?_)
      · replace H := ite_p H c557
        exact t_L_law_1477 hd hk18 H
      · replace H := ite_m H c557
        refine x_iconst (v := 0) dL_law_1439 (by decide) ?_
        exact absurd (so_1 H).1 (by decide)
    replace H := ite_m H c548
    by_cases c560 : (((gx Γ) x3.toNatClampNeg) &&& 63) = 42
    · replace H := ite_p H c560
      refine x_tableIn (tgt := 1441) dL_law_33 (by rw [c560]; decide) (by rw [c560]; decide) (by rw [c560]; rfl) (by decide) ?_
      refine x_aload_n dL_law_1441 rfl 1 rfl ?_
      obtain ⟨c569, H⟩ := ko_o H
      obtain ⟨v561, h562, hc563, H⟩ := bd_o H
      refine x_callVi (As := []) (q := (RX11, TX11, 17)) dL_law_1442 mi_X11_on lk_L_191 im_X11_on se_X11_on rfl c569 rfl rfl (Nat.le_of_ble_eq_true rfl) (t_X11_on (by omega) hc563) ?_
      refine x_aload_n dL_law_1445 rfl 2 rfl ?_
      obtain ⟨c568, H⟩ := ko_o H
      obtain ⟨v564, h565, hc566, H⟩ := bd_o H
      refine x_callVi (As := []) (q := (RX12, TX12, 103)) dL_law_1446 mi_X12_on lk_L_194 im_X12_on se_X12_on rfl c568 rfl rfl (Nat.le_of_ble_eq_true rfl) (t_X12_on (by omega) hc566) ?_
      refine x_icmp_eq (tgt := 1477) dL_law_1449 (by decide) (fun c567 => ?_) (fun c567 => ?_)
      · replace H := ite_p H c567
        exact t_L_law_1477 hd hk18 H
      · replace H := ite_m H c567
        refine x_iconst (v := 0) dL_law_1452 (by decide) ?_
        exact absurd (so_1 H).1 (by decide)
    replace H := ite_m H c560
    by_cases c570 : (((gx Γ) x3.toNatClampNeg) &&& 63) = 43
    · replace H := ite_p H c570
      refine x_tableIn (tgt := 1454) dL_law_33 (by rw [c570]; decide) (by rw [c570]; decide) (by rw [c570]; rfl) (by decide) ?_
      refine x_aload_n dL_law_1454 rfl 1 rfl ?_
      refine x_aload_n dL_law_1455 rfl 0 rfl ?_
      refine x_iload_n dL_law_1456 rfl 3 rfl ?_
      refine x_iconst (v := 1) dL_law_1457 (by decide) ?_
      refine x_iadd dL_law_1458 ?_
      obtain ⟨c571, H⟩ := chk_o H
      refine x_sld dL_law_1459 (inb_in.mp c571) ?_
      obtain ⟨c581, H⟩ := ko_o H
      obtain ⟨v572, h573, hc574, H⟩ := bd_o H
      refine x_callVi (As := [.int ((gx Γ) (x3 + 1 : Int32).toNatClampNeg)]) (q := (RX11, TX11, 17)) dL_law_1460 mi_X11_status lk_L_195 im_X11_status se_X11_status rfl c581 rfl rfl (Nat.le_of_ble_eq_true rfl) (t_X11_status (by omega) hc574) ?_
      refine x_aload_n dL_law_1463 rfl 2 rfl ?_
      refine x_aload_n dL_law_1464 rfl 0 rfl ?_
      refine x_iload_n dL_law_1465 rfl 3 rfl ?_
      refine x_iconst (v := 1) dL_law_1466 (by decide) ?_
      refine x_iadd dL_law_1467 ?_
      obtain ⟨c575, H⟩ := chk_o H
      refine x_sld dL_law_1468 (inb_in.mp c575) ?_
      obtain ⟨c580, H⟩ := ko_o H
      obtain ⟨v576, h577, hc578, H⟩ := bd_o H
      refine x_callVi (As := [.int ((gx Γ) (x3 + 1 : Int32).toNatClampNeg)]) (q := (RX12, TX12, 103)) dL_law_1469 mi_X12_status lk_L_198 im_X12_status se_X12_status rfl c580 rfl rfl (Nat.le_of_ble_eq_true rfl) (t_X12_status (by omega) hc578) ?_
      refine x_icmp_eq (tgt := 1477) dL_law_1472 (by decide) (fun c579 => ?_) (fun c579 => ?_)
      · replace H := ite_p H c579
        exact t_L_law_1477 hd hk18 H
      · replace H := ite_m H c579
        refine x_iconst (v := 0) dL_law_1475 (by decide) ?_
        exact absurd (so_1 H).1 (by decide)
    replace H := ite_m H c570
    cases H
def f_L_law_18 (L : Nat) (xs : Nat → Int32) : Nat → Nat → Nat → Int32 → aH → Option (Int32 × aH)
  | 0 => fun _ _ _ _ => none
  | n + 1 => b_L_law_18 L xs (f_L_law_18 L xs n)
set_option maxRecDepth 100000 in
set_option maxHeartbeats 4000000 in
theorem t_L_law_18 {Γ : gS} {d : Nat} (hd : 113 ≤ d) (n : Nat) : ∀ {x1 : Nat} {x2 : Nat} {x3 : Int32} {h : aH} {h' : aH}, f_L_law_18 (gn Γ) (gx Γ) n x1 x2 x3 h = some (1, h') → Ex Γ gL_law d 18 [(0, .ref (gb Γ)), (1, .ref x1), (2, .ref x2), (3, .int x3)] [] h (some (.int 1)) h' := by
  induction n with
  | zero => intro x1 x2 x3 h h' H; cases H
  | succ n ih => intro x1 x2 x3 h h' H; exact tb_L_law_18 hd ih H
def f_L_law (L : Nat) (xs : Nat → Int32) (h : aH) : Option (Int32 × aH) :=
  nm (hN h) fun (a583 : Nat) =>
  nm (nw h (.inl 10) 17) fun (h582 : aH) =>
  bd (f_X11_init a583 h582) fun _ h585 =>
  nm (hN h585) fun (a588 : Nat) =>
  nm (nw h585 (.inl 11) 103) fun (h587 : aH) =>
  bd (f_X12_init a588 h587) fun _ h590 =>
  f_L_law_18 L xs FU a583 a588 0 h590
set_option maxRecDepth 100000 in
set_option maxHeartbeats 4000000 in
theorem t_L_law {Γ : gS} {d : Nat} (hd : 113 ≤ d) {h : aH} {h' : aH} (H : f_L_law (gn Γ) (gx Γ) h = some (1, h')) : Ex Γ gL_law d 0 [(0, .ref (gb Γ))] [] h (some (.int 1)) h' := by
  unfold f_L_law at H
  obtain ⟨d, rfl⟩ : ∃ e, d = e + 1 := ⟨d - 1, by omega⟩
  obtain ⟨a583, ea583, H⟩ := nm_o H
  obtain ⟨h582, eh582, H⟩ := nm_o H
  refine x_new (q := (RX11, TX11, 17)) dL_law_0 ck10 rfl cl_L_7 is_X11 ii_X11 ?_
  rw [ea583]
  refine Ex.ren eh582 ?_
  refine x_dup dL_law_3 rfl ?_
  obtain ⟨v584, h585, hc586, H⟩ := bd_o H
  refine x_callIv (As := []) dL_law_4 mi_X11_init lk_L_9 im_X11_init rfl rfl rfl (Nat.le_of_ble_eq_true rfl) (t_X11_init (by omega) hc586) ?_
  refine x_astore_n (lv' := [(1, .ref a583), (0, .ref (gb Γ))]) dL_law_7 rfl (by decide) rfl rfl ?_
  obtain ⟨a588, ea588, H⟩ := nm_o H
  obtain ⟨h587, eh587, H⟩ := nm_o H
  refine x_new (q := (RX12, TX12, 103)) dL_law_8 ck11 rfl cl_L_10 is_X12 ii_X12 ?_
  rw [ea588]
  refine Ex.ren eh587 ?_
  refine x_dup dL_law_11 rfl ?_
  obtain ⟨v589, h590, hc591, H⟩ := bd_o H
  refine x_callIv (As := []) dL_law_12 mi_X12_init lk_L_12 im_X12_init rfl rfl rfl (Nat.le_of_ble_eq_true rfl) (t_X12_init (by omega) hc591) ?_
  refine x_astore_n (lv' := [(2, .ref a588), (1, .ref a583), (0, .ref (gb Γ))]) dL_law_15 rfl (by decide) rfl rfl ?_
  refine x_iconst (v := 0) dL_law_16 (by decide) ?_
  refine x_istore_n (lv' := [(3, .int 0), (2, .ref a588), (1, .ref a583), (0, .ref (gb Γ))]) dL_law_17 rfl (by decide) rfl rfl ?_
  refine Ex.sub [3, 2, 1, 0] rfl ?_
  exact t_L_law_18 hd FU H
