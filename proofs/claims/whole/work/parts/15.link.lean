theorem gwT_1 {w : Cond} (i : Nat) (h : tables_1_1[i]? = some w) (g : goodWord w = true) : w ∈ GW := by
  have hm := List.mem_of_getElem? h
  exact gw_mem (List.mem_append_right _ (show w ∈ tables_1 from List.mem_append_left _ (hm))) g
theorem gwT_2 {w : Cond} (i : Nat) (h : tables_1_2[i]? = some w) (g : goodWord w = true) : w ∈ GW := by
  have hm := List.mem_of_getElem? h
  exact gw_mem (List.mem_append_right _ (show w ∈ tables_1 from List.mem_append_right _ (List.mem_append_left _ (hm)))) g
theorem gwT_3 {w : Cond} (i : Nat) (h : tables_1_3[i]? = some w) (g : goodWord w = true) : w ∈ GW := by
  have hm := List.mem_of_getElem? h
  exact gw_mem (List.mem_append_right _ (show w ∈ tables_1 from List.mem_append_right _ (List.mem_append_right _ (List.mem_append_left _ (hm))))) g
theorem gwT_4 {w : Cond} (i : Nat) (h : tables_1_4[i]? = some w) (g : goodWord w = true) : w ∈ GW := by
  have hm := List.mem_of_getElem? h
  exact gw_mem (List.mem_append_right _ (show w ∈ tables_1 from List.mem_append_right _ (List.mem_append_right _ (List.mem_append_right _ (List.mem_append_left _ (hm)))))) g
theorem gwT_5 {w : Cond} (i : Nat) (h : tables_1_5[i]? = some w) (g : goodWord w = true) : w ∈ GW := by
  have hm := List.mem_of_getElem? h
  exact gw_mem (List.mem_append_right _ (show w ∈ tables_1 from List.mem_append_right _ (List.mem_append_right _ (List.mem_append_right _ (List.mem_append_right _ (List.mem_append_left _ (hm))))))) g
theorem gwT_6 {w : Cond} (i : Nat) (h : tables_1_6[i]? = some w) (g : goodWord w = true) : w ∈ GW := by
  have hm := List.mem_of_getElem? h
  exact gw_mem (List.mem_append_right _ (show w ∈ tables_1 from List.mem_append_right _ (List.mem_append_right _ (List.mem_append_right _ (List.mem_append_right _ (List.mem_append_right _ (List.mem_append_left _ (hm)))))))) g
theorem gwT_7 {w : Cond} (i : Nat) (h : tables_1_7[i]? = some w) (g : goodWord w = true) : w ∈ GW := by
  have hm := List.mem_of_getElem? h
  exact gw_mem (List.mem_append_right _ (show w ∈ tables_1 from List.mem_append_right _ (List.mem_append_right _ (List.mem_append_right _ (List.mem_append_right _ (List.mem_append_right _ (List.mem_append_right _ (List.mem_append_left _ (hm))))))))) g
theorem gwT_8 {w : Cond} (i : Nat) (h : tables_1_8[i]? = some w) (g : goodWord w = true) : w ∈ GW := by
  have hm := List.mem_of_getElem? h
  exact gw_mem (List.mem_append_right _ (show w ∈ tables_1 from List.mem_append_right _ (List.mem_append_right _ (List.mem_append_right _ (List.mem_append_right _ (List.mem_append_right _ (List.mem_append_right _ (List.mem_append_right _ (List.mem_append_left _ (hm)))))))))) g
theorem gwT_9 {w : Cond} (i : Nat) (h : tables_1_9[i]? = some w) (g : goodWord w = true) : w ∈ GW := by
  have hm := List.mem_of_getElem? h
  exact gw_mem (List.mem_append_right _ (show w ∈ tables_1 from List.mem_append_right _ (List.mem_append_right _ (List.mem_append_right _ (List.mem_append_right _ (List.mem_append_right _ (List.mem_append_right _ (List.mem_append_right _ (List.mem_append_right _ (hm)))))))))) g
theorem gwP_1 {q : MethodName × Nat} (i : Nat) (h : lw_privs_1[i]? = some q) : Cond.selects q.1.cls q.1 q.1 ∈ GW := by
  have hm := List.mem_of_getElem? h
  exact gw_mem (List.mem_append_left _ (List.mem_map.mpr ⟨q, show q ∈ lw_privs from List.mem_append_left _ (hm), rfl⟩)) rfl
theorem gwP_2 {q : MethodName × Nat} (i : Nat) (h : lw_privs_2[i]? = some q) : Cond.selects q.1.cls q.1 q.1 ∈ GW := by
  have hm := List.mem_of_getElem? h
  exact gw_mem (List.mem_append_left _ (List.mem_map.mpr ⟨q, show q ∈ lw_privs from List.mem_append_right _ (List.mem_append_left _ (hm)), rfl⟩)) rfl
theorem gwP_3 {q : MethodName × Nat} (i : Nat) (h : lw_privs_3[i]? = some q) : Cond.selects q.1.cls q.1 q.1 ∈ GW := by
  have hm := List.mem_of_getElem? h
  exact gw_mem (List.mem_append_left _ (List.mem_map.mpr ⟨q, show q ∈ lw_privs from List.mem_append_right _ (List.mem_append_right _ (List.mem_append_left _ (hm))), rfl⟩)) rfl
theorem gwP_4 {q : MethodName × Nat} (i : Nat) (h : lw_privs_4[i]? = some q) : Cond.selects q.1.cls q.1 q.1 ∈ GW := by
  have hm := List.mem_of_getElem? h
  exact gw_mem (List.mem_append_left _ (List.mem_map.mpr ⟨q, show q ∈ lw_privs from List.mem_append_right _ (List.mem_append_right _ (List.mem_append_right _ (List.mem_append_left _ (hm)))), rfl⟩)) rfl
theorem gwP_5 {q : MethodName × Nat} (i : Nat) (h : lw_privs_5[i]? = some q) : Cond.selects q.1.cls q.1 q.1 ∈ GW := by
  have hm := List.mem_of_getElem? h
  exact gw_mem (List.mem_append_left _ (List.mem_map.mpr ⟨q, show q ∈ lw_privs from List.mem_append_right _ (List.mem_append_right _ (List.mem_append_right _ (List.mem_append_right _ (List.mem_append_left _ (hm))))), rfl⟩)) rfl
theorem gwP_6 {q : MethodName × Nat} (i : Nat) (h : lw_privs_6[i]? = some q) : Cond.selects q.1.cls q.1 q.1 ∈ GW := by
  have hm := List.mem_of_getElem? h
  exact gw_mem (List.mem_append_left _ (List.mem_map.mpr ⟨q, show q ∈ lw_privs from List.mem_append_right _ (List.mem_append_right _ (List.mem_append_right _ (List.mem_append_right _ (List.mem_append_right _ (List.mem_append_left _ (hm)))))), rfl⟩)) rfl
theorem gwP_7 {q : MethodName × Nat} (i : Nat) (h : lw_privs_7[i]? = some q) : Cond.selects q.1.cls q.1 q.1 ∈ GW := by
  have hm := List.mem_of_getElem? h
  exact gw_mem (List.mem_append_left _ (List.mem_map.mpr ⟨q, show q ∈ lw_privs from List.mem_append_right _ (List.mem_append_right _ (List.mem_append_right _ (List.mem_append_right _ (List.mem_append_right _ (List.mem_append_right _ (List.mem_append_left _ (hm))))))), rfl⟩)) rfl
theorem gwP_8 {q : MethodName × Nat} (i : Nat) (h : lw_privs_8[i]? = some q) : Cond.selects q.1.cls q.1 q.1 ∈ GW := by
  have hm := List.mem_of_getElem? h
  exact gw_mem (List.mem_append_left _ (List.mem_map.mpr ⟨q, show q ∈ lw_privs from List.mem_append_right _ (List.mem_append_right _ (List.mem_append_right _ (List.mem_append_right _ (List.mem_append_right _ (List.mem_append_right _ (List.mem_append_right _ (List.mem_append_left _ (hm)))))))), rfl⟩)) rfl
theorem gwP_9 {q : MethodName × Nat} (i : Nat) (h : lw_privs_9[i]? = some q) : Cond.selects q.1.cls q.1 q.1 ∈ GW := by
  have hm := List.mem_of_getElem? h
  exact gw_mem (List.mem_append_left _ (List.mem_map.mpr ⟨q, show q ∈ lw_privs from List.mem_append_right _ (List.mem_append_right _ (List.mem_append_right _ (List.mem_append_right _ (List.mem_append_right _ (List.mem_append_right _ (List.mem_append_right _ (List.mem_append_right _ (List.mem_append_left _ (hm))))))))), rfl⟩)) rfl
theorem gwP_10 {q : MethodName × Nat} (i : Nat) (h : lw_privs_10[i]? = some q) : Cond.selects q.1.cls q.1 q.1 ∈ GW := by
  have hm := List.mem_of_getElem? h
  exact gw_mem (List.mem_append_left _ (List.mem_map.mpr ⟨q, show q ∈ lw_privs from List.mem_append_right _ (List.mem_append_right _ (List.mem_append_right _ (List.mem_append_right _ (List.mem_append_right _ (List.mem_append_right _ (List.mem_append_right _ (List.mem_append_right _ (List.mem_append_right _ (hm))))))))), rfl⟩)) rfl
set_option maxRecDepth 10000 in
theorem ck0 : CK 0 := ⟨(RX0, TX0, 6), rfl, fun w hw => gw_mem (List.mem_append_right _ ((show ∀ w ∈ u_ws RX0 TX0 6, w ∈ tables_1 by decide +kernel) w hw)) ((show ∀ w ∈ u_ws RX0 TX0 6, goodWord w = true by decide +kernel) w hw), tyX0_ok, nmX0, by decide +kernel⟩
set_option maxRecDepth 10000 in
theorem ck1 : CK 1 := ⟨(RX1, TX1, 5), rfl, fun w hw => gw_mem (List.mem_append_right _ ((show ∀ w ∈ u_ws RX1 TX1 5, w ∈ tables_1 by decide +kernel) w hw)) ((show ∀ w ∈ u_ws RX1 TX1 5, goodWord w = true by decide +kernel) w hw), tyX1_ok, nmX1, by decide +kernel⟩
set_option maxRecDepth 10000 in
theorem ck2 : CK 2 := ⟨(RX2, TX2, 3), rfl, fun w hw => gw_mem (List.mem_append_right _ ((show ∀ w ∈ u_ws RX2 TX2 3, w ∈ tables_1 by decide +kernel) w hw)) ((show ∀ w ∈ u_ws RX2 TX2 3, goodWord w = true by decide +kernel) w hw), tyX2_ok, nmX2, by decide +kernel⟩
set_option maxRecDepth 10000 in
theorem ck3 : CK 3 := ⟨(RX3, TX3, 2), rfl, fun w hw => gw_mem (List.mem_append_right _ ((show ∀ w ∈ u_ws RX3 TX3 2, w ∈ tables_1 by decide +kernel) w hw)) ((show ∀ w ∈ u_ws RX3 TX3 2, goodWord w = true by decide +kernel) w hw), tyX3_ok, nmX3, by decide +kernel⟩
set_option maxRecDepth 10000 in
theorem ck4 : CK 4 := ⟨(RX4, TX4, 10), rfl, fun w hw => gw_mem (List.mem_append_right _ ((show ∀ w ∈ u_ws RX4 TX4 10, w ∈ tables_1 by decide +kernel) w hw)) ((show ∀ w ∈ u_ws RX4 TX4 10, goodWord w = true by decide +kernel) w hw), tyX4_ok, nmX4, by decide +kernel⟩
set_option maxRecDepth 10000 in
theorem ck5 : CK 5 := ⟨(RX5, TX5, 5), rfl, fun w hw => gw_mem (List.mem_append_right _ ((show ∀ w ∈ u_ws RX5 TX5 5, w ∈ tables_1 by decide +kernel) w hw)) ((show ∀ w ∈ u_ws RX5 TX5 5, goodWord w = true by decide +kernel) w hw), tyX5_ok, nmX5, by decide +kernel⟩
set_option maxRecDepth 10000 in
theorem ck6 : CK 6 := ⟨(RX6, TX6, 8), rfl, fun w hw => gw_mem (List.mem_append_right _ ((show ∀ w ∈ u_ws RX6 TX6 8, w ∈ tables_1 by decide +kernel) w hw)) ((show ∀ w ∈ u_ws RX6 TX6 8, goodWord w = true by decide +kernel) w hw), tyX6_ok, nmX6, by decide +kernel⟩
set_option maxRecDepth 10000 in
theorem ck7 : CK 7 := ⟨(RX7, TX7, 6), rfl, fun w hw => gw_mem (List.mem_append_right _ ((show ∀ w ∈ u_ws RX7 TX7 6, w ∈ tables_1 by decide +kernel) w hw)) ((show ∀ w ∈ u_ws RX7 TX7 6, goodWord w = true by decide +kernel) w hw), tyX7_ok, nmX7, by decide +kernel⟩
set_option maxRecDepth 10000 in
theorem ck8 : CK 8 := ⟨(RX8, TX8, 7), rfl, fun w hw => gw_mem (List.mem_append_right _ ((show ∀ w ∈ u_ws RX8 TX8 7, w ∈ tables_1 by decide +kernel) w hw)) ((show ∀ w ∈ u_ws RX8 TX8 7, goodWord w = true by decide +kernel) w hw), tyX8_ok, nmX8, by decide +kernel⟩
set_option maxRecDepth 10000 in
theorem ck9 : CK 9 := ⟨(RX9, TX9, 8), rfl, fun w hw => gw_mem (List.mem_append_right _ ((show ∀ w ∈ u_ws RX9 TX9 8, w ∈ tables_1 by decide +kernel) w hw)) ((show ∀ w ∈ u_ws RX9 TX9 8, goodWord w = true by decide +kernel) w hw), tyX9_ok, nmX9, by decide +kernel⟩
set_option maxRecDepth 10000 in
theorem ck10 : CK 10 := ⟨(RX11, TX11, 17), rfl, fun w hw => gw_mem (List.mem_append_right _ ((show ∀ w ∈ u_ws RX11 TX11 17, w ∈ tables_1 by decide +kernel) w hw)) ((show ∀ w ∈ u_ws RX11 TX11 17, goodWord w = true by decide +kernel) w hw), tyX11_ok, nmX11, by decide +kernel⟩
set_option maxRecDepth 10000 in
theorem ck11 : CK 11 := ⟨(RX12, TX12, 103), rfl, fun w hw => gw_mem (List.mem_append_right _ ((show ∀ w ∈ u_ws RX12 TX12 103, w ∈ tables_1 by decide +kernel) w hw)) ((show ∀ w ∈ u_ws RX12 TX12 103, goodWord w = true by decide +kernel) w hw), tyX12_ok, nmX12, by decide +kernel⟩
set_option maxRecDepth 10000 in
theorem ii_X11 : Cond.initialized RX11 ∈ GW := gwT_1 1 rfl rfl
set_option maxRecDepth 10000 in
theorem ii_X9 : Cond.initialized RX9 ∈ GW := gwT_1 2 rfl rfl
set_option maxRecDepth 10000 in
theorem ii_X6 : Cond.initialized RX6 ∈ GW := gwT_1 3 rfl rfl
set_option maxRecDepth 10000 in
theorem ii_X2 : Cond.initialized RX2 ∈ GW := gwT_1 4 rfl rfl
set_option maxRecDepth 10000 in
theorem ii_X0 : Cond.initialized RX0 ∈ GW := gwT_1 5 rfl rfl
set_option maxRecDepth 10000 in
theorem ii_X1 : Cond.initialized RX1 ∈ GW := gwT_1 6 rfl rfl
set_option maxRecDepth 10000 in
theorem ii_X8 : Cond.initialized RX8 ∈ GW := gwT_1 7 rfl rfl
set_option maxRecDepth 10000 in
theorem ii_X3 : Cond.initialized RX3 ∈ GW := gwT_1 8 rfl rfl
set_option maxRecDepth 10000 in
theorem ii_X4 : Cond.initialized RX4 ∈ GW := gwT_1 9 rfl rfl
set_option maxRecDepth 10000 in
theorem ii_X5 : Cond.initialized RX5 ∈ GW := gwT_1 10 rfl rfl
set_option maxRecDepth 10000 in
theorem ii_X7 : Cond.initialized RX7 ∈ GW := gwT_1 11 rfl rfl
set_option maxRecDepth 10000 in
theorem ii_X12 : Cond.initialized RX12 ∈ GW := gwT_1 12 rfl rfl
set_option maxRecDepth 10000 in
theorem ii_J7 : Cond.initialized RJ7 ∈ GW := gwT_1 13 rfl rfl
set_option maxRecDepth 10000 in
theorem ii_J9 : Cond.initialized RJ9 ∈ GW := gwT_1 14 rfl rfl
set_option maxRecDepth 10000 in
theorem ii_X10 : Cond.initialized RX10 ∈ GW := gwT_1 15 rfl rfl
set_option maxRecDepth 10000 in
theorem ii_J0 : Cond.initialized RJ0 ∈ GW := gwT_1 16 rfl rfl
set_option maxRecDepth 10000 in
theorem ii_J1 : Cond.initialized RJ1 ∈ GW := gwT_1 17 rfl rfl
set_option maxRecDepth 10000 in
theorem ii_J3 : Cond.initialized RJ3 ∈ GW := gwT_1 18 rfl rfl
set_option maxRecDepth 10000 in
theorem ii_J2 : Cond.initialized RJ2 ∈ GW := gwT_1 19 rfl rfl
set_option maxRecDepth 10000 in
theorem ii_J10 : Cond.initialized RJ10 ∈ GW := gwT_1 20 rfl rfl
set_option maxRecDepth 10000 in
theorem cl_L_7 : Cond.classLink "FatPointersLaw" 7 RX11 ∈ GW := gwT_1 21 rfl rfl
set_option maxRecDepth 10000 in
theorem is_X11 : Cond.instantiable RX11 17 ∈ GW := gwT_1 22 rfl rfl
set_option maxRecDepth 10000 in
theorem lk_L_9 : Cond.methodLink "FatPointersLaw" 9 yX11_init ∈ GW := gwT_1 23 rfl rfl
set_option maxRecDepth 10000 in
theorem im_X11_init : Cond.instanceMethod yX11_init ∈ GW := gwT_1 24 rfl rfl
abbrev gX11_init : mI := (yX11_init, cX11_init, 1, none)
set_option maxRecDepth 10000 in
theorem mi_X11_init : MI gX11_init 0 := ⟨gwT_1 25 rfl rfl, gwT_1 1 rfl rfl, ⟨by decide, by decide, by decide +kernel⟩, by decide⟩
set_option maxRecDepth 10000 in
theorem lk_X11_1 : Cond.methodLink RX11 1 objectInit ∈ GW := gwT_1 26 rfl rfl
set_option maxRecDepth 10000 in
theorem im_obj : Cond.instanceMethod objectInit ∈ GW := gwT_1 27 rfl rfl
set_option maxRecDepth 10000 in
theorem cl_X11_17 : Cond.classLink RX11 17 RX9 ∈ GW := gwT_1 29 rfl rfl
set_option maxRecDepth 10000 in
theorem is_X9 : Cond.instantiable RX9 8 ∈ GW := gwT_1 30 rfl rfl
set_option maxRecDepth 10000 in
theorem lk_X11_19 : Cond.methodLink RX11 19 yX9_init ∈ GW := gwT_1 31 rfl rfl
set_option maxRecDepth 10000 in
theorem im_X9_init : Cond.instanceMethod yX9_init ∈ GW := gwT_1 32 rfl rfl
abbrev gX9_init : mI := (yX9_init, cX9_init, 2, none)
set_option maxRecDepth 10000 in
theorem mi_X9_init : MI gX9_init 0 := ⟨gwT_1 33 rfl rfl, gwT_1 2 rfl rfl, ⟨by decide, by decide, by decide +kernel⟩, by decide⟩
set_option maxRecDepth 10000 in
theorem lk_X9_3 : Cond.methodLink RX9 3 objectInit ∈ GW := gwT_1 34 rfl rfl
set_option maxRecDepth 10000 in
theorem cl_X9_11 : Cond.classLink RX9 11 RX6 ∈ GW := gwT_1 35 rfl rfl
set_option maxRecDepth 10000 in
theorem is_X6 : Cond.instantiable RX6 8 ∈ GW := gwT_1 37 rfl rfl
set_option maxRecDepth 10000 in
theorem im_X6_init : Cond.instanceMethod yX6_init ∈ GW := gwT_1 39 rfl rfl
abbrev gX6_init : mI := (yX6_init, cX6_init, 1, none)
set_option maxRecDepth 10000 in
theorem mi_X6_init : MI gX6_init 0 := ⟨gwT_1 40 rfl rfl, gwT_1 3 rfl rfl, ⟨by decide, by decide, by decide +kernel⟩, by decide⟩
set_option maxRecDepth 10000 in
theorem lk_X6_3 : Cond.methodLink RX6 3 objectInit ∈ GW := gwT_1 41 rfl rfl
set_option maxRecDepth 10000 in
theorem fr_X6_9 : FLr RX6 9 6 0 := ⟨ck6, (RX6, TX6, 8), rfl, by decide, gwT_1 42 rfl rfl⟩
set_option maxRecDepth 10000 in
theorem fl_X6_9 : FL RX6 9 6 0 false := ⟨fr_X6_9, (RX6, TX6, 8), rfl, rfl, fun h => by cases h⟩
set_option maxRecDepth 10000 in
theorem fr_X3_57 : FLr RX3 57 6 0 := ⟨ck6, (RX6, TX6, 8), rfl, by decide, gwT_1 43 rfl rfl⟩
set_option maxRecDepth 10000 in
theorem fl_X3_57 : FL RX3 57 6 0 false := ⟨fr_X3_57, (RX6, TX6, 8), rfl, rfl, fun h => by cases h⟩
set_option maxRecDepth 10000 in
theorem fr_X11_210 : FLr RX11 210 6 0 := ⟨ck6, (RX6, TX6, 8), rfl, by decide, gwT_1 44 rfl rfl⟩
set_option maxRecDepth 10000 in
theorem fl_X11_210 : FL RX11 210 6 0 false := ⟨fr_X11_210, (RX6, TX6, 8), rfl, rfl, fun h => by cases h⟩
set_option maxRecDepth 10000 in
theorem fr_X6_15 : FLr RX6 15 6 1 := ⟨ck6, (RX6, TX6, 8), rfl, by decide, gwT_1 45 rfl rfl⟩
set_option maxRecDepth 10000 in
theorem fl_X6_15 : FL RX6 15 6 1 false := ⟨fr_X6_15, (RX6, TX6, 8), rfl, rfl, fun h => by cases h⟩
set_option maxRecDepth 10000 in
theorem fr_X9_61 : FLr RX9 61 6 1 := ⟨ck6, (RX6, TX6, 8), rfl, by decide, gwT_1 46 rfl rfl⟩
set_option maxRecDepth 10000 in
theorem fl_X9_61 : FL RX9 61 6 1 false := ⟨fr_X9_61, (RX6, TX6, 8), rfl, rfl, fun h => by cases h⟩
set_option maxRecDepth 10000 in
theorem fr_X3_63 : FLr RX3 63 6 1 := ⟨ck6, (RX6, TX6, 8), rfl, by decide, gwT_1 47 rfl rfl⟩
set_option maxRecDepth 10000 in
theorem fl_X3_63 : FL RX3 63 6 1 false := ⟨fr_X3_63, (RX6, TX6, 8), rfl, rfl, fun h => by cases h⟩
set_option maxRecDepth 10000 in
theorem fr_X0_67 : FLr RX0 67 6 1 := ⟨ck6, (RX6, TX6, 8), rfl, by decide, gwT_1 48 rfl rfl⟩
set_option maxRecDepth 10000 in
theorem fl_X0_67 : FL RX0 67 6 1 false := ⟨fr_X0_67, (RX6, TX6, 8), rfl, rfl, fun h => by cases h⟩
set_option maxRecDepth 10000 in
theorem fr_X11_143 : FLr RX11 143 6 1 := ⟨ck6, (RX6, TX6, 8), rfl, by decide, gwT_1 49 rfl rfl⟩
set_option maxRecDepth 10000 in
theorem fl_X11_143 : FL RX11 143 6 1 false := ⟨fr_X11_143, (RX6, TX6, 8), rfl, rfl, fun h => by cases h⟩
set_option maxRecDepth 10000 in
theorem fr_X6_18 : FLr RX6 18 6 2 := ⟨ck6, (RX6, TX6, 8), rfl, by decide, gwT_1 50 rfl rfl⟩
set_option maxRecDepth 10000 in
theorem fl_X6_18 : FL RX6 18 6 2 false := ⟨fr_X6_18, (RX6, TX6, 8), rfl, rfl, fun h => by cases h⟩
set_option maxRecDepth 10000 in
theorem fr_X3_66 : FLr RX3 66 6 2 := ⟨ck6, (RX6, TX6, 8), rfl, by decide, gwT_1 51 rfl rfl⟩
set_option maxRecDepth 10000 in
theorem fl_X3_66 : FL RX3 66 6 2 false := ⟨fr_X3_66, (RX6, TX6, 8), rfl, rfl, fun h => by cases h⟩
set_option maxRecDepth 10000 in
theorem fr_X0_71 : FLr RX0 71 6 2 := ⟨ck6, (RX6, TX6, 8), rfl, by decide, gwT_1 52 rfl rfl⟩
set_option maxRecDepth 10000 in
theorem fl_X0_71 : FL RX0 71 6 2 false := ⟨fr_X0_71, (RX6, TX6, 8), rfl, rfl, fun h => by cases h⟩
set_option maxRecDepth 10000 in
theorem fr_X11_330 : FLr RX11 330 6 2 := ⟨ck6, (RX6, TX6, 8), rfl, by decide, gwT_1 53 rfl rfl⟩
set_option maxRecDepth 10000 in
theorem fl_X11_330 : FL RX11 330 6 2 false := ⟨fr_X11_330, (RX6, TX6, 8), rfl, rfl, fun h => by cases h⟩
set_option maxRecDepth 10000 in
theorem fr_X6_22 : FLr RX6 22 6 3 := ⟨ck6, (RX6, TX6, 8), rfl, by decide, gwT_1 54 rfl rfl⟩
set_option maxRecDepth 10000 in
theorem fl_X6_22 : FL RX6 22 6 3 false := ⟨fr_X6_22, (RX6, TX6, 8), rfl, rfl, fun h => by cases h⟩
set_option maxRecDepth 10000 in
theorem fr_X0_59 : FLr RX0 59 6 3 := ⟨ck6, (RX6, TX6, 8), rfl, by decide, gwT_1 55 rfl rfl⟩
set_option maxRecDepth 10000 in
theorem fl_X0_59 : FL RX0 59 6 3 false := ⟨fr_X0_59, (RX6, TX6, 8), rfl, rfl, fun h => by cases h⟩
set_option maxRecDepth 10000 in
theorem fr_X3_69 : FLr RX3 69 6 3 := ⟨ck6, (RX6, TX6, 8), rfl, by decide, gwT_1 56 rfl rfl⟩
set_option maxRecDepth 10000 in
theorem fl_X3_69 : FL RX3 69 6 3 false := ⟨fr_X3_69, (RX6, TX6, 8), rfl, rfl, fun h => by cases h⟩
set_option maxRecDepth 10000 in
theorem fr_X6_25 : FLr RX6 25 6 4 := ⟨ck6, (RX6, TX6, 8), rfl, by decide, gwT_1 57 rfl rfl⟩
set_option maxRecDepth 10000 in
theorem fl_X6_25 : FL RX6 25 6 4 false := ⟨fr_X6_25, (RX6, TX6, 8), rfl, rfl, fun h => by cases h⟩
set_option maxRecDepth 10000 in
theorem fr_X3_72 : FLr RX3 72 6 4 := ⟨ck6, (RX6, TX6, 8), rfl, by decide, gwT_1 58 rfl rfl⟩
set_option maxRecDepth 10000 in
theorem fl_X3_72 : FL RX3 72 6 4 false := ⟨fr_X3_72, (RX6, TX6, 8), rfl, rfl, fun h => by cases h⟩
set_option maxRecDepth 10000 in
theorem fr_X6_28 : FLr RX6 28 6 5 := ⟨ck6, (RX6, TX6, 8), rfl, by decide, gwT_1 59 rfl rfl⟩
set_option maxRecDepth 10000 in
theorem fl_X6_28 : FL RX6 28 6 5 false := ⟨fr_X6_28, (RX6, TX6, 8), rfl, rfl, fun h => by cases h⟩
set_option maxRecDepth 10000 in
theorem fr_X3_75 : FLr RX3 75 6 5 := ⟨ck6, (RX6, TX6, 8), rfl, by decide, gwT_1 60 rfl rfl⟩
set_option maxRecDepth 10000 in
theorem fl_X3_75 : FL RX3 75 6 5 false := ⟨fr_X3_75, (RX6, TX6, 8), rfl, rfl, fun h => by cases h⟩
set_option maxRecDepth 10000 in
theorem fr_X6_31 : FLr RX6 31 6 6 := ⟨ck6, (RX6, TX6, 8), rfl, by decide, gwT_1 61 rfl rfl⟩
set_option maxRecDepth 10000 in
theorem fl_X6_31 : FL RX6 31 6 6 false := ⟨fr_X6_31, (RX6, TX6, 8), rfl, rfl, fun h => by cases h⟩
set_option maxRecDepth 10000 in
theorem fr_X3_78 : FLr RX3 78 6 6 := ⟨ck6, (RX6, TX6, 8), rfl, by decide, gwT_1 62 rfl rfl⟩
set_option maxRecDepth 10000 in
theorem fl_X3_78 : FL RX3 78 6 6 false := ⟨fr_X3_78, (RX6, TX6, 8), rfl, rfl, fun h => by cases h⟩
set_option maxRecDepth 10000 in
theorem fr_X0_81 : FLr RX0 81 6 6 := ⟨ck6, (RX6, TX6, 8), rfl, by decide, gwT_1 63 rfl rfl⟩
set_option maxRecDepth 10000 in
theorem fl_X0_81 : FL RX0 81 6 6 false := ⟨fr_X0_81, (RX6, TX6, 8), rfl, rfl, fun h => by cases h⟩
set_option maxRecDepth 10000 in
theorem fr_X11_148 : FLr RX11 148 6 6 := ⟨ck6, (RX6, TX6, 8), rfl, by decide, gwT_1 64 rfl rfl⟩
set_option maxRecDepth 10000 in
theorem fl_X11_148 : FL RX11 148 6 6 false := ⟨fr_X11_148, (RX6, TX6, 8), rfl, rfl, fun h => by cases h⟩
set_option maxRecDepth 10000 in
theorem fr_X6_34 : FLr RX6 34 6 7 := ⟨ck6, (RX6, TX6, 8), rfl, by decide, gwT_1 65 rfl rfl⟩
set_option maxRecDepth 10000 in
theorem fl_X6_34 : FL RX6 34 6 7 false := ⟨fr_X6_34, (RX6, TX6, 8), rfl, rfl, fun h => by cases h⟩
set_option maxRecDepth 10000 in
theorem fr_X0_64 : FLr RX0 64 6 7 := ⟨ck6, (RX6, TX6, 8), rfl, by decide, gwT_1 66 rfl rfl⟩
set_option maxRecDepth 10000 in
theorem fl_X0_64 : FL RX0 64 6 7 false := ⟨fr_X0_64, (RX6, TX6, 8), rfl, rfl, fun h => by cases h⟩
set_option maxRecDepth 10000 in
theorem fr_X3_81 : FLr RX3 81 6 7 := ⟨ck6, (RX6, TX6, 8), rfl, by decide, gwT_1 67 rfl rfl⟩
set_option maxRecDepth 10000 in
theorem fl_X3_81 : FL RX3 81 6 7 false := ⟨fr_X3_81, (RX6, TX6, 8), rfl, rfl, fun h => by cases h⟩
set_option maxRecDepth 10000 in
theorem fr_X11_351 : FLr RX11 351 6 7 := ⟨ck6, (RX6, TX6, 8), rfl, by decide, gwT_1 68 rfl rfl⟩
set_option maxRecDepth 10000 in
theorem fl_X11_351 : FL RX11 351 6 7 false := ⟨fr_X11_351, (RX6, TX6, 8), rfl, rfl, fun h => by cases h⟩
set_option maxRecDepth 10000 in
theorem ac_byte : Cond.arrayClass .byte ∈ GW := gwT_1 86 rfl rfl
set_option maxRecDepth 10000 in
theorem ac_int : Cond.arrayClass .int ∈ GW := gwT_1 87 rfl rfl
set_option maxRecDepth 10000 in
theorem fr_X9_13 : FLr RX9 13 9 0 := ⟨ck9, (RX9, TX9, 8), rfl, by decide, gwT_1 88 rfl rfl⟩
set_option maxRecDepth 10000 in
theorem fl_X9_13 : FL RX9 13 9 0 true := ⟨fr_X9_13, (RX9, TX9, 8), rfl, rfl, fun _ => rfl⟩
set_option maxRecDepth 10000 in
theorem fr_X11_36 : FLr RX11 36 9 0 := ⟨ck9, (RX9, TX9, 8), rfl, by decide, gwT_1 89 rfl rfl⟩
set_option maxRecDepth 10000 in
theorem fr_X3_29 : FLr RX3 29 9 0 := ⟨ck9, (RX9, TX9, 8), rfl, by decide, gwT_1 90 rfl rfl⟩
set_option maxRecDepth 10000 in
theorem fr_X9_17 : FLr RX9 17 9 1 := ⟨ck9, (RX9, TX9, 8), rfl, by decide, gwT_1 91 rfl rfl⟩
set_option maxRecDepth 10000 in
theorem fl_X9_17 : FL RX9 17 9 1 true := ⟨fr_X9_17, (RX9, TX9, 8), rfl, rfl, fun _ => rfl⟩
set_option maxRecDepth 10000 in
theorem fr_X3_40 : FLr RX3 40 9 1 := ⟨ck9, (RX9, TX9, 8), rfl, by decide, gwT_1 92 rfl rfl⟩
set_option maxRecDepth 10000 in
theorem fr_X11_213 : FLr RX11 213 9 1 := ⟨ck9, (RX9, TX9, 8), rfl, by decide, gwT_1 93 rfl rfl⟩
set_option maxRecDepth 10000 in
theorem fr_X9_21 : FLr RX9 21 9 2 := ⟨ck9, (RX9, TX9, 8), rfl, by decide, gwT_1 94 rfl rfl⟩
set_option maxRecDepth 10000 in
theorem fl_X9_21 : FL RX9 21 9 2 true := ⟨fr_X9_21, (RX9, TX9, 8), rfl, rfl, fun _ => rfl⟩
set_option maxRecDepth 10000 in
theorem fr_X3_47 : FLr RX3 47 9 2 := ⟨ck9, (RX9, TX9, 8), rfl, by decide, gwT_1 95 rfl rfl⟩
set_option maxRecDepth 10000 in
theorem fr_X11_216 : FLr RX11 216 9 2 := ⟨ck9, (RX9, TX9, 8), rfl, by decide, gwT_1 96 rfl rfl⟩
set_option maxRecDepth 10000 in
theorem fr_X9_24 : FLr RX9 24 9 3 := ⟨ck9, (RX9, TX9, 8), rfl, by decide, gwT_1 97 rfl rfl⟩
set_option maxRecDepth 10000 in
theorem fl_X9_24 : FL RX9 24 9 3 true := ⟨fr_X9_24, (RX9, TX9, 8), rfl, rfl, fun _ => rfl⟩
set_option maxRecDepth 10000 in
theorem fr_X3_50 : FLr RX3 50 9 3 := ⟨ck9, (RX9, TX9, 8), rfl, by decide, gwT_1 98 rfl rfl⟩
set_option maxRecDepth 10000 in
theorem fr_X11_219 : FLr RX11 219 9 3 := ⟨ck9, (RX9, TX9, 8), rfl, by decide, gwT_1 99 rfl rfl⟩
set_option maxRecDepth 10000 in
theorem fr_X9_27 : FLr RX9 27 9 4 := ⟨ck9, (RX9, TX9, 8), rfl, by decide, gwT_1 100 rfl rfl⟩
set_option maxRecDepth 10000 in
theorem fl_X9_27 : FL RX9 27 9 4 true := ⟨fr_X9_27, (RX9, TX9, 8), rfl, rfl, fun _ => rfl⟩
set_option maxRecDepth 10000 in
theorem fr_X11_234 : FLr RX11 234 9 4 := ⟨ck9, (RX9, TX9, 8), rfl, by decide, gwT_1 101 rfl rfl⟩
set_option maxRecDepth 10000 in
theorem fr_X9_30 : FLr RX9 30 9 5 := ⟨ck9, (RX9, TX9, 8), rfl, by decide, gwT_1 102 rfl rfl⟩
set_option maxRecDepth 10000 in
theorem fl_X9_30 : FL RX9 30 9 5 true := ⟨fr_X9_30, (RX9, TX9, 8), rfl, rfl, fun _ => rfl⟩
set_option maxRecDepth 10000 in
theorem fr_X9_33 : FLr RX9 33 9 6 := ⟨ck9, (RX9, TX9, 8), rfl, by decide, gwT_1 103 rfl rfl⟩
set_option maxRecDepth 10000 in
theorem fl_X9_33 : FL RX9 33 9 6 false := ⟨fr_X9_33, (RX9, TX9, 8), rfl, rfl, fun h => by cases h⟩
set_option maxRecDepth 10000 in
theorem fr_X1_29 : FLr RX1 29 9 6 := ⟨ck9, (RX9, TX9, 8), rfl, by decide, gwT_1 104 rfl rfl⟩
set_option maxRecDepth 10000 in
theorem fl_X1_29 : FL RX1 29 9 6 false := ⟨fr_X1_29, (RX9, TX9, 8), rfl, rfl, fun h => by cases h⟩
set_option maxRecDepth 10000 in
theorem fr_X3_37 : FLr RX3 37 9 6 := ⟨ck9, (RX9, TX9, 8), rfl, by decide, gwT_1 105 rfl rfl⟩
set_option maxRecDepth 10000 in
theorem fl_X3_37 : FL RX3 37 9 6 false := ⟨fr_X3_37, (RX9, TX9, 8), rfl, rfl, fun h => by cases h⟩
set_option maxRecDepth 10000 in
theorem fr_X11_166 : FLr RX11 166 9 6 := ⟨ck9, (RX9, TX9, 8), rfl, by decide, gwT_1 106 rfl rfl⟩
set_option maxRecDepth 10000 in
theorem fl_X11_166 : FL RX11 166 9 6 false := ⟨fr_X11_166, (RX9, TX9, 8), rfl, rfl, fun h => by cases h⟩
set_option maxRecDepth 10000 in
theorem fr_X9_37 : FLr RX9 37 9 7 := ⟨ck9, (RX9, TX9, 8), rfl, by decide, gwT_1 107 rfl rfl⟩
set_option maxRecDepth 10000 in
theorem fl_X9_37 : FL RX9 37 9 7 false := ⟨fr_X9_37, (RX9, TX9, 8), rfl, rfl, fun h => by cases h⟩
set_option maxRecDepth 10000 in
theorem fr_X11_178 : FLr RX11 178 9 7 := ⟨ck9, (RX9, TX9, 8), rfl, by decide, gwT_1 108 rfl rfl⟩
set_option maxRecDepth 10000 in
theorem fl_X11_178 : FL RX11 178 9 7 false := ⟨fr_X11_178, (RX9, TX9, 8), rfl, rfl, fun h => by cases h⟩
set_option maxRecDepth 10000 in
theorem cl_X11_27 : Cond.classLink RX11 27 RX2 ∈ GW := gwT_1 126 rfl rfl
set_option maxRecDepth 10000 in
theorem is_X2 : Cond.instantiable RX2 3 ∈ GW := gwT_1 127 rfl rfl
set_option maxRecDepth 10000 in
theorem im_X2_init : Cond.instanceMethod yX2_init ∈ GW := gwT_1 129 rfl rfl
abbrev gX2_init : mI := (yX2_init, cX2_init, 1, none)
set_option maxRecDepth 10000 in
theorem mi_X2_init : MI gX2_init 0 := ⟨gwT_1 130 rfl rfl, gwT_1 4 rfl rfl, ⟨by decide, by decide, by decide +kernel⟩, by decide⟩
set_option maxRecDepth 10000 in
theorem lk_X2_1 : Cond.methodLink RX2 1 objectInit ∈ GW := gwT_1 131 rfl rfl
set_option maxRecDepth 10000 in
theorem cl_X2_16 : Cond.classLink RX2 16 RX9 ∈ GW := gwT_1 132 rfl rfl
set_option maxRecDepth 10000 in
theorem fr_X2_7 : FLr RX2 7 2 0 := ⟨ck2, (RX2, TX2, 3), rfl, by decide, gwT_1 134 rfl rfl⟩
set_option maxRecDepth 10000 in
theorem fl_X2_7 : FL RX2 7 2 0 false := ⟨fr_X2_7, (RX2, TX2, 3), rfl, rfl, fun h => by cases h⟩
set_option maxRecDepth 10000 in
theorem fr_X11_184 : FLr RX11 184 2 0 := ⟨ck2, (RX2, TX2, 3), rfl, by decide, gwT_1 135 rfl rfl⟩
set_option maxRecDepth 10000 in
theorem fl_X11_184 : FL RX11 184 2 0 false := ⟨fr_X11_184, (RX2, TX2, 3), rfl, rfl, fun h => by cases h⟩
set_option maxRecDepth 10000 in
theorem fr_X2_13 : FLr RX2 13 2 1 := ⟨ck2, (RX2, TX2, 3), rfl, by decide, gwT_1 136 rfl rfl⟩
set_option maxRecDepth 10000 in
theorem fl_X2_13 : FL RX2 13 2 1 false := ⟨fr_X2_13, (RX2, TX2, 3), rfl, rfl, fun h => by cases h⟩
set_option maxRecDepth 10000 in
theorem fr_X2_18 : FLr RX2 18 2 2 := ⟨ck2, (RX2, TX2, 3), rfl, by decide, gwT_1 137 rfl rfl⟩
set_option maxRecDepth 10000 in
theorem fl_X2_18 : FL RX2 18 2 2 true := ⟨fr_X2_18, (RX2, TX2, 3), rfl, rfl, fun _ => rfl⟩
set_option maxRecDepth 10000 in
theorem cl_X11_34 : Cond.classLink RX11 34 RX0 ∈ GW := gwT_1 145 rfl rfl
set_option maxRecDepth 10000 in
theorem is_X0 : Cond.instantiable RX0 6 ∈ GW := gwT_1 146 rfl rfl
set_option maxRecDepth 10000 in
theorem lk_X11_40 : Cond.methodLink RX11 40 yX0_init ∈ GW := gwT_1 147 rfl rfl
set_option maxRecDepth 10000 in
theorem im_X0_init : Cond.instanceMethod yX0_init ∈ GW := gwT_1 148 rfl rfl
abbrev gX0_init : mI := (yX0_init, cX0_init, 2, none)
set_option maxRecDepth 10000 in
theorem mi_X0_init : MI gX0_init 1 := ⟨gwT_1 149 rfl rfl, gwT_1 5 rfl rfl, ⟨by decide, by decide, by decide +kernel⟩, by decide⟩
set_option maxRecDepth 10000 in
theorem lk_X0_3 : Cond.methodLink RX0 3 objectInit ∈ GW := gwT_1 150 rfl rfl
set_option maxRecDepth 10000 in
theorem fr_X0_33 : FLr RX0 33 0 0 := ⟨ck0, (RX0, TX0, 6), rfl, by decide, gwT_1 151 rfl rfl⟩
set_option maxRecDepth 10000 in
theorem fl_X0_33 : FL RX0 33 0 0 true := ⟨fr_X0_33, (RX0, TX0, 6), rfl, rfl, fun _ => rfl⟩
set_option maxRecDepth 10000 in
theorem fr_X0_11 : FLr RX0 11 0 1 := ⟨ck0, (RX0, TX0, 6), rfl, by decide, gwT_1 152 rfl rfl⟩
set_option maxRecDepth 10000 in
theorem fl_X0_11 : FL RX0 11 0 1 true := ⟨fr_X0_11, (RX0, TX0, 6), rfl, rfl, fun _ => rfl⟩
set_option maxRecDepth 10000 in
theorem fr_X0_17 : FLr RX0 17 0 2 := ⟨ck0, (RX0, TX0, 6), rfl, by decide, gwT_1 153 rfl rfl⟩
set_option maxRecDepth 10000 in
theorem fl_X0_17 : FL RX0 17 0 2 true := ⟨fr_X0_17, (RX0, TX0, 6), rfl, rfl, fun _ => rfl⟩
set_option maxRecDepth 10000 in
theorem fr_X0_20 : FLr RX0 20 0 3 := ⟨ck0, (RX0, TX0, 6), rfl, by decide, gwT_1 154 rfl rfl⟩
set_option maxRecDepth 10000 in
theorem fl_X0_20 : FL RX0 20 0 3 false := ⟨fr_X0_20, (RX0, TX0, 6), rfl, rfl, fun h => by cases h⟩
set_option maxRecDepth 10000 in
theorem fr_X0_24 : FLr RX0 24 0 4 := ⟨ck0, (RX0, TX0, 6), rfl, by decide, gwT_1 155 rfl rfl⟩
set_option maxRecDepth 10000 in
theorem fl_X0_24 : FL RX0 24 0 4 false := ⟨fr_X0_24, (RX0, TX0, 6), rfl, rfl, fun h => by cases h⟩
set_option maxRecDepth 10000 in
theorem fr_X0_30 : FLr RX0 30 0 5 := ⟨ck0, (RX0, TX0, 6), rfl, by decide, gwT_1 156 rfl rfl⟩
set_option maxRecDepth 10000 in
theorem fl_X0_30 : FL RX0 30 0 5 false := ⟨fr_X0_30, (RX0, TX0, 6), rfl, rfl, fun h => by cases h⟩
set_option maxRecDepth 10000 in
theorem cl_X11_47 : Cond.classLink RX11 47 RX1 ∈ GW := gwT_1 170 rfl rfl
set_option maxRecDepth 10000 in
theorem is_X1 : Cond.instantiable RX1 5 ∈ GW := gwT_1 171 rfl rfl
set_option maxRecDepth 10000 in
theorem lk_X11_49 : Cond.methodLink RX11 49 yX1_init ∈ GW := gwT_1 172 rfl rfl
set_option maxRecDepth 10000 in
theorem im_X1_init : Cond.instanceMethod yX1_init ∈ GW := gwT_1 173 rfl rfl
abbrev gX1_init : mI := (yX1_init, cX1_init, 3, none)
set_option maxRecDepth 10000 in
theorem mi_X1_init : MI gX1_init 2 := ⟨gwT_1 174 rfl rfl, gwT_1 6 rfl rfl, ⟨by decide, by decide, by decide +kernel⟩, by decide⟩
set_option maxRecDepth 10000 in
theorem lk_X1_3 : Cond.methodLink RX1 3 objectInit ∈ GW := gwT_1 175 rfl rfl
set_option maxRecDepth 10000 in
theorem fr_X1_9 : FLr RX1 9 1 0 := ⟨ck1, (RX1, TX1, 5), rfl, by decide, gwT_1 176 rfl rfl⟩
set_option maxRecDepth 10000 in
theorem fl_X1_9 : FL RX1 9 1 0 false := ⟨fr_X1_9, (RX1, TX1, 5), rfl, rfl, fun h => by cases h⟩
set_option maxRecDepth 10000 in
theorem fr_X11_317 : FLr RX11 317 1 0 := ⟨ck1, (RX1, TX1, 5), rfl, by decide, gwT_1 177 rfl rfl⟩
set_option maxRecDepth 10000 in
theorem fl_X11_317 : FL RX11 317 1 0 false := ⟨fr_X11_317, (RX1, TX1, 5), rfl, rfl, fun h => by cases h⟩
set_option maxRecDepth 10000 in
theorem fr_X1_15 : FLr RX1 15 1 1 := ⟨ck1, (RX1, TX1, 5), rfl, by decide, gwT_1 178 rfl rfl⟩
set_option maxRecDepth 10000 in
theorem fl_X1_15 : FL RX1 15 1 1 false := ⟨fr_X1_15, (RX1, TX1, 5), rfl, rfl, fun h => by cases h⟩
set_option maxRecDepth 10000 in
theorem fr_X11_280 : FLr RX11 280 1 1 := ⟨ck1, (RX1, TX1, 5), rfl, by decide, gwT_1 179 rfl rfl⟩
set_option maxRecDepth 10000 in
theorem fl_X11_280 : FL RX11 280 1 1 false := ⟨fr_X11_280, (RX1, TX1, 5), rfl, rfl, fun h => by cases h⟩
set_option maxRecDepth 10000 in
theorem fr_X1_18 : FLr RX1 18 1 2 := ⟨ck1, (RX1, TX1, 5), rfl, by decide, gwT_1 180 rfl rfl⟩
set_option maxRecDepth 10000 in
theorem fl_X1_18 : FL RX1 18 1 2 false := ⟨fr_X1_18, (RX1, TX1, 5), rfl, rfl, fun h => by cases h⟩
set_option maxRecDepth 10000 in
theorem fr_X11_320 : FLr RX11 320 1 2 := ⟨ck1, (RX1, TX1, 5), rfl, by decide, gwT_1 181 rfl rfl⟩
set_option maxRecDepth 10000 in
theorem fl_X11_320 : FL RX11 320 1 2 false := ⟨fr_X11_320, (RX1, TX1, 5), rfl, rfl, fun h => by cases h⟩
set_option maxRecDepth 10000 in
theorem fr_X1_21 : FLr RX1 21 1 3 := ⟨ck1, (RX1, TX1, 5), rfl, by decide, gwT_1 182 rfl rfl⟩
set_option maxRecDepth 10000 in
theorem fl_X1_21 : FL RX1 21 1 3 true := ⟨fr_X1_21, (RX1, TX1, 5), rfl, rfl, fun _ => rfl⟩
set_option maxRecDepth 10000 in
theorem fr_X1_25 : FLr RX1 25 1 4 := ⟨ck1, (RX1, TX1, 5), rfl, by decide, gwT_1 183 rfl rfl⟩
set_option maxRecDepth 10000 in
theorem fl_X1_25 : FL RX1 25 1 4 true := ⟨fr_X1_25, (RX1, TX1, 5), rfl, rfl, fun _ => rfl⟩
set_option maxRecDepth 10000 in
theorem cl_X11_56 : Cond.classLink RX11 56 RX8 ∈ GW := gwT_1 195 rfl rfl
set_option maxRecDepth 10000 in
theorem is_X8 : Cond.instantiable RX8 7 ∈ GW := gwT_1 196 rfl rfl
set_option maxRecDepth 10000 in
theorem im_X8_init : Cond.instanceMethod yX8_init ∈ GW := gwT_1 198 rfl rfl
abbrev gX8_init : mI := (yX8_init, cX8_init, 1, none)
set_option maxRecDepth 10000 in
theorem mi_X8_init : MI gX8_init 0 := ⟨gwT_1 199 rfl rfl, gwT_1 7 rfl rfl, ⟨by decide, by decide, by decide +kernel⟩, by decide⟩
set_option maxRecDepth 10000 in
theorem lk_X8_3 : Cond.methodLink RX8 3 objectInit ∈ GW := gwT_1 200 rfl rfl
set_option maxRecDepth 10000 in
theorem fr_X8_9 : FLr RX8 9 8 0 := ⟨ck8, (RX8, TX8, 7), rfl, by decide, gwT_1 201 rfl rfl⟩
set_option maxRecDepth 10000 in
theorem fl_X8_9 : FL RX8 9 8 0 false := ⟨fr_X8_9, (RX8, TX8, 7), rfl, rfl, fun h => by cases h⟩
set_option maxRecDepth 10000 in
theorem fr_X11_181 : FLr RX11 181 8 0 := ⟨ck8, (RX8, TX8, 7), rfl, by decide, gwT_1 202 rfl rfl⟩
set_option maxRecDepth 10000 in
theorem fl_X11_181 : FL RX11 181 8 0 false := ⟨fr_X11_181, (RX8, TX8, 7), rfl, rfl, fun h => by cases h⟩
set_option maxRecDepth 10000 in
theorem fr_X8_15 : FLr RX8 15 8 1 := ⟨ck8, (RX8, TX8, 7), rfl, by decide, gwT_1 203 rfl rfl⟩
set_option maxRecDepth 10000 in
theorem fl_X8_15 : FL RX8 15 8 1 false := ⟨fr_X8_15, (RX8, TX8, 7), rfl, rfl, fun h => by cases h⟩
set_option maxRecDepth 10000 in
theorem fr_X11_303 : FLr RX11 303 8 1 := ⟨ck8, (RX8, TX8, 7), rfl, by decide, gwT_1 204 rfl rfl⟩
set_option maxRecDepth 10000 in
theorem fl_X11_303 : FL RX11 303 8 1 false := ⟨fr_X11_303, (RX8, TX8, 7), rfl, rfl, fun h => by cases h⟩
set_option maxRecDepth 10000 in
theorem fr_X8_18 : FLr RX8 18 8 2 := ⟨ck8, (RX8, TX8, 7), rfl, by decide, gwT_1 205 rfl rfl⟩
set_option maxRecDepth 10000 in
theorem fl_X8_18 : FL RX8 18 8 2 false := ⟨fr_X8_18, (RX8, TX8, 7), rfl, rfl, fun h => by cases h⟩
set_option maxRecDepth 10000 in
theorem fr_X11_306 : FLr RX11 306 8 2 := ⟨ck8, (RX8, TX8, 7), rfl, by decide, gwT_1 206 rfl rfl⟩
set_option maxRecDepth 10000 in
theorem fl_X11_306 : FL RX11 306 8 2 false := ⟨fr_X11_306, (RX8, TX8, 7), rfl, rfl, fun h => by cases h⟩
set_option maxRecDepth 10000 in
theorem fr_X8_21 : FLr RX8 21 8 3 := ⟨ck8, (RX8, TX8, 7), rfl, by decide, gwT_1 207 rfl rfl⟩
set_option maxRecDepth 10000 in
theorem fl_X8_21 : FL RX8 21 8 3 true := ⟨fr_X8_21, (RX8, TX8, 7), rfl, rfl, fun _ => rfl⟩
set_option maxRecDepth 10000 in
theorem fr_X8_25 : FLr RX8 25 8 4 := ⟨ck8, (RX8, TX8, 7), rfl, by decide, gwT_1 208 rfl rfl⟩
set_option maxRecDepth 10000 in
theorem fl_X8_25 : FL RX8 25 8 4 true := ⟨fr_X8_25, (RX8, TX8, 7), rfl, rfl, fun _ => rfl⟩
set_option maxRecDepth 10000 in
theorem fr_X8_29 : FLr RX8 29 8 5 := ⟨ck8, (RX8, TX8, 7), rfl, by decide, gwT_1 209 rfl rfl⟩
set_option maxRecDepth 10000 in
theorem fl_X8_29 : FL RX8 29 8 5 false := ⟨fr_X8_29, (RX8, TX8, 7), rfl, rfl, fun h => by cases h⟩
set_option maxRecDepth 10000 in
theorem fr_X8_32 : FLr RX8 32 8 6 := ⟨ck8, (RX8, TX8, 7), rfl, by decide, gwT_1 210 rfl rfl⟩
set_option maxRecDepth 10000 in
theorem fl_X8_32 : FL RX8 32 8 6 false := ⟨fr_X8_32, (RX8, TX8, 7), rfl, rfl, fun h => by cases h⟩
set_option maxRecDepth 10000 in
theorem ac_boolean : Cond.arrayClass .boolean ∈ GW := gwT_1 226 rfl rfl
set_option maxRecDepth 10000 in
theorem cl_X11_63 : Cond.classLink RX11 63 RX3 ∈ GW := gwT_1 227 rfl rfl
set_option maxRecDepth 10000 in
theorem is_X3 : Cond.instantiable RX3 2 ∈ GW := gwT_1 228 rfl rfl
set_option maxRecDepth 10000 in
theorem im_X3_init : Cond.instanceMethod yX3_init ∈ GW := gwT_1 230 rfl rfl
abbrev gX3_init : mI := (yX3_init, cX3_init, 1, none)
set_option maxRecDepth 10000 in
theorem mi_X3_init : MI gX3_init 0 := ⟨gwT_1 231 rfl rfl, gwT_1 8 rfl rfl, ⟨by decide, by decide, by decide +kernel⟩, by decide⟩
set_option maxRecDepth 10000 in
theorem lk_X3_3 : Cond.methodLink RX3 3 objectInit ∈ GW := gwT_1 232 rfl rfl
set_option maxRecDepth 10000 in
theorem fr_X3_13 : FLr RX3 13 3 0 := ⟨ck3, (RX3, TX3, 2), rfl, by decide, gwT_1 233 rfl rfl⟩
set_option maxRecDepth 10000 in
theorem fl_X3_13 : FL RX3 13 3 0 true := ⟨fr_X3_13, (RX3, TX3, 2), rfl, rfl, fun _ => rfl⟩
set_option maxRecDepth 10000 in
theorem fr_X11_422 : FLr RX11 422 3 0 := ⟨ck3, (RX3, TX3, 2), rfl, by decide, gwT_1 234 rfl rfl⟩
set_option maxRecDepth 10000 in
theorem fr_X3_17 : FLr RX3 17 3 1 := ⟨ck3, (RX3, TX3, 2), rfl, by decide, gwT_1 235 rfl rfl⟩
set_option maxRecDepth 10000 in
theorem fl_X3_17 : FL RX3 17 3 1 false := ⟨fr_X3_17, (RX3, TX3, 2), rfl, rfl, fun h => by cases h⟩
set_option maxRecDepth 10000 in
theorem fr_X11_421 : FLr RX11 421 3 1 := ⟨ck3, (RX3, TX3, 2), rfl, by decide, gwT_1 236 rfl rfl⟩
set_option maxRecDepth 10000 in
theorem fl_X11_421 : FL RX11 421 3 1 false := ⟨fr_X11_421, (RX3, TX3, 2), rfl, rfl, fun h => by cases h⟩
set_option maxRecDepth 10000 in
theorem cl_X11_70 : Cond.classLink RX11 70 RX4 ∈ GW := gwT_2 2 rfl rfl
set_option maxRecDepth 10000 in
theorem is_X4 : Cond.instantiable RX4 10 ∈ GW := gwT_2 3 rfl rfl
set_option maxRecDepth 10000 in
theorem im_X4_init : Cond.instanceMethod yX4_init ∈ GW := gwT_2 5 rfl rfl
abbrev gX4_init : mI := (yX4_init, cX4_init, 1, none)
set_option maxRecDepth 10000 in
theorem mi_X4_init : MI gX4_init 0 := ⟨gwT_2 6 rfl rfl, gwT_1 9 rfl rfl, ⟨by decide, by decide, by decide +kernel⟩, by decide⟩
set_option maxRecDepth 10000 in
theorem lk_X4_3 : Cond.methodLink RX4 3 objectInit ∈ GW := gwT_2 7 rfl rfl
set_option maxRecDepth 10000 in
theorem fr_X4_9 : FLr RX4 9 4 0 := ⟨ck4, (RX4, TX4, 10), rfl, by decide, gwT_2 8 rfl rfl⟩
set_option maxRecDepth 10000 in
theorem fl_X4_9 : FL RX4 9 4 0 false := ⟨fr_X4_9, (RX4, TX4, 10), rfl, rfl, fun h => by cases h⟩
set_option maxRecDepth 10000 in
theorem fr_X5_57 : FLr RX5 57 4 0 := ⟨ck4, (RX4, TX4, 10), rfl, by decide, gwT_2 9 rfl rfl⟩
set_option maxRecDepth 10000 in
theorem fl_X5_57 : FL RX5 57 4 0 false := ⟨fr_X5_57, (RX4, TX4, 10), rfl, rfl, fun h => by cases h⟩
set_option maxRecDepth 10000 in
theorem fr_X11_133 : FLr RX11 133 4 0 := ⟨ck4, (RX4, TX4, 10), rfl, by decide, gwT_2 10 rfl rfl⟩
set_option maxRecDepth 10000 in
theorem fl_X11_133 : FL RX11 133 4 0 false := ⟨fr_X11_133, (RX4, TX4, 10), rfl, rfl, fun h => by cases h⟩
set_option maxRecDepth 10000 in
theorem fr_X4_15 : FLr RX4 15 4 1 := ⟨ck4, (RX4, TX4, 10), rfl, by decide, gwT_2 11 rfl rfl⟩
set_option maxRecDepth 10000 in
theorem fl_X4_15 : FL RX4 15 4 1 false := ⟨fr_X4_15, (RX4, TX4, 10), rfl, rfl, fun h => by cases h⟩
set_option maxRecDepth 10000 in
theorem fr_X1_59 : FLr RX1 59 4 1 := ⟨ck4, (RX4, TX4, 10), rfl, by decide, gwT_2 12 rfl rfl⟩
set_option maxRecDepth 10000 in
theorem fl_X1_59 : FL RX1 59 4 1 false := ⟨fr_X1_59, (RX4, TX4, 10), rfl, rfl, fun h => by cases h⟩
set_option maxRecDepth 10000 in
theorem fr_X5_94 : FLr RX5 94 4 1 := ⟨ck4, (RX4, TX4, 10), rfl, by decide, gwT_2 13 rfl rfl⟩
set_option maxRecDepth 10000 in
theorem fl_X5_94 : FL RX5 94 4 1 false := ⟨fr_X5_94, (RX4, TX4, 10), rfl, rfl, fun h => by cases h⟩
set_option maxRecDepth 10000 in
theorem fr_X11_160 : FLr RX11 160 4 1 := ⟨ck4, (RX4, TX4, 10), rfl, by decide, gwT_2 14 rfl rfl⟩
set_option maxRecDepth 10000 in
theorem fl_X11_160 : FL RX11 160 4 1 false := ⟨fr_X11_160, (RX4, TX4, 10), rfl, rfl, fun h => by cases h⟩
set_option maxRecDepth 10000 in
theorem fr_X3_130 : FLr RX3 130 4 1 := ⟨ck4, (RX4, TX4, 10), rfl, by decide, gwT_2 15 rfl rfl⟩
set_option maxRecDepth 10000 in
theorem fl_X3_130 : FL RX3 130 4 1 false := ⟨fr_X3_130, (RX4, TX4, 10), rfl, rfl, fun h => by cases h⟩
set_option maxRecDepth 10000 in
theorem fr_X4_18 : FLr RX4 18 4 2 := ⟨ck4, (RX4, TX4, 10), rfl, by decide, gwT_2 16 rfl rfl⟩
set_option maxRecDepth 10000 in
theorem fl_X4_18 : FL RX4 18 4 2 false := ⟨fr_X4_18, (RX4, TX4, 10), rfl, rfl, fun h => by cases h⟩
set_option maxRecDepth 10000 in
theorem fr_X1_40 : FLr RX1 40 4 2 := ⟨ck4, (RX4, TX4, 10), rfl, by decide, gwT_2 17 rfl rfl⟩
set_option maxRecDepth 10000 in
theorem fl_X1_40 : FL RX1 40 4 2 false := ⟨fr_X1_40, (RX4, TX4, 10), rfl, rfl, fun h => by cases h⟩
set_option maxRecDepth 10000 in
theorem fr_X0_54 : FLr RX0 54 4 2 := ⟨ck4, (RX4, TX4, 10), rfl, by decide, gwT_2 18 rfl rfl⟩
set_option maxRecDepth 10000 in
theorem fl_X0_54 : FL RX0 54 4 2 false := ⟨fr_X0_54, (RX4, TX4, 10), rfl, rfl, fun h => by cases h⟩
set_option maxRecDepth 10000 in
theorem fr_X5_100 : FLr RX5 100 4 2 := ⟨ck4, (RX4, TX4, 10), rfl, by decide, gwT_2 19 rfl rfl⟩
set_option maxRecDepth 10000 in
theorem fl_X5_100 : FL RX5 100 4 2 false := ⟨fr_X5_100, (RX4, TX4, 10), rfl, rfl, fun h => by cases h⟩
set_option maxRecDepth 10000 in
theorem fr_X11_151 : FLr RX11 151 4 2 := ⟨ck4, (RX4, TX4, 10), rfl, by decide, gwT_2 20 rfl rfl⟩
set_option maxRecDepth 10000 in
theorem fl_X11_151 : FL RX11 151 4 2 false := ⟨fr_X11_151, (RX4, TX4, 10), rfl, rfl, fun h => by cases h⟩
set_option maxRecDepth 10000 in
theorem fr_X3_119 : FLr RX3 119 4 2 := ⟨ck4, (RX4, TX4, 10), rfl, by decide, gwT_2 21 rfl rfl⟩
set_option maxRecDepth 10000 in
theorem fl_X3_119 : FL RX3 119 4 2 false := ⟨fr_X3_119, (RX4, TX4, 10), rfl, rfl, fun h => by cases h⟩
set_option maxRecDepth 10000 in
theorem fr_X4_21 : FLr RX4 21 4 3 := ⟨ck4, (RX4, TX4, 10), rfl, by decide, gwT_2 22 rfl rfl⟩
set_option maxRecDepth 10000 in
theorem fl_X4_21 : FL RX4 21 4 3 false := ⟨fr_X4_21, (RX4, TX4, 10), rfl, rfl, fun h => by cases h⟩
set_option maxRecDepth 10000 in
theorem fr_X3_84 : FLr RX3 84 4 3 := ⟨ck4, (RX4, TX4, 10), rfl, by decide, gwT_2 23 rfl rfl⟩
set_option maxRecDepth 10000 in
theorem fl_X3_84 : FL RX3 84 4 3 false := ⟨fr_X3_84, (RX4, TX4, 10), rfl, rfl, fun h => by cases h⟩
set_option maxRecDepth 10000 in
theorem fr_X5_103 : FLr RX5 103 4 3 := ⟨ck4, (RX4, TX4, 10), rfl, by decide, gwT_2 24 rfl rfl⟩
set_option maxRecDepth 10000 in
theorem fl_X5_103 : FL RX5 103 4 3 false := ⟨fr_X5_103, (RX4, TX4, 10), rfl, rfl, fun h => by cases h⟩
set_option maxRecDepth 10000 in
theorem fr_X11_187 : FLr RX11 187 4 3 := ⟨ck4, (RX4, TX4, 10), rfl, by decide, gwT_2 25 rfl rfl⟩
set_option maxRecDepth 10000 in
theorem fl_X11_187 : FL RX11 187 4 3 false := ⟨fr_X11_187, (RX4, TX4, 10), rfl, rfl, fun h => by cases h⟩
set_option maxRecDepth 10000 in
theorem fr_X4_24 : FLr RX4 24 4 4 := ⟨ck4, (RX4, TX4, 10), rfl, by decide, gwT_2 26 rfl rfl⟩
set_option maxRecDepth 10000 in
theorem fl_X4_24 : FL RX4 24 4 4 true := ⟨fr_X4_24, (RX4, TX4, 10), rfl, rfl, fun _ => rfl⟩
set_option maxRecDepth 10000 in
theorem fr_X11_193 : FLr RX11 193 4 4 := ⟨ck4, (RX4, TX4, 10), rfl, by decide, gwT_2 27 rfl rfl⟩
set_option maxRecDepth 10000 in
theorem fr_X4_28 : FLr RX4 28 4 5 := ⟨ck4, (RX4, TX4, 10), rfl, by decide, gwT_2 28 rfl rfl⟩
set_option maxRecDepth 10000 in
theorem fl_X4_28 : FL RX4 28 4 5 true := ⟨fr_X4_28, (RX4, TX4, 10), rfl, rfl, fun _ => rfl⟩
set_option maxRecDepth 10000 in
theorem fr_X5_109 : FLr RX5 109 4 5 := ⟨ck4, (RX4, TX4, 10), rfl, by decide, gwT_2 29 rfl rfl⟩
set_option maxRecDepth 10000 in
theorem fr_X3_116 : FLr RX3 116 4 5 := ⟨ck4, (RX4, TX4, 10), rfl, by decide, gwT_2 30 rfl rfl⟩
set_option maxRecDepth 10000 in
theorem fr_X11_376 : FLr RX11 376 4 5 := ⟨ck4, (RX4, TX4, 10), rfl, by decide, gwT_2 31 rfl rfl⟩
set_option maxRecDepth 10000 in
theorem fr_X4_32 : FLr RX4 32 4 6 := ⟨ck4, (RX4, TX4, 10), rfl, by decide, gwT_2 32 rfl rfl⟩
set_option maxRecDepth 10000 in
theorem fl_X4_32 : FL RX4 32 4 6 true := ⟨fr_X4_32, (RX4, TX4, 10), rfl, rfl, fun _ => rfl⟩
set_option maxRecDepth 10000 in
theorem fr_X0_87 : FLr RX0 87 4 6 := ⟨ck4, (RX4, TX4, 10), rfl, by decide, gwT_2 33 rfl rfl⟩
set_option maxRecDepth 10000 in
theorem fr_X4_35 : FLr RX4 35 4 7 := ⟨ck4, (RX4, TX4, 10), rfl, by decide, gwT_2 34 rfl rfl⟩
set_option maxRecDepth 10000 in
theorem fl_X4_35 : FL RX4 35 4 7 true := ⟨fr_X4_35, (RX4, TX4, 10), rfl, rfl, fun _ => rfl⟩
set_option maxRecDepth 10000 in
theorem fr_X0_90 : FLr RX0 90 4 7 := ⟨ck4, (RX4, TX4, 10), rfl, by decide, gwT_2 35 rfl rfl⟩
set_option maxRecDepth 10000 in
theorem fr_X4_38 : FLr RX4 38 4 8 := ⟨ck4, (RX4, TX4, 10), rfl, by decide, gwT_2 36 rfl rfl⟩
set_option maxRecDepth 10000 in
theorem fl_X4_38 : FL RX4 38 4 8 true := ⟨fr_X4_38, (RX4, TX4, 10), rfl, rfl, fun _ => rfl⟩
set_option maxRecDepth 10000 in
theorem fr_X0_84 : FLr RX0 84 4 8 := ⟨ck4, (RX4, TX4, 10), rfl, by decide, gwT_2 37 rfl rfl⟩
set_option maxRecDepth 10000 in
theorem fr_X4_41 : FLr RX4 41 4 9 := ⟨ck4, (RX4, TX4, 10), rfl, by decide, gwT_2 38 rfl rfl⟩
set_option maxRecDepth 10000 in
theorem fl_X4_41 : FL RX4 41 4 9 false := ⟨fr_X4_41, (RX4, TX4, 10), rfl, rfl, fun h => by cases h⟩
set_option maxRecDepth 10000 in
theorem cl_X11_80 : Cond.classLink RX11 80 RX5 ∈ GW := gwT_2 60 rfl rfl
set_option maxRecDepth 10000 in
theorem is_X5 : Cond.instantiable RX5 5 ∈ GW := gwT_2 61 rfl rfl
set_option maxRecDepth 10000 in
theorem lk_X11_82 : Cond.methodLink RX11 82 yX5_init ∈ GW := gwT_2 62 rfl rfl
set_option maxRecDepth 10000 in
theorem im_X5_init : Cond.instanceMethod yX5_init ∈ GW := gwT_2 63 rfl rfl
abbrev gX5_init : mI := (yX5_init, cX5_init, 2, none)
set_option maxRecDepth 10000 in
theorem mi_X5_init : MI gX5_init 1 := ⟨gwT_2 64 rfl rfl, gwT_1 10 rfl rfl, ⟨by decide, by decide, by decide +kernel⟩, by decide⟩
set_option maxRecDepth 10000 in
theorem lk_X5_7 : Cond.methodLink RX5 7 objectInit ∈ GW := gwT_2 65 rfl rfl
set_option maxRecDepth 10000 in
theorem cl_X5_20 : Cond.classLink RX5 20 RX7 ∈ GW := gwT_2 66 rfl rfl
set_option maxRecDepth 10000 in
theorem is_X7 : Cond.instantiable RX7 6 ∈ GW := gwT_2 67 rfl rfl
set_option maxRecDepth 10000 in
theorem im_X7_init : Cond.instanceMethod yX7_init ∈ GW := gwT_2 69 rfl rfl
abbrev gX7_init : mI := (yX7_init, cX7_init, 1, none)
set_option maxRecDepth 10000 in
theorem mi_X7_init : MI gX7_init 0 := ⟨gwT_2 70 rfl rfl, gwT_1 11 rfl rfl, ⟨by decide, by decide, by decide +kernel⟩, by decide⟩
set_option maxRecDepth 10000 in
theorem lk_X7_3 : Cond.methodLink RX7 3 objectInit ∈ GW := gwT_2 71 rfl rfl
set_option maxRecDepth 10000 in
theorem fr_X7_9 : FLr RX7 9 7 0 := ⟨ck7, (RX7, TX7, 6), rfl, by decide, gwT_2 72 rfl rfl⟩
set_option maxRecDepth 10000 in
theorem fl_X7_9 : FL RX7 9 7 0 false := ⟨fr_X7_9, (RX7, TX7, 6), rfl, rfl, fun h => by cases h⟩
set_option maxRecDepth 10000 in
theorem fr_X5_116 : FLr RX5 116 7 0 := ⟨ck7, (RX7, TX7, 6), rfl, by decide, gwT_2 73 rfl rfl⟩
set_option maxRecDepth 10000 in
theorem fl_X5_116 : FL RX5 116 7 0 false := ⟨fr_X5_116, (RX7, TX7, 6), rfl, rfl, fun h => by cases h⟩
set_option maxRecDepth 10000 in
theorem fr_X7_15 : FLr RX7 15 7 1 := ⟨ck7, (RX7, TX7, 6), rfl, by decide, gwT_2 74 rfl rfl⟩
set_option maxRecDepth 10000 in
theorem fl_X7_15 : FL RX7 15 7 1 false := ⟨fr_X7_15, (RX7, TX7, 6), rfl, rfl, fun h => by cases h⟩
set_option maxRecDepth 10000 in
theorem fr_X7_19 : FLr RX7 19 7 2 := ⟨ck7, (RX7, TX7, 6), rfl, by decide, gwT_2 75 rfl rfl⟩
set_option maxRecDepth 10000 in
theorem fl_X7_19 : FL RX7 19 7 2 false := ⟨fr_X7_19, (RX7, TX7, 6), rfl, rfl, fun h => by cases h⟩
set_option maxRecDepth 10000 in
theorem fr_X5_46 : FLr RX5 46 7 2 := ⟨ck7, (RX7, TX7, 6), rfl, by decide, gwT_2 76 rfl rfl⟩
set_option maxRecDepth 10000 in
theorem fl_X5_46 : FL RX5 46 7 2 false := ⟨fr_X5_46, (RX7, TX7, 6), rfl, rfl, fun h => by cases h⟩
set_option maxRecDepth 10000 in
theorem fr_X7_22 : FLr RX7 22 7 3 := ⟨ck7, (RX7, TX7, 6), rfl, by decide, gwT_2 77 rfl rfl⟩
set_option maxRecDepth 10000 in
theorem fl_X7_22 : FL RX7 22 7 3 false := ⟨fr_X7_22, (RX7, TX7, 6), rfl, rfl, fun h => by cases h⟩
set_option maxRecDepth 10000 in
theorem fr_X5_60 : FLr RX5 60 7 3 := ⟨ck7, (RX7, TX7, 6), rfl, by decide, gwT_2 78 rfl rfl⟩
set_option maxRecDepth 10000 in
theorem fl_X5_60 : FL RX5 60 7 3 false := ⟨fr_X5_60, (RX7, TX7, 6), rfl, rfl, fun h => by cases h⟩
set_option maxRecDepth 10000 in
theorem fr_X7_25 : FLr RX7 25 7 4 := ⟨ck7, (RX7, TX7, 6), rfl, by decide, gwT_2 79 rfl rfl⟩
set_option maxRecDepth 10000 in
theorem fl_X7_25 : FL RX7 25 7 4 false := ⟨fr_X7_25, (RX7, TX7, 6), rfl, rfl, fun h => by cases h⟩
set_option maxRecDepth 10000 in
theorem fr_X5_113 : FLr RX5 113 7 4 := ⟨ck7, (RX7, TX7, 6), rfl, by decide, gwT_2 80 rfl rfl⟩
set_option maxRecDepth 10000 in
theorem fl_X5_113 : FL RX5 113 7 4 false := ⟨fr_X5_113, (RX7, TX7, 6), rfl, rfl, fun h => by cases h⟩
set_option maxRecDepth 10000 in
theorem fr_X7_28 : FLr RX7 28 7 5 := ⟨ck7, (RX7, TX7, 6), rfl, by decide, gwT_2 81 rfl rfl⟩
set_option maxRecDepth 10000 in
theorem fl_X7_28 : FL RX7 28 7 5 false := ⟨fr_X7_28, (RX7, TX7, 6), rfl, rfl, fun h => by cases h⟩
set_option maxRecDepth 10000 in
theorem fr_X5_70 : FLr RX5 70 7 5 := ⟨ck7, (RX7, TX7, 6), rfl, by decide, gwT_2 82 rfl rfl⟩
set_option maxRecDepth 10000 in
theorem fl_X5_70 : FL RX5 70 7 5 false := ⟨fr_X5_70, (RX7, TX7, 6), rfl, rfl, fun h => by cases h⟩
set_option maxRecDepth 10000 in
theorem fr_X5_13 : FLr RX5 13 5 0 := ⟨ck5, (RX5, TX5, 5), rfl, by decide, gwT_2 96 rfl rfl⟩
set_option maxRecDepth 10000 in
theorem fl_X5_13 : FL RX5 13 5 0 false := ⟨fr_X5_13, (RX5, TX5, 5), rfl, rfl, fun h => by cases h⟩
set_option maxRecDepth 10000 in
theorem fr_X11_136 : FLr RX11 136 5 0 := ⟨ck5, (RX5, TX5, 5), rfl, by decide, gwT_2 97 rfl rfl⟩
set_option maxRecDepth 10000 in
theorem fl_X11_136 : FL RX11 136 5 0 false := ⟨fr_X11_136, (RX5, TX5, 5), rfl, rfl, fun h => by cases h⟩
set_option maxRecDepth 10000 in
theorem fr_X5_17 : FLr RX5 17 5 1 := ⟨ck5, (RX5, TX5, 5), rfl, by decide, gwT_2 98 rfl rfl⟩
set_option maxRecDepth 10000 in
theorem fl_X5_17 : FL RX5 17 5 1 false := ⟨fr_X5_17, (RX5, TX5, 5), rfl, rfl, fun h => by cases h⟩
set_option maxRecDepth 10000 in
theorem fr_X11_137 : FLr RX11 137 5 1 := ⟨ck5, (RX5, TX5, 5), rfl, by decide, gwT_2 99 rfl rfl⟩
set_option maxRecDepth 10000 in
theorem fl_X11_137 : FL RX11 137 5 1 false := ⟨fr_X11_137, (RX5, TX5, 5), rfl, rfl, fun h => by cases h⟩
set_option maxRecDepth 10000 in
theorem fr_X5_23 : FLr RX5 23 5 2 := ⟨ck5, (RX5, TX5, 5), rfl, by decide, gwT_2 100 rfl rfl⟩
set_option maxRecDepth 10000 in
theorem fl_X5_23 : FL RX5 23 5 2 true := ⟨fr_X5_23, (RX5, TX5, 5), rfl, rfl, fun _ => rfl⟩
set_option maxRecDepth 10000 in
theorem fr_X5_30 : FLr RX5 30 5 3 := ⟨ck5, (RX5, TX5, 5), rfl, by decide, gwT_2 101 rfl rfl⟩
set_option maxRecDepth 10000 in
theorem fl_X5_30 : FL RX5 30 5 3 false := ⟨fr_X5_30, (RX5, TX5, 5), rfl, rfl, fun h => by cases h⟩
set_option maxRecDepth 10000 in
theorem fr_X5_27 : FLr RX5 27 5 4 := ⟨ck5, (RX5, TX5, 5), rfl, by decide, gwT_2 102 rfl rfl⟩
set_option maxRecDepth 10000 in
theorem fl_X5_27 : FL RX5 27 5 4 false := ⟨fr_X5_27, (RX5, TX5, 5), rfl, rfl, fun h => by cases h⟩
set_option maxRecDepth 10000 in
theorem fr_X11_9 : FLr RX11 9 10 0 := ⟨ck10, (RX11, TX11, 17), rfl, by decide, gwT_2 114 rfl rfl⟩
set_option maxRecDepth 10000 in
theorem fl_X11_9 : FL RX11 9 10 0 true := ⟨fr_X11_9, (RX11, TX11, 17), rfl, rfl, fun _ => rfl⟩
set_option maxRecDepth 10000 in
theorem fr_X11_13 : FLr RX11 13 10 1 := ⟨ck10, (RX11, TX11, 17), rfl, by decide, gwT_2 115 rfl rfl⟩
set_option maxRecDepth 10000 in
theorem fl_X11_13 : FL RX11 13 10 1 true := ⟨fr_X11_13, (RX11, TX11, 17), rfl, rfl, fun _ => rfl⟩
set_option maxRecDepth 10000 in
theorem fr_X11_20 : FLr RX11 20 10 2 := ⟨ck10, (RX11, TX11, 17), rfl, by decide, gwT_2 116 rfl rfl⟩
set_option maxRecDepth 10000 in
theorem fl_X11_20 : FL RX11 20 10 2 true := ⟨fr_X11_20, (RX11, TX11, 17), rfl, rfl, fun _ => rfl⟩
set_option maxRecDepth 10000 in
theorem fr_X11_24 : FLr RX11 24 10 3 := ⟨ck10, (RX11, TX11, 17), rfl, by decide, gwT_2 117 rfl rfl⟩
set_option maxRecDepth 10000 in
theorem fl_X11_24 : FL RX11 24 10 3 true := ⟨fr_X11_24, (RX11, TX11, 17), rfl, rfl, fun _ => rfl⟩
set_option maxRecDepth 10000 in
theorem fr_X11_30 : FLr RX11 30 10 4 := ⟨ck10, (RX11, TX11, 17), rfl, by decide, gwT_2 118 rfl rfl⟩
set_option maxRecDepth 10000 in
theorem fl_X11_30 : FL RX11 30 10 4 true := ⟨fr_X11_30, (RX11, TX11, 17), rfl, rfl, fun _ => rfl⟩
set_option maxRecDepth 10000 in
theorem fr_X11_43 : FLr RX11 43 10 5 := ⟨ck10, (RX11, TX11, 17), rfl, by decide, gwT_2 119 rfl rfl⟩
set_option maxRecDepth 10000 in
theorem fl_X11_43 : FL RX11 43 10 5 true := ⟨fr_X11_43, (RX11, TX11, 17), rfl, rfl, fun _ => rfl⟩
set_option maxRecDepth 10000 in
theorem fr_X11_52 : FLr RX11 52 10 6 := ⟨ck10, (RX11, TX11, 17), rfl, by decide, gwT_2 120 rfl rfl⟩
set_option maxRecDepth 10000 in
theorem fl_X11_52 : FL RX11 52 10 6 true := ⟨fr_X11_52, (RX11, TX11, 17), rfl, rfl, fun _ => rfl⟩
set_option maxRecDepth 10000 in
theorem fr_X11_59 : FLr RX11 59 10 7 := ⟨ck10, (RX11, TX11, 17), rfl, by decide, gwT_2 121 rfl rfl⟩
set_option maxRecDepth 10000 in
theorem fl_X11_59 : FL RX11 59 10 7 true := ⟨fr_X11_59, (RX11, TX11, 17), rfl, rfl, fun _ => rfl⟩
set_option maxRecDepth 10000 in
theorem fr_X11_66 : FLr RX11 66 10 8 := ⟨ck10, (RX11, TX11, 17), rfl, by decide, gwT_2 122 rfl rfl⟩
set_option maxRecDepth 10000 in
theorem fl_X11_66 : FL RX11 66 10 8 true := ⟨fr_X11_66, (RX11, TX11, 17), rfl, rfl, fun _ => rfl⟩
set_option maxRecDepth 10000 in
theorem fr_X11_73 : FLr RX11 73 10 9 := ⟨ck10, (RX11, TX11, 17), rfl, by decide, gwT_2 123 rfl rfl⟩
set_option maxRecDepth 10000 in
theorem fl_X11_73 : FL RX11 73 10 9 false := ⟨fr_X11_73, (RX11, TX11, 17), rfl, rfl, fun h => by cases h⟩
set_option maxRecDepth 10000 in
theorem fr_X11_77 : FLr RX11 77 10 10 := ⟨ck10, (RX11, TX11, 17), rfl, by decide, gwT_2 124 rfl rfl⟩
set_option maxRecDepth 10000 in
theorem fl_X11_77 : FL RX11 77 10 10 false := ⟨fr_X11_77, (RX11, TX11, 17), rfl, rfl, fun h => by cases h⟩
set_option maxRecDepth 10000 in
theorem fr_X11_85 : FLr RX11 85 10 11 := ⟨ck10, (RX11, TX11, 17), rfl, by decide, gwT_2 125 rfl rfl⟩
set_option maxRecDepth 10000 in
theorem fl_X11_85 : FL RX11 85 10 11 true := ⟨fr_X11_85, (RX11, TX11, 17), rfl, rfl, fun _ => rfl⟩
set_option maxRecDepth 10000 in
theorem fr_X11_89 : FLr RX11 89 10 12 := ⟨ck10, (RX11, TX11, 17), rfl, by decide, gwT_2 126 rfl rfl⟩
set_option maxRecDepth 10000 in
theorem fl_X11_89 : FL RX11 89 10 12 false := ⟨fr_X11_89, (RX11, TX11, 17), rfl, rfl, fun h => by cases h⟩
set_option maxRecDepth 10000 in
theorem fr_X11_93 : FLr RX11 93 10 13 := ⟨ck10, (RX11, TX11, 17), rfl, by decide, gwT_2 127 rfl rfl⟩
set_option maxRecDepth 10000 in
theorem fl_X11_93 : FL RX11 93 10 13 false := ⟨fr_X11_93, (RX11, TX11, 17), rfl, rfl, fun h => by cases h⟩
set_option maxRecDepth 10000 in
theorem fr_X11_97 : FLr RX11 97 10 14 := ⟨ck10, (RX11, TX11, 17), rfl, by decide, gwT_2 128 rfl rfl⟩
set_option maxRecDepth 10000 in
theorem fl_X11_97 : FL RX11 97 10 14 false := ⟨fr_X11_97, (RX11, TX11, 17), rfl, rfl, fun h => by cases h⟩
set_option maxRecDepth 10000 in
theorem fr_X11_100 : FLr RX11 100 10 15 := ⟨ck10, (RX11, TX11, 17), rfl, by decide, gwT_2 129 rfl rfl⟩
set_option maxRecDepth 10000 in
theorem fl_X11_100 : FL RX11 100 10 15 false := ⟨fr_X11_100, (RX11, TX11, 17), rfl, rfl, fun h => by cases h⟩
set_option maxRecDepth 10000 in
theorem fr_X11_103 : FLr RX11 103 10 16 := ⟨ck10, (RX11, TX11, 17), rfl, by decide, gwT_2 130 rfl rfl⟩
set_option maxRecDepth 10000 in
theorem fl_X11_103 : FL RX11 103 10 16 false := ⟨fr_X11_103, (RX11, TX11, 17), rfl, rfl, fun h => by cases h⟩
set_option maxRecDepth 10000 in
theorem lk_L_13 : Cond.methodLink "FatPointersLaw" 13 yX11_feed ∈ GW := gwT_2 166 rfl rfl
set_option maxRecDepth 10000 in
theorem im_X11_feed : Cond.instanceMethod yX11_feed ∈ GW := gwT_2 167 rfl rfl
set_option maxRecDepth 10000 in
theorem se_X11_feed : Cond.selects RX11 yX11_feed yX11_feed ∈ GW := gwT_2 168 rfl rfl
abbrev gX11_feed : mI := (yX11_feed, cX11_feed, 6, (some .int))
set_option maxRecDepth 10000 in
theorem mi_X11_feed : MI gX11_feed 5 := ⟨gwT_2 169 rfl rfl, gwT_1 1 rfl rfl, ⟨by decide, by decide, by decide +kernel⟩, by decide⟩
set_option maxRecDepth 10000 in
theorem lk_X11_107 : Cond.methodLink RX11 107 yX11_refuse ∈ GW := gwT_2 170 rfl rfl
set_option maxRecDepth 10000 in
theorem im_X11_refuse : Cond.instanceMethod yX11_refuse ∈ GW := gwT_2 172 rfl rfl
abbrev gX11_refuse : mI := (yX11_refuse, cX11_refuse, 2, (some .int))
set_option maxRecDepth 10000 in
theorem mi_X11_refuse : MI gX11_refuse 1 := ⟨gwT_2 173 rfl rfl, gwT_1 1 rfl rfl, ⟨by decide, by decide, by decide +kernel⟩, by decide⟩
set_option maxRecDepth 10000 in
theorem lk_X11_111 : Cond.methodLink RX11 111 yX11_put ∈ GW := gwT_2 174 rfl rfl
set_option maxRecDepth 10000 in
theorem im_X11_put : Cond.instanceMethod yX11_put ∈ GW := gwT_2 176 rfl rfl
abbrev gX11_put : mI := (yX11_put, cX11_put, 3, none)
set_option maxRecDepth 10000 in
theorem mi_X11_put : MI gX11_put 1 := ⟨gwT_2 177 rfl rfl, gwT_1 1 rfl rfl, ⟨by decide, by decide, by decide +kernel⟩, by decide⟩
set_option maxRecDepth 10000 in
theorem lk_L_18 : Cond.methodLink "FatPointersLaw" 18 yX11_end ∈ GW := gwT_2 178 rfl rfl
set_option maxRecDepth 10000 in
theorem im_X11_end : Cond.instanceMethod yX11_end ∈ GW := gwT_2 179 rfl rfl
set_option maxRecDepth 10000 in
theorem se_X11_end : Cond.selects RX11 yX11_end yX11_end ∈ GW := gwT_2 180 rfl rfl
abbrev gX11_end : mI := (yX11_end, cX11_end, 2, (some .boolean))
set_option maxRecDepth 10000 in
theorem mi_X11_end : MI gX11_end 1 := ⟨gwT_2 181 rfl rfl, gwT_1 1 rfl rfl, ⟨by decide, by decide, by decide +kernel⟩, by decide⟩
set_option maxRecDepth 10000 in
theorem lk_X11_115 : Cond.methodLink RX11 115 yX11_deny ∈ GW := gwT_2 182 rfl rfl
set_option maxRecDepth 10000 in
theorem im_X11_deny : Cond.instanceMethod yX11_deny ∈ GW := gwT_2 184 rfl rfl
abbrev gX11_deny : mI := (yX11_deny, cX11_deny, 2, (some .boolean))
set_option maxRecDepth 10000 in
theorem mi_X11_deny : MI gX11_deny 1 := ⟨gwT_2 185 rfl rfl, gwT_1 1 rfl rfl, ⟨by decide, by decide, by decide +kernel⟩, by decide⟩
set_option maxRecDepth 10000 in
theorem lk_L_23 : Cond.methodLink "FatPointersLaw" 23 yX11_machine ∈ GW := gwT_2 186 rfl rfl
set_option maxRecDepth 10000 in
theorem im_X11_machine : Cond.instanceMethod yX11_machine ∈ GW := gwT_2 187 rfl rfl
set_option maxRecDepth 10000 in
theorem se_X11_machine : Cond.selects RX11 yX11_machine yX11_machine ∈ GW := gwT_2 188 rfl rfl
abbrev gX11_machine : mI := (yX11_machine, cX11_machine, 3, (some .int))
set_option maxRecDepth 10000 in
theorem mi_X11_machine : MI gX11_machine 0 := ⟨gwT_2 189 rfl rfl, gwT_1 1 rfl rfl, ⟨by decide, by decide, by decide +kernel⟩, by decide⟩
set_option maxRecDepth 10000 in
theorem lk_X11_119 : Cond.methodLink RX11 119 yX11_takeTape ∈ GW := gwT_2 190 rfl rfl
set_option maxRecDepth 10000 in
theorem im_X11_takeTape : Cond.instanceMethod yX11_takeTape ∈ GW := gwT_2 192 rfl rfl
abbrev gX11_takeTape : mI := (yX11_takeTape, cX11_takeTape, 2, (some .int))
set_option maxRecDepth 10000 in
theorem mi_X11_takeTape : MI gX11_takeTape 0 := ⟨gwT_2 193 rfl rfl, gwT_1 1 rfl rfl, ⟨by decide, by decide, by decide +kernel⟩, by decide⟩
set_option maxRecDepth 10000 in
theorem lk_X11_123 : Cond.methodLink RX11 123 yX5_readMachine ∈ GW := gwT_2 194 rfl rfl
set_option maxRecDepth 10000 in
theorem im_X5_readMachine : Cond.instanceMethod yX5_readMachine ∈ GW := gwT_2 195 rfl rfl
set_option maxRecDepth 10000 in
theorem se_X5_readMachine : Cond.selects RX5 yX5_readMachine yX5_readMachine ∈ GW := gwT_2 196 rfl rfl
abbrev gX5_readMachine : mI := (yX5_readMachine, cX5_readMachine, 5, (some .boolean))
set_option maxRecDepth 10000 in
theorem mi_X5_readMachine : MI gX5_readMachine 3 := ⟨gwT_2 197 rfl rfl, gwT_1 10 rfl rfl, ⟨by decide, by decide, by decide +kernel⟩, by decide⟩
set_option maxRecDepth 10000 in
theorem lk_X5_43 : Cond.methodLink RX5 43 yX5_begin ∈ GW := gwT_2 198 rfl rfl
set_option maxRecDepth 10000 in
theorem im_X5_begin : Cond.instanceMethod yX5_begin ∈ GW := gwT_2 200 rfl rfl
abbrev gX5_begin : mI := (yX5_begin, cX5_begin, 4, none)
set_option maxRecDepth 10000 in
theorem mi_X5_begin : MI gX5_begin 3 := ⟨gwT_2 201 rfl rfl, gwT_1 10 rfl rfl, ⟨by decide, by decide, by decide +kernel⟩, by decide⟩
set_option maxRecDepth 10000 in
theorem lk_X5_34 : Cond.methodLink RX5 34 yX4_clear ∈ GW := gwT_2 202 rfl rfl
set_option maxRecDepth 10000 in
theorem im_X4_clear : Cond.instanceMethod yX4_clear ∈ GW := gwT_2 203 rfl rfl
set_option maxRecDepth 10000 in
theorem se_X4_clear : Cond.selects RX4 yX4_clear yX4_clear ∈ GW := gwT_2 204 rfl rfl
abbrev gX4_clear : mI := (yX4_clear, cX4_clear, 1, none)
set_option maxRecDepth 10000 in
theorem mi_X4_clear : MI gX4_clear 0 := ⟨gwT_2 205 rfl rfl, gwT_1 9 rfl rfl, ⟨by decide, by decide, by decide +kernel⟩, by decide⟩
set_option maxRecDepth 10000 in
theorem lk_X4_44 : Cond.methodLink RX4 44 yJ7_fill_031fb ∈ GW := gwT_2 206 rfl rfl
set_option maxRecDepth 10000 in
theorem sm_J7_fill_031fb : Cond.static yJ7_fill_031fb ∈ GW := gwT_2 207 rfl rfl
abbrev gJ7_fill_031fb : mI := (yJ7_fill_031fb, cJ7_fill_031fb, 4, none)
set_option maxRecDepth 10000 in
theorem mi_J7_fill_031fb : MI gJ7_fill_031fb 2 := ⟨gwT_2 208 rfl rfl, gwT_1 13 rfl rfl, ⟨by decide, by decide, by decide +kernel⟩, by decide⟩
set_option maxRecDepth 10000 in
theorem lk_X4_50 : Cond.methodLink RX4 50 yJ7_fill_53178 ∈ GW := gwT_2 209 rfl rfl
set_option maxRecDepth 10000 in
theorem sm_J7_fill_53178 : Cond.static yJ7_fill_53178 ∈ GW := gwT_2 210 rfl rfl
abbrev gJ7_fill_53178 : mI := (yJ7_fill_53178, cJ7_fill_53178, 4, none)
set_option maxRecDepth 10000 in
theorem mi_J7_fill_53178 : MI gJ7_fill_53178 2 := ⟨gwT_2 211 rfl rfl, gwT_1 13 rfl rfl, ⟨by decide, by decide, by decide +kernel⟩, by decide⟩
set_option maxRecDepth 10000 in
theorem lk_X5_39 : Cond.methodLink RX5 39 yX7_begin ∈ GW := gwT_2 212 rfl rfl
set_option maxRecDepth 10000 in
theorem im_X7_begin : Cond.instanceMethod yX7_begin ∈ GW := gwT_2 213 rfl rfl
set_option maxRecDepth 10000 in
theorem se_X7_begin : Cond.selects RX7 yX7_begin yX7_begin ∈ GW := gwT_2 214 rfl rfl
abbrev gX7_begin : mI := (yX7_begin, cX7_begin, 3, none)
set_option maxRecDepth 10000 in
theorem mi_X7_begin : MI gX7_begin 2 := ⟨gwT_2 215 rfl rfl, gwT_1 11 rfl rfl, ⟨by decide, by decide, by decide +kernel⟩, by decide⟩
set_option maxRecDepth 10000 in
theorem lk_X7_31 : Cond.methodLink RX7 31 yJ9_min_7cf53 ∈ GW := gwT_2 216 rfl rfl
set_option maxRecDepth 10000 in
theorem sm_J9_min_7cf53 : Cond.static yJ9_min_7cf53 ∈ GW := gwT_2 217 rfl rfl
abbrev gJ9_min_7cf53 : mI := (yJ9_min_7cf53, cJ9_min_7cf53, 2, (some .int))
set_option maxRecDepth 10000 in
theorem mi_J9_min_7cf53 : MI gJ9_min_7cf53 2 := ⟨gwT_2 218 rfl rfl, gwT_1 14 rfl rfl, ⟨by decide, by decide, by decide +kernel⟩, by decide⟩
set_option maxRecDepth 10000 in
theorem lk_X7_37 : Cond.methodLink RX7 37 yX7_next ∈ GW := gwT_2 219 rfl rfl
set_option maxRecDepth 10000 in
theorem im_X7_next : Cond.instanceMethod yX7_next ∈ GW := gwT_2 220 rfl rfl
set_option maxRecDepth 10000 in
theorem se_X7_next : Cond.selects RX7 yX7_next yX7_next ∈ GW := gwT_2 221 rfl rfl
abbrev gX7_next : mI := (yX7_next, cX7_next, 4, none)
set_option maxRecDepth 10000 in
theorem mi_X7_next : MI gX7_next 0 := ⟨gwT_2 222 rfl rfl, gwT_1 11 rfl rfl, ⟨by decide, by decide, by decide +kernel⟩, by decide⟩
set_option maxRecDepth 10000 in
theorem lk_X7_40 : Cond.methodLink RX7 40 yX7_kindAt ∈ GW := gwT_2 223 rfl rfl
set_option maxRecDepth 10000 in
theorem im_X7_kindAt : Cond.instanceMethod yX7_kindAt ∈ GW := gwT_2 225 rfl rfl
abbrev gX7_kindAt : mI := (yX7_kindAt, cX7_kindAt, 3, (some .int))
set_option maxRecDepth 10000 in
theorem mi_X7_kindAt : MI gX7_kindAt 1 := ⟨gwT_2 226 rfl rfl, gwT_1 11 rfl rfl, ⟨by decide, by decide, by decide +kernel⟩, by decide⟩
set_option maxRecDepth 10000 in
theorem lk_X7_44 : Cond.methodLink RX7 44 yX10_numberOf ∈ GW := gwT_2 227 rfl rfl
set_option maxRecDepth 10000 in
theorem sm_X10_numberOf : Cond.static yX10_numberOf ∈ GW := gwT_2 228 rfl rfl
abbrev gX10_numberOf : mI := (yX10_numberOf, cX10_numberOf, 6, (some .int))
set_option maxRecDepth 10000 in
theorem mi_X10_numberOf : MI gX10_numberOf 3 := ⟨gwT_2 229 rfl rfl, gwT_1 15 rfl rfl, ⟨by decide, by decide, by decide +kernel⟩, by decide⟩
set_option maxRecDepth 10000 in
theorem lk_X10_13 : Cond.methodLink RX10 13 yJ0_charAt_5068e ∈ GW := gwT_2 231 rfl rfl
set_option maxRecDepth 10000 in
theorem im_J0_charAt_5068e : Cond.instanceMethod yJ0_charAt_5068e ∈ GW := gwT_2 232 rfl rfl
set_option maxRecDepth 10000 in
theorem se_J0_charAt_5068e : Cond.selects RJ0 yJ0_charAt_5068e yJ0_charAt_5068e ∈ GW := gwT_2 233 rfl rfl
abbrev gJ0_charAt_5068e : mI := (yJ0_charAt_5068e, cJ0_charAt_5068e, 2, (some .char))
set_option maxRecDepth 10000 in
theorem mi_J0_charAt_5068e : MI gJ0_charAt_5068e 1 := ⟨gwT_2 234 rfl rfl, gwT_1 16 rfl rfl, ⟨by decide, by decide, by decide +kernel⟩, by decide⟩
set_option maxRecDepth 10000 in
theorem lk_J0_492 : Cond.methodLink RJ0 492 yJ0_isLatin1_aae02 ∈ GW := gwT_2 235 rfl rfl
set_option maxRecDepth 10000 in
theorem im_J0_isLatin1_aae02 : Cond.instanceMethod yJ0_isLatin1_aae02 ∈ GW := gwT_2 236 rfl rfl
set_option maxRecDepth 10000 in
theorem se_J0_isLatin1_aae02 : Cond.selects RJ0 yJ0_isLatin1_aae02 yJ0_isLatin1_aae02 ∈ GW := gwT_2 237 rfl rfl
abbrev gJ0_isLatin1_aae02 : mI := (yJ0_isLatin1_aae02, cJ0_isLatin1_aae02, 1, (some .boolean))
set_option maxRecDepth 10000 in
theorem mi_J0_isLatin1_aae02 : MI gJ0_isLatin1_aae02 0 := ⟨gwT_2 238 rfl rfl, gwT_1 16 rfl rfl, ⟨by decide, by decide, by decide +kernel⟩, by decide⟩
set_option maxRecDepth 10000 in
theorem lk_J0_495 : Cond.methodLink RJ0 495 yJ1_charAt_3b067 ∈ GW := gwT_3 1 rfl rfl
set_option maxRecDepth 10000 in
theorem sm_J1_charAt_3b067 : Cond.static yJ1_charAt_3b067 ∈ GW := gwT_3 2 rfl rfl
abbrev gJ1_charAt_3b067 : mI := (yJ1_charAt_3b067, cJ1_charAt_3b067, 2, (some .char))
set_option maxRecDepth 10000 in
theorem mi_J1_charAt_3b067 : MI gJ1_charAt_3b067 2 := ⟨gwT_3 3 rfl rfl, gwT_1 17 rfl rfl, ⟨by decide, by decide, by decide +kernel⟩, by decide⟩
set_option maxRecDepth 10000 in
theorem lk_J1_9 : Cond.methodLink RJ1 9 yJ0_checkIndex_df160 ∈ GW := gwT_3 4 rfl rfl
set_option maxRecDepth 10000 in
theorem sm_J0_checkIndex_df160 : Cond.static yJ0_checkIndex_df160 ∈ GW := gwT_3 5 rfl rfl
abbrev gJ0_checkIndex_df160 : mI := (yJ0_checkIndex_df160, cJ0_checkIndex_df160, 2, none)
set_option maxRecDepth 10000 in
theorem mi_J0_checkIndex_df160 : MI gJ0_checkIndex_df160 2 := ⟨gwT_3 6 rfl rfl, gwT_1 16 rfl rfl, ⟨by decide, by decide, by decide +kernel⟩, by decide⟩
set_option maxRecDepth 10000 in
theorem lk_J0_1059 : Cond.methodLink RJ0 1059 yJ3_checkIndex_8e157 ∈ GW := gwT_3 9 rfl rfl
set_option maxRecDepth 10000 in
theorem sm_J3_checkIndex_8e157 : Cond.static yJ3_checkIndex_8e157 ∈ GW := gwT_3 10 rfl rfl
abbrev gJ3_checkIndex_8e157 : mI := (yJ3_checkIndex_8e157, cJ3_checkIndex_8e157, 3, (some .int))
set_option maxRecDepth 10000 in
theorem mi_J3_checkIndex_8e157 : MI gJ3_checkIndex_8e157 3 := ⟨gwT_3 11 rfl rfl, gwT_1 18 rfl rfl, ⟨by decide, by decide, by decide +kernel⟩, by decide⟩
set_option maxRecDepth 10000 in
theorem lk_J0_498 : Cond.methodLink RJ0 498 yJ2_charAt_3b067 ∈ GW := gwT_3 12 rfl rfl
set_option maxRecDepth 10000 in
theorem sm_J2_charAt_3b067 : Cond.static yJ2_charAt_3b067 ∈ GW := gwT_3 13 rfl rfl
abbrev gJ2_charAt_3b067 : mI := (yJ2_charAt_3b067, cJ2_charAt_3b067, 2, (some .char))
set_option maxRecDepth 10000 in
theorem mi_J2_charAt_3b067 : MI gJ2_charAt_3b067 2 := ⟨gwT_3 14 rfl rfl, gwT_1 19 rfl rfl, ⟨by decide, by decide, by decide +kernel⟩, by decide⟩
set_option maxRecDepth 10000 in
theorem lk_J2_67 : Cond.methodLink RJ2 67 yJ2_checkIndex_2214a ∈ GW := gwT_3 15 rfl rfl
set_option maxRecDepth 10000 in
theorem sm_J2_checkIndex_2214a : Cond.static yJ2_checkIndex_2214a ∈ GW := gwT_3 16 rfl rfl
abbrev gJ2_checkIndex_2214a : mI := (yJ2_checkIndex_2214a, cJ2_checkIndex_2214a, 2, none)
set_option maxRecDepth 10000 in
theorem mi_J2_checkIndex_2214a : MI gJ2_checkIndex_2214a 2 := ⟨gwT_3 17 rfl rfl, gwT_1 19 rfl rfl, ⟨by decide, by decide, by decide +kernel⟩, by decide⟩
set_option maxRecDepth 10000 in
theorem lk_J2_48 : Cond.methodLink RJ2 48 yJ2_length_9d52b ∈ GW := gwT_3 18 rfl rfl
set_option maxRecDepth 10000 in
theorem sm_J2_length_9d52b : Cond.static yJ2_length_9d52b ∈ GW := gwT_3 19 rfl rfl
abbrev gJ2_length_9d52b : mI := (yJ2_length_9d52b, cJ2_length_9d52b, 1, (some .int))
set_option maxRecDepth 10000 in
theorem mi_J2_length_9d52b : MI gJ2_length_9d52b 1 := ⟨gwT_3 20 rfl rfl, gwT_1 19 rfl rfl, ⟨by decide, by decide, by decide +kernel⟩, by decide⟩
set_option maxRecDepth 10000 in
theorem lk_J2_414 : Cond.methodLink RJ2 414 yJ0_checkIndex_df160 ∈ GW := gwT_3 21 rfl rfl
set_option maxRecDepth 10000 in
theorem lk_J2_71 : Cond.methodLink RJ2 71 yJ2_getChar_3b067 ∈ GW := gwT_3 22 rfl rfl
set_option maxRecDepth 10000 in
theorem sm_J2_getChar_3b067 : Cond.static yJ2_getChar_3b067 ∈ GW := gwT_3 23 rfl rfl
abbrev gJ2_getChar_3b067 : mI := (yJ2_getChar_3b067, cJ2_getChar_3b067, 2, (some .char))
set_option maxRecDepth 10000 in
theorem mi_J2_getChar_3b067 : MI gJ2_getChar_3b067 2 := ⟨gwT_3 24 rfl rfl, gwT_1 19 rfl rfl, ⟨by decide, by decide, by decide +kernel⟩, by decide⟩
set_option maxRecDepth 10000 in
theorem lk_X7_50 : Cond.methodLink RX7 50 yX7_plainValue ∈ GW := gwT_3 31 rfl rfl
set_option maxRecDepth 10000 in
theorem im_X7_plainValue : Cond.instanceMethod yX7_plainValue ∈ GW := gwT_3 33 rfl rfl
abbrev gX7_plainValue : mI := (yX7_plainValue, cX7_plainValue, 3, (some .int))
set_option maxRecDepth 10000 in
theorem mi_X7_plainValue : MI gX7_plainValue 0 := ⟨gwT_3 34 rfl rfl, gwT_1 11 rfl rfl, ⟨by decide, by decide, by decide +kernel⟩, by decide⟩
set_option maxRecDepth 10000 in
theorem lk_X5_49 : Cond.methodLink RX5 49 yX5_statement ∈ GW := gwT_3 35 rfl rfl
set_option maxRecDepth 10000 in
theorem im_X5_statement : Cond.instanceMethod yX5_statement ∈ GW := gwT_3 37 rfl rfl
abbrev gX5_statement : mI := (yX5_statement, cX5_statement, 3, (some .boolean))
set_option maxRecDepth 10000 in
theorem mi_X5_statement : MI gX5_statement 1 := ⟨gwT_3 38 rfl rfl, gwT_1 10 rfl rfl, ⟨by decide, by decide, by decide +kernel⟩, by decide⟩
set_option maxRecDepth 10000 in
theorem lk_X5_67 : Cond.methodLink RX5 67 yX5_memoryStatement ∈ GW := gwT_3 39 rfl rfl
set_option maxRecDepth 10000 in
theorem im_X5_memoryStatement : Cond.instanceMethod yX5_memoryStatement ∈ GW := gwT_3 41 rfl rfl
abbrev gX5_memoryStatement : mI := (yX5_memoryStatement, cX5_memoryStatement, 2, (some .boolean))
set_option maxRecDepth 10000 in
theorem mi_X5_memoryStatement : MI gX5_memoryStatement 1 := ⟨gwT_3 42 rfl rfl, gwT_1 10 rfl rfl, ⟨by decide, by decide, by decide +kernel⟩, by decide⟩
set_option maxRecDepth 10000 in
theorem lk_X5_88 : Cond.methodLink RX5 88 yX5_word ∈ GW := gwT_3 43 rfl rfl
set_option maxRecDepth 10000 in
theorem im_X5_word : Cond.instanceMethod yX5_word ∈ GW := gwT_3 45 rfl rfl
abbrev gX5_word : mI := (yX5_word, cX5_word, 2, (some .boolean))
set_option maxRecDepth 10000 in
theorem mi_X5_word : MI gX5_word 1 := ⟨gwT_3 46 rfl rfl, gwT_1 10 rfl rfl, ⟨by decide, by decide, by decide +kernel⟩, by decide⟩
set_option maxRecDepth 10000 in
theorem lk_X5_138 : Cond.methodLink RX5 138 yX7_isWord ∈ GW := gwT_3 47 rfl rfl
set_option maxRecDepth 10000 in
theorem im_X7_isWord : Cond.instanceMethod yX7_isWord ∈ GW := gwT_3 48 rfl rfl
set_option maxRecDepth 10000 in
theorem se_X7_isWord : Cond.selects RX7 yX7_isWord yX7_isWord ∈ GW := gwT_3 49 rfl rfl
abbrev gX7_isWord : mI := (yX7_isWord, cX7_isWord, 2, (some .boolean))
set_option maxRecDepth 10000 in
theorem mi_X7_isWord : MI gX7_isWord 1 := ⟨gwT_3 50 rfl rfl, gwT_1 11 rfl rfl, ⟨by decide, by decide, by decide +kernel⟩, by decide⟩
set_option maxRecDepth 10000 in
theorem lk_X5_63 : Cond.methodLink RX5 63 yX5_fail ∈ GW := gwT_3 51 rfl rfl
set_option maxRecDepth 10000 in
theorem im_X5_fail : Cond.instanceMethod yX5_fail ∈ GW := gwT_3 53 rfl rfl
abbrev gX5_fail : mI := (yX5_fail, cX5_fail, 3, (some .boolean))
set_option maxRecDepth 10000 in
theorem mi_X5_fail : MI gX5_fail 2 := ⟨gwT_3 54 rfl rfl, gwT_1 10 rfl rfl, ⟨by decide, by decide, by decide +kernel⟩, by decide⟩
set_option maxRecDepth 10000 in
theorem lk_X5_97 : Cond.methodLink RX5 97 yX7_next ∈ GW := gwT_3 55 rfl rfl
set_option maxRecDepth 10000 in
theorem lk_X5_91 : Cond.methodLink RX5 91 yX5_number ∈ GW := gwT_3 56 rfl rfl
set_option maxRecDepth 10000 in
theorem im_X5_number : Cond.instanceMethod yX5_number ∈ GW := gwT_3 58 rfl rfl
abbrev gX5_number : mI := (yX5_number, cX5_number, 3, (some .boolean))
set_option maxRecDepth 10000 in
theorem mi_X5_number : MI gX5_number 2 := ⟨gwT_3 59 rfl rfl, gwT_1 10 rfl rfl, ⟨by decide, by decide, by decide +kernel⟩, by decide⟩
set_option maxRecDepth 10000 in
theorem lk_X5_144 : Cond.methodLink RX5 144 yX7_isTooLong ∈ GW := gwT_3 60 rfl rfl
set_option maxRecDepth 10000 in
theorem im_X7_isTooLong : Cond.instanceMethod yX7_isTooLong ∈ GW := gwT_3 61 rfl rfl
set_option maxRecDepth 10000 in
theorem se_X7_isTooLong : Cond.selects RX7 yX7_isTooLong yX7_isTooLong ∈ GW := gwT_3 62 rfl rfl
abbrev gX7_isTooLong : mI := (yX7_isTooLong, cX7_isTooLong, 1, (some .boolean))
set_option maxRecDepth 10000 in
theorem mi_X7_isTooLong : MI gX7_isTooLong 0 := ⟨gwT_3 63 rfl rfl, gwT_1 11 rfl rfl, ⟨by decide, by decide, by decide +kernel⟩, by decide⟩
set_option maxRecDepth 10000 in
theorem lk_X5_73 : Cond.methodLink RX5 73 yX5_shelfStatement ∈ GW := gwT_3 64 rfl rfl
set_option maxRecDepth 10000 in
theorem im_X5_shelfStatement : Cond.instanceMethod yX5_shelfStatement ∈ GW := gwT_3 66 rfl rfl
abbrev gX5_shelfStatement : mI := (yX5_shelfStatement, cX5_shelfStatement, 2, (some .boolean))
set_option maxRecDepth 10000 in
theorem mi_X5_shelfStatement : MI gX5_shelfStatement 1 := ⟨gwT_3 67 rfl rfl, gwT_1 10 rfl rfl, ⟨by decide, by decide, by decide +kernel⟩, by decide⟩
set_option maxRecDepth 10000 in
theorem lk_X5_106 : Cond.methodLink RX5 106 yX5_name ∈ GW := gwT_3 68 rfl rfl
set_option maxRecDepth 10000 in
theorem im_X5_name : Cond.instanceMethod yX5_name ∈ GW := gwT_3 70 rfl rfl
abbrev gX5_name : mI := (yX5_name, cX5_name, 4, (some .boolean))
set_option maxRecDepth 10000 in
theorem mi_X5_name : MI gX5_name 1 := ⟨gwT_3 71 rfl rfl, gwT_1 10 rfl rfl, ⟨by decide, by decide, by decide +kernel⟩, by decide⟩
set_option maxRecDepth 10000 in
theorem lk_X5_120 : Cond.methodLink RX5 120 yX4_setName ∈ GW := gwT_3 72 rfl rfl
set_option maxRecDepth 10000 in
theorem im_X4_setName : Cond.instanceMethod yX4_setName ∈ GW := gwT_3 73 rfl rfl
set_option maxRecDepth 10000 in
theorem se_X4_setName : Cond.selects RX4 yX4_setName yX4_setName ∈ GW := gwT_3 74 rfl rfl
abbrev gX4_setName : mI := (yX4_setName, cX4_setName, 7, none)
set_option maxRecDepth 10000 in
theorem mi_X4_setName : MI gX4_setName 4 := ⟨gwT_3 75 rfl rfl, gwT_1 9 rfl rfl, ⟨by decide, by decide, by decide +kernel⟩, by decide⟩
set_option maxRecDepth 10000 in
theorem lk_X5_124 : Cond.methodLink RX5 124 yX4_hasNameTwice ∈ GW := gwT_3 76 rfl rfl
set_option maxRecDepth 10000 in
theorem im_X4_hasNameTwice : Cond.instanceMethod yX4_hasNameTwice ∈ GW := gwT_3 77 rfl rfl
set_option maxRecDepth 10000 in
theorem se_X4_hasNameTwice : Cond.selects RX4 yX4_hasNameTwice yX4_hasNameTwice ∈ GW := gwT_3 78 rfl rfl
abbrev gX4_hasNameTwice : mI := (yX4_hasNameTwice, cX4_hasNameTwice, 4, (some .boolean))
set_option maxRecDepth 10000 in
theorem mi_X4_hasNameTwice : MI gX4_hasNameTwice 1 := ⟨gwT_3 79 rfl rfl, gwT_1 9 rfl rfl, ⟨by decide, by decide, by decide +kernel⟩, by decide⟩
set_option maxRecDepth 10000 in
theorem lk_X5_76 : Cond.methodLink RX5 76 yX5_begins ∈ GW := gwT_3 80 rfl rfl
set_option maxRecDepth 10000 in
theorem im_X5_begins : Cond.instanceMethod yX5_begins ∈ GW := gwT_3 82 rfl rfl
abbrev gX5_begins : mI := (yX5_begins, cX5_begins, 3, (some .boolean))
set_option maxRecDepth 10000 in
theorem mi_X5_begins : MI gX5_begins 2 := ⟨gwT_3 83 rfl rfl, gwT_1 10 rfl rfl, ⟨by decide, by decide, by decide +kernel⟩, by decide⟩
set_option maxRecDepth 10000 in
theorem lk_X5_127 : Cond.methodLink RX5 127 yX4_hasFormula ∈ GW := gwT_3 84 rfl rfl
set_option maxRecDepth 10000 in
theorem im_X4_hasFormula : Cond.instanceMethod yX4_hasFormula ∈ GW := gwT_3 85 rfl rfl
set_option maxRecDepth 10000 in
theorem se_X4_hasFormula : Cond.selects RX4 yX4_hasFormula yX4_hasFormula ∈ GW := gwT_3 86 rfl rfl
abbrev gX4_hasFormula : mI := (yX4_hasFormula, cX4_hasFormula, 2, (some .boolean))
set_option maxRecDepth 10000 in
theorem mi_X4_hasFormula : MI gX4_hasFormula 1 := ⟨gwT_3 87 rfl rfl, gwT_1 9 rfl rfl, ⟨by decide, by decide, by decide +kernel⟩, by decide⟩
set_option maxRecDepth 10000 in
theorem lk_X5_130 : Cond.methodLink RX5 130 yX4_beginFormula ∈ GW := gwT_3 88 rfl rfl
set_option maxRecDepth 10000 in
theorem im_X4_beginFormula : Cond.instanceMethod yX4_beginFormula ∈ GW := gwT_3 89 rfl rfl
set_option maxRecDepth 10000 in
theorem se_X4_beginFormula : Cond.selects RX4 yX4_beginFormula yX4_beginFormula ∈ GW := gwT_3 90 rfl rfl
abbrev gX4_beginFormula : mI := (yX4_beginFormula, cX4_beginFormula, 2, none)
set_option maxRecDepth 10000 in
theorem mi_X4_beginFormula : MI gX4_beginFormula 1 := ⟨gwT_3 91 rfl rfl, gwT_1 9 rfl rfl, ⟨by decide, by decide, by decide +kernel⟩, by decide⟩
set_option maxRecDepth 10000 in
theorem lk_X5_79 : Cond.methodLink RX5 79 yX5_sum ∈ GW := gwT_3 92 rfl rfl
set_option maxRecDepth 10000 in
theorem im_X5_sum : Cond.instanceMethod yX5_sum ∈ GW := gwT_3 94 rfl rfl
abbrev gX5_sum : mI := (yX5_sum, cX5_sum, 4, (some .boolean))
set_option maxRecDepth 10000 in
theorem mi_X5_sum : MI gX5_sum 1 := ⟨gwT_3 95 rfl rfl, gwT_1 10 rfl rfl, ⟨by decide, by decide, by decide +kernel⟩, by decide⟩
set_option maxRecDepth 10000 in
theorem lk_X5_160 : Cond.methodLink RX5 160 yX5_product ∈ GW := gwT_3 96 rfl rfl
set_option maxRecDepth 10000 in
theorem im_X5_product : Cond.instanceMethod yX5_product ∈ GW := gwT_3 98 rfl rfl
abbrev gX5_product : mI := (yX5_product, cX5_product, 4, (some .boolean))
set_option maxRecDepth 10000 in
theorem mi_X5_product : MI gX5_product 1 := ⟨gwT_3 99 rfl rfl, gwT_1 10 rfl rfl, ⟨by decide, by decide, by decide +kernel⟩, by decide⟩
set_option maxRecDepth 10000 in
theorem lk_X5_163 : Cond.methodLink RX5 163 yX5_part ∈ GW := gwT_3 100 rfl rfl
set_option maxRecDepth 10000 in
theorem im_X5_part : Cond.instanceMethod yX5_part ∈ GW := gwT_3 102 rfl rfl
abbrev gX5_part : mI := (yX5_part, cX5_part, 2, (some .boolean))
set_option maxRecDepth 10000 in
theorem mi_X5_part : MI gX5_part 1 := ⟨gwT_3 103 rfl rfl, gwT_1 10 rfl rfl, ⟨by decide, by decide, by decide +kernel⟩, by decide⟩
set_option maxRecDepth 10000 in
theorem lk_X5_166 : Cond.methodLink RX5 166 yX4_addNumber ∈ GW := gwT_3 104 rfl rfl
set_option maxRecDepth 10000 in
theorem im_X4_addNumber : Cond.instanceMethod yX4_addNumber ∈ GW := gwT_3 105 rfl rfl
set_option maxRecDepth 10000 in
theorem se_X4_addNumber : Cond.selects RX4 yX4_addNumber yX4_addNumber ∈ GW := gwT_3 106 rfl rfl
abbrev gX4_addNumber : mI := (yX4_addNumber, cX4_addNumber, 2, none)
set_option maxRecDepth 10000 in
theorem mi_X4_addNumber : MI gX4_addNumber 1 := ⟨gwT_3 107 rfl rfl, gwT_1 9 rfl rfl, ⟨by decide, by decide, by decide +kernel⟩, by decide⟩
set_option maxRecDepth 10000 in
theorem lk_X5_141 : Cond.methodLink RX5 141 yX7_isSign ∈ GW := gwT_3 108 rfl rfl
set_option maxRecDepth 10000 in
theorem im_X7_isSign : Cond.instanceMethod yX7_isSign ∈ GW := gwT_3 109 rfl rfl
set_option maxRecDepth 10000 in
theorem se_X7_isSign : Cond.selects RX7 yX7_isSign yX7_isSign ∈ GW := gwT_3 110 rfl rfl
abbrev gX7_isSign : mI := (yX7_isSign, cX7_isSign, 2, (some .boolean))
set_option maxRecDepth 10000 in
theorem mi_X7_isSign : MI gX7_isSign 1 := ⟨gwT_3 111 rfl rfl, gwT_1 11 rfl rfl, ⟨by decide, by decide, by decide +kernel⟩, by decide⟩
set_option maxRecDepth 10000 in
theorem lk_X5_157 : Cond.methodLink RX5 157 yX5_opening ∈ GW := gwT_3 112 rfl rfl
set_option maxRecDepth 10000 in
theorem im_X5_opening : Cond.instanceMethod yX5_opening ∈ GW := gwT_3 114 rfl rfl
abbrev gX5_opening : mI := (yX5_opening, cX5_opening, 2, (some .boolean))
set_option maxRecDepth 10000 in
theorem mi_X5_opening : MI gX5_opening 1 := ⟨gwT_3 115 rfl rfl, gwT_1 10 rfl rfl, ⟨by decide, by decide, by decide +kernel⟩, by decide⟩
set_option maxRecDepth 10000 in
theorem lk_X5_53 : Cond.methodLink RX5 53 yX5_sign ∈ GW := gwT_3 116 rfl rfl
set_option maxRecDepth 10000 in
theorem im_X5_sign : Cond.instanceMethod yX5_sign ∈ GW := gwT_3 118 rfl rfl
abbrev gX5_sign : mI := (yX5_sign, cX5_sign, 2, (some .boolean))
set_option maxRecDepth 10000 in
theorem mi_X5_sign : MI gX5_sign 1 := ⟨gwT_3 119 rfl rfl, gwT_1 10 rfl rfl, ⟨by decide, by decide, by decide +kernel⟩, by decide⟩
set_option maxRecDepth 10000 in
theorem lk_X5_169 : Cond.methodLink RX5 169 yX5_pair ∈ GW := gwT_3 120 rfl rfl
set_option maxRecDepth 10000 in
theorem im_X5_pair : Cond.instanceMethod yX5_pair ∈ GW := gwT_3 122 rfl rfl
abbrev gX5_pair : mI := (yX5_pair, cX5_pair, 3, (some .boolean))
set_option maxRecDepth 10000 in
theorem mi_X5_pair : MI gX5_pair 1 := ⟨gwT_3 123 rfl rfl, gwT_1 10 rfl rfl, ⟨by decide, by decide, by decide +kernel⟩, by decide⟩
set_option maxRecDepth 10000 in
theorem lk_X5_151 : Cond.methodLink RX5 151 yX4_addOperation ∈ GW := gwT_3 124 rfl rfl
set_option maxRecDepth 10000 in
theorem im_X4_addOperation : Cond.instanceMethod yX4_addOperation ∈ GW := gwT_3 125 rfl rfl
set_option maxRecDepth 10000 in
theorem se_X4_addOperation : Cond.selects RX4 yX4_addOperation yX4_addOperation ∈ GW := gwT_3 126 rfl rfl
abbrev gX4_addOperation : mI := (yX4_addOperation, cX4_addOperation, 2, none)
set_option maxRecDepth 10000 in
theorem mi_X4_addOperation : MI gX4_addOperation 1 := ⟨gwT_3 127 rfl rfl, gwT_1 9 rfl rfl, ⟨by decide, by decide, by decide +kernel⟩, by decide⟩
set_option maxRecDepth 10000 in
theorem lk_X4_53 : Cond.methodLink RX4 53 yX4_addNumber ∈ GW := gwT_3 128 rfl rfl
set_option maxRecDepth 10000 in
theorem lk_X5_172 : Cond.methodLink RX5 172 yX5_wordPart ∈ GW := gwT_3 129 rfl rfl
set_option maxRecDepth 10000 in
theorem im_X5_wordPart : Cond.instanceMethod yX5_wordPart ∈ GW := gwT_3 131 rfl rfl
abbrev gX5_wordPart : mI := (yX5_wordPart, cX5_wordPart, 3, (some .boolean))
set_option maxRecDepth 10000 in
theorem mi_X5_wordPart : MI gX5_wordPart 1 := ⟨gwT_3 132 rfl rfl, gwT_1 10 rfl rfl, ⟨by decide, by decide, by decide +kernel⟩, by decide⟩
set_option maxRecDepth 10000 in
theorem lk_X5_82 : Cond.methodLink RX5 82 yX5_ends ∈ GW := gwT_3 133 rfl rfl
set_option maxRecDepth 10000 in
theorem im_X5_ends : Cond.instanceMethod yX5_ends ∈ GW := gwT_3 135 rfl rfl
abbrev gX5_ends : mI := (yX5_ends, cX5_ends, 2, (some .boolean))
set_option maxRecDepth 10000 in
theorem mi_X5_ends : MI gX5_ends 1 := ⟨gwT_3 136 rfl rfl, gwT_1 10 rfl rfl, ⟨by decide, by decide, by decide +kernel⟩, by decide⟩
set_option maxRecDepth 10000 in
theorem lk_X5_134 : Cond.methodLink RX5 134 yX4_endFormula ∈ GW := gwT_3 137 rfl rfl
set_option maxRecDepth 10000 in
theorem im_X4_endFormula : Cond.instanceMethod yX4_endFormula ∈ GW := gwT_3 138 rfl rfl
set_option maxRecDepth 10000 in
theorem se_X4_endFormula : Cond.selects RX4 yX4_endFormula yX4_endFormula ∈ GW := gwT_3 139 rfl rfl
abbrev gX4_endFormula : mI := (yX4_endFormula, cX4_endFormula, 2, none)
set_option maxRecDepth 10000 in
theorem mi_X4_endFormula : MI gX4_endFormula 1 := ⟨gwT_3 140 rfl rfl, gwT_1 9 rfl rfl, ⟨by decide, by decide, by decide +kernel⟩, by decide⟩
set_option maxRecDepth 10000 in
theorem lk_X5_85 : Cond.methodLink RX5 85 yX5_test ∈ GW := gwT_3 141 rfl rfl
set_option maxRecDepth 10000 in
theorem im_X5_test : Cond.instanceMethod yX5_test ∈ GW := gwT_3 143 rfl rfl
abbrev gX5_test : mI := (yX5_test, cX5_test, 3, (some .boolean))
set_option maxRecDepth 10000 in
theorem mi_X5_test : MI gX5_test 1 := ⟨gwT_3 144 rfl rfl, gwT_1 10 rfl rfl, ⟨by decide, by decide, by decide +kernel⟩, by decide⟩
set_option maxRecDepth 10000 in
theorem lk_X5_148 : Cond.methodLink RX5 148 yX5_both ∈ GW := gwT_3 145 rfl rfl
set_option maxRecDepth 10000 in
theorem im_X5_both : Cond.instanceMethod yX5_both ∈ GW := gwT_3 147 rfl rfl
abbrev gX5_both : mI := (yX5_both, cX5_both, 3, (some .boolean))
set_option maxRecDepth 10000 in
theorem mi_X5_both : MI gX5_both 1 := ⟨gwT_3 148 rfl rfl, gwT_1 10 rfl rfl, ⟨by decide, by decide, by decide +kernel⟩, by decide⟩
set_option maxRecDepth 10000 in
theorem lk_X5_154 : Cond.methodLink RX5 154 yX5_fact ∈ GW := gwT_3 149 rfl rfl
set_option maxRecDepth 10000 in
theorem im_X5_fact : Cond.instanceMethod yX5_fact ∈ GW := gwT_3 151 rfl rfl
abbrev gX5_fact : mI := (yX5_fact, cX5_fact, 3, (some .boolean))
set_option maxRecDepth 10000 in
theorem mi_X5_fact : MI gX5_fact 1 := ⟨gwT_3 152 rfl rfl, gwT_1 10 rfl rfl, ⟨by decide, by decide, by decide +kernel⟩, by decide⟩
set_option maxRecDepth 10000 in
theorem lk_X11_127 : Cond.methodLink RX11 127 yX11_keepFault ∈ GW := gwT_3 153 rfl rfl
set_option maxRecDepth 10000 in
theorem im_X11_keepFault : Cond.instanceMethod yX11_keepFault ∈ GW := gwT_3 155 rfl rfl
abbrev gX11_keepFault : mI := (yX11_keepFault, cX11_keepFault, 1, none)
set_option maxRecDepth 10000 in
theorem mi_X11_keepFault : MI gX11_keepFault 0 := ⟨gwT_3 156 rfl rfl, gwT_1 1 rfl rfl, ⟨by decide, by decide, by decide +kernel⟩, by decide⟩
set_option maxRecDepth 10000 in
theorem lk_X11_130 : Cond.methodLink RX11 130 yX11_beginAnew ∈ GW := gwT_3 157 rfl rfl
set_option maxRecDepth 10000 in
theorem im_X11_beginAnew : Cond.instanceMethod yX11_beginAnew ∈ GW := gwT_3 159 rfl rfl
abbrev gX11_beginAnew : mI := (yX11_beginAnew, cX11_beginAnew, 2, none)
set_option maxRecDepth 10000 in
theorem mi_X11_beginAnew : MI gX11_beginAnew 0 := ⟨gwT_3 160 rfl rfl, gwT_1 1 rfl rfl, ⟨by decide, by decide, by decide +kernel⟩, by decide⟩
set_option maxRecDepth 10000 in
theorem lk_X11_140 : Cond.methodLink RX11 140 yX9_clear ∈ GW := gwT_3 161 rfl rfl
set_option maxRecDepth 10000 in
theorem im_X9_clear : Cond.instanceMethod yX9_clear ∈ GW := gwT_3 162 rfl rfl
set_option maxRecDepth 10000 in
theorem se_X9_clear : Cond.selects RX9 yX9_clear yX9_clear ∈ GW := gwT_3 163 rfl rfl
abbrev gX9_clear : mI := (yX9_clear, cX9_clear, 2, none)
set_option maxRecDepth 10000 in
theorem mi_X9_clear : MI gX9_clear 0 := ⟨gwT_3 164 rfl rfl, gwT_1 2 rfl rfl, ⟨by decide, by decide, by decide +kernel⟩, by decide⟩
set_option maxRecDepth 10000 in
theorem lk_X9_41 : Cond.methodLink RX9 41 yX6_clear ∈ GW := gwT_3 165 rfl rfl
set_option maxRecDepth 10000 in
theorem im_X6_clear : Cond.instanceMethod yX6_clear ∈ GW := gwT_3 166 rfl rfl
set_option maxRecDepth 10000 in
theorem se_X6_clear : Cond.selects RX6 yX6_clear yX6_clear ∈ GW := gwT_3 167 rfl rfl
abbrev gX6_clear : mI := (yX6_clear, cX6_clear, 2, none)
set_option maxRecDepth 10000 in
theorem mi_X6_clear : MI gX6_clear 1 := ⟨gwT_3 168 rfl rfl, gwT_1 3 rfl rfl, ⟨by decide, by decide, by decide +kernel⟩, by decide⟩
set_option maxRecDepth 10000 in
theorem lk_X9_45 : Cond.methodLink RX9 45 yJ7_fill_53178 ∈ GW := gwT_3 169 rfl rfl
set_option maxRecDepth 10000 in
theorem lk_X11_154 : Cond.methodLink RX11 154 yX6_carry ∈ GW := gwT_3 170 rfl rfl
set_option maxRecDepth 10000 in
theorem im_X6_carry : Cond.instanceMethod yX6_carry ∈ GW := gwT_3 171 rfl rfl
set_option maxRecDepth 10000 in
theorem se_X6_carry : Cond.selects RX6 yX6_carry yX6_carry ∈ GW := gwT_3 172 rfl rfl
abbrev gX6_carry : mI := (yX6_carry, cX6_carry, 5, none)
set_option maxRecDepth 10000 in
theorem mi_X6_carry : MI gX6_carry 3 := ⟨gwT_3 173 rfl rfl, gwT_1 3 rfl rfl, ⟨by decide, by decide, by decide +kernel⟩, by decide⟩
set_option maxRecDepth 10000 in
theorem lk_X6_44 : Cond.methodLink RX6 44 yX6_leastExponent ∈ GW := gwT_3 174 rfl rfl
set_option maxRecDepth 10000 in
theorem sm_X6_leastExponent : Cond.static yX6_leastExponent ∈ GW := gwT_3 175 rfl rfl
abbrev gX6_leastExponent : mI := (yX6_leastExponent, cX6_leastExponent, 6, (some .int))
set_option maxRecDepth 10000 in
theorem mi_X6_leastExponent : MI gX6_leastExponent 3 := ⟨gwT_3 176 rfl rfl, gwT_1 3 rfl rfl, ⟨by decide, by decide, by decide +kernel⟩, by decide⟩
set_option maxRecDepth 10000 in
theorem lk_X6_37 : Cond.methodLink RX6 37 yX6_up ∈ GW := gwT_3 177 rfl rfl
set_option maxRecDepth 10000 in
theorem sm_X6_up : Cond.static yX6_up ∈ GW := gwT_3 178 rfl rfl
abbrev gX6_up : mI := (yX6_up, cX6_up, 2, (some .int))
set_option maxRecDepth 10000 in
theorem mi_X6_up : MI gX6_up 2 := ⟨gwT_3 179 rfl rfl, gwT_1 3 rfl rfl, ⟨by decide, by decide, by decide +kernel⟩, by decide⟩
set_option maxRecDepth 10000 in
theorem lk_X6_41 : Cond.methodLink RX6 41 yX6_down ∈ GW := gwT_3 180 rfl rfl
set_option maxRecDepth 10000 in
theorem sm_X6_down : Cond.static yX6_down ∈ GW := gwT_3 181 rfl rfl
abbrev gX6_down : mI := (yX6_down, cX6_down, 2, (some .int))
set_option maxRecDepth 10000 in
theorem mi_X6_down : MI gX6_down 2 := ⟨gwT_3 182 rfl rfl, gwT_1 3 rfl rfl, ⟨by decide, by decide, by decide +kernel⟩, by decide⟩
set_option maxRecDepth 10000 in
theorem lk_X11_158 : Cond.methodLink RX11 158 yX2_clear ∈ GW := gwT_3 183 rfl rfl
set_option maxRecDepth 10000 in
theorem im_X2_clear : Cond.instanceMethod yX2_clear ∈ GW := gwT_3 184 rfl rfl
set_option maxRecDepth 10000 in
theorem se_X2_clear : Cond.selects RX2 yX2_clear yX2_clear ∈ GW := gwT_3 185 rfl rfl
abbrev gX2_clear : mI := (yX2_clear, cX2_clear, 1, none)
set_option maxRecDepth 10000 in
theorem mi_X2_clear : MI gX2_clear 0 := ⟨gwT_3 186 rfl rfl, gwT_1 4 rfl rfl, ⟨by decide, by decide, by decide +kernel⟩, by decide⟩
set_option maxRecDepth 10000 in
theorem lk_X11_159 : Cond.methodLink RX11 159 yX8_clear ∈ GW := gwT_3 187 rfl rfl
set_option maxRecDepth 10000 in
theorem im_X8_clear : Cond.instanceMethod yX8_clear ∈ GW := gwT_3 188 rfl rfl
set_option maxRecDepth 10000 in
theorem se_X8_clear : Cond.selects RX8 yX8_clear yX8_clear ∈ GW := gwT_3 189 rfl rfl
abbrev gX8_clear : mI := (yX8_clear, cX8_clear, 1, none)
set_option maxRecDepth 10000 in
theorem mi_X8_clear : MI gX8_clear 0 := ⟨gwT_3 190 rfl rfl, gwT_1 7 rfl rfl, ⟨by decide, by decide, by decide +kernel⟩, by decide⟩
set_option maxRecDepth 10000 in
theorem lk_L_28 : Cond.methodLink "FatPointersLaw" 28 yX11_fault ∈ GW := gwT_3 191 rfl rfl
set_option maxRecDepth 10000 in
theorem im_X11_fault : Cond.instanceMethod yX11_fault ∈ GW := gwT_3 192 rfl rfl
set_option maxRecDepth 10000 in
theorem se_X11_fault : Cond.selects RX11 yX11_fault yX11_fault ∈ GW := gwT_3 193 rfl rfl
abbrev gX11_fault : mI := (yX11_fault, cX11_fault, 2, (some .int))
set_option maxRecDepth 10000 in
theorem mi_X11_fault : MI gX11_fault 1 := ⟨gwT_3 194 rfl rfl, gwT_1 1 rfl rfl, ⟨by decide, by decide, by decide +kernel⟩, by decide⟩
set_option maxRecDepth 10000 in
theorem lk_L_33 : Cond.methodLink "FatPointersLaw" 33 yX11_has ∈ GW := gwT_3 195 rfl rfl
set_option maxRecDepth 10000 in
theorem im_X11_has : Cond.instanceMethod yX11_has ∈ GW := gwT_3 196 rfl rfl
set_option maxRecDepth 10000 in
theorem se_X11_has : Cond.selects RX11 yX11_has yX11_has ∈ GW := gwT_3 197 rfl rfl
abbrev gX11_has : mI := (yX11_has, cX11_has, 2, (some .int))
set_option maxRecDepth 10000 in
theorem mi_X11_has : MI gX11_has 1 := ⟨gwT_3 198 rfl rfl, gwT_1 1 rfl rfl, ⟨by decide, by decide, by decide +kernel⟩, by decide⟩
set_option maxRecDepth 10000 in
theorem lk_X11_163 : Cond.methodLink RX11 163 yX9_countValid ∈ GW := gwT_3 199 rfl rfl
set_option maxRecDepth 10000 in
theorem im_X9_countValid : Cond.instanceMethod yX9_countValid ∈ GW := gwT_3 200 rfl rfl
set_option maxRecDepth 10000 in
theorem se_X9_countValid : Cond.selects RX9 yX9_countValid yX9_countValid ∈ GW := gwT_3 201 rfl rfl
abbrev gX9_countValid : mI := (yX9_countValid, cX9_countValid, 3, (some .int))
set_option maxRecDepth 10000 in
theorem mi_X9_countValid : MI gX9_countValid 0 := ⟨gwT_3 202 rfl rfl, gwT_1 2 rfl rfl, ⟨by decide, by decide, by decide +kernel⟩, by decide⟩
set_option maxRecDepth 10000 in
theorem lk_X11_169 : Cond.methodLink RX11 169 yX9_bytesInObjects ∈ GW := gwT_3 203 rfl rfl
set_option maxRecDepth 10000 in
theorem im_X9_bytesInObjects : Cond.instanceMethod yX9_bytesInObjects ∈ GW := gwT_3 204 rfl rfl
set_option maxRecDepth 10000 in
theorem se_X9_bytesInObjects : Cond.selects RX9 yX9_bytesInObjects yX9_bytesInObjects ∈ GW := gwT_3 205 rfl rfl
abbrev gX9_bytesInObjects : mI := (yX9_bytesInObjects, cX9_bytesInObjects, 3, (some .int))
set_option maxRecDepth 10000 in
theorem mi_X9_bytesInObjects : MI gX9_bytesInObjects 0 := ⟨gwT_3 206 rfl rfl, gwT_1 2 rfl rfl, ⟨by decide, by decide, by decide +kernel⟩, by decide⟩
set_option maxRecDepth 10000 in
theorem lk_X11_172 : Cond.methodLink RX11 172 yX9_countHoles ∈ GW := gwT_3 207 rfl rfl
set_option maxRecDepth 10000 in
theorem im_X9_countHoles : Cond.instanceMethod yX9_countHoles ∈ GW := gwT_3 208 rfl rfl
set_option maxRecDepth 10000 in
theorem se_X9_countHoles : Cond.selects RX9 yX9_countHoles yX9_countHoles ∈ GW := gwT_3 209 rfl rfl
abbrev gX9_countHoles : mI := (yX9_countHoles, cX9_countHoles, 4, (some .int))
set_option maxRecDepth 10000 in
theorem mi_X9_countHoles : MI gX9_countHoles 1 := ⟨gwT_3 210 rfl rfl, gwT_1 2 rfl rfl, ⟨by decide, by decide, by decide +kernel⟩, by decide⟩
set_option maxRecDepth 10000 in
theorem lk_X9_69 : Cond.methodLink RX9 69 yX9_gapLength ∈ GW := gwT_3 211 rfl rfl
set_option maxRecDepth 10000 in
theorem im_X9_gapLength : Cond.instanceMethod yX9_gapLength ∈ GW := gwT_3 212 rfl rfl
set_option maxRecDepth 10000 in
theorem se_X9_gapLength : Cond.selects RX9 yX9_gapLength yX9_gapLength ∈ GW := gwT_3 213 rfl rfl
abbrev gX9_gapLength : mI := (yX9_gapLength, cX9_gapLength, 4, (some .int))
set_option maxRecDepth 10000 in
theorem mi_X9_gapLength : MI gX9_gapLength 2 := ⟨gwT_3 214 rfl rfl, gwT_1 2 rfl rfl, ⟨by decide, by decide, by decide +kernel⟩, by decide⟩
set_option maxRecDepth 10000 in
theorem lk_X9_65 : Cond.methodLink RX9 65 yX9_gapStart ∈ GW := gwT_3 215 rfl rfl
set_option maxRecDepth 10000 in
theorem im_X9_gapStart : Cond.instanceMethod yX9_gapStart ∈ GW := gwT_3 216 rfl rfl
set_option maxRecDepth 10000 in
theorem se_X9_gapStart : Cond.selects RX9 yX9_gapStart yX9_gapStart ∈ GW := gwT_3 217 rfl rfl
abbrev gX9_gapStart : mI := (yX9_gapStart, cX9_gapStart, 2, (some .int))
set_option maxRecDepth 10000 in
theorem mi_X9_gapStart : MI gX9_gapStart 1 := ⟨gwT_3 218 rfl rfl, gwT_1 2 rfl rfl, ⟨by decide, by decide, by decide +kernel⟩, by decide⟩
set_option maxRecDepth 10000 in
theorem lk_X11_175 : Cond.methodLink RX11 175 yX9_longestHole ∈ GW := gwT_3 219 rfl rfl
set_option maxRecDepth 10000 in
theorem im_X9_longestHole : Cond.instanceMethod yX9_longestHole ∈ GW := gwT_3 220 rfl rfl
set_option maxRecDepth 10000 in
theorem se_X9_longestHole : Cond.selects RX9 yX9_longestHole yX9_longestHole ∈ GW := gwT_3 221 rfl rfl
abbrev gX9_longestHole : mI := (yX9_longestHole, cX9_longestHole, 4, (some .int))
set_option maxRecDepth 10000 in
theorem mi_X9_longestHole : MI gX9_longestHole 1 := ⟨gwT_3 222 rfl rfl, gwT_1 2 rfl rfl, ⟨by decide, by decide, by decide +kernel⟩, by decide⟩
set_option maxRecDepth 10000 in
theorem lk_X9_73 : Cond.methodLink RX9 73 yJ9_max_7cf53 ∈ GW := gwT_3 223 rfl rfl
set_option maxRecDepth 10000 in
theorem sm_J9_max_7cf53 : Cond.static yJ9_max_7cf53 ∈ GW := gwT_3 224 rfl rfl
abbrev gJ9_max_7cf53 : mI := (yJ9_max_7cf53, cJ9_max_7cf53, 2, (some .int))
set_option maxRecDepth 10000 in
theorem mi_J9_max_7cf53 : MI gJ9_max_7cf53 2 := ⟨gwT_3 225 rfl rfl, gwT_1 14 rfl rfl, ⟨by decide, by decide, by decide +kernel⟩, by decide⟩
set_option maxRecDepth 10000 in
theorem lk_L_37 : Cond.methodLink "FatPointersLaw" 37 yX11_letter ∈ GW := gwT_3 226 rfl rfl
set_option maxRecDepth 10000 in
theorem im_X11_letter : Cond.instanceMethod yX11_letter ∈ GW := gwT_3 227 rfl rfl
set_option maxRecDepth 10000 in
theorem se_X11_letter : Cond.selects RX11 yX11_letter yX11_letter ∈ GW := gwT_3 228 rfl rfl
abbrev gX11_letter : mI := (yX11_letter, cX11_letter, 3, (some .int))
set_option maxRecDepth 10000 in
theorem mi_X11_letter : MI gX11_letter 2 := ⟨gwT_3 229 rfl rfl, gwT_1 1 rfl rfl, ⟨by decide, by decide, by decide +kernel⟩, by decide⟩
set_option maxRecDepth 10000 in
theorem lk_X11_190 : Cond.methodLink RX11 190 yX11_isShelf ∈ GW := gwT_3 230 rfl rfl
set_option maxRecDepth 10000 in
theorem im_X11_isShelf : Cond.instanceMethod yX11_isShelf ∈ GW := gwT_3 232 rfl rfl
abbrev gX11_isShelf : mI := (yX11_isShelf, cX11_isShelf, 2, (some .boolean))
set_option maxRecDepth 10000 in
theorem mi_X11_isShelf : MI gX11_isShelf 1 := ⟨gwT_3 233 rfl rfl, gwT_1 1 rfl rfl, ⟨by decide, by decide, by decide +kernel⟩, by decide⟩
set_option maxRecDepth 10000 in
theorem lk_L_42 : Cond.methodLink "FatPointersLaw" 42 yX11_pointer ∈ GW := gwT_3 234 rfl rfl
set_option maxRecDepth 10000 in
theorem im_X11_pointer : Cond.instanceMethod yX11_pointer ∈ GW := gwT_3 235 rfl rfl
set_option maxRecDepth 10000 in
theorem se_X11_pointer : Cond.selects RX11 yX11_pointer yX11_pointer ∈ GW := gwT_3 236 rfl rfl
abbrev gX11_pointer : mI := (yX11_pointer, cX11_pointer, 3, (some .int))
set_option maxRecDepth 10000 in
theorem mi_X11_pointer : MI gX11_pointer 2 := ⟨gwT_3 237 rfl rfl, gwT_1 1 rfl rfl, ⟨by decide, by decide, by decide +kernel⟩, by decide⟩
set_option maxRecDepth 10000 in
theorem lk_X11_196 : Cond.methodLink RX11 196 yX11_isPointer ∈ GW := gwT_3 238 rfl rfl
set_option maxRecDepth 10000 in
theorem im_X11_isPointer : Cond.instanceMethod yX11_isPointer ∈ GW := gwT_4 0 rfl rfl
abbrev gX11_isPointer : mI := (yX11_isPointer, cX11_isPointer, 2, (some .boolean))
set_option maxRecDepth 10000 in
theorem mi_X11_isPointer : MI gX11_isPointer 1 := ⟨gwT_4 1 rfl rfl, gwT_1 1 rfl rfl, ⟨by decide, by decide, by decide +kernel⟩, by decide⟩
set_option maxRecDepth 10000 in
theorem lk_X11_199 : Cond.methodLink RX11 199 yX6_tell ∈ GW := gwT_4 2 rfl rfl
set_option maxRecDepth 10000 in
theorem im_X6_tell : Cond.instanceMethod yX6_tell ∈ GW := gwT_4 3 rfl rfl
set_option maxRecDepth 10000 in
theorem se_X6_tell : Cond.selects RX6 yX6_tell yX6_tell ∈ GW := gwT_4 4 rfl rfl
abbrev gX6_tell : mI := (yX6_tell, cX6_tell, 3, (some .int))
set_option maxRecDepth 10000 in
theorem mi_X6_tell : MI gX6_tell 2 := ⟨gwT_4 5 rfl rfl, gwT_1 3 rfl rfl, ⟨by decide, by decide, by decide +kernel⟩, by decide⟩
set_option maxRecDepth 10000 in
theorem lk_X6_51 : Cond.methodLink RX6 51 yX6_base ∈ GW := gwT_4 6 rfl rfl
set_option maxRecDepth 10000 in
theorem im_X6_base : Cond.instanceMethod yX6_base ∈ GW := gwT_4 7 rfl rfl
set_option maxRecDepth 10000 in
theorem se_X6_base : Cond.selects RX6 yX6_base yX6_base ∈ GW := gwT_4 8 rfl rfl
abbrev gX6_base : mI := (yX6_base, cX6_base, 2, (some .int))
set_option maxRecDepth 10000 in
theorem mi_X6_base : MI gX6_base 1 := ⟨gwT_4 9 rfl rfl, gwT_1 3 rfl rfl, ⟨by decide, by decide, by decide +kernel⟩, by decide⟩
set_option maxRecDepth 10000 in
theorem lk_X6_48 : Cond.methodLink RX6 48 yX6_baseFrom ∈ GW := gwT_4 10 rfl rfl
set_option maxRecDepth 10000 in
theorem im_X6_baseFrom : Cond.instanceMethod yX6_baseFrom ∈ GW := gwT_4 12 rfl rfl
abbrev gX6_baseFrom : mI := (yX6_baseFrom, cX6_baseFrom, 9, (some .int))
set_option maxRecDepth 10000 in
theorem mi_X6_baseFrom : MI gX6_baseFrom 2 := ⟨gwT_4 13 rfl rfl, gwT_1 3 rfl rfl, ⟨by decide, by decide, by decide +kernel⟩, by decide⟩
set_option maxRecDepth 10000 in
theorem lk_X6_55 : Cond.methodLink RX6 55 yX6_extent ∈ GW := gwT_4 14 rfl rfl
set_option maxRecDepth 10000 in
theorem im_X6_extent : Cond.instanceMethod yX6_extent ∈ GW := gwT_4 15 rfl rfl
set_option maxRecDepth 10000 in
theorem se_X6_extent : Cond.selects RX6 yX6_extent yX6_extent ∈ GW := gwT_4 16 rfl rfl
abbrev gX6_extent : mI := (yX6_extent, cX6_extent, 2, (some .int))
set_option maxRecDepth 10000 in
theorem mi_X6_extent : MI gX6_extent 1 := ⟨gwT_4 17 rfl rfl, gwT_1 3 rfl rfl, ⟨by decide, by decide, by decide +kernel⟩, by decide⟩
set_option maxRecDepth 10000 in
theorem lk_L_46 : Cond.methodLink "FatPointersLaw" 46 yX11_shelf ∈ GW := gwT_4 18 rfl rfl
set_option maxRecDepth 10000 in
theorem im_X11_shelf : Cond.instanceMethod yX11_shelf ∈ GW := gwT_4 19 rfl rfl
set_option maxRecDepth 10000 in
theorem se_X11_shelf : Cond.selects RX11 yX11_shelf yX11_shelf ∈ GW := gwT_4 20 rfl rfl
abbrev gX11_shelf : mI := (yX11_shelf, cX11_shelf, 5, (some .int))
set_option maxRecDepth 10000 in
theorem mi_X11_shelf : MI gX11_shelf 3 := ⟨gwT_4 21 rfl rfl, gwT_1 1 rfl rfl, ⟨by decide, by decide, by decide +kernel⟩, by decide⟩
set_option maxRecDepth 10000 in
theorem lk_X11_203 : Cond.methodLink RX11 203 yX11_isPlace ∈ GW := gwT_4 22 rfl rfl
set_option maxRecDepth 10000 in
theorem im_X11_isPlace : Cond.instanceMethod yX11_isPlace ∈ GW := gwT_4 24 rfl rfl
abbrev gX11_isPlace : mI := (yX11_isPlace, cX11_isPlace, 3, (some .boolean))
set_option maxRecDepth 10000 in
theorem mi_X11_isPlace : MI gX11_isPlace 2 := ⟨gwT_4 25 rfl rfl, gwT_1 1 rfl rfl, ⟨by decide, by decide, by decide +kernel⟩, by decide⟩
set_option maxRecDepth 10000 in
theorem lk_X11_207 : Cond.methodLink RX11 207 yX11_placeIndex ∈ GW := gwT_4 26 rfl rfl
set_option maxRecDepth 10000 in
theorem sm_X11_placeIndex : Cond.static yX11_placeIndex ∈ GW := gwT_4 27 rfl rfl
abbrev gX11_placeIndex : mI := (yX11_placeIndex, cX11_placeIndex, 2, (some .int))
set_option maxRecDepth 10000 in
theorem mi_X11_placeIndex : MI gX11_placeIndex 2 := ⟨gwT_4 28 rfl rfl, gwT_1 1 rfl rfl, ⟨by decide, by decide, by decide +kernel⟩, by decide⟩
set_option maxRecDepth 10000 in
theorem lk_L_51 : Cond.methodLink "FatPointersLaw" 51 yX11_object ∈ GW := gwT_4 29 rfl rfl
set_option maxRecDepth 10000 in
theorem im_X11_object : Cond.instanceMethod yX11_object ∈ GW := gwT_4 30 rfl rfl
set_option maxRecDepth 10000 in
theorem se_X11_object : Cond.selects RX11 yX11_object yX11_object ∈ GW := gwT_4 31 rfl rfl
abbrev gX11_object : mI := (yX11_object, cX11_object, 3, (some .int))
set_option maxRecDepth 10000 in
theorem mi_X11_object : MI gX11_object 2 := ⟨gwT_4 32 rfl rfl, gwT_1 1 rfl rfl, ⟨by decide, by decide, by decide +kernel⟩, by decide⟩
set_option maxRecDepth 10000 in
theorem lk_L_55 : Cond.methodLink "FatPointersLaw" 55 yX11_hole ∈ GW := gwT_4 33 rfl rfl
set_option maxRecDepth 10000 in
theorem im_X11_hole : Cond.instanceMethod yX11_hole ∈ GW := gwT_4 34 rfl rfl
set_option maxRecDepth 10000 in
theorem se_X11_hole : Cond.selects RX11 yX11_hole yX11_hole ∈ GW := gwT_4 35 rfl rfl
abbrev gX11_hole : mI := (yX11_hole, cX11_hole, 4, (some .int))
set_option maxRecDepth 10000 in
theorem mi_X11_hole : MI gX11_hole 2 := ⟨gwT_4 36 rfl rfl, gwT_1 1 rfl rfl, ⟨by decide, by decide, by decide +kernel⟩, by decide⟩
set_option maxRecDepth 10000 in
theorem lk_X11_222 : Cond.methodLink RX11 222 yX9_gapOfHole ∈ GW := gwT_4 37 rfl rfl
set_option maxRecDepth 10000 in
theorem im_X9_gapOfHole : Cond.instanceMethod yX9_gapOfHole ∈ GW := gwT_4 38 rfl rfl
set_option maxRecDepth 10000 in
theorem se_X9_gapOfHole : Cond.selects RX9 yX9_gapOfHole yX9_gapOfHole ∈ GW := gwT_4 39 rfl rfl
abbrev gX9_gapOfHole : mI := (yX9_gapOfHole, cX9_gapOfHole, 5, (some .int))
set_option maxRecDepth 10000 in
theorem mi_X9_gapOfHole : MI gX9_gapOfHole 2 := ⟨gwT_4 40 rfl rfl, gwT_1 2 rfl rfl, ⟨by decide, by decide, by decide +kernel⟩, by decide⟩
set_option maxRecDepth 10000 in
theorem lk_X11_225 : Cond.methodLink RX11 225 yX9_gapStart ∈ GW := gwT_4 41 rfl rfl
set_option maxRecDepth 10000 in
theorem lk_X11_228 : Cond.methodLink RX11 228 yX9_gapLength ∈ GW := gwT_4 42 rfl rfl
set_option maxRecDepth 10000 in
theorem lk_L_59 : Cond.methodLink "FatPointersLaw" 59 yX11_octetAt ∈ GW := gwT_4 43 rfl rfl
set_option maxRecDepth 10000 in
theorem im_X11_octetAt : Cond.instanceMethod yX11_octetAt ∈ GW := gwT_4 44 rfl rfl
set_option maxRecDepth 10000 in
theorem se_X11_octetAt : Cond.selects RX11 yX11_octetAt yX11_octetAt ∈ GW := gwT_4 45 rfl rfl
abbrev gX11_octetAt : mI := (yX11_octetAt, cX11_octetAt, 2, (some .int))
set_option maxRecDepth 10000 in
theorem mi_X11_octetAt : MI gX11_octetAt 1 := ⟨gwT_4 46 rfl rfl, gwT_1 1 rfl rfl, ⟨by decide, by decide, by decide +kernel⟩, by decide⟩
set_option maxRecDepth 10000 in
theorem lk_X11_231 : Cond.methodLink RX11 231 yX9_byteAt ∈ GW := gwT_4 47 rfl rfl
set_option maxRecDepth 10000 in
theorem im_X9_byteAt : Cond.instanceMethod yX9_byteAt ∈ GW := gwT_4 48 rfl rfl
set_option maxRecDepth 10000 in
theorem se_X9_byteAt : Cond.selects RX9 yX9_byteAt yX9_byteAt ∈ GW := gwT_4 49 rfl rfl
abbrev gX9_byteAt : mI := (yX9_byteAt, cX9_byteAt, 2, (some .int))
set_option maxRecDepth 10000 in
theorem mi_X9_byteAt : MI gX9_byteAt 1 := ⟨gwT_4 50 rfl rfl, gwT_1 2 rfl rfl, ⟨by decide, by decide, by decide +kernel⟩, by decide⟩
set_option maxRecDepth 10000 in
theorem lk_L_63 : Cond.methodLink "FatPointersLaw" 63 yX11_kept ∈ GW := gwT_4 51 rfl rfl
set_option maxRecDepth 10000 in
theorem im_X11_kept : Cond.instanceMethod yX11_kept ∈ GW := gwT_4 52 rfl rfl
set_option maxRecDepth 10000 in
theorem se_X11_kept : Cond.selects RX11 yX11_kept yX11_kept ∈ GW := gwT_4 53 rfl rfl
abbrev gX11_kept : mI := (yX11_kept, cX11_kept, 3, (some .int))
set_option maxRecDepth 10000 in
theorem mi_X11_kept : MI gX11_kept 2 := ⟨gwT_4 54 rfl rfl, gwT_1 1 rfl rfl, ⟨by decide, by decide, by decide +kernel⟩, by decide⟩
set_option maxRecDepth 10000 in
theorem lk_L_67 : Cond.methodLink "FatPointersLaw" 67 yX11_rounds ∈ GW := gwT_4 55 rfl rfl
set_option maxRecDepth 10000 in
theorem im_X11_rounds : Cond.instanceMethod yX11_rounds ∈ GW := gwT_4 56 rfl rfl
set_option maxRecDepth 10000 in
theorem se_X11_rounds : Cond.selects RX11 yX11_rounds yX11_rounds ∈ GW := gwT_4 57 rfl rfl
abbrev gX11_rounds : mI := (yX11_rounds, cX11_rounds, 7, (some .int))
set_option maxRecDepth 10000 in
theorem mi_X11_rounds : MI gX11_rounds 3 := ⟨gwT_4 58 rfl rfl, gwT_1 1 rfl rfl, ⟨by decide, by decide, by decide +kernel⟩, by decide⟩
set_option maxRecDepth 10000 in
theorem lk_X11_237 : Cond.methodLink RX11 237 yX11_areBounds ∈ GW := gwT_4 59 rfl rfl
set_option maxRecDepth 10000 in
theorem sm_X11_areBounds : Cond.static yX11_areBounds ∈ GW := gwT_4 60 rfl rfl
abbrev gX11_areBounds : mI := (yX11_areBounds, cX11_areBounds, 2, (some .boolean))
set_option maxRecDepth 10000 in
theorem mi_X11_areBounds : MI gX11_areBounds 2 := ⟨gwT_4 61 rfl rfl, gwT_1 1 rfl rfl, ⟨by decide, by decide, by decide +kernel⟩, by decide⟩
set_option maxRecDepth 10000 in
theorem lk_X11_240 : Cond.methodLink RX11 240 yX6_leastExponent ∈ GW := gwT_4 62 rfl rfl
set_option maxRecDepth 10000 in
theorem lk_X11_244 : Cond.methodLink RX11 244 yX6_down ∈ GW := gwT_4 63 rfl rfl
set_option maxRecDepth 10000 in
theorem lk_X11_247 : Cond.methodLink RX11 247 yX6_up ∈ GW := gwT_4 64 rfl rfl
set_option maxRecDepth 10000 in
theorem lk_X11_250 : Cond.methodLink RX11 250 yX6_staysAsAsked ∈ GW := gwT_4 65 rfl rfl
set_option maxRecDepth 10000 in
theorem sm_X6_staysAsAsked : Cond.static yX6_staysAsAsked ∈ GW := gwT_4 66 rfl rfl
abbrev gX6_staysAsAsked : mI := (yX6_staysAsAsked, cX6_staysAsAsked, 4, (some .boolean))
set_option maxRecDepth 10000 in
theorem mi_X6_staysAsAsked : MI gX6_staysAsAsked 3 := ⟨gwT_4 67 rfl rfl, gwT_1 3 rfl rfl, ⟨by decide, by decide, by decide +kernel⟩, by decide⟩
set_option maxRecDepth 10000 in
theorem lk_L_71 : Cond.methodLink "FatPointersLaw" 71 yX11_exact ∈ GW := gwT_4 68 rfl rfl
set_option maxRecDepth 10000 in
theorem im_X11_exact : Cond.instanceMethod yX11_exact ∈ GW := gwT_4 69 rfl rfl
set_option maxRecDepth 10000 in
theorem se_X11_exact : Cond.selects RX11 yX11_exact yX11_exact ∈ GW := gwT_4 70 rfl rfl
abbrev gX11_exact : mI := (yX11_exact, cX11_exact, 4, (some .int))
set_option maxRecDepth 10000 in
theorem mi_X11_exact : MI gX11_exact 2 := ⟨gwT_4 71 rfl rfl, gwT_1 1 rfl rfl, ⟨by decide, by decide, by decide +kernel⟩, by decide⟩
set_option maxRecDepth 10000 in
theorem lk_L_75 : Cond.methodLink "FatPointersLaw" 75 yX11_fits ∈ GW := gwT_4 72 rfl rfl
set_option maxRecDepth 10000 in
theorem im_X11_fits : Cond.instanceMethod yX11_fits ∈ GW := gwT_4 73 rfl rfl
set_option maxRecDepth 10000 in
theorem se_X11_fits : Cond.selects RX11 yX11_fits yX11_fits ∈ GW := gwT_4 74 rfl rfl
abbrev gX11_fits : mI := (yX11_fits, cX11_fits, 3, (some .int))
set_option maxRecDepth 10000 in
theorem mi_X11_fits : MI gX11_fits 2 := ⟨gwT_4 75 rfl rfl, gwT_1 1 rfl rfl, ⟨by decide, by decide, by decide +kernel⟩, by decide⟩
set_option maxRecDepth 10000 in
theorem lk_X11_254 : Cond.methodLink RX11 254 yX11_isStep ∈ GW := gwT_4 76 rfl rfl
set_option maxRecDepth 10000 in
theorem sm_X11_isStep : Cond.static yX11_isStep ∈ GW := gwT_4 77 rfl rfl
abbrev gX11_isStep : mI := (yX11_isStep, cX11_isStep, 1, (some .boolean))
set_option maxRecDepth 10000 in
theorem mi_X11_isStep : MI gX11_isStep 1 := ⟨gwT_4 78 rfl rfl, gwT_1 1 rfl rfl, ⟨by decide, by decide, by decide +kernel⟩, by decide⟩
set_option maxRecDepth 10000 in
theorem lk_X11_257 : Cond.methodLink RX11 257 yX6_keepsBounds ∈ GW := gwT_4 79 rfl rfl
set_option maxRecDepth 10000 in
theorem im_X6_keepsBounds : Cond.instanceMethod yX6_keepsBounds ∈ GW := gwT_4 80 rfl rfl
set_option maxRecDepth 10000 in
theorem se_X6_keepsBounds : Cond.selects RX6 yX6_keepsBounds yX6_keepsBounds ∈ GW := gwT_4 81 rfl rfl
abbrev gX6_keepsBounds : mI := (yX6_keepsBounds, cX6_keepsBounds, 4, (some .boolean))
set_option maxRecDepth 10000 in
theorem mi_X6_keepsBounds : MI gX6_keepsBounds 2 := ⟨gwT_4 82 rfl rfl, gwT_1 3 rfl rfl, ⟨by decide, by decide, by decide +kernel⟩, by decide⟩
set_option maxRecDepth 10000 in
theorem lk_L_79 : Cond.methodLink "FatPointersLaw" 79 yX11_quick ∈ GW := gwT_4 83 rfl rfl
set_option maxRecDepth 10000 in
theorem im_X11_quick : Cond.instanceMethod yX11_quick ∈ GW := gwT_4 84 rfl rfl
set_option maxRecDepth 10000 in
theorem se_X11_quick : Cond.selects RX11 yX11_quick yX11_quick ∈ GW := gwT_4 85 rfl rfl
abbrev gX11_quick : mI := (yX11_quick, cX11_quick, 3, (some .int))
set_option maxRecDepth 10000 in
theorem mi_X11_quick : MI gX11_quick 2 := ⟨gwT_4 86 rfl rfl, gwT_1 1 rfl rfl, ⟨by decide, by decide, by decide +kernel⟩, by decide⟩
set_option maxRecDepth 10000 in
theorem lk_X11_260 : Cond.methodLink RX11 260 yX6_isQuick ∈ GW := gwT_4 87 rfl rfl
set_option maxRecDepth 10000 in
theorem im_X6_isQuick : Cond.instanceMethod yX6_isQuick ∈ GW := gwT_4 88 rfl rfl
set_option maxRecDepth 10000 in
theorem se_X6_isQuick : Cond.selects RX6 yX6_isQuick yX6_isQuick ∈ GW := gwT_4 89 rfl rfl
abbrev gX6_isQuick : mI := (yX6_isQuick, cX6_isQuick, 8, (some .boolean))
set_option maxRecDepth 10000 in
theorem mi_X6_isQuick : MI gX6_isQuick 2 := ⟨gwT_4 90 rfl rfl, gwT_1 3 rfl rfl, ⟨by decide, by decide, by decide +kernel⟩, by decide⟩
set_option maxRecDepth 10000 in
theorem lk_L_83 : Cond.methodLink "FatPointersLaw" 83 yX11_window ∈ GW := gwT_4 91 rfl rfl
set_option maxRecDepth 10000 in
theorem im_X11_window : Cond.instanceMethod yX11_window ∈ GW := gwT_4 92 rfl rfl
set_option maxRecDepth 10000 in
theorem se_X11_window : Cond.selects RX11 yX11_window yX11_window ∈ GW := gwT_4 93 rfl rfl
abbrev gX11_window : mI := (yX11_window, cX11_window, 4, (some .int))
set_option maxRecDepth 10000 in
theorem mi_X11_window : MI gX11_window 2 := ⟨gwT_4 94 rfl rfl, gwT_1 1 rfl rfl, ⟨by decide, by decide, by decide +kernel⟩, by decide⟩
set_option maxRecDepth 10000 in
theorem lk_X11_263 : Cond.methodLink RX11 263 yX6_windowSize ∈ GW := gwT_4 95 rfl rfl
set_option maxRecDepth 10000 in
theorem im_X6_windowSize : Cond.instanceMethod yX6_windowSize ∈ GW := gwT_4 96 rfl rfl
set_option maxRecDepth 10000 in
theorem se_X6_windowSize : Cond.selects RX6 yX6_windowSize yX6_windowSize ∈ GW := gwT_4 97 rfl rfl
abbrev gX6_windowSize : mI := (yX6_windowSize, cX6_windowSize, 2, (some .int))
set_option maxRecDepth 10000 in
theorem mi_X6_windowSize : MI gX6_windowSize 1 := ⟨gwT_4 98 rfl rfl, gwT_1 3 rfl rfl, ⟨by decide, by decide, by decide +kernel⟩, by decide⟩
set_option maxRecDepth 10000 in
theorem lk_X6_58 : Cond.methodLink RX6 58 yJ9_min_7cf53 ∈ GW := gwT_4 99 rfl rfl
set_option maxRecDepth 10000 in
theorem lk_X11_266 : Cond.methodLink RX11 266 yX6_countSlow ∈ GW := gwT_4 100 rfl rfl
set_option maxRecDepth 10000 in
theorem im_X6_countSlow : Cond.instanceMethod yX6_countSlow ∈ GW := gwT_4 101 rfl rfl
set_option maxRecDepth 10000 in
theorem se_X6_countSlow : Cond.selects RX6 yX6_countSlow yX6_countSlow ∈ GW := gwT_4 102 rfl rfl
abbrev gX6_countSlow : mI := (yX6_countSlow, cX6_countSlow, 4, (some .int))
set_option maxRecDepth 10000 in
theorem mi_X6_countSlow : MI gX6_countSlow 1 := ⟨gwT_4 103 rfl rfl, gwT_1 3 rfl rfl, ⟨by decide, by decide, by decide +kernel⟩, by decide⟩
set_option maxRecDepth 10000 in
theorem lk_X6_65 : Cond.methodLink RX6 65 yX6_keepsBounds ∈ GW := gwT_4 104 rfl rfl
set_option maxRecDepth 10000 in
theorem lk_X6_69 : Cond.methodLink RX6 69 yX6_isQuick ∈ GW := gwT_4 105 rfl rfl
set_option maxRecDepth 10000 in
theorem lk_L_87 : Cond.methodLink "FatPointersLaw" 87 yX11_reachers ∈ GW := gwT_4 106 rfl rfl
set_option maxRecDepth 10000 in
theorem im_X11_reachers : Cond.instanceMethod yX11_reachers ∈ GW := gwT_4 107 rfl rfl
set_option maxRecDepth 10000 in
theorem se_X11_reachers : Cond.selects RX11 yX11_reachers yX11_reachers ∈ GW := gwT_4 108 rfl rfl
abbrev gX11_reachers : mI := (yX11_reachers, cX11_reachers, 5, (some .int))
set_option maxRecDepth 10000 in
theorem mi_X11_reachers : MI gX11_reachers 1 := ⟨gwT_4 109 rfl rfl, gwT_1 1 rfl rfl, ⟨by decide, by decide, by decide +kernel⟩, by decide⟩
set_option maxRecDepth 10000 in
theorem lk_X11_269 : Cond.methodLink RX11 269 yX6_isUsable ∈ GW := gwT_4 110 rfl rfl
set_option maxRecDepth 10000 in
theorem im_X6_isUsable : Cond.instanceMethod yX6_isUsable ∈ GW := gwT_4 111 rfl rfl
set_option maxRecDepth 10000 in
theorem se_X6_isUsable : Cond.selects RX6 yX6_isUsable yX6_isUsable ∈ GW := gwT_4 112 rfl rfl
abbrev gX6_isUsable : mI := (yX6_isUsable, cX6_isUsable, 1, (some .boolean))
set_option maxRecDepth 10000 in
theorem mi_X6_isUsable : MI gX6_isUsable 0 := ⟨gwT_4 113 rfl rfl, gwT_1 3 rfl rfl, ⟨by decide, by decide, by decide +kernel⟩, by decide⟩
set_option maxRecDepth 10000 in
theorem lk_X11_273 : Cond.methodLink RX11 273 yX6_covers ∈ GW := gwT_4 114 rfl rfl
set_option maxRecDepth 10000 in
theorem im_X6_covers : Cond.instanceMethod yX6_covers ∈ GW := gwT_4 115 rfl rfl
set_option maxRecDepth 10000 in
theorem se_X6_covers : Cond.selects RX6 yX6_covers yX6_covers ∈ GW := gwT_4 116 rfl rfl
abbrev gX6_covers : mI := (yX6_covers, cX6_covers, 4, (some .boolean))
set_option maxRecDepth 10000 in
theorem mi_X6_covers : MI gX6_covers 2 := ⟨gwT_4 117 rfl rfl, gwT_1 3 rfl rfl, ⟨by decide, by decide, by decide +kernel⟩, by decide⟩
set_option maxRecDepth 10000 in
theorem lk_L_91 : Cond.methodLink "FatPointersLaw" 91 yX11_room ∈ GW := gwT_4 118 rfl rfl
set_option maxRecDepth 10000 in
theorem im_X11_room : Cond.instanceMethod yX11_room ∈ GW := gwT_4 119 rfl rfl
set_option maxRecDepth 10000 in
theorem se_X11_room : Cond.selects RX11 yX11_room yX11_room ∈ GW := gwT_4 120 rfl rfl
abbrev gX11_room : mI := (yX11_room, cX11_room, 2, (some .int))
set_option maxRecDepth 10000 in
theorem mi_X11_room : MI gX11_room 1 := ⟨gwT_4 121 rfl rfl, gwT_1 1 rfl rfl, ⟨by decide, by decide, by decide +kernel⟩, by decide⟩
set_option maxRecDepth 10000 in
theorem lk_X11_276 : Cond.methodLink RX11 276 yX1_search ∈ GW := gwT_4 122 rfl rfl
set_option maxRecDepth 10000 in
theorem im_X1_search : Cond.instanceMethod yX1_search ∈ GW := gwT_4 123 rfl rfl
set_option maxRecDepth 10000 in
theorem se_X1_search : Cond.selects RX1 yX1_search yX1_search ∈ GW := gwT_4 124 rfl rfl
abbrev gX1_search : mI := (yX1_search, cX1_search, 11, (some .boolean))
set_option maxRecDepth 10000 in
theorem mi_X1_search : MI gX1_search 2 := ⟨gwT_4 125 rfl rfl, gwT_1 6 rfl rfl, ⟨by decide, by decide, by decide +kernel⟩, by decide⟩
set_option maxRecDepth 10000 in
theorem lk_X1_34 : Cond.methodLink RX1 34 yX0_padding ∈ GW := gwT_4 126 rfl rfl
set_option maxRecDepth 10000 in
theorem im_X0_padding : Cond.instanceMethod yX0_padding ∈ GW := gwT_4 127 rfl rfl
set_option maxRecDepth 10000 in
theorem se_X0_padding : Cond.selects RX0 yX0_padding yX0_padding ∈ GW := gwT_4 128 rfl rfl
abbrev gX0_padding : mI := (yX0_padding, cX0_padding, 3, (some .int))
set_option maxRecDepth 10000 in
theorem mi_X0_padding : MI gX0_padding 2 := ⟨gwT_4 129 rfl rfl, gwT_1 5 rfl rfl, ⟨by decide, by decide, by decide +kernel⟩, by decide⟩
set_option maxRecDepth 10000 in
theorem lk_X0_37 : Cond.methodLink RX0 37 yX4_hasFormula ∈ GW := gwT_4 130 rfl rfl
set_option maxRecDepth 10000 in
theorem lk_X0_41 : Cond.methodLink RX0 41 yX0_work ∈ GW := gwT_4 131 rfl rfl
set_option maxRecDepth 10000 in
theorem im_X0_work : Cond.instanceMethod yX0_work ∈ GW := gwT_4 133 rfl rfl
abbrev gX0_work : mI := (yX0_work, cX0_work, 8, (some .int))
set_option maxRecDepth 10000 in
theorem mi_X0_work : MI gX0_work 2 := ⟨gwT_4 134 rfl rfl, gwT_1 5 rfl rfl, ⟨by decide, by decide, by decide +kernel⟩, by decide⟩
set_option maxRecDepth 10000 in
theorem lk_X0_45 : Cond.methodLink RX0 45 yJ9_min_7cf53 ∈ GW := gwT_4 135 rfl rfl
set_option maxRecDepth 10000 in
theorem lk_X0_93 : Cond.methodLink RX0 93 yX0_push ∈ GW := gwT_4 136 rfl rfl
set_option maxRecDepth 10000 in
theorem im_X0_push : Cond.instanceMethod yX0_push ∈ GW := gwT_4 138 rfl rfl
abbrev gX0_push : mI := (yX0_push, cX0_push, 2, none)
set_option maxRecDepth 10000 in
theorem mi_X0_push : MI gX0_push 1 := ⟨gwT_4 139 rfl rfl, gwT_1 5 rfl rfl, ⟨by decide, by decide, by decide +kernel⟩, by decide⟩
set_option maxRecDepth 10000 in
theorem lk_X0_97 : Cond.methodLink RX0 97 yX0_pop ∈ GW := gwT_4 140 rfl rfl
set_option maxRecDepth 10000 in
theorem im_X0_pop : Cond.instanceMethod yX0_pop ∈ GW := gwT_4 142 rfl rfl
abbrev gX0_pop : mI := (yX0_pop, cX0_pop, 1, (some .int))
set_option maxRecDepth 10000 in
theorem mi_X0_pop : MI gX0_pop 0 := ⟨gwT_4 143 rfl rfl, gwT_1 5 rfl rfl, ⟨by decide, by decide, by decide +kernel⟩, by decide⟩
set_option maxRecDepth 10000 in
theorem lk_X0_101 : Cond.methodLink RX0 101 yX0_ofOne ∈ GW := gwT_4 144 rfl rfl
set_option maxRecDepth 10000 in
theorem im_X0_ofOne : Cond.instanceMethod yX0_ofOne ∈ GW := gwT_4 146 rfl rfl
abbrev gX0_ofOne : mI := (yX0_ofOne, cX0_ofOne, 4, (some .int))
set_option maxRecDepth 10000 in
theorem mi_X0_ofOne : MI gX0_ofOne 2 := ⟨gwT_4 147 rfl rfl, gwT_1 5 rfl rfl, ⟨by decide, by decide, by decide +kernel⟩, by decide⟩
set_option maxRecDepth 10000 in
theorem lk_X0_74 : Cond.methodLink RX0 74 yX6_base ∈ GW := gwT_4 148 rfl rfl
set_option maxRecDepth 10000 in
theorem lk_X0_111 : Cond.methodLink RX0 111 yX6_keepsBounds ∈ GW := gwT_4 150 rfl rfl
set_option maxRecDepth 10000 in
theorem lk_X0_104 : Cond.methodLink RX0 104 yX0_ofTwo ∈ GW := gwT_4 151 rfl rfl
set_option maxRecDepth 10000 in
theorem sm_X0_ofTwo : Cond.static yX0_ofTwo ∈ GW := gwT_4 152 rfl rfl
abbrev gX0_ofTwo : mI := (yX0_ofTwo, cX0_ofTwo, 3, (some .int))
set_option maxRecDepth 10000 in
theorem mi_X0_ofTwo : MI gX0_ofTwo 3 := ⟨gwT_4 153 rfl rfl, gwT_1 5 rfl rfl, ⟨by decide, by decide, by decide +kernel⟩, by decide⟩
set_option maxRecDepth 10000 in
theorem lk_X0_51 : Cond.methodLink RX0 51 yJ9_max_7cf53 ∈ GW := gwT_4 154 rfl rfl
set_option maxRecDepth 10000 in
theorem lk_X0_115 : Cond.methodLink RX0 115 yX0_clamp ∈ GW := gwT_4 155 rfl rfl
set_option maxRecDepth 10000 in
theorem sm_X0_clamp : Cond.static yX0_clamp ∈ GW := gwT_4 156 rfl rfl
abbrev gX0_clamp : mI := (yX0_clamp, cX0_clamp, 2, (some .int))
set_option maxRecDepth 10000 in
theorem mi_X0_clamp : MI gX0_clamp 1 := ⟨gwT_4 157 rfl rfl, gwT_1 5 rfl rfl, ⟨by decide, by decide, by decide +kernel⟩, by decide⟩
set_option maxRecDepth 10000 in
theorem kc_X0_122 : Cond.constantLong RX0 122 (-1000000) ∈ GW := gwT_4 158 rfl rfl
set_option maxRecDepth 10000 in
theorem kc_X0_124 : Cond.constantLong RX0 124 (1000000) ∈ GW := gwT_4 159 rfl rfl
set_option maxRecDepth 10000 in
theorem lk_X0_126 : Cond.methodLink RX0 126 yJ9_min_f86c9 ∈ GW := gwT_4 160 rfl rfl
set_option maxRecDepth 10000 in
theorem sm_J9_min_f86c9 : Cond.static yJ9_min_f86c9 ∈ GW := gwT_4 161 rfl rfl
abbrev gJ9_min_f86c9 : mI := (yJ9_min_f86c9, cJ9_min_f86c9, 4, (some .long))
set_option maxRecDepth 10000 in
theorem mi_J9_min_f86c9 : MI gJ9_min_f86c9 2 := ⟨gwT_4 162 rfl rfl, gwT_1 14 rfl rfl, ⟨by decide, by decide, by decide +kernel⟩, by decide⟩
set_option maxRecDepth 10000 in
theorem lk_X0_129 : Cond.methodLink RX0 129 yJ9_max_f86c9 ∈ GW := gwT_4 163 rfl rfl
set_option maxRecDepth 10000 in
theorem sm_J9_max_f86c9 : Cond.static yJ9_max_f86c9 ∈ GW := gwT_4 164 rfl rfl
abbrev gJ9_max_f86c9 : mI := (yJ9_max_f86c9, cJ9_max_f86c9, 4, (some .long))
set_option maxRecDepth 10000 in
theorem mi_J9_max_f86c9 : MI gJ9_max_f86c9 2 := ⟨gwT_4 165 rfl rfl, gwT_1 14 rfl rfl, ⟨by decide, by decide, by decide +kernel⟩, by decide⟩
set_option maxRecDepth 10000 in
theorem lk_X0_119 : Cond.methodLink RX0 119 yJ9_floorDiv_7cf53 ∈ GW := gwT_4 166 rfl rfl
set_option maxRecDepth 10000 in
theorem sm_J9_floorDiv_7cf53 : Cond.static yJ9_floorDiv_7cf53 ∈ GW := gwT_4 167 rfl rfl
abbrev gJ9_floorDiv_7cf53 : mI := (yJ9_floorDiv_7cf53, cJ9_floorDiv_7cf53, 3, (some .int))
set_option maxRecDepth 10000 in
theorem mi_J9_floorDiv_7cf53 : MI gJ9_floorDiv_7cf53 2 := ⟨gwT_4 168 rfl rfl, gwT_1 14 rfl rfl, ⟨by decide, by decide, by decide +kernel⟩, by decide⟩
set_option maxRecDepth 10000 in
theorem lk_X1_45 : Cond.methodLink RX1 45 yX6_leastExponent ∈ GW := gwT_4 169 rfl rfl
set_option maxRecDepth 10000 in
theorem lk_X1_51 : Cond.methodLink RX1 51 yX6_up ∈ GW := gwT_4 170 rfl rfl
set_option maxRecDepth 10000 in
theorem lk_X1_55 : Cond.methodLink RX1 55 yX9_gapStart ∈ GW := gwT_4 171 rfl rfl
set_option maxRecDepth 10000 in
theorem lk_X1_62 : Cond.methodLink RX1 62 yX9_gapLength ∈ GW := gwT_4 172 rfl rfl
set_option maxRecDepth 10000 in
theorem lk_X1_65 : Cond.methodLink RX1 65 yX0_rank ∈ GW := gwT_4 173 rfl rfl
set_option maxRecDepth 10000 in
theorem im_X0_rank : Cond.instanceMethod yX0_rank ∈ GW := gwT_4 174 rfl rfl
set_option maxRecDepth 10000 in
theorem se_X0_rank : Cond.selects RX0 yX0_rank yX0_rank ∈ GW := gwT_4 175 rfl rfl
abbrev gX0_rank : mI := (yX0_rank, cX0_rank, 5, (some .int))
set_option maxRecDepth 10000 in
theorem mi_X0_rank : MI gX0_rank 4 := ⟨gwT_4 176 rfl rfl, gwT_1 5 rfl rfl, ⟨by decide, by decide, by decide +kernel⟩, by decide⟩
set_option maxRecDepth 10000 in
theorem lk_L_95 : Cond.methodLink "FatPointersLaw" 95 yX11_odds ∈ GW := gwT_4 177 rfl rfl
set_option maxRecDepth 10000 in
theorem im_X11_odds : Cond.instanceMethod yX11_odds ∈ GW := gwT_4 178 rfl rfl
set_option maxRecDepth 10000 in
theorem se_X11_odds : Cond.selects RX11 yX11_odds yX11_odds ∈ GW := gwT_4 179 rfl rfl
abbrev gX11_odds : mI := (yX11_odds, cX11_odds, 3, (some .int))
set_option maxRecDepth 10000 in
theorem mi_X11_odds : MI gX11_odds 0 := ⟨gwT_4 180 rfl rfl, gwT_1 1 rfl rfl, ⟨by decide, by decide, by decide +kernel⟩, by decide⟩
set_option maxRecDepth 10000 in
theorem lk_L_99 : Cond.methodLink "FatPointersLaw" 99 yX11_share ∈ GW := gwT_4 181 rfl rfl
set_option maxRecDepth 10000 in
theorem im_X11_share : Cond.instanceMethod yX11_share ∈ GW := gwT_4 182 rfl rfl
set_option maxRecDepth 10000 in
theorem se_X11_share : Cond.selects RX11 yX11_share yX11_share ∈ GW := gwT_4 183 rfl rfl
abbrev gX11_share : mI := (yX11_share, cX11_share, 5, (some .int))
set_option maxRecDepth 10000 in
theorem mi_X11_share : MI gX11_share 1 := ⟨gwT_4 184 rfl rfl, gwT_1 1 rfl rfl, ⟨by decide, by decide, by decide +kernel⟩, by decide⟩
set_option maxRecDepth 10000 in
theorem lk_X11_283 : Cond.methodLink RX11 283 yX9_bytesAsked ∈ GW := gwT_4 185 rfl rfl
set_option maxRecDepth 10000 in
theorem im_X9_bytesAsked : Cond.instanceMethod yX9_bytesAsked ∈ GW := gwT_4 186 rfl rfl
set_option maxRecDepth 10000 in
theorem se_X9_bytesAsked : Cond.selects RX9 yX9_bytesAsked yX9_bytesAsked ∈ GW := gwT_4 187 rfl rfl
abbrev gX9_bytesAsked : mI := (yX9_bytesAsked, cX9_bytesAsked, 3, (some .int))
set_option maxRecDepth 10000 in
theorem mi_X9_bytesAsked : MI gX9_bytesAsked 0 := ⟨gwT_4 188 rfl rfl, gwT_1 2 rfl rfl, ⟨by decide, by decide, by decide +kernel⟩, by decide⟩
set_option maxRecDepth 10000 in
theorem lk_L_103 : Cond.methodLink "FatPointersLaw" 103 yX11_see ∈ GW := gwT_4 189 rfl rfl
set_option maxRecDepth 10000 in
theorem im_X11_see : Cond.instanceMethod yX11_see ∈ GW := gwT_4 190 rfl rfl
set_option maxRecDepth 10000 in
theorem se_X11_see : Cond.selects RX11 yX11_see yX11_see ∈ GW := gwT_4 191 rfl rfl
abbrev gX11_see : mI := (yX11_see, cX11_see, 2, (some .int))
set_option maxRecDepth 10000 in
theorem mi_X11_see : MI gX11_see 0 := ⟨gwT_4 192 rfl rfl, gwT_1 1 rfl rfl, ⟨by decide, by decide, by decide +kernel⟩, by decide⟩
set_option maxRecDepth 10000 in
theorem lk_X11_286 : Cond.methodLink RX11 286 yX8_look ∈ GW := gwT_4 193 rfl rfl
set_option maxRecDepth 10000 in
theorem im_X8_look : Cond.instanceMethod yX8_look ∈ GW := gwT_4 194 rfl rfl
set_option maxRecDepth 10000 in
theorem se_X8_look : Cond.selects RX8 yX8_look yX8_look ∈ GW := gwT_4 195 rfl rfl
abbrev gX8_look : mI := (yX8_look, cX8_look, 4, (some .boolean))
set_option maxRecDepth 10000 in
theorem mi_X8_look : MI gX8_look 2 := ⟨gwT_4 196 rfl rfl, gwT_1 7 rfl rfl, ⟨by decide, by decide, by decide +kernel⟩, by decide⟩
set_option maxRecDepth 10000 in
theorem lk_L_107 : Cond.methodLink "FatPointersLaw" 107 yX11_places ∈ GW := gwT_4 197 rfl rfl
set_option maxRecDepth 10000 in
theorem im_X11_places : Cond.instanceMethod yX11_places ∈ GW := gwT_4 198 rfl rfl
set_option maxRecDepth 10000 in
theorem se_X11_places : Cond.selects RX11 yX11_places yX11_places ∈ GW := gwT_4 199 rfl rfl
abbrev gX11_places : mI := (yX11_places, cX11_places, 3, (some .int))
set_option maxRecDepth 10000 in
theorem mi_X11_places : MI gX11_places 2 := ⟨gwT_4 200 rfl rfl, gwT_1 1 rfl rfl, ⟨by decide, by decide, by decide +kernel⟩, by decide⟩
set_option maxRecDepth 10000 in
theorem lk_X11_290 : Cond.methodLink RX11 290 yX8_aim ∈ GW := gwT_4 201 rfl rfl
set_option maxRecDepth 10000 in
theorem im_X8_aim : Cond.instanceMethod yX8_aim ∈ GW := gwT_4 202 rfl rfl
set_option maxRecDepth 10000 in
theorem se_X8_aim : Cond.selects RX8 yX8_aim yX8_aim ∈ GW := gwT_4 203 rfl rfl
abbrev gX8_aim : mI := (yX8_aim, cX8_aim, 3, none)
set_option maxRecDepth 10000 in
theorem mi_X8_aim : MI gX8_aim 2 := ⟨gwT_4 204 rfl rfl, gwT_1 7 rfl rfl, ⟨by decide, by decide, by decide +kernel⟩, by decide⟩
set_option maxRecDepth 10000 in
theorem lk_X8_35 : Cond.methodLink RX8 35 yX6_windowStart ∈ GW := gwT_4 205 rfl rfl
set_option maxRecDepth 10000 in
theorem im_X6_windowStart : Cond.instanceMethod yX6_windowStart ∈ GW := gwT_4 206 rfl rfl
set_option maxRecDepth 10000 in
theorem se_X6_windowStart : Cond.selects RX6 yX6_windowStart yX6_windowStart ∈ GW := gwT_4 207 rfl rfl
abbrev gX6_windowStart : mI := (yX6_windowStart, cX6_windowStart, 2, (some .int))
set_option maxRecDepth 10000 in
theorem mi_X6_windowStart : MI gX6_windowStart 1 := ⟨gwT_4 208 rfl rfl, gwT_1 3 rfl rfl, ⟨by decide, by decide, by decide +kernel⟩, by decide⟩
set_option maxRecDepth 10000 in
theorem lk_X8_41 : Cond.methodLink RX8 41 yX6_windowSize ∈ GW := gwT_4 209 rfl rfl
set_option maxRecDepth 10000 in
theorem lk_X11_294 : Cond.methodLink RX11 294 yX8_countPlaces ∈ GW := gwT_4 210 rfl rfl
set_option maxRecDepth 10000 in
theorem im_X8_countPlaces : Cond.instanceMethod yX8_countPlaces ∈ GW := gwT_4 211 rfl rfl
set_option maxRecDepth 10000 in
theorem se_X8_countPlaces : Cond.selects RX8 yX8_countPlaces yX8_countPlaces ∈ GW := gwT_4 212 rfl rfl
abbrev gX8_countPlaces : mI := (yX8_countPlaces, cX8_countPlaces, 3, (some .int))
set_option maxRecDepth 10000 in
theorem mi_X8_countPlaces : MI gX8_countPlaces 0 := ⟨gwT_4 213 rfl rfl, gwT_1 7 rfl rfl, ⟨by decide, by decide, by decide +kernel⟩, by decide⟩
set_option maxRecDepth 10000 in
theorem lk_X8_48 : Cond.methodLink RX8 48 yX8_isPlace ∈ GW := gwT_4 214 rfl rfl
set_option maxRecDepth 10000 in
theorem im_X8_isPlace : Cond.instanceMethod yX8_isPlace ∈ GW := gwT_4 216 rfl rfl
abbrev gX8_isPlace : mI := (yX8_isPlace, cX8_isPlace, 3, (some .boolean))
set_option maxRecDepth 10000 in
theorem mi_X8_isPlace : MI gX8_isPlace 1 := ⟨gwT_4 217 rfl rfl, gwT_1 7 rfl rfl, ⟨by decide, by decide, by decide +kernel⟩, by decide⟩
set_option maxRecDepth 10000 in
theorem lk_X8_44 : Cond.methodLink RX8 44 yX8_isInside ∈ GW := gwT_4 218 rfl rfl
set_option maxRecDepth 10000 in
theorem im_X8_isInside : Cond.instanceMethod yX8_isInside ∈ GW := gwT_4 220 rfl rfl
abbrev gX8_isInside : mI := (yX8_isInside, cX8_isInside, 2, (some .boolean))
set_option maxRecDepth 10000 in
theorem mi_X8_isInside : MI gX8_isInside 1 := ⟨gwT_4 221 rfl rfl, gwT_1 7 rfl rfl, ⟨by decide, by decide, by decide +kernel⟩, by decide⟩
set_option maxRecDepth 10000 in
theorem lk_X11_297 : Cond.methodLink RX11 297 yX8_placeNumber ∈ GW := gwT_4 222 rfl rfl
set_option maxRecDepth 10000 in
theorem im_X8_placeNumber : Cond.instanceMethod yX8_placeNumber ∈ GW := gwT_4 223 rfl rfl
set_option maxRecDepth 10000 in
theorem se_X8_placeNumber : Cond.selects RX8 yX8_placeNumber yX8_placeNumber ∈ GW := gwT_4 224 rfl rfl
abbrev gX8_placeNumber : mI := (yX8_placeNumber, cX8_placeNumber, 4, (some .int))
set_option maxRecDepth 10000 in
theorem mi_X8_placeNumber : MI gX8_placeNumber 1 := ⟨gwT_4 225 rfl rfl, gwT_1 7 rfl rfl, ⟨by decide, by decide, by decide +kernel⟩, by decide⟩
set_option maxRecDepth 10000 in
theorem lk_L_111 : Cond.methodLink "FatPointersLaw" 111 yX11_tells ∈ GW := gwT_4 226 rfl rfl
set_option maxRecDepth 10000 in
theorem im_X11_tells : Cond.instanceMethod yX11_tells ∈ GW := gwT_4 227 rfl rfl
set_option maxRecDepth 10000 in
theorem se_X11_tells : Cond.selects RX11 yX11_tells yX11_tells ∈ GW := gwT_4 228 rfl rfl
abbrev gX11_tells : mI := (yX11_tells, cX11_tells, 3, (some .int))
set_option maxRecDepth 10000 in
theorem mi_X11_tells : MI gX11_tells 2 := ⟨gwT_4 229 rfl rfl, gwT_1 1 rfl rfl, ⟨by decide, by decide, by decide +kernel⟩, by decide⟩
set_option maxRecDepth 10000 in
theorem lk_X11_300 : Cond.methodLink RX11 300 yX8_findTelling ∈ GW := gwT_4 230 rfl rfl
set_option maxRecDepth 10000 in
theorem im_X8_findTelling : Cond.instanceMethod yX8_findTelling ∈ GW := gwT_4 231 rfl rfl
set_option maxRecDepth 10000 in
theorem se_X8_findTelling : Cond.selects RX8 yX8_findTelling yX8_findTelling ∈ GW := gwT_4 232 rfl rfl
abbrev gX8_findTelling : mI := (yX8_findTelling, cX8_findTelling, 5, (some .boolean))
set_option maxRecDepth 10000 in
theorem mi_X8_findTelling : MI gX8_findTelling 0 := ⟨gwT_4 233 rfl rfl, gwT_1 7 rfl rfl, ⟨by decide, by decide, by decide +kernel⟩, by decide⟩
set_option maxRecDepth 10000 in
theorem lk_X8_51 : Cond.methodLink RX8 51 yX8_countPlaces ∈ GW := gwT_4 234 rfl rfl
set_option maxRecDepth 10000 in
theorem lk_X8_55 : Cond.methodLink RX8 55 yX8_placesAt ∈ GW := gwT_4 235 rfl rfl
set_option maxRecDepth 10000 in
theorem im_X8_placesAt : Cond.instanceMethod yX8_placesAt ∈ GW := gwT_4 237 rfl rfl
abbrev gX8_placesAt : mI := (yX8_placesAt, cX8_placesAt, 2, (some .int))
set_option maxRecDepth 10000 in
theorem mi_X8_placesAt : MI gX8_placesAt 1 := ⟨gwT_4 238 rfl rfl, gwT_1 7 rfl rfl, ⟨by decide, by decide, by decide +kernel⟩, by decide⟩
set_option maxRecDepth 10000 in
theorem lk_X8_58 : Cond.methodLink RX8 58 yJ9_max_7cf53 ∈ GW := gwT_4 239 rfl rfl
set_option maxRecDepth 10000 in
theorem lk_L_115 : Cond.methodLink "FatPointersLaw" 115 yX11_alloc ∈ GW := gwT_5 0 rfl rfl
set_option maxRecDepth 10000 in
theorem im_X11_alloc : Cond.instanceMethod yX11_alloc ∈ GW := gwT_5 1 rfl rfl
set_option maxRecDepth 10000 in
theorem se_X11_alloc : Cond.selects RX11 yX11_alloc yX11_alloc ∈ GW := gwT_5 2 rfl rfl
abbrev gX11_alloc : mI := (yX11_alloc, cX11_alloc, 3, (some .int))
set_option maxRecDepth 10000 in
theorem mi_X11_alloc : MI gX11_alloc 2 := ⟨gwT_5 3 rfl rfl, gwT_1 1 rfl rfl, ⟨by decide, by decide, by decide +kernel⟩, by decide⟩
set_option maxRecDepth 10000 in
theorem lk_X11_309 : Cond.methodLink RX11 309 yX2_keep ∈ GW := gwT_5 4 rfl rfl
set_option maxRecDepth 10000 in
theorem im_X2_keep : Cond.instanceMethod yX2_keep ∈ GW := gwT_5 5 rfl rfl
set_option maxRecDepth 10000 in
theorem se_X2_keep : Cond.selects RX2 yX2_keep yX2_keep ∈ GW := gwT_5 6 rfl rfl
abbrev gX2_keep : mI := (yX2_keep, cX2_keep, 2, none)
set_option maxRecDepth 10000 in
theorem mi_X2_keep : MI gX2_keep 1 := ⟨gwT_5 7 rfl rfl, gwT_1 4 rfl rfl, ⟨by decide, by decide, by decide +kernel⟩, by decide⟩
set_option maxRecDepth 10000 in
theorem lk_X2_22 : Cond.methodLink RX2 22 yX9_init ∈ GW := gwT_5 8 rfl rfl
set_option maxRecDepth 10000 in
theorem lk_X2_23 : Cond.methodLink RX2 23 yX9_become ∈ GW := gwT_5 9 rfl rfl
set_option maxRecDepth 10000 in
theorem im_X9_become : Cond.instanceMethod yX9_become ∈ GW := gwT_5 10 rfl rfl
set_option maxRecDepth 10000 in
theorem se_X9_become : Cond.selects RX9 yX9_become yX9_become ∈ GW := gwT_5 11 rfl rfl
abbrev gX9_become : mI := (yX9_become, cX9_become, 3, none)
set_option maxRecDepth 10000 in
theorem mi_X9_become : MI gX9_become 1 := ⟨gwT_5 12 rfl rfl, gwT_1 2 rfl rfl, ⟨by decide, by decide, by decide +kernel⟩, by decide⟩
set_option maxRecDepth 10000 in
theorem lk_X9_51 : Cond.methodLink RX9 51 yX6_become ∈ GW := gwT_5 13 rfl rfl
set_option maxRecDepth 10000 in
theorem im_X6_become : Cond.instanceMethod yX6_become ∈ GW := gwT_5 14 rfl rfl
set_option maxRecDepth 10000 in
theorem se_X6_become : Cond.selects RX6 yX6_become yX6_become ∈ GW := gwT_5 15 rfl rfl
abbrev gX6_become : mI := (yX6_become, cX6_become, 2, none)
set_option maxRecDepth 10000 in
theorem mi_X6_become : MI gX6_become 1 := ⟨gwT_5 16 rfl rfl, gwT_1 3 rfl rfl, ⟨by decide, by decide, by decide +kernel⟩, by decide⟩
set_option maxRecDepth 10000 in
theorem lk_X9_55 : Cond.methodLink RX9 55 arraycopyName ∈ GW := gwT_5 17 rfl rfl
set_option maxRecDepth 10000 in
theorem sm_acp : Cond.static arraycopyName ∈ GW := gwT_5 18 rfl rfl
set_option maxRecDepth 10000 in
theorem na_acp : Cond.native arraycopyName ∈ GW := gwT_5 19 rfl rfl
set_option maxRecDepth 10000 in
theorem lk_X2_27 : Cond.methodLink RX2 27 yJ9_min_7cf53 ∈ GW := gwT_5 20 rfl rfl
set_option maxRecDepth 10000 in
theorem lk_X11_313 : Cond.methodLink RX11 313 yX11_allocate ∈ GW := gwT_5 21 rfl rfl
set_option maxRecDepth 10000 in
theorem im_X11_allocate : Cond.instanceMethod yX11_allocate ∈ GW := gwT_5 23 rfl rfl
abbrev gX11_allocate : mI := (yX11_allocate, cX11_allocate, 4, none)
set_option maxRecDepth 10000 in
theorem mi_X11_allocate : MI gX11_allocate 2 := ⟨gwT_5 24 rfl rfl, gwT_1 1 rfl rfl, ⟨by decide, by decide, by decide +kernel⟩, by decide⟩
set_option maxRecDepth 10000 in
theorem lk_X11_323 : Cond.methodLink RX11 323 yX9_addObject ∈ GW := gwT_5 25 rfl rfl
set_option maxRecDepth 10000 in
theorem im_X9_addObject : Cond.instanceMethod yX9_addObject ∈ GW := gwT_5 26 rfl rfl
set_option maxRecDepth 10000 in
theorem se_X9_addObject : Cond.selects RX9 yX9_addObject yX9_addObject ∈ GW := gwT_5 27 rfl rfl
abbrev gX9_addObject : mI := (yX9_addObject, cX9_addObject, 5, none)
set_option maxRecDepth 10000 in
theorem mi_X9_addObject : MI gX9_addObject 4 := ⟨gwT_5 28 rfl rfl, gwT_1 2 rfl rfl, ⟨by decide, by decide, by decide +kernel⟩, by decide⟩
set_option maxRecDepth 10000 in
theorem lk_X9_78 : Cond.methodLink RX9 78 yX9_note ∈ GW := gwT_5 29 rfl rfl
set_option maxRecDepth 10000 in
theorem im_X9_note : Cond.instanceMethod yX9_note ∈ GW := gwT_5 30 rfl rfl
set_option maxRecDepth 10000 in
theorem se_X9_note : Cond.selects RX9 yX9_note yX9_note ∈ GW := gwT_5 31 rfl rfl
abbrev gX9_note : mI := (yX9_note, cX9_note, 4, none)
set_option maxRecDepth 10000 in
theorem mi_X9_note : MI gX9_note 3 := ⟨gwT_5 32 rfl rfl, gwT_1 2 rfl rfl, ⟨by decide, by decide, by decide +kernel⟩, by decide⟩
set_option maxRecDepth 10000 in
theorem lk_X11_327 : Cond.methodLink RX11 327 yX6_clear ∈ GW := gwT_5 33 rfl rfl
set_option maxRecDepth 10000 in
theorem lk_L_119 : Cond.methodLink "FatPointersLaw" 119 yX11_free ∈ GW := gwT_5 34 rfl rfl
set_option maxRecDepth 10000 in
theorem im_X11_free : Cond.instanceMethod yX11_free ∈ GW := gwT_5 35 rfl rfl
set_option maxRecDepth 10000 in
theorem se_X11_free : Cond.selects RX11 yX11_free yX11_free ∈ GW := gwT_5 36 rfl rfl
abbrev gX11_free : mI := (yX11_free, cX11_free, 4, (some .int))
set_option maxRecDepth 10000 in
theorem mi_X11_free : MI gX11_free 1 := ⟨gwT_5 37 rfl rfl, gwT_1 1 rfl rfl, ⟨by decide, by decide, by decide +kernel⟩, by decide⟩
set_option maxRecDepth 10000 in
theorem lk_X11_333 : Cond.methodLink RX11 333 yX11_objectOf ∈ GW := gwT_5 38 rfl rfl
set_option maxRecDepth 10000 in
theorem im_X11_objectOf : Cond.instanceMethod yX11_objectOf ∈ GW := gwT_5 40 rfl rfl
abbrev gX11_objectOf : mI := (yX11_objectOf, cX11_objectOf, 3, (some .int))
set_option maxRecDepth 10000 in
theorem mi_X11_objectOf : MI gX11_objectOf 1 := ⟨gwT_5 41 rfl rfl, gwT_1 1 rfl rfl, ⟨by decide, by decide, by decide +kernel⟩, by decide⟩
set_option maxRecDepth 10000 in
theorem lk_X11_339 : Cond.methodLink RX11 339 yX6_base ∈ GW := gwT_5 42 rfl rfl
set_option maxRecDepth 10000 in
theorem lk_X11_341 : Cond.methodLink RX11 341 yX6_extent ∈ GW := gwT_5 43 rfl rfl
set_option maxRecDepth 10000 in
theorem lk_X11_344 : Cond.methodLink RX11 344 yX9_objectWith ∈ GW := gwT_5 44 rfl rfl
set_option maxRecDepth 10000 in
theorem im_X9_objectWith : Cond.instanceMethod yX9_objectWith ∈ GW := gwT_5 45 rfl rfl
set_option maxRecDepth 10000 in
theorem se_X9_objectWith : Cond.selects RX9 yX9_objectWith yX9_objectWith ∈ GW := gwT_5 46 rfl rfl
abbrev gX9_objectWith : mI := (yX9_objectWith, cX9_objectWith, 4, (some .int))
set_option maxRecDepth 10000 in
theorem mi_X9_objectWith : MI gX9_objectWith 2 := ⟨gwT_5 47 rfl rfl, gwT_1 2 rfl rfl, ⟨by decide, by decide, by decide +kernel⟩, by decide⟩
set_option maxRecDepth 10000 in
theorem lk_X11_336 : Cond.methodLink RX11 336 yX9_removeObject ∈ GW := gwT_5 48 rfl rfl
set_option maxRecDepth 10000 in
theorem im_X9_removeObject : Cond.instanceMethod yX9_removeObject ∈ GW := gwT_5 49 rfl rfl
set_option maxRecDepth 10000 in
theorem se_X9_removeObject : Cond.selects RX9 yX9_removeObject yX9_removeObject ∈ GW := gwT_5 50 rfl rfl
abbrev gX9_removeObject : mI := (yX9_removeObject, cX9_removeObject, 7, none)
set_option maxRecDepth 10000 in
theorem mi_X9_removeObject : MI gX9_removeObject 2 := ⟨gwT_5 51 rfl rfl, gwT_1 2 rfl rfl, ⟨by decide, by decide, by decide +kernel⟩, by decide⟩
set_option maxRecDepth 10000 in
theorem lk_X9_82 : Cond.methodLink RX9 82 yX9_setByte ∈ GW := gwT_5 52 rfl rfl
set_option maxRecDepth 10000 in
theorem im_X9_setByte : Cond.instanceMethod yX9_setByte ∈ GW := gwT_5 53 rfl rfl
set_option maxRecDepth 10000 in
theorem se_X9_setByte : Cond.selects RX9 yX9_setByte yX9_setByte ∈ GW := gwT_5 54 rfl rfl
abbrev gX9_setByte : mI := (yX9_setByte, cX9_setByte, 5, none)
set_option maxRecDepth 10000 in
theorem mi_X9_setByte : MI gX9_setByte 2 := ⟨gwT_5 55 rfl rfl, gwT_1 2 rfl rfl, ⟨by decide, by decide, by decide +kernel⟩, by decide⟩
set_option maxRecDepth 10000 in
theorem lk_X9_86 : Cond.methodLink RX9 86 yX6_base ∈ GW := gwT_5 56 rfl rfl
set_option maxRecDepth 10000 in
theorem lk_L_123 : Cond.methodLink "FatPointersLaw" 123 yX11_copy ∈ GW := gwT_5 57 rfl rfl
set_option maxRecDepth 10000 in
theorem im_X11_copy : Cond.instanceMethod yX11_copy ∈ GW := gwT_5 58 rfl rfl
set_option maxRecDepth 10000 in
theorem se_X11_copy : Cond.selects RX11 yX11_copy yX11_copy ∈ GW := gwT_5 59 rfl rfl
abbrev gX11_copy : mI := (yX11_copy, cX11_copy, 3, (some .boolean))
set_option maxRecDepth 10000 in
theorem mi_X11_copy : MI gX11_copy 2 := ⟨gwT_5 60 rfl rfl, gwT_1 1 rfl rfl, ⟨by decide, by decide, by decide +kernel⟩, by decide⟩
set_option maxRecDepth 10000 in
theorem lk_X11_347 : Cond.methodLink RX11 347 yX6_become ∈ GW := gwT_5 61 rfl rfl
set_option maxRecDepth 10000 in
theorem lk_L_128 : Cond.methodLink "FatPointersLaw" 128 yX11_move ∈ GW := gwT_5 62 rfl rfl
set_option maxRecDepth 10000 in
theorem im_X11_move : Cond.instanceMethod yX11_move ∈ GW := gwT_5 63 rfl rfl
set_option maxRecDepth 10000 in
theorem se_X11_move : Cond.selects RX11 yX11_move yX11_move ∈ GW := gwT_5 64 rfl rfl
abbrev gX11_move : mI := (yX11_move, cX11_move, 5, (some .boolean))
set_option maxRecDepth 10000 in
theorem mi_X11_move : MI gX11_move 2 := ⟨gwT_5 65 rfl rfl, gwT_1 1 rfl rfl, ⟨by decide, by decide, by decide +kernel⟩, by decide⟩
set_option maxRecDepth 10000 in
theorem lk_X11_354 : Cond.methodLink RX11 354 yX9_note ∈ GW := gwT_5 66 rfl rfl
set_option maxRecDepth 10000 in
theorem lk_L_132 : Cond.methodLink "FatPointersLaw" 132 yX11_narrow ∈ GW := gwT_5 67 rfl rfl
set_option maxRecDepth 10000 in
theorem im_X11_narrow : Cond.instanceMethod yX11_narrow ∈ GW := gwT_5 68 rfl rfl
set_option maxRecDepth 10000 in
theorem se_X11_narrow : Cond.selects RX11 yX11_narrow yX11_narrow ∈ GW := gwT_5 69 rfl rfl
abbrev gX11_narrow : mI := (yX11_narrow, cX11_narrow, 5, (some .int))
set_option maxRecDepth 10000 in
theorem mi_X11_narrow : MI gX11_narrow 3 := ⟨gwT_5 70 rfl rfl, gwT_1 1 rfl rfl, ⟨by decide, by decide, by decide +kernel⟩, by decide⟩
set_option maxRecDepth 10000 in
theorem lk_X11_357 : Cond.methodLink RX11 357 yX6_canNarrow ∈ GW := gwT_5 71 rfl rfl
set_option maxRecDepth 10000 in
theorem im_X6_canNarrow : Cond.instanceMethod yX6_canNarrow ∈ GW := gwT_5 72 rfl rfl
set_option maxRecDepth 10000 in
theorem se_X6_canNarrow : Cond.selects RX6 yX6_canNarrow yX6_canNarrow ∈ GW := gwT_5 73 rfl rfl
abbrev gX6_canNarrow : mI := (yX6_canNarrow, cX6_canNarrow, 5, (some .boolean))
set_option maxRecDepth 10000 in
theorem mi_X6_canNarrow : MI gX6_canNarrow 2 := ⟨gwT_5 74 rfl rfl, gwT_1 3 rfl rfl, ⟨by decide, by decide, by decide +kernel⟩, by decide⟩
set_option maxRecDepth 10000 in
theorem lk_X6_72 : Cond.methodLink RX6 72 yX6_isUsable ∈ GW := gwT_5 75 rfl rfl
set_option maxRecDepth 10000 in
theorem lk_L_136 : Cond.methodLink "FatPointersLaw" 136 yX11_limit ∈ GW := gwT_5 76 rfl rfl
set_option maxRecDepth 10000 in
theorem im_X11_limit : Cond.instanceMethod yX11_limit ∈ GW := gwT_5 77 rfl rfl
set_option maxRecDepth 10000 in
theorem se_X11_limit : Cond.selects RX11 yX11_limit yX11_limit ∈ GW := gwT_5 78 rfl rfl
abbrev gX11_limit : mI := (yX11_limit, cX11_limit, 3, (some .int))
set_option maxRecDepth 10000 in
theorem mi_X11_limit : MI gX11_limit 2 := ⟨gwT_5 79 rfl rfl, gwT_1 1 rfl rfl, ⟨by decide, by decide, by decide +kernel⟩, by decide⟩
set_option maxRecDepth 10000 in
theorem lk_L_140 : Cond.methodLink "FatPointersLaw" 140 yX11_seal ∈ GW := gwT_5 80 rfl rfl
set_option maxRecDepth 10000 in
theorem im_X11_seal : Cond.instanceMethod yX11_seal ∈ GW := gwT_5 81 rfl rfl
set_option maxRecDepth 10000 in
theorem se_X11_seal : Cond.selects RX11 yX11_seal yX11_seal ∈ GW := gwT_5 82 rfl rfl
abbrev gX11_seal : mI := (yX11_seal, cX11_seal, 4, (some .int))
set_option maxRecDepth 10000 in
theorem mi_X11_seal : MI gX11_seal 2 := ⟨gwT_5 83 rfl rfl, gwT_1 1 rfl rfl, ⟨by decide, by decide, by decide +kernel⟩, by decide⟩
set_option maxRecDepth 10000 in
theorem lk_X11_360 : Cond.methodLink RX11 360 yX11_kindOfKey ∈ GW := gwT_5 84 rfl rfl
set_option maxRecDepth 10000 in
theorem im_X11_kindOfKey : Cond.instanceMethod yX11_kindOfKey ∈ GW := gwT_5 86 rfl rfl
abbrev gX11_kindOfKey : mI := (yX11_kindOfKey, cX11_kindOfKey, 4, (some .int))
set_option maxRecDepth 10000 in
theorem mi_X11_kindOfKey : MI gX11_kindOfKey 1 := ⟨gwT_5 87 rfl rfl, gwT_1 1 rfl rfl, ⟨by decide, by decide, by decide +kernel⟩, by decide⟩
set_option maxRecDepth 10000 in
theorem lk_L_144 : Cond.methodLink "FatPointersLaw" 144 yX11_unseal ∈ GW := gwT_5 88 rfl rfl
set_option maxRecDepth 10000 in
theorem im_X11_unseal : Cond.instanceMethod yX11_unseal ∈ GW := gwT_5 89 rfl rfl
set_option maxRecDepth 10000 in
theorem se_X11_unseal : Cond.selects RX11 yX11_unseal yX11_unseal ∈ GW := gwT_5 90 rfl rfl
abbrev gX11_unseal : mI := (yX11_unseal, cX11_unseal, 5, (some .boolean))
set_option maxRecDepth 10000 in
theorem mi_X11_unseal : MI gX11_unseal 2 := ⟨gwT_5 91 rfl rfl, gwT_1 1 rfl rfl, ⟨by decide, by decide, by decide +kernel⟩, by decide⟩
set_option maxRecDepth 10000 in
theorem lk_L_148 : Cond.methodLink "FatPointersLaw" 148 yX11_load ∈ GW := gwT_5 92 rfl rfl
set_option maxRecDepth 10000 in
theorem im_X11_load : Cond.instanceMethod yX11_load ∈ GW := gwT_5 93 rfl rfl
set_option maxRecDepth 10000 in
theorem se_X11_load : Cond.selects RX11 yX11_load yX11_load ∈ GW := gwT_5 94 rfl rfl
abbrev gX11_load : mI := (yX11_load, cX11_load, 2, (some .int))
set_option maxRecDepth 10000 in
theorem mi_X11_load : MI gX11_load 1 := ⟨gwT_5 95 rfl rfl, gwT_1 1 rfl rfl, ⟨by decide, by decide, by decide +kernel⟩, by decide⟩
set_option maxRecDepth 10000 in
theorem lk_X11_363 : Cond.methodLink RX11 363 yX11_canFollow ∈ GW := gwT_5 96 rfl rfl
set_option maxRecDepth 10000 in
theorem im_X11_canFollow : Cond.instanceMethod yX11_canFollow ∈ GW := gwT_5 98 rfl rfl
abbrev gX11_canFollow : mI := (yX11_canFollow, cX11_canFollow, 4, (some .boolean))
set_option maxRecDepth 10000 in
theorem mi_X11_canFollow : MI gX11_canFollow 2 := ⟨gwT_5 99 rfl rfl, gwT_1 1 rfl rfl, ⟨by decide, by decide, by decide +kernel⟩, by decide⟩
set_option maxRecDepth 10000 in
theorem lk_X11_369 : Cond.methodLink RX11 369 yX0_isTrapped ∈ GW := gwT_5 100 rfl rfl
set_option maxRecDepth 10000 in
theorem im_X0_isTrapped : Cond.instanceMethod yX0_isTrapped ∈ GW := gwT_5 101 rfl rfl
set_option maxRecDepth 10000 in
theorem se_X0_isTrapped : Cond.selects RX0 yX0_isTrapped yX0_isTrapped ∈ GW := gwT_5 102 rfl rfl
abbrev gX0_isTrapped : mI := (yX0_isTrapped, cX0_isTrapped, 3, (some .boolean))
set_option maxRecDepth 10000 in
theorem mi_X0_isTrapped : MI gX0_isTrapped 2 := ⟨gwT_5 103 rfl rfl, gwT_1 5 rfl rfl, ⟨by decide, by decide, by decide +kernel⟩, by decide⟩
set_option maxRecDepth 10000 in
theorem lk_X0_55 : Cond.methodLink RX0 55 yX0_setBounds ∈ GW := gwT_5 104 rfl rfl
set_option maxRecDepth 10000 in
theorem im_X0_setBounds : Cond.instanceMethod yX0_setBounds ∈ GW := gwT_5 106 rfl rfl
abbrev gX0_setBounds : mI := (yX0_setBounds, cX0_setBounds, 3, none)
set_option maxRecDepth 10000 in
theorem mi_X0_setBounds : MI gX0_setBounds 2 := ⟨gwT_5 107 rfl rfl, gwT_1 5 rfl rfl, ⟨by decide, by decide, by decide +kernel⟩, by decide⟩
set_option maxRecDepth 10000 in
theorem lk_X0_78 : Cond.methodLink RX0 78 yX6_extent ∈ GW := gwT_5 108 rfl rfl
set_option maxRecDepth 10000 in
theorem lk_L_152 : Cond.methodLink "FatPointersLaw" 152 yX11_store ∈ GW := gwT_5 109 rfl rfl
set_option maxRecDepth 10000 in
theorem im_X11_store : Cond.instanceMethod yX11_store ∈ GW := gwT_5 110 rfl rfl
set_option maxRecDepth 10000 in
theorem se_X11_store : Cond.selects RX11 yX11_store yX11_store ∈ GW := gwT_5 111 rfl rfl
abbrev gX11_store : mI := (yX11_store, cX11_store, 3, (some .boolean))
set_option maxRecDepth 10000 in
theorem mi_X11_store : MI gX11_store 2 := ⟨gwT_5 112 rfl rfl, gwT_1 1 rfl rfl, ⟨by decide, by decide, by decide +kernel⟩, by decide⟩
set_option maxRecDepth 10000 in
theorem lk_X11_366 : Cond.methodLink RX11 366 yX9_setByte ∈ GW := gwT_5 113 rfl rfl
set_option maxRecDepth 10000 in
theorem lk_L_156 : Cond.methodLink "FatPointersLaw" 156 yX11_shelve ∈ GW := gwT_5 114 rfl rfl
set_option maxRecDepth 10000 in
theorem im_X11_shelve : Cond.instanceMethod yX11_shelve ∈ GW := gwT_5 115 rfl rfl
set_option maxRecDepth 10000 in
theorem se_X11_shelve : Cond.selects RX11 yX11_shelve yX11_shelve ∈ GW := gwT_5 116 rfl rfl
abbrev gX11_shelve : mI := (yX11_shelve, cX11_shelve, 5, (some .int))
set_option maxRecDepth 10000 in
theorem mi_X11_shelve : MI gX11_shelve 2 := ⟨gwT_5 117 rfl rfl, gwT_1 1 rfl rfl, ⟨by decide, by decide, by decide +kernel⟩, by decide⟩
set_option maxRecDepth 10000 in
theorem lk_X11_373 : Cond.methodLink RX11 373 yX11_emptyPlace ∈ GW := gwT_5 118 rfl rfl
set_option maxRecDepth 10000 in
theorem im_X11_emptyPlace : Cond.instanceMethod yX11_emptyPlace ∈ GW := gwT_5 120 rfl rfl
abbrev gX11_emptyPlace : mI := (yX11_emptyPlace, cX11_emptyPlace, 3, (some .int))
set_option maxRecDepth 10000 in
theorem mi_X11_emptyPlace : MI gX11_emptyPlace 1 := ⟨gwT_5 121 rfl rfl, gwT_1 1 rfl rfl, ⟨by decide, by decide, by decide +kernel⟩, by decide⟩
set_option maxRecDepth 10000 in
theorem lk_L_160 : Cond.methodLink "FatPointersLaw" 160 yX11_take ∈ GW := gwT_5 122 rfl rfl
set_option maxRecDepth 10000 in
theorem im_X11_take : Cond.instanceMethod yX11_take ∈ GW := gwT_5 123 rfl rfl
set_option maxRecDepth 10000 in
theorem se_X11_take : Cond.selects RX11 yX11_take yX11_take ∈ GW := gwT_5 124 rfl rfl
abbrev gX11_take : mI := (yX11_take, cX11_take, 5, (some .boolean))
set_option maxRecDepth 10000 in
theorem mi_X11_take : MI gX11_take 3 := ⟨gwT_5 125 rfl rfl, gwT_1 1 rfl rfl, ⟨by decide, by decide, by decide +kernel⟩, by decide⟩
set_option maxRecDepth 10000 in
theorem lk_L_165 : Cond.methodLink "FatPointersLaw" 165 yX11_chance ∈ GW := gwT_5 126 rfl rfl
set_option maxRecDepth 10000 in
theorem im_X11_chance : Cond.instanceMethod yX11_chance ∈ GW := gwT_5 127 rfl rfl
set_option maxRecDepth 10000 in
theorem se_X11_chance : Cond.selects RX11 yX11_chance yX11_chance ∈ GW := gwT_5 128 rfl rfl
abbrev gX11_chance : mI := (yX11_chance, cX11_chance, 4, (some .int))
set_option maxRecDepth 10000 in
theorem mi_X11_chance : MI gX11_chance 1 := ⟨gwT_5 129 rfl rfl, gwT_1 1 rfl rfl, ⟨by decide, by decide, by decide +kernel⟩, by decide⟩
set_option maxRecDepth 10000 in
theorem lk_X11_379 : Cond.methodLink RX11 379 yX11_actBySeed ∈ GW := gwT_5 130 rfl rfl
set_option maxRecDepth 10000 in
theorem im_X11_actBySeed : Cond.instanceMethod yX11_actBySeed ∈ GW := gwT_5 132 rfl rfl
abbrev gX11_actBySeed : mI := (yX11_actBySeed, cX11_actBySeed, 5, (some .boolean))
set_option maxRecDepth 10000 in
theorem mi_X11_actBySeed : MI gX11_actBySeed 0 := ⟨gwT_5 133 rfl rfl, gwT_1 1 rfl rfl, ⟨by decide, by decide, by decide +kernel⟩, by decide⟩
set_option maxRecDepth 10000 in
theorem lk_X11_382 : Cond.methodLink RX11 382 yX11_draw ∈ GW := gwT_5 134 rfl rfl
set_option maxRecDepth 10000 in
theorem im_X11_draw : Cond.instanceMethod yX11_draw ∈ GW := gwT_5 136 rfl rfl
abbrev gX11_draw : mI := (yX11_draw, cX11_draw, 2, (some .int))
set_option maxRecDepth 10000 in
theorem mi_X11_draw : MI gX11_draw 1 := ⟨gwT_5 137 rfl rfl, gwT_1 1 rfl rfl, ⟨by decide, by decide, by decide +kernel⟩, by decide⟩
set_option maxRecDepth 10000 in
theorem kc_X11_385 : Cond.constantLong RX11 385 (1103515245) ∈ GW := gwT_5 138 rfl rfl
set_option maxRecDepth 10000 in
theorem kc_X11_387 : Cond.constantLong RX11 387 (12345) ∈ GW := gwT_5 139 rfl rfl
set_option maxRecDepth 10000 in
theorem kc_X11_389 : Cond.constantLong RX11 389 (2147483647) ∈ GW := gwT_5 140 rfl rfl
set_option maxRecDepth 10000 in
theorem lk_L_169 : Cond.methodLink "FatPointersLaw" 169 yX11_undo ∈ GW := gwT_5 141 rfl rfl
set_option maxRecDepth 10000 in
theorem im_X11_undo : Cond.instanceMethod yX11_undo ∈ GW := gwT_5 142 rfl rfl
set_option maxRecDepth 10000 in
theorem se_X11_undo : Cond.selects RX11 yX11_undo yX11_undo ∈ GW := gwT_5 143 rfl rfl
abbrev gX11_undo : mI := (yX11_undo, cX11_undo, 1, (some .boolean))
set_option maxRecDepth 10000 in
theorem mi_X11_undo : MI gX11_undo 0 := ⟨gwT_5 144 rfl rfl, gwT_1 1 rfl rfl, ⟨by decide, by decide, by decide +kernel⟩, by decide⟩
set_option maxRecDepth 10000 in
theorem lk_X11_391 : Cond.methodLink RX11 391 yX2_goBack ∈ GW := gwT_5 145 rfl rfl
set_option maxRecDepth 10000 in
theorem im_X2_goBack : Cond.instanceMethod yX2_goBack ∈ GW := gwT_5 146 rfl rfl
set_option maxRecDepth 10000 in
theorem se_X2_goBack : Cond.selects RX2 yX2_goBack yX2_goBack ∈ GW := gwT_5 147 rfl rfl
abbrev gX2_goBack : mI := (yX2_goBack, cX2_goBack, 3, (some .boolean))
set_option maxRecDepth 10000 in
theorem mi_X2_goBack : MI gX2_goBack 1 := ⟨gwT_5 148 rfl rfl, gwT_1 4 rfl rfl, ⟨by decide, by decide, by decide +kernel⟩, by decide⟩
set_option maxRecDepth 10000 in
theorem lk_L_174 : Cond.methodLink "FatPointersLaw" 174 yX11_seed ∈ GW := gwT_5 149 rfl rfl
set_option maxRecDepth 10000 in
theorem im_X11_seed : Cond.instanceMethod yX11_seed ∈ GW := gwT_5 150 rfl rfl
set_option maxRecDepth 10000 in
theorem se_X11_seed : Cond.selects RX11 yX11_seed yX11_seed ∈ GW := gwT_5 151 rfl rfl
abbrev gX11_seed : mI := (yX11_seed, cX11_seed, 2, (some .boolean))
set_option maxRecDepth 10000 in
theorem mi_X11_seed : MI gX11_seed 1 := ⟨gwT_5 152 rfl rfl, gwT_1 1 rfl rfl, ⟨by decide, by decide, by decide +kernel⟩, by decide⟩
set_option maxRecDepth 10000 in
theorem lk_L_178 : Cond.methodLink "FatPointersLaw" 178 yX11_ask ∈ GW := gwT_5 153 rfl rfl
set_option maxRecDepth 10000 in
theorem im_X11_ask : Cond.instanceMethod yX11_ask ∈ GW := gwT_5 154 rfl rfl
set_option maxRecDepth 10000 in
theorem se_X11_ask : Cond.selects RX11 yX11_ask yX11_ask ∈ GW := gwT_5 155 rfl rfl
abbrev gX11_ask : mI := (yX11_ask, cX11_ask, 3, (some .long))
set_option maxRecDepth 10000 in
theorem mi_X11_ask : MI gX11_ask 0 := ⟨gwT_5 156 rfl rfl, gwT_1 1 rfl rfl, ⟨by decide, by decide, by decide +kernel⟩, by decide⟩
set_option maxRecDepth 10000 in
theorem kc_X11_395 : Cond.constantLong RX11 395 (-1000000000000000) ∈ GW := gwT_5 157 rfl rfl
set_option maxRecDepth 10000 in
theorem lk_X11_397 : Cond.methodLink RX11 397 yX5_readQuestion ∈ GW := gwT_5 158 rfl rfl
set_option maxRecDepth 10000 in
theorem im_X5_readQuestion : Cond.instanceMethod yX5_readQuestion ∈ GW := gwT_5 159 rfl rfl
set_option maxRecDepth 10000 in
theorem se_X5_readQuestion : Cond.selects RX5 yX5_readQuestion yX5_readQuestion ∈ GW := gwT_5 160 rfl rfl
abbrev gX5_readQuestion : mI := (yX5_readQuestion, cX5_readQuestion, 6, (some .int))
set_option maxRecDepth 10000 in
theorem mi_X5_readQuestion : MI gX5_readQuestion 3 := ⟨gwT_5 161 rfl rfl, gwT_1 10 rfl rfl, ⟨by decide, by decide, by decide +kernel⟩, by decide⟩
set_option maxRecDepth 10000 in
theorem kc_X5_137 : Cond.constant RX5 137 (523272) ∈ GW := gwT_5 162 rfl rfl
set_option maxRecDepth 10000 in
theorem lk_X11_401 : Cond.methodLink RX11 401 yX11_answer ∈ GW := gwT_5 163 rfl rfl
set_option maxRecDepth 10000 in
theorem im_X11_answer : Cond.instanceMethod yX11_answer ∈ GW := gwT_5 165 rfl rfl
abbrev gX11_answer : mI := (yX11_answer, cX11_answer, 11, (some .long))
set_option maxRecDepth 10000 in
theorem mi_X11_answer : MI gX11_answer 1 := ⟨gwT_5 166 rfl rfl, gwT_1 1 rfl rfl, ⟨by decide, by decide, by decide +kernel⟩, by decide⟩
set_option maxRecDepth 10000 in
theorem lk_X11_405 : Cond.methodLink RX11 405 yX0_askOf ∈ GW := gwT_5 167 rfl rfl
set_option maxRecDepth 10000 in
theorem im_X0_askOf : Cond.instanceMethod yX0_askOf ∈ GW := gwT_5 168 rfl rfl
set_option maxRecDepth 10000 in
theorem se_X0_askOf : Cond.selects RX0 yX0_askOf yX0_askOf ∈ GW := gwT_5 169 rfl rfl
abbrev gX0_askOf : mI := (yX0_askOf, cX0_askOf, 4, (some .int))
set_option maxRecDepth 10000 in
theorem mi_X0_askOf : MI gX0_askOf 3 := ⟨gwT_5 170 rfl rfl, gwT_1 5 rfl rfl, ⟨by decide, by decide, by decide +kernel⟩, by decide⟩
set_option maxRecDepth 10000 in
theorem lk_X11_409 : Cond.methodLink RX11 409 yJ9_max_7cf53 ∈ GW := gwT_5 171 rfl rfl
set_option maxRecDepth 10000 in
theorem lk_X11_414 : Cond.methodLink RX11 414 yJ9_min_7cf53 ∈ GW := gwT_5 172 rfl rfl
set_option maxRecDepth 10000 in
theorem lk_L_183 : Cond.methodLink "FatPointersLaw" 183 yX11_image ∈ GW := gwT_5 173 rfl rfl
set_option maxRecDepth 10000 in
theorem im_X11_image : Cond.instanceMethod yX11_image ∈ GW := gwT_5 174 rfl rfl
set_option maxRecDepth 10000 in
theorem se_X11_image : Cond.selects RX11 yX11_image yX11_image ∈ GW := gwT_5 175 rfl rfl
abbrev gX11_image : mI := (yX11_image, cX11_image, 1, (some .int))
set_option maxRecDepth 10000 in
theorem mi_X11_image : MI gX11_image 0 := ⟨gwT_5 176 rfl rfl, gwT_1 1 rfl rfl, ⟨by decide, by decide, by decide +kernel⟩, by decide⟩
set_option maxRecDepth 10000 in
theorem lk_X11_417 : Cond.methodLink RX11 417 yX3_write ∈ GW := gwT_5 177 rfl rfl
set_option maxRecDepth 10000 in
theorem im_X3_write : Cond.instanceMethod yX3_write ∈ GW := gwT_5 178 rfl rfl
set_option maxRecDepth 10000 in
theorem se_X3_write : Cond.selects RX3 yX3_write yX3_write ∈ GW := gwT_5 179 rfl rfl
abbrev gX3_write : mI := (yX3_write, cX3_write, 4, none)
set_option maxRecDepth 10000 in
theorem mi_X3_write : MI gX3_write 2 := ⟨gwT_5 180 rfl rfl, gwT_1 8 rfl rfl, ⟨by decide, by decide, by decide +kernel⟩, by decide⟩
set_option maxRecDepth 10000 in
theorem lk_X3_25 : Cond.methodLink RX3 25 yX3_cells ∈ GW := gwT_5 181 rfl rfl
set_option maxRecDepth 10000 in
theorem sm_X3_cells : Cond.static yX3_cells ∈ GW := gwT_5 182 rfl rfl
abbrev gX3_cells : mI := (yX3_cells, cX3_cells, 1, (some .int))
set_option maxRecDepth 10000 in
theorem mi_X3_cells : MI gX3_cells 1 := ⟨gwT_5 183 rfl rfl, gwT_1 8 rfl rfl, ⟨by decide, by decide, by decide +kernel⟩, by decide⟩
set_option maxRecDepth 10000 in
theorem lk_X3_89 : Cond.methodLink RX3 89 yJ9_min_7cf53 ∈ GW := gwT_5 184 rfl rfl
set_option maxRecDepth 10000 in
theorem lk_X3_33 : Cond.methodLink RX3 33 yX3_writeCell ∈ GW := gwT_5 185 rfl rfl
set_option maxRecDepth 10000 in
theorem im_X3_writeCell : Cond.instanceMethod yX3_writeCell ∈ GW := gwT_5 187 rfl rfl
abbrev gX3_writeCell : mI := (yX3_writeCell, cX3_writeCell, 3, none)
set_option maxRecDepth 10000 in
theorem mi_X3_writeCell : MI gX3_writeCell 1 := ⟨gwT_5 188 rfl rfl, gwT_1 8 rfl rfl, ⟨by decide, by decide, by decide +kernel⟩, by decide⟩
set_option maxRecDepth 10000 in
theorem lk_X3_21 : Cond.methodLink RX3 21 yX3_add ∈ GW := gwT_5 189 rfl rfl
set_option maxRecDepth 10000 in
theorem im_X3_add : Cond.instanceMethod yX3_add ∈ GW := gwT_5 191 rfl rfl
abbrev gX3_add : mI := (yX3_add, cX3_add, 2, none)
set_option maxRecDepth 10000 in
theorem mi_X3_add : MI gX3_add 1 := ⟨gwT_5 192 rfl rfl, gwT_1 8 rfl rfl, ⟨by decide, by decide, by decide +kernel⟩, by decide⟩
set_option maxRecDepth 10000 in
theorem lk_X3_44 : Cond.methodLink RX3 44 yX3_addTwo ∈ GW := gwT_5 193 rfl rfl
set_option maxRecDepth 10000 in
theorem im_X3_addTwo : Cond.instanceMethod yX3_addTwo ∈ GW := gwT_5 195 rfl rfl
abbrev gX3_addTwo : mI := (yX3_addTwo, cX3_addTwo, 2, none)
set_option maxRecDepth 10000 in
theorem mi_X3_addTwo : MI gX3_addTwo 1 := ⟨gwT_5 196 rfl rfl, gwT_1 8 rfl rfl, ⟨by decide, by decide, by decide +kernel⟩, by decide⟩
set_option maxRecDepth 10000 in
theorem lk_X3_53 : Cond.methodLink RX3 53 yX3_check ∈ GW := gwT_5 197 rfl rfl
set_option maxRecDepth 10000 in
theorem sm_X3_check : Cond.static yX3_check ∈ GW := gwT_5 198 rfl rfl
abbrev gX3_check : mI := (yX3_check, cX3_check, 4, (some .int))
set_option maxRecDepth 10000 in
theorem mi_X3_check : MI gX3_check 2 := ⟨gwT_5 199 rfl rfl, gwT_1 8 rfl rfl, ⟨by decide, by decide, by decide +kernel⟩, by decide⟩
set_option maxRecDepth 10000 in
theorem lk_L_187 : Cond.methodLink "FatPointersLaw" 187 yX11_octet ∈ GW := gwT_5 200 rfl rfl
set_option maxRecDepth 10000 in
theorem im_X11_octet : Cond.instanceMethod yX11_octet ∈ GW := gwT_5 201 rfl rfl
set_option maxRecDepth 10000 in
theorem se_X11_octet : Cond.selects RX11 yX11_octet yX11_octet ∈ GW := gwT_5 202 rfl rfl
abbrev gX11_octet : mI := (yX11_octet, cX11_octet, 2, (some .int))
set_option maxRecDepth 10000 in
theorem mi_X11_octet : MI gX11_octet 1 := ⟨gwT_5 203 rfl rfl, gwT_1 1 rfl rfl, ⟨by decide, by decide, by decide +kernel⟩, by decide⟩
set_option maxRecDepth 10000 in
theorem lk_L_191 : Cond.methodLink "FatPointersLaw" 191 yX11_on ∈ GW := gwT_5 204 rfl rfl
set_option maxRecDepth 10000 in
theorem im_X11_on : Cond.instanceMethod yX11_on ∈ GW := gwT_5 205 rfl rfl
set_option maxRecDepth 10000 in
theorem se_X11_on : Cond.selects RX11 yX11_on yX11_on ∈ GW := gwT_5 206 rfl rfl
abbrev gX11_on : mI := (yX11_on, cX11_on, 2, (some .boolean))
set_option maxRecDepth 10000 in
theorem mi_X11_on : MI gX11_on 0 := ⟨gwT_5 207 rfl rfl, gwT_1 1 rfl rfl, ⟨by decide, by decide, by decide +kernel⟩, by decide⟩
set_option maxRecDepth 10000 in
theorem lk_X11_425 : Cond.methodLink RX11 425 yX3_read ∈ GW := gwT_5 208 rfl rfl
set_option maxRecDepth 10000 in
theorem sm_X3_read : Cond.static yX3_read ∈ GW := gwT_5 209 rfl rfl
abbrev gX3_read : mI := (yX3_read, cX3_read, 8, (some .boolean))
set_option maxRecDepth 10000 in
theorem mi_X3_read : MI gX3_read 4 := ⟨gwT_5 210 rfl rfl, gwT_1 8 rfl rfl, ⟨by decide, by decide, by decide +kernel⟩, by decide⟩
set_option maxRecDepth 10000 in
theorem lk_X3_95 : Cond.methodLink RX3 95 yX9_clear ∈ GW := gwT_5 211 rfl rfl
set_option maxRecDepth 10000 in
theorem lk_X3_98 : Cond.methodLink RX3 98 yX3_readCell ∈ GW := gwT_5 212 rfl rfl
set_option maxRecDepth 10000 in
theorem sm_X3_readCell : Cond.static yX3_readCell ∈ GW := gwT_5 213 rfl rfl
abbrev gX3_readCell : mI := (yX3_readCell, cX3_readCell, 6, (some .boolean))
set_option maxRecDepth 10000 in
theorem mi_X3_readCell : MI gX3_readCell 5 := ⟨gwT_5 214 rfl rfl, gwT_1 8 rfl rfl, ⟨by decide, by decide, by decide +kernel⟩, by decide⟩
set_option maxRecDepth 10000 in
theorem lk_X3_106 : Cond.methodLink RX3 106 yX3_isEmpty ∈ GW := gwT_5 215 rfl rfl
set_option maxRecDepth 10000 in
theorem sm_X3_isEmpty : Cond.static yX3_isEmpty ∈ GW := gwT_5 216 rfl rfl
abbrev gX3_isEmpty : mI := (yX3_isEmpty, cX3_isEmpty, 3, (some .boolean))
set_option maxRecDepth 10000 in
theorem mi_X3_isEmpty : MI gX3_isEmpty 2 := ⟨gwT_5 217 rfl rfl, gwT_1 8 rfl rfl, ⟨by decide, by decide, by decide +kernel⟩, by decide⟩
set_option maxRecDepth 10000 in
theorem lk_X3_110 : Cond.methodLink RX3 110 yX3_numberAt ∈ GW := gwT_5 218 rfl rfl
set_option maxRecDepth 10000 in
theorem sm_X3_numberAt : Cond.static yX3_numberAt ∈ GW := gwT_5 219 rfl rfl
abbrev gX3_numberAt : mI := (yX3_numberAt, cX3_numberAt, 2, (some .int))
set_option maxRecDepth 10000 in
theorem mi_X3_numberAt : MI gX3_numberAt 2 := ⟨gwT_5 220 rfl rfl, gwT_1 8 rfl rfl, ⟨by decide, by decide, by decide +kernel⟩, by decide⟩
set_option maxRecDepth 10000 in
theorem lk_X3_113 : Cond.methodLink RX3 113 yX3_twoAt ∈ GW := gwT_5 221 rfl rfl
set_option maxRecDepth 10000 in
theorem sm_X3_twoAt : Cond.static yX3_twoAt ∈ GW := gwT_5 222 rfl rfl
abbrev gX3_twoAt : mI := (yX3_twoAt, cX3_twoAt, 2, (some .int))
set_option maxRecDepth 10000 in
theorem mi_X3_twoAt : MI gX3_twoAt 2 := ⟨gwT_5 223 rfl rfl, gwT_1 8 rfl rfl, ⟨by decide, by decide, by decide +kernel⟩, by decide⟩
set_option maxRecDepth 10000 in
theorem lk_X3_122 : Cond.methodLink RX3 122 yX3_canBe ∈ GW := gwT_5 224 rfl rfl
set_option maxRecDepth 10000 in
theorem sm_X3_canBe : Cond.static yX3_canBe ∈ GW := gwT_5 225 rfl rfl
abbrev gX3_canBe : mI := (yX3_canBe, cX3_canBe, 3, (some .boolean))
set_option maxRecDepth 10000 in
theorem mi_X3_canBe : MI gX3_canBe 2 := ⟨gwT_5 226 rfl rfl, gwT_1 8 rfl rfl, ⟨by decide, by decide, by decide +kernel⟩, by decide⟩
set_option maxRecDepth 10000 in
theorem lk_X3_102 : Cond.methodLink RX3 102 yX3_readObject ∈ GW := gwT_5 227 rfl rfl
set_option maxRecDepth 10000 in
theorem sm_X3_readObject : Cond.static yX3_readObject ∈ GW := gwT_5 228 rfl rfl
abbrev gX3_readObject : mI := (yX3_readObject, cX3_readObject, 8, (some .boolean))
set_option maxRecDepth 10000 in
theorem mi_X3_readObject : MI gX3_readObject 4 := ⟨gwT_5 229 rfl rfl, gwT_1 8 rfl rfl, ⟨by decide, by decide, by decide +kernel⟩, by decide⟩
set_option maxRecDepth 10000 in
theorem lk_X3_126 : Cond.methodLink RX3 126 yX9_gapStart ∈ GW := gwT_5 230 rfl rfl
set_option maxRecDepth 10000 in
theorem lk_X3_133 : Cond.methodLink RX3 133 yX6_staysAsAsked ∈ GW := gwT_5 231 rfl rfl
set_option maxRecDepth 10000 in
theorem lk_X11_429 : Cond.methodLink RX11 429 yX9_become ∈ GW := gwT_5 232 rfl rfl
set_option maxRecDepth 10000 in
theorem lk_L_195 : Cond.methodLink "FatPointersLaw" 195 yX11_status ∈ GW := gwT_5 233 rfl rfl
set_option maxRecDepth 10000 in
theorem im_X11_status : Cond.instanceMethod yX11_status ∈ GW := gwT_5 234 rfl rfl
set_option maxRecDepth 10000 in
theorem se_X11_status : Cond.selects RX11 yX11_status yX11_status ∈ GW := gwT_5 235 rfl rfl
abbrev gX11_status : mI := (yX11_status, cX11_status, 2, (some .int))
set_option maxRecDepth 10000 in
theorem mi_X11_status : MI gX11_status 1 := ⟨gwT_5 236 rfl rfl, gwT_1 1 rfl rfl, ⟨by decide, by decide, by decide +kernel⟩, by decide⟩
set_option maxRecDepth 10000 in
theorem cl_L_10 : Cond.classLink "FatPointersLaw" 10 RX12 ∈ GW := gwT_5 237 rfl rfl
set_option maxRecDepth 10000 in
theorem is_X12 : Cond.instantiable RX12 103 ∈ GW := gwT_5 238 rfl rfl
set_option maxRecDepth 10000 in
theorem lk_L_12 : Cond.methodLink "FatPointersLaw" 12 yX12_init ∈ GW := gwT_5 239 rfl rfl
set_option maxRecDepth 10000 in
theorem im_X12_init : Cond.instanceMethod yX12_init ∈ GW := gwT_6 0 rfl rfl
abbrev gX12_init : mI := (yX12_init, cX12_init, 1, none)
set_option maxRecDepth 10000 in
theorem mi_X12_init : MI gX12_init 0 := ⟨gwT_6 1 rfl rfl, gwT_1 12 rfl rfl, ⟨by decide, by decide, by decide +kernel⟩, by decide⟩
set_option maxRecDepth 10000 in
theorem lk_X12_1 : Cond.methodLink RX12 1 objectInit ∈ GW := gwT_6 2 rfl rfl
set_option maxRecDepth 10000 in
theorem fr_X12_7 : FLr RX12 7 11 0 := ⟨ck11, (RX12, TX12, 103), rfl, by decide, gwT_6 3 rfl rfl⟩
set_option maxRecDepth 10000 in
theorem fl_X12_7 : FL RX12 7 11 0 true := ⟨fr_X12_7, (RX12, TX12, 103), rfl, rfl, fun _ => rfl⟩
set_option maxRecDepth 10000 in
theorem fr_X12_222 : FLr RX12 222 11 1 := ⟨ck11, (RX12, TX12, 103), rfl, by decide, gwT_6 4 rfl rfl⟩
set_option maxRecDepth 10000 in
theorem fl_X12_222 : FL RX12 222 11 1 false := ⟨fr_X12_222, (RX12, TX12, 103), rfl, rfl, fun h => by cases h⟩
set_option maxRecDepth 10000 in
theorem fr_X12_231 : FLr RX12 231 11 2 := ⟨ck11, (RX12, TX12, 103), rfl, by decide, gwT_6 5 rfl rfl⟩
set_option maxRecDepth 10000 in
theorem fl_X12_231 : FL RX12 231 11 2 false := ⟨fr_X12_231, (RX12, TX12, 103), rfl, rfl, fun h => by cases h⟩
set_option maxRecDepth 10000 in
theorem fr_X12_234 : FLr RX12 234 11 3 := ⟨ck11, (RX12, TX12, 103), rfl, by decide, gwT_6 6 rfl rfl⟩
set_option maxRecDepth 10000 in
theorem fl_X12_234 : FL RX12 234 11 3 false := ⟨fr_X12_234, (RX12, TX12, 103), rfl, rfl, fun h => by cases h⟩
set_option maxRecDepth 10000 in
theorem fr_X12_245 : FLr RX12 245 11 4 := ⟨ck11, (RX12, TX12, 103), rfl, by decide, gwT_6 7 rfl rfl⟩
set_option maxRecDepth 10000 in
theorem fl_X12_245 : FL RX12 245 11 4 false := ⟨fr_X12_245, (RX12, TX12, 103), rfl, rfl, fun h => by cases h⟩
set_option maxRecDepth 10000 in
theorem fr_X12_225 : FLr RX12 225 11 5 := ⟨ck11, (RX12, TX12, 103), rfl, by decide, gwT_6 8 rfl rfl⟩
set_option maxRecDepth 10000 in
theorem fl_X12_225 : FL RX12 225 11 5 false := ⟨fr_X12_225, (RX12, TX12, 103), rfl, rfl, fun h => by cases h⟩
set_option maxRecDepth 10000 in
theorem fr_X12_228 : FLr RX12 228 11 6 := ⟨ck11, (RX12, TX12, 103), rfl, by decide, gwT_6 9 rfl rfl⟩
set_option maxRecDepth 10000 in
theorem fl_X12_228 : FL RX12 228 11 6 false := ⟨fr_X12_228, (RX12, TX12, 103), rfl, rfl, fun h => by cases h⟩
set_option maxRecDepth 10000 in
theorem fr_X12_342 : FLr RX12 342 11 7 := ⟨ck11, (RX12, TX12, 103), rfl, by decide, gwT_6 10 rfl rfl⟩
set_option maxRecDepth 10000 in
theorem fl_X12_342 : FL RX12 342 11 7 false := ⟨fr_X12_342, (RX12, TX12, 103), rfl, rfl, fun h => by cases h⟩
set_option maxRecDepth 10000 in
theorem fr_X12_13 : FLr RX12 13 11 8 := ⟨ck11, (RX12, TX12, 103), rfl, by decide, gwT_6 11 rfl rfl⟩
set_option maxRecDepth 10000 in
theorem fl_X12_13 : FL RX12 13 11 8 false := ⟨fr_X12_13, (RX12, TX12, 103), rfl, rfl, fun h => by cases h⟩
set_option maxRecDepth 10000 in
theorem fr_X12_17 : FLr RX12 17 11 9 := ⟨ck11, (RX12, TX12, 103), rfl, by decide, gwT_6 12 rfl rfl⟩
set_option maxRecDepth 10000 in
theorem fl_X12_17 : FL RX12 17 11 9 true := ⟨fr_X12_17, (RX12, TX12, 103), rfl, rfl, fun _ => rfl⟩
set_option maxRecDepth 10000 in
theorem fr_X12_265 : FLr RX12 265 11 10 := ⟨ck11, (RX12, TX12, 103), rfl, by decide, gwT_6 13 rfl rfl⟩
set_option maxRecDepth 10000 in
theorem fl_X12_265 : FL RX12 265 11 10 false := ⟨fr_X12_265, (RX12, TX12, 103), rfl, rfl, fun h => by cases h⟩
set_option maxRecDepth 10000 in
theorem fr_X12_20 : FLr RX12 20 11 11 := ⟨ck11, (RX12, TX12, 103), rfl, by decide, gwT_6 14 rfl rfl⟩
set_option maxRecDepth 10000 in
theorem fl_X12_20 : FL RX12 20 11 11 true := ⟨fr_X12_20, (RX12, TX12, 103), rfl, rfl, fun _ => rfl⟩
set_option maxRecDepth 10000 in
theorem fr_X12_24 : FLr RX12 24 11 12 := ⟨ck11, (RX12, TX12, 103), rfl, by decide, gwT_6 15 rfl rfl⟩
set_option maxRecDepth 10000 in
theorem fl_X12_24 : FL RX12 24 11 12 true := ⟨fr_X12_24, (RX12, TX12, 103), rfl, rfl, fun _ => rfl⟩
set_option maxRecDepth 10000 in
theorem fr_X12_27 : FLr RX12 27 11 13 := ⟨ck11, (RX12, TX12, 103), rfl, by decide, gwT_6 16 rfl rfl⟩
set_option maxRecDepth 10000 in
theorem fl_X12_27 : FL RX12 27 11 13 true := ⟨fr_X12_27, (RX12, TX12, 103), rfl, rfl, fun _ => rfl⟩
set_option maxRecDepth 10000 in
theorem fr_X12_30 : FLr RX12 30 11 14 := ⟨ck11, (RX12, TX12, 103), rfl, by decide, gwT_6 17 rfl rfl⟩
set_option maxRecDepth 10000 in
theorem fl_X12_30 : FL RX12 30 11 14 true := ⟨fr_X12_30, (RX12, TX12, 103), rfl, rfl, fun _ => rfl⟩
set_option maxRecDepth 10000 in
theorem fr_X12_33 : FLr RX12 33 11 15 := ⟨ck11, (RX12, TX12, 103), rfl, by decide, gwT_6 18 rfl rfl⟩
set_option maxRecDepth 10000 in
theorem fl_X12_33 : FL RX12 33 11 15 true := ⟨fr_X12_33, (RX12, TX12, 103), rfl, rfl, fun _ => rfl⟩
set_option maxRecDepth 10000 in
theorem fr_X12_36 : FLr RX12 36 11 16 := ⟨ck11, (RX12, TX12, 103), rfl, by decide, gwT_6 19 rfl rfl⟩
set_option maxRecDepth 10000 in
theorem fl_X12_36 : FL RX12 36 11 16 true := ⟨fr_X12_36, (RX12, TX12, 103), rfl, rfl, fun _ => rfl⟩
set_option maxRecDepth 10000 in
theorem fr_X12_39 : FLr RX12 39 11 17 := ⟨ck11, (RX12, TX12, 103), rfl, by decide, gwT_6 20 rfl rfl⟩
set_option maxRecDepth 10000 in
theorem fl_X12_39 : FL RX12 39 11 17 true := ⟨fr_X12_39, (RX12, TX12, 103), rfl, rfl, fun _ => rfl⟩
set_option maxRecDepth 10000 in
theorem fr_X12_42 : FLr RX12 42 11 18 := ⟨ck11, (RX12, TX12, 103), rfl, by decide, gwT_6 21 rfl rfl⟩
set_option maxRecDepth 10000 in
theorem fl_X12_42 : FL RX12 42 11 18 true := ⟨fr_X12_42, (RX12, TX12, 103), rfl, rfl, fun _ => rfl⟩
set_option maxRecDepth 10000 in
theorem fr_X12_45 : FLr RX12 45 11 19 := ⟨ck11, (RX12, TX12, 103), rfl, by decide, gwT_6 22 rfl rfl⟩
set_option maxRecDepth 10000 in
theorem fl_X12_45 : FL RX12 45 11 19 true := ⟨fr_X12_45, (RX12, TX12, 103), rfl, rfl, fun _ => rfl⟩
set_option maxRecDepth 10000 in
theorem fr_X12_48 : FLr RX12 48 11 20 := ⟨ck11, (RX12, TX12, 103), rfl, by decide, gwT_6 23 rfl rfl⟩
set_option maxRecDepth 10000 in
theorem fl_X12_48 : FL RX12 48 11 20 true := ⟨fr_X12_48, (RX12, TX12, 103), rfl, rfl, fun _ => rfl⟩
set_option maxRecDepth 10000 in
theorem fr_X12_51 : FLr RX12 51 11 21 := ⟨ck11, (RX12, TX12, 103), rfl, by decide, gwT_6 24 rfl rfl⟩
set_option maxRecDepth 10000 in
theorem fl_X12_51 : FL RX12 51 11 21 true := ⟨fr_X12_51, (RX12, TX12, 103), rfl, rfl, fun _ => rfl⟩
set_option maxRecDepth 10000 in
theorem fr_X12_54 : FLr RX12 54 11 22 := ⟨ck11, (RX12, TX12, 103), rfl, by decide, gwT_6 25 rfl rfl⟩
set_option maxRecDepth 10000 in
theorem fl_X12_54 : FL RX12 54 11 22 true := ⟨fr_X12_54, (RX12, TX12, 103), rfl, rfl, fun _ => rfl⟩
set_option maxRecDepth 10000 in
theorem fr_X12_57 : FLr RX12 57 11 23 := ⟨ck11, (RX12, TX12, 103), rfl, by decide, gwT_6 26 rfl rfl⟩
set_option maxRecDepth 10000 in
theorem fl_X12_57 : FL RX12 57 11 23 true := ⟨fr_X12_57, (RX12, TX12, 103), rfl, rfl, fun _ => rfl⟩
set_option maxRecDepth 10000 in
theorem fr_X12_60 : FLr RX12 60 11 24 := ⟨ck11, (RX12, TX12, 103), rfl, by decide, gwT_6 27 rfl rfl⟩
set_option maxRecDepth 10000 in
theorem fl_X12_60 : FL RX12 60 11 24 true := ⟨fr_X12_60, (RX12, TX12, 103), rfl, rfl, fun _ => rfl⟩
set_option maxRecDepth 10000 in
theorem fr_X12_63 : FLr RX12 63 11 25 := ⟨ck11, (RX12, TX12, 103), rfl, by decide, gwT_6 28 rfl rfl⟩
set_option maxRecDepth 10000 in
theorem fl_X12_63 : FL RX12 63 11 25 true := ⟨fr_X12_63, (RX12, TX12, 103), rfl, rfl, fun _ => rfl⟩
set_option maxRecDepth 10000 in
theorem fr_X12_66 : FLr RX12 66 11 26 := ⟨ck11, (RX12, TX12, 103), rfl, by decide, gwT_6 29 rfl rfl⟩
set_option maxRecDepth 10000 in
theorem fl_X12_66 : FL RX12 66 11 26 true := ⟨fr_X12_66, (RX12, TX12, 103), rfl, rfl, fun _ => rfl⟩
set_option maxRecDepth 10000 in
theorem fr_X12_69 : FLr RX12 69 11 27 := ⟨ck11, (RX12, TX12, 103), rfl, by decide, gwT_6 30 rfl rfl⟩
set_option maxRecDepth 10000 in
theorem fl_X12_69 : FL RX12 69 11 27 true := ⟨fr_X12_69, (RX12, TX12, 103), rfl, rfl, fun _ => rfl⟩
set_option maxRecDepth 10000 in
theorem fr_X12_72 : FLr RX12 72 11 28 := ⟨ck11, (RX12, TX12, 103), rfl, by decide, gwT_6 31 rfl rfl⟩
set_option maxRecDepth 10000 in
theorem fl_X12_72 : FL RX12 72 11 28 true := ⟨fr_X12_72, (RX12, TX12, 103), rfl, rfl, fun _ => rfl⟩
set_option maxRecDepth 10000 in
theorem fr_X12_75 : FLr RX12 75 11 29 := ⟨ck11, (RX12, TX12, 103), rfl, by decide, gwT_6 32 rfl rfl⟩
set_option maxRecDepth 10000 in
theorem fl_X12_75 : FL RX12 75 11 29 true := ⟨fr_X12_75, (RX12, TX12, 103), rfl, rfl, fun _ => rfl⟩
set_option maxRecDepth 10000 in
theorem fr_X12_78 : FLr RX12 78 11 30 := ⟨ck11, (RX12, TX12, 103), rfl, by decide, gwT_6 33 rfl rfl⟩
set_option maxRecDepth 10000 in
theorem fl_X12_78 : FL RX12 78 11 30 true := ⟨fr_X12_78, (RX12, TX12, 103), rfl, rfl, fun _ => rfl⟩
set_option maxRecDepth 10000 in
theorem fr_X12_81 : FLr RX12 81 11 31 := ⟨ck11, (RX12, TX12, 103), rfl, by decide, gwT_6 34 rfl rfl⟩
set_option maxRecDepth 10000 in
theorem fl_X12_81 : FL RX12 81 11 31 true := ⟨fr_X12_81, (RX12, TX12, 103), rfl, rfl, fun _ => rfl⟩
set_option maxRecDepth 10000 in
theorem fr_X12_84 : FLr RX12 84 11 32 := ⟨ck11, (RX12, TX12, 103), rfl, by decide, gwT_6 35 rfl rfl⟩
set_option maxRecDepth 10000 in
theorem fl_X12_84 : FL RX12 84 11 32 true := ⟨fr_X12_84, (RX12, TX12, 103), rfl, rfl, fun _ => rfl⟩
set_option maxRecDepth 10000 in
theorem fr_X12_87 : FLr RX12 87 11 33 := ⟨ck11, (RX12, TX12, 103), rfl, by decide, gwT_6 36 rfl rfl⟩
set_option maxRecDepth 10000 in
theorem fl_X12_87 : FL RX12 87 11 33 true := ⟨fr_X12_87, (RX12, TX12, 103), rfl, rfl, fun _ => rfl⟩
set_option maxRecDepth 10000 in
theorem fr_X12_90 : FLr RX12 90 11 34 := ⟨ck11, (RX12, TX12, 103), rfl, by decide, gwT_6 37 rfl rfl⟩
set_option maxRecDepth 10000 in
theorem fl_X12_90 : FL RX12 90 11 34 true := ⟨fr_X12_90, (RX12, TX12, 103), rfl, rfl, fun _ => rfl⟩
set_option maxRecDepth 10000 in
theorem fr_X12_93 : FLr RX12 93 11 35 := ⟨ck11, (RX12, TX12, 103), rfl, by decide, gwT_6 38 rfl rfl⟩
set_option maxRecDepth 10000 in
theorem fl_X12_93 : FL RX12 93 11 35 true := ⟨fr_X12_93, (RX12, TX12, 103), rfl, rfl, fun _ => rfl⟩
set_option maxRecDepth 10000 in
theorem fr_X12_276 : FLr RX12 276 11 36 := ⟨ck11, (RX12, TX12, 103), rfl, by decide, gwT_6 39 rfl rfl⟩
set_option maxRecDepth 10000 in
theorem fl_X12_276 : FL RX12 276 11 36 false := ⟨fr_X12_276, (RX12, TX12, 103), rfl, rfl, fun h => by cases h⟩
set_option maxRecDepth 10000 in
theorem fr_X12_96 : FLr RX12 96 11 37 := ⟨ck11, (RX12, TX12, 103), rfl, by decide, gwT_6 40 rfl rfl⟩
set_option maxRecDepth 10000 in
theorem fl_X12_96 : FL RX12 96 11 37 true := ⟨fr_X12_96, (RX12, TX12, 103), rfl, rfl, fun _ => rfl⟩
set_option maxRecDepth 10000 in
theorem fr_X12_99 : FLr RX12 99 11 38 := ⟨ck11, (RX12, TX12, 103), rfl, by decide, gwT_6 41 rfl rfl⟩
set_option maxRecDepth 10000 in
theorem fl_X12_99 : FL RX12 99 11 38 true := ⟨fr_X12_99, (RX12, TX12, 103), rfl, rfl, fun _ => rfl⟩
set_option maxRecDepth 10000 in
theorem fr_X12_103 : FLr RX12 103 11 39 := ⟨ck11, (RX12, TX12, 103), rfl, by decide, gwT_6 42 rfl rfl⟩
set_option maxRecDepth 10000 in
theorem fl_X12_103 : FL RX12 103 11 39 true := ⟨fr_X12_103, (RX12, TX12, 103), rfl, rfl, fun _ => rfl⟩
set_option maxRecDepth 10000 in
theorem fr_X12_106 : FLr RX12 106 11 40 := ⟨ck11, (RX12, TX12, 103), rfl, by decide, gwT_6 43 rfl rfl⟩
set_option maxRecDepth 10000 in
theorem fl_X12_106 : FL RX12 106 11 40 true := ⟨fr_X12_106, (RX12, TX12, 103), rfl, rfl, fun _ => rfl⟩
set_option maxRecDepth 10000 in
theorem fr_X12_109 : FLr RX12 109 11 41 := ⟨ck11, (RX12, TX12, 103), rfl, by decide, gwT_6 44 rfl rfl⟩
set_option maxRecDepth 10000 in
theorem fl_X12_109 : FL RX12 109 11 41 true := ⟨fr_X12_109, (RX12, TX12, 103), rfl, rfl, fun _ => rfl⟩
set_option maxRecDepth 10000 in
theorem fr_X12_112 : FLr RX12 112 11 42 := ⟨ck11, (RX12, TX12, 103), rfl, by decide, gwT_6 45 rfl rfl⟩
set_option maxRecDepth 10000 in
theorem fl_X12_112 : FL RX12 112 11 42 true := ⟨fr_X12_112, (RX12, TX12, 103), rfl, rfl, fun _ => rfl⟩
set_option maxRecDepth 10000 in
theorem fr_X12_324 : FLr RX12 324 11 43 := ⟨ck11, (RX12, TX12, 103), rfl, by decide, gwT_6 46 rfl rfl⟩
set_option maxRecDepth 10000 in
theorem fl_X12_324 : FL RX12 324 11 43 false := ⟨fr_X12_324, (RX12, TX12, 103), rfl, rfl, fun h => by cases h⟩
set_option maxRecDepth 10000 in
theorem fr_X12_327 : FLr RX12 327 11 44 := ⟨ck11, (RX12, TX12, 103), rfl, by decide, gwT_6 47 rfl rfl⟩
set_option maxRecDepth 10000 in
theorem fl_X12_327 : FL RX12 327 11 44 false := ⟨fr_X12_327, (RX12, TX12, 103), rfl, rfl, fun h => by cases h⟩
set_option maxRecDepth 10000 in
theorem fr_X12_352 : FLr RX12 352 11 45 := ⟨ck11, (RX12, TX12, 103), rfl, by decide, gwT_6 48 rfl rfl⟩
set_option maxRecDepth 10000 in
theorem fl_X12_352 : FL RX12 352 11 45 false := ⟨fr_X12_352, (RX12, TX12, 103), rfl, rfl, fun h => by cases h⟩
set_option maxRecDepth 10000 in
theorem fr_X12_283 : FLr RX12 283 11 46 := ⟨ck11, (RX12, TX12, 103), rfl, by decide, gwT_6 49 rfl rfl⟩
set_option maxRecDepth 10000 in
theorem fl_X12_283 : FL RX12 283 11 46 false := ⟨fr_X12_283, (RX12, TX12, 103), rfl, rfl, fun h => by cases h⟩
set_option maxRecDepth 10000 in
theorem fr_X12_115 : FLr RX12 115 11 47 := ⟨ck11, (RX12, TX12, 103), rfl, by decide, gwT_6 50 rfl rfl⟩
set_option maxRecDepth 10000 in
theorem fl_X12_115 : FL RX12 115 11 47 true := ⟨fr_X12_115, (RX12, TX12, 103), rfl, rfl, fun _ => rfl⟩
set_option maxRecDepth 10000 in
theorem fr_X12_551 : FLr RX12 551 11 48 := ⟨ck11, (RX12, TX12, 103), rfl, by decide, gwT_6 51 rfl rfl⟩
set_option maxRecDepth 10000 in
theorem fl_X12_551 : FL RX12 551 11 48 false := ⟨fr_X12_551, (RX12, TX12, 103), rfl, rfl, fun h => by cases h⟩
set_option maxRecDepth 10000 in
theorem fr_X12_431 : FLr RX12 431 11 49 := ⟨ck11, (RX12, TX12, 103), rfl, by decide, gwT_6 52 rfl rfl⟩
set_option maxRecDepth 10000 in
theorem fl_X12_431 : FL RX12 431 11 49 false := ⟨fr_X12_431, (RX12, TX12, 103), rfl, rfl, fun h => by cases h⟩
set_option maxRecDepth 10000 in
theorem fr_X12_451 : FLr RX12 451 11 50 := ⟨ck11, (RX12, TX12, 103), rfl, by decide, gwT_6 53 rfl rfl⟩
set_option maxRecDepth 10000 in
theorem fl_X12_451 : FL RX12 451 11 50 false := ⟨fr_X12_451, (RX12, TX12, 103), rfl, rfl, fun h => by cases h⟩
set_option maxRecDepth 10000 in
theorem fr_X12_454 : FLr RX12 454 11 51 := ⟨ck11, (RX12, TX12, 103), rfl, by decide, gwT_6 54 rfl rfl⟩
set_option maxRecDepth 10000 in
theorem fl_X12_454 : FL RX12 454 11 51 false := ⟨fr_X12_454, (RX12, TX12, 103), rfl, rfl, fun h => by cases h⟩
set_option maxRecDepth 10000 in
theorem fr_X12_387 : FLr RX12 387 11 52 := ⟨ck11, (RX12, TX12, 103), rfl, by decide, gwT_6 55 rfl rfl⟩
set_option maxRecDepth 10000 in
theorem fl_X12_387 : FL RX12 387 11 52 false := ⟨fr_X12_387, (RX12, TX12, 103), rfl, rfl, fun h => by cases h⟩
set_option maxRecDepth 10000 in
theorem fr_X12_390 : FLr RX12 390 11 53 := ⟨ck11, (RX12, TX12, 103), rfl, by decide, gwT_6 56 rfl rfl⟩
set_option maxRecDepth 10000 in
theorem fl_X12_390 : FL RX12 390 11 53 false := ⟨fr_X12_390, (RX12, TX12, 103), rfl, rfl, fun h => by cases h⟩
set_option maxRecDepth 10000 in
theorem fr_X12_393 : FLr RX12 393 11 54 := ⟨ck11, (RX12, TX12, 103), rfl, by decide, gwT_6 57 rfl rfl⟩
set_option maxRecDepth 10000 in
theorem fl_X12_393 : FL RX12 393 11 54 false := ⟨fr_X12_393, (RX12, TX12, 103), rfl, rfl, fun h => by cases h⟩
set_option maxRecDepth 10000 in
theorem fr_X12_422 : FLr RX12 422 11 55 := ⟨ck11, (RX12, TX12, 103), rfl, by decide, gwT_6 58 rfl rfl⟩
set_option maxRecDepth 10000 in
theorem fl_X12_422 : FL RX12 422 11 55 false := ⟨fr_X12_422, (RX12, TX12, 103), rfl, rfl, fun h => by cases h⟩
set_option maxRecDepth 10000 in
theorem fr_X12_118 : FLr RX12 118 11 56 := ⟨ck11, (RX12, TX12, 103), rfl, by decide, gwT_6 59 rfl rfl⟩
set_option maxRecDepth 10000 in
theorem fl_X12_118 : FL RX12 118 11 56 true := ⟨fr_X12_118, (RX12, TX12, 103), rfl, rfl, fun _ => rfl⟩
set_option maxRecDepth 10000 in
theorem fr_X12_445 : FLr RX12 445 11 57 := ⟨ck11, (RX12, TX12, 103), rfl, by decide, gwT_6 60 rfl rfl⟩
set_option maxRecDepth 10000 in
theorem fl_X12_445 : FL RX12 445 11 57 false := ⟨fr_X12_445, (RX12, TX12, 103), rfl, rfl, fun h => by cases h⟩
set_option maxRecDepth 10000 in
theorem fr_X12_365 : FLr RX12 365 11 58 := ⟨ck11, (RX12, TX12, 103), rfl, by decide, gwT_6 61 rfl rfl⟩
set_option maxRecDepth 10000 in
theorem fl_X12_365 : FL RX12 365 11 58 false := ⟨fr_X12_365, (RX12, TX12, 103), rfl, rfl, fun h => by cases h⟩
set_option maxRecDepth 10000 in
theorem fr_X12_121 : FLr RX12 121 11 59 := ⟨ck11, (RX12, TX12, 103), rfl, by decide, gwT_6 62 rfl rfl⟩
set_option maxRecDepth 10000 in
theorem fl_X12_121 : FL RX12 121 11 59 true := ⟨fr_X12_121, (RX12, TX12, 103), rfl, rfl, fun _ => rfl⟩
set_option maxRecDepth 10000 in
theorem fr_X12_124 : FLr RX12 124 11 60 := ⟨ck11, (RX12, TX12, 103), rfl, by decide, gwT_6 63 rfl rfl⟩
set_option maxRecDepth 10000 in
theorem fl_X12_124 : FL RX12 124 11 60 true := ⟨fr_X12_124, (RX12, TX12, 103), rfl, rfl, fun _ => rfl⟩
set_option maxRecDepth 10000 in
theorem fr_X12_516 : FLr RX12 516 11 61 := ⟨ck11, (RX12, TX12, 103), rfl, by decide, gwT_6 64 rfl rfl⟩
set_option maxRecDepth 10000 in
theorem fl_X12_516 : FL RX12 516 11 61 false := ⟨fr_X12_516, (RX12, TX12, 103), rfl, rfl, fun h => by cases h⟩
set_option maxRecDepth 10000 in
theorem fr_X12_128 : FLr RX12 128 11 62 := ⟨ck11, (RX12, TX12, 103), rfl, by decide, gwT_6 65 rfl rfl⟩
set_option maxRecDepth 10000 in
theorem fl_X12_128 : FL RX12 128 11 62 true := ⟨fr_X12_128, (RX12, TX12, 103), rfl, rfl, fun _ => rfl⟩
set_option maxRecDepth 10000 in
theorem fr_X12_362 : FLr RX12 362 11 63 := ⟨ck11, (RX12, TX12, 103), rfl, by decide, gwT_6 66 rfl rfl⟩
set_option maxRecDepth 10000 in
theorem fl_X12_362 : FL RX12 362 11 63 false := ⟨fr_X12_362, (RX12, TX12, 103), rfl, rfl, fun h => by cases h⟩
set_option maxRecDepth 10000 in
theorem fr_X12_525 : FLr RX12 525 11 64 := ⟨ck11, (RX12, TX12, 103), rfl, by decide, gwT_6 67 rfl rfl⟩
set_option maxRecDepth 10000 in
theorem fl_X12_525 : FL RX12 525 11 64 false := ⟨fr_X12_525, (RX12, TX12, 103), rfl, rfl, fun h => by cases h⟩
set_option maxRecDepth 10000 in
theorem fr_X12_131 : FLr RX12 131 11 65 := ⟨ck11, (RX12, TX12, 103), rfl, by decide, gwT_6 68 rfl rfl⟩
set_option maxRecDepth 10000 in
theorem fl_X12_131 : FL RX12 131 11 65 false := ⟨fr_X12_131, (RX12, TX12, 103), rfl, rfl, fun h => by cases h⟩
set_option maxRecDepth 10000 in
theorem fr_X12_135 : FLr RX12 135 11 66 := ⟨ck11, (RX12, TX12, 103), rfl, by decide, gwT_6 69 rfl rfl⟩
set_option maxRecDepth 10000 in
theorem fl_X12_135 : FL RX12 135 11 66 true := ⟨fr_X12_135, (RX12, TX12, 103), rfl, rfl, fun _ => rfl⟩
set_option maxRecDepth 10000 in
theorem fr_X12_138 : FLr RX12 138 11 67 := ⟨ck11, (RX12, TX12, 103), rfl, by decide, gwT_6 70 rfl rfl⟩
set_option maxRecDepth 10000 in
theorem fl_X12_138 : FL RX12 138 11 67 true := ⟨fr_X12_138, (RX12, TX12, 103), rfl, rfl, fun _ => rfl⟩
set_option maxRecDepth 10000 in
theorem fr_X12_141 : FLr RX12 141 11 68 := ⟨ck11, (RX12, TX12, 103), rfl, by decide, gwT_6 71 rfl rfl⟩
set_option maxRecDepth 10000 in
theorem fl_X12_141 : FL RX12 141 11 68 true := ⟨fr_X12_141, (RX12, TX12, 103), rfl, rfl, fun _ => rfl⟩
set_option maxRecDepth 10000 in
theorem fr_X12_144 : FLr RX12 144 11 69 := ⟨ck11, (RX12, TX12, 103), rfl, by decide, gwT_6 72 rfl rfl⟩
set_option maxRecDepth 10000 in
theorem fl_X12_144 : FL RX12 144 11 69 true := ⟨fr_X12_144, (RX12, TX12, 103), rfl, rfl, fun _ => rfl⟩
set_option maxRecDepth 10000 in
theorem fr_X12_147 : FLr RX12 147 11 70 := ⟨ck11, (RX12, TX12, 103), rfl, by decide, gwT_6 73 rfl rfl⟩
set_option maxRecDepth 10000 in
theorem fl_X12_147 : FL RX12 147 11 70 true := ⟨fr_X12_147, (RX12, TX12, 103), rfl, rfl, fun _ => rfl⟩
set_option maxRecDepth 10000 in
theorem fr_X12_150 : FLr RX12 150 11 71 := ⟨ck11, (RX12, TX12, 103), rfl, by decide, gwT_6 74 rfl rfl⟩
set_option maxRecDepth 10000 in
theorem fl_X12_150 : FL RX12 150 11 71 true := ⟨fr_X12_150, (RX12, TX12, 103), rfl, rfl, fun _ => rfl⟩
set_option maxRecDepth 10000 in
theorem fr_X12_153 : FLr RX12 153 11 72 := ⟨ck11, (RX12, TX12, 103), rfl, by decide, gwT_6 75 rfl rfl⟩
set_option maxRecDepth 10000 in
theorem fl_X12_153 : FL RX12 153 11 72 true := ⟨fr_X12_153, (RX12, TX12, 103), rfl, rfl, fun _ => rfl⟩
set_option maxRecDepth 10000 in
theorem fr_X12_156 : FLr RX12 156 11 73 := ⟨ck11, (RX12, TX12, 103), rfl, by decide, gwT_6 76 rfl rfl⟩
set_option maxRecDepth 10000 in
theorem fl_X12_156 : FL RX12 156 11 73 true := ⟨fr_X12_156, (RX12, TX12, 103), rfl, rfl, fun _ => rfl⟩
set_option maxRecDepth 10000 in
theorem fr_X12_159 : FLr RX12 159 11 74 := ⟨ck11, (RX12, TX12, 103), rfl, by decide, gwT_6 77 rfl rfl⟩
set_option maxRecDepth 10000 in
theorem fl_X12_159 : FL RX12 159 11 74 true := ⟨fr_X12_159, (RX12, TX12, 103), rfl, rfl, fun _ => rfl⟩
set_option maxRecDepth 10000 in
theorem fr_X12_162 : FLr RX12 162 11 75 := ⟨ck11, (RX12, TX12, 103), rfl, by decide, gwT_6 78 rfl rfl⟩
set_option maxRecDepth 10000 in
theorem fl_X12_162 : FL RX12 162 11 75 true := ⟨fr_X12_162, (RX12, TX12, 103), rfl, rfl, fun _ => rfl⟩
set_option maxRecDepth 10000 in
theorem fr_X12_165 : FLr RX12 165 11 76 := ⟨ck11, (RX12, TX12, 103), rfl, by decide, gwT_6 79 rfl rfl⟩
set_option maxRecDepth 10000 in
theorem fl_X12_165 : FL RX12 165 11 76 true := ⟨fr_X12_165, (RX12, TX12, 103), rfl, rfl, fun _ => rfl⟩
set_option maxRecDepth 10000 in
theorem fr_X12_168 : FLr RX12 168 11 77 := ⟨ck11, (RX12, TX12, 103), rfl, by decide, gwT_6 80 rfl rfl⟩
set_option maxRecDepth 10000 in
theorem fl_X12_168 : FL RX12 168 11 77 true := ⟨fr_X12_168, (RX12, TX12, 103), rfl, rfl, fun _ => rfl⟩
set_option maxRecDepth 10000 in
theorem fr_X12_171 : FLr RX12 171 11 78 := ⟨ck11, (RX12, TX12, 103), rfl, by decide, gwT_6 81 rfl rfl⟩
set_option maxRecDepth 10000 in
theorem fl_X12_171 : FL RX12 171 11 78 true := ⟨fr_X12_171, (RX12, TX12, 103), rfl, rfl, fun _ => rfl⟩
set_option maxRecDepth 10000 in
theorem fr_X12_174 : FLr RX12 174 11 79 := ⟨ck11, (RX12, TX12, 103), rfl, by decide, gwT_6 82 rfl rfl⟩
set_option maxRecDepth 10000 in
theorem fl_X12_174 : FL RX12 174 11 79 true := ⟨fr_X12_174, (RX12, TX12, 103), rfl, rfl, fun _ => rfl⟩
set_option maxRecDepth 10000 in
theorem fr_X12_177 : FLr RX12 177 11 80 := ⟨ck11, (RX12, TX12, 103), rfl, by decide, gwT_6 83 rfl rfl⟩
set_option maxRecDepth 10000 in
theorem fl_X12_177 : FL RX12 177 11 80 true := ⟨fr_X12_177, (RX12, TX12, 103), rfl, rfl, fun _ => rfl⟩
set_option maxRecDepth 10000 in
theorem fr_X12_180 : FLr RX12 180 11 81 := ⟨ck11, (RX12, TX12, 103), rfl, by decide, gwT_6 84 rfl rfl⟩
set_option maxRecDepth 10000 in
theorem fl_X12_180 : FL RX12 180 11 81 true := ⟨fr_X12_180, (RX12, TX12, 103), rfl, rfl, fun _ => rfl⟩
set_option maxRecDepth 10000 in
theorem fr_X12_183 : FLr RX12 183 11 82 := ⟨ck11, (RX12, TX12, 103), rfl, by decide, gwT_6 85 rfl rfl⟩
set_option maxRecDepth 10000 in
theorem fl_X12_183 : FL RX12 183 11 82 true := ⟨fr_X12_183, (RX12, TX12, 103), rfl, rfl, fun _ => rfl⟩
set_option maxRecDepth 10000 in
theorem fr_X12_186 : FLr RX12 186 11 83 := ⟨ck11, (RX12, TX12, 103), rfl, by decide, gwT_6 86 rfl rfl⟩
set_option maxRecDepth 10000 in
theorem fl_X12_186 : FL RX12 186 11 83 true := ⟨fr_X12_186, (RX12, TX12, 103), rfl, rfl, fun _ => rfl⟩
set_option maxRecDepth 10000 in
theorem fr_X12_189 : FLr RX12 189 11 84 := ⟨ck11, (RX12, TX12, 103), rfl, by decide, gwT_6 87 rfl rfl⟩
set_option maxRecDepth 10000 in
theorem fl_X12_189 : FL RX12 189 11 84 true := ⟨fr_X12_189, (RX12, TX12, 103), rfl, rfl, fun _ => rfl⟩
set_option maxRecDepth 10000 in
theorem fr_X12_192 : FLr RX12 192 11 85 := ⟨ck11, (RX12, TX12, 103), rfl, by decide, gwT_6 88 rfl rfl⟩
set_option maxRecDepth 10000 in
theorem fl_X12_192 : FL RX12 192 11 85 true := ⟨fr_X12_192, (RX12, TX12, 103), rfl, rfl, fun _ => rfl⟩
set_option maxRecDepth 10000 in
theorem fr_X12_195 : FLr RX12 195 11 86 := ⟨ck11, (RX12, TX12, 103), rfl, by decide, gwT_6 89 rfl rfl⟩
set_option maxRecDepth 10000 in
theorem fl_X12_195 : FL RX12 195 11 86 true := ⟨fr_X12_195, (RX12, TX12, 103), rfl, rfl, fun _ => rfl⟩
set_option maxRecDepth 10000 in
theorem fr_X12_198 : FLr RX12 198 11 87 := ⟨ck11, (RX12, TX12, 103), rfl, by decide, gwT_6 90 rfl rfl⟩
set_option maxRecDepth 10000 in
theorem fl_X12_198 : FL RX12 198 11 87 true := ⟨fr_X12_198, (RX12, TX12, 103), rfl, rfl, fun _ => rfl⟩
set_option maxRecDepth 10000 in
theorem fr_X12_201 : FLr RX12 201 11 88 := ⟨ck11, (RX12, TX12, 103), rfl, by decide, gwT_6 91 rfl rfl⟩
set_option maxRecDepth 10000 in
theorem fl_X12_201 : FL RX12 201 11 88 true := ⟨fr_X12_201, (RX12, TX12, 103), rfl, rfl, fun _ => rfl⟩
set_option maxRecDepth 10000 in
theorem fr_X12_204 : FLr RX12 204 11 89 := ⟨ck11, (RX12, TX12, 103), rfl, by decide, gwT_6 92 rfl rfl⟩
set_option maxRecDepth 10000 in
theorem fl_X12_204 : FL RX12 204 11 89 true := ⟨fr_X12_204, (RX12, TX12, 103), rfl, rfl, fun _ => rfl⟩
set_option maxRecDepth 10000 in
theorem fr_X12_207 : FLr RX12 207 11 90 := ⟨ck11, (RX12, TX12, 103), rfl, by decide, gwT_6 93 rfl rfl⟩
set_option maxRecDepth 10000 in
theorem fl_X12_207 : FL RX12 207 11 90 true := ⟨fr_X12_207, (RX12, TX12, 103), rfl, rfl, fun _ => rfl⟩
set_option maxRecDepth 10000 in
theorem fr_X12_210 : FLr RX12 210 11 91 := ⟨ck11, (RX12, TX12, 103), rfl, by decide, gwT_6 94 rfl rfl⟩
set_option maxRecDepth 10000 in
theorem fl_X12_210 : FL RX12 210 11 91 true := ⟨fr_X12_210, (RX12, TX12, 103), rfl, rfl, fun _ => rfl⟩
set_option maxRecDepth 10000 in
theorem fr_X12_306 : FLr RX12 306 11 92 := ⟨ck11, (RX12, TX12, 103), rfl, by decide, gwT_6 95 rfl rfl⟩
set_option maxRecDepth 10000 in
theorem fl_X12_306 : FL RX12 306 11 92 false := ⟨fr_X12_306, (RX12, TX12, 103), rfl, rfl, fun h => by cases h⟩
set_option maxRecDepth 10000 in
theorem fr_X12_213 : FLr RX12 213 11 93 := ⟨ck11, (RX12, TX12, 103), rfl, by decide, gwT_6 96 rfl rfl⟩
set_option maxRecDepth 10000 in
theorem fl_X12_213 : FL RX12 213 11 93 true := ⟨fr_X12_213, (RX12, TX12, 103), rfl, rfl, fun _ => rfl⟩
set_option maxRecDepth 10000 in
theorem fr_X12_309 : FLr RX12 309 11 94 := ⟨ck11, (RX12, TX12, 103), rfl, by decide, gwT_6 97 rfl rfl⟩
set_option maxRecDepth 10000 in
theorem fl_X12_309 : FL RX12 309 11 94 false := ⟨fr_X12_309, (RX12, TX12, 103), rfl, rfl, fun h => by cases h⟩
set_option maxRecDepth 10000 in
theorem fr_X12_312 : FLr RX12 312 11 95 := ⟨ck11, (RX12, TX12, 103), rfl, by decide, gwT_6 98 rfl rfl⟩
set_option maxRecDepth 10000 in
theorem fl_X12_312 : FL RX12 312 11 95 false := ⟨fr_X12_312, (RX12, TX12, 103), rfl, rfl, fun h => by cases h⟩
set_option maxRecDepth 10000 in
theorem fr_X12_315 : FLr RX12 315 11 96 := ⟨ck11, (RX12, TX12, 103), rfl, by decide, gwT_6 99 rfl rfl⟩
set_option maxRecDepth 10000 in
theorem fl_X12_315 : FL RX12 315 11 96 false := ⟨fr_X12_315, (RX12, TX12, 103), rfl, rfl, fun h => by cases h⟩
set_option maxRecDepth 10000 in
theorem fr_X12_216 : FLr RX12 216 11 97 := ⟨ck11, (RX12, TX12, 103), rfl, by decide, gwT_6 100 rfl rfl⟩
set_option maxRecDepth 10000 in
theorem fl_X12_216 : FL RX12 216 11 97 true := ⟨fr_X12_216, (RX12, TX12, 103), rfl, rfl, fun _ => rfl⟩
set_option maxRecDepth 10000 in
theorem fr_X12_373 : FLr RX12 373 11 98 := ⟨ck11, (RX12, TX12, 103), rfl, by decide, gwT_6 101 rfl rfl⟩
set_option maxRecDepth 10000 in
theorem fl_X12_373 : FL RX12 373 11 98 false := ⟨fr_X12_373, (RX12, TX12, 103), rfl, rfl, fun h => by cases h⟩
set_option maxRecDepth 10000 in
theorem fr_X12_645 : FLr RX12 645 11 99 := ⟨ck11, (RX12, TX12, 103), rfl, by decide, gwT_6 102 rfl rfl⟩
set_option maxRecDepth 10000 in
theorem fl_X12_645 : FL RX12 645 11 99 false := ⟨fr_X12_645, (RX12, TX12, 103), rfl, rfl, fun h => by cases h⟩
set_option maxRecDepth 10000 in
theorem fr_X12_650 : FLr RX12 650 11 100 := ⟨ck11, (RX12, TX12, 103), rfl, by decide, gwT_6 103 rfl rfl⟩
set_option maxRecDepth 10000 in
theorem fl_X12_650 : FL RX12 650 11 100 false := ⟨fr_X12_650, (RX12, TX12, 103), rfl, rfl, fun h => by cases h⟩
set_option maxRecDepth 10000 in
theorem fr_X12_219 : FLr RX12 219 11 101 := ⟨ck11, (RX12, TX12, 103), rfl, by decide, gwT_6 104 rfl rfl⟩
set_option maxRecDepth 10000 in
theorem fl_X12_219 : FL RX12 219 11 101 true := ⟨fr_X12_219, (RX12, TX12, 103), rfl, rfl, fun _ => rfl⟩
set_option maxRecDepth 10000 in
theorem fr_X12_665 : FLr RX12 665 11 102 := ⟨ck11, (RX12, TX12, 103), rfl, by decide, gwT_6 105 rfl rfl⟩
set_option maxRecDepth 10000 in
theorem fl_X12_665 : FL RX12 665 11 102 false := ⟨fr_X12_665, (RX12, TX12, 103), rfl, rfl, fun h => by cases h⟩
set_option maxRecDepth 10000 in
theorem ac_char : Cond.arrayClass .char ∈ GW := gwT_7 73 rfl rfl
set_option maxRecDepth 10000 in
theorem ac_long : Cond.arrayClass .long ∈ GW := gwT_7 74 rfl rfl
set_option maxRecDepth 10000 in
theorem lk_L_17 : Cond.methodLink "FatPointersLaw" 17 yX12_feed ∈ GW := gwT_7 75 rfl rfl
set_option maxRecDepth 10000 in
theorem im_X12_feed : Cond.instanceMethod yX12_feed ∈ GW := gwT_7 76 rfl rfl
set_option maxRecDepth 10000 in
theorem se_X12_feed : Cond.selects RX12 yX12_feed yX12_feed ∈ GW := gwT_7 77 rfl rfl
abbrev gX12_feed : mI := (yX12_feed, cX12_feed, 8, (some .int))
set_option maxRecDepth 10000 in
theorem mi_X12_feed : MI gX12_feed 5 := ⟨gwT_7 78 rfl rfl, gwT_1 12 rfl rfl, ⟨by decide, by decide, by decide +kernel⟩, by decide⟩
set_option maxRecDepth 10000 in
theorem lk_L_22 : Cond.methodLink "FatPointersLaw" 22 yX12_end ∈ GW := gwT_7 79 rfl rfl
set_option maxRecDepth 10000 in
theorem im_X12_end : Cond.instanceMethod yX12_end ∈ GW := gwT_7 80 rfl rfl
set_option maxRecDepth 10000 in
theorem se_X12_end : Cond.selects RX12 yX12_end yX12_end ∈ GW := gwT_7 81 rfl rfl
abbrev gX12_end : mI := (yX12_end, cX12_end, 2, (some .boolean))
set_option maxRecDepth 10000 in
theorem mi_X12_end : MI gX12_end 1 := ⟨gwT_7 82 rfl rfl, gwT_1 12 rfl rfl, ⟨by decide, by decide, by decide +kernel⟩, by decide⟩
set_option maxRecDepth 10000 in
theorem lk_L_27 : Cond.methodLink "FatPointersLaw" 27 yX12_machine ∈ GW := gwT_7 83 rfl rfl
set_option maxRecDepth 10000 in
theorem im_X12_machine : Cond.instanceMethod yX12_machine ∈ GW := gwT_7 84 rfl rfl
set_option maxRecDepth 10000 in
theorem se_X12_machine : Cond.selects RX12 yX12_machine yX12_machine ∈ GW := gwT_7 85 rfl rfl
abbrev gX12_machine : mI := (yX12_machine, cX12_machine, 2, (some .int))
set_option maxRecDepth 10000 in
theorem mi_X12_machine : MI gX12_machine 0 := ⟨gwT_7 86 rfl rfl, gwT_1 12 rfl rfl, ⟨by decide, by decide, by decide +kernel⟩, by decide⟩
set_option maxRecDepth 10000 in
theorem lk_X12_336 : Cond.methodLink RX12 336 yX12_machineTold ∈ GW := gwT_7 87 rfl rfl
set_option maxRecDepth 10000 in
theorem im_X12_machineTold : Cond.instanceMethod yX12_machineTold ∈ GW := gwT_7 89 rfl rfl
abbrev gX12_machineTold : mI := (yX12_machineTold, cX12_machineTold, 1, none)
set_option maxRecDepth 10000 in
theorem mi_X12_machineTold : MI gX12_machineTold 0 := ⟨gwT_7 90 rfl rfl, gwT_1 12 rfl rfl, ⟨by decide, by decide, by decide +kernel⟩, by decide⟩
set_option maxRecDepth 10000 in
theorem lk_X12_290 : Cond.methodLink RX12 290 yX12_asks ∈ GW := gwT_7 91 rfl rfl
set_option maxRecDepth 10000 in
theorem im_X12_asks : Cond.instanceMethod yX12_asks ∈ GW := gwT_7 93 rfl rfl
abbrev gX12_asks : mI := (yX12_asks, cX12_asks, 2, none)
set_option maxRecDepth 10000 in
theorem mi_X12_asks : MI gX12_asks 1 := ⟨gwT_7 94 rfl rfl, gwT_1 12 rfl rfl, ⟨by decide, by decide, by decide +kernel⟩, by decide⟩
set_option maxRecDepth 10000 in
theorem lk_X12_252 : Cond.methodLink RX12 252 yX12_takes ∈ GW := gwT_7 95 rfl rfl
set_option maxRecDepth 10000 in
theorem im_X12_takes : Cond.instanceMethod yX12_takes ∈ GW := gwT_7 97 rfl rfl
abbrev gX12_takes : mI := (yX12_takes, cX12_takes, 2, (some .boolean))
set_option maxRecDepth 10000 in
theorem mi_X12_takes : MI gX12_takes 1 := ⟨gwT_7 98 rfl rfl, gwT_1 12 rfl rfl, ⟨by decide, by decide, by decide +kernel⟩, by decide⟩
set_option maxRecDepth 10000 in
theorem lk_X12_248 : Cond.methodLink RX12 248 yX12_isHere ∈ GW := gwT_7 99 rfl rfl
set_option maxRecDepth 10000 in
theorem im_X12_isHere : Cond.instanceMethod yX12_isHere ∈ GW := gwT_7 101 rfl rfl
abbrev gX12_isHere : mI := (yX12_isHere, cX12_isHere, 4, (some .boolean))
set_option maxRecDepth 10000 in
theorem mi_X12_isHere : MI gX12_isHere 1 := ⟨gwT_7 102 rfl rfl, gwT_1 12 rfl rfl, ⟨by decide, by decide, by decide +kernel⟩, by decide⟩
set_option maxRecDepth 10000 in
theorem lk_X12_237 : Cond.methodLink RX12 237 yX12_look ∈ GW := gwT_7 103 rfl rfl
set_option maxRecDepth 10000 in
theorem im_X12_look : Cond.instanceMethod yX12_look ∈ GW := gwT_7 105 rfl rfl
abbrev gX12_look : mI := (yX12_look, cX12_look, 1, (some .int))
set_option maxRecDepth 10000 in
theorem mi_X12_look : MI gX12_look 0 := ⟨gwT_7 106 rfl rfl, gwT_1 12 rfl rfl, ⟨by decide, by decide, by decide +kernel⟩, by decide⟩
set_option maxRecDepth 10000 in
theorem lk_X12_241 : Cond.methodLink RX12 241 yX12_isLetter ∈ GW := gwT_7 107 rfl rfl
set_option maxRecDepth 10000 in
theorem sm_X12_isLetter : Cond.static yX12_isLetter ∈ GW := gwT_7 108 rfl rfl
abbrev gX12_isLetter : mI := (yX12_isLetter, cX12_isLetter, 1, (some .boolean))
set_option maxRecDepth 10000 in
theorem mi_X12_isLetter : MI gX12_isLetter 1 := ⟨gwT_7 109 rfl rfl, gwT_1 12 rfl rfl, ⟨by decide, by decide, by decide +kernel⟩, by decide⟩
set_option maxRecDepth 10000 in
theorem lk_X12_255 : Cond.methodLink RX12 255 yX12_fail ∈ GW := gwT_7 110 rfl rfl
set_option maxRecDepth 10000 in
theorem im_X12_fail : Cond.instanceMethod yX12_fail ∈ GW := gwT_7 112 rfl rfl
abbrev gX12_fail : mI := (yX12_fail, cX12_fail, 3, none)
set_option maxRecDepth 10000 in
theorem mi_X12_fail : MI gX12_fail 2 := ⟨gwT_7 113 rfl rfl, gwT_1 12 rfl rfl, ⟨by decide, by decide, by decide +kernel⟩, by decide⟩
set_option maxRecDepth 10000 in
theorem lk_X12_294 : Cond.methodLink RX12 294 yX12_number ∈ GW := gwT_7 114 rfl rfl
set_option maxRecDepth 10000 in
theorem im_X12_number : Cond.instanceMethod yX12_number ∈ GW := gwT_7 116 rfl rfl
abbrev gX12_number : mI := (yX12_number, cX12_number, 5, (some .int))
set_option maxRecDepth 10000 in
theorem mi_X12_number : MI gX12_number 2 := ⟨gwT_7 117 rfl rfl, gwT_1 12 rfl rfl, ⟨by decide, by decide, by decide +kernel⟩, by decide⟩
set_option maxRecDepth 10000 in
theorem lk_X12_262 : Cond.methodLink RX12 262 yX12_isDigit ∈ GW := gwT_7 118 rfl rfl
set_option maxRecDepth 10000 in
theorem sm_X12_isDigit : Cond.static yX12_isDigit ∈ GW := gwT_7 119 rfl rfl
abbrev gX12_isDigit : mI := (yX12_isDigit, cX12_isDigit, 1, (some .boolean))
set_option maxRecDepth 10000 in
theorem mi_X12_isDigit : MI gX12_isDigit 1 := ⟨gwT_7 120 rfl rfl, gwT_1 12 rfl rfl, ⟨by decide, by decide, by decide +kernel⟩, by decide⟩
set_option maxRecDepth 10000 in
theorem lk_X12_268 : Cond.methodLink RX12 268 yX12_isIn ∈ GW := gwT_7 121 rfl rfl
set_option maxRecDepth 10000 in
theorem sm_X12_isIn : Cond.static yX12_isIn ∈ GW := gwT_7 122 rfl rfl
abbrev gX12_isIn : mI := (yX12_isIn, cX12_isIn, 6, (some .boolean))
set_option maxRecDepth 10000 in
theorem mi_X12_isIn : MI gX12_isIn 3 := ⟨gwT_7 123 rfl rfl, gwT_1 12 rfl rfl, ⟨by decide, by decide, by decide +kernel⟩, by decide⟩
set_option maxRecDepth 10000 in
theorem lk_X12_298 : Cond.methodLink RX12 298 yX12_asksSign ∈ GW := gwT_7 124 rfl rfl
set_option maxRecDepth 10000 in
theorem im_X12_asksSign : Cond.instanceMethod yX12_asksSign ∈ GW := gwT_7 126 rfl rfl
abbrev gX12_asksSign : mI := (yX12_asksSign, cX12_asksSign, 2, none)
set_option maxRecDepth 10000 in
theorem mi_X12_asksSign : MI gX12_asksSign 1 := ⟨gwT_7 127 rfl rfl, gwT_1 12 rfl rfl, ⟨by decide, by decide, by decide +kernel⟩, by decide⟩
set_option maxRecDepth 10000 in
theorem lk_X12_259 : Cond.methodLink RX12 259 yX12_takesSign ∈ GW := gwT_7 128 rfl rfl
set_option maxRecDepth 10000 in
theorem im_X12_takesSign : Cond.instanceMethod yX12_takesSign ∈ GW := gwT_7 130 rfl rfl
abbrev gX12_takesSign : mI := (yX12_takesSign, cX12_takesSign, 2, (some .boolean))
set_option maxRecDepth 10000 in
theorem mi_X12_takesSign : MI gX12_takesSign 1 := ⟨gwT_7 131 rfl rfl, gwT_1 12 rfl rfl, ⟨by decide, by decide, by decide +kernel⟩, by decide⟩
set_option maxRecDepth 10000 in
theorem lk_X12_339 : Cond.methodLink RX12 339 yX12_statementTold ∈ GW := gwT_7 132 rfl rfl
set_option maxRecDepth 10000 in
theorem im_X12_statementTold : Cond.instanceMethod yX12_statementTold ∈ GW := gwT_7 134 rfl rfl
abbrev gX12_statementTold : mI := (yX12_statementTold, cX12_statementTold, 2, none)
set_option maxRecDepth 10000 in
theorem mi_X12_statementTold : MI gX12_statementTold 0 := ⟨gwT_7 135 rfl rfl, gwT_1 12 rfl rfl, ⟨by decide, by decide, by decide +kernel⟩, by decide⟩
set_option maxRecDepth 10000 in
theorem lk_X12_330 : Cond.methodLink RX12 330 yX12_shelfTold ∈ GW := gwT_7 136 rfl rfl
set_option maxRecDepth 10000 in
theorem im_X12_shelfTold : Cond.instanceMethod yX12_shelfTold ∈ GW := gwT_7 138 rfl rfl
abbrev gX12_shelfTold : mI := (yX12_shelfTold, cX12_shelfTold, 5, none)
set_option maxRecDepth 10000 in
theorem mi_X12_shelfTold : MI gX12_shelfTold 1 := ⟨gwT_7 139 rfl rfl, gwT_1 12 rfl rfl, ⟨by decide, by decide, by decide +kernel⟩, by decide⟩
set_option maxRecDepth 10000 in
theorem lk_X12_302 : Cond.methodLink RX12 302 yX12_name ∈ GW := gwT_7 140 rfl rfl
set_option maxRecDepth 10000 in
theorem im_X12_name : Cond.instanceMethod yX12_name ∈ GW := gwT_7 142 rfl rfl
abbrev gX12_name : mI := (yX12_name, cX12_name, 3, (some .long))
set_option maxRecDepth 10000 in
theorem mi_X12_name : MI gX12_name 0 := ⟨gwT_7 143 rfl rfl, gwT_1 12 rfl rfl, ⟨by decide, by decide, by decide +kernel⟩, by decide⟩
set_option maxRecDepth 10000 in
theorem lk_X12_272 : Cond.methodLink RX12 272 yX12_isOwnHere ∈ GW := gwT_7 144 rfl rfl
set_option maxRecDepth 10000 in
theorem im_X12_isOwnHere : Cond.instanceMethod yX12_isOwnHere ∈ GW := gwT_7 146 rfl rfl
abbrev gX12_isOwnHere : mI := (yX12_isOwnHere, cX12_isOwnHere, 2, (some .boolean))
set_option maxRecDepth 10000 in
theorem mi_X12_isOwnHere : MI gX12_isOwnHere 0 := ⟨gwT_7 147 rfl rfl, gwT_1 12 rfl rfl, ⟨by decide, by decide, by decide +kernel⟩, by decide⟩
set_option maxRecDepth 10000 in
theorem kc_X12_279 : Cond.constantLong RX12 279 (27) ∈ GW := gwT_7 148 rfl rfl
set_option maxRecDepth 10000 in
theorem kc_X12_281 : Cond.constantLong RX12 281 (97) ∈ GW := gwT_7 149 rfl rfl
set_option maxRecDepth 10000 in
theorem lk_X12_333 : Cond.methodLink RX12 333 yX12_codesTold ∈ GW := gwT_7 150 rfl rfl
set_option maxRecDepth 10000 in
theorem im_X12_codesTold : Cond.instanceMethod yX12_codesTold ∈ GW := gwT_7 152 rfl rfl
abbrev gX12_codesTold : mI := (yX12_codesTold, cX12_codesTold, 4, none)
set_option maxRecDepth 10000 in
theorem mi_X12_codesTold : MI gX12_codesTold 2 := ⟨gwT_7 153 rfl rfl, gwT_1 12 rfl rfl, ⟨by decide, by decide, by decide +kernel⟩, by decide⟩
set_option maxRecDepth 10000 in
theorem lk_X12_318 : Cond.methodLink RX12 318 yX12_qTest ∈ GW := gwT_7 154 rfl rfl
set_option maxRecDepth 10000 in
theorem im_X12_qTest : Cond.instanceMethod yX12_qTest ∈ GW := gwT_7 156 rfl rfl
abbrev gX12_qTest : mI := (yX12_qTest, cX12_qTest, 3, none)
set_option maxRecDepth 10000 in
theorem mi_X12_qTest : MI gX12_qTest 0 := ⟨gwT_7 157 rfl rfl, gwT_1 12 rfl rfl, ⟨by decide, by decide, by decide +kernel⟩, by decide⟩
set_option maxRecDepth 10000 in
theorem lk_X12_593 : Cond.methodLink RX12 593 yX12_qOpens ∈ GW := gwT_7 158 rfl rfl
set_option maxRecDepth 10000 in
theorem im_X12_qOpens : Cond.instanceMethod yX12_qOpens ∈ GW := gwT_7 160 rfl rfl
abbrev gX12_qOpens : mI := (yX12_qOpens, cX12_qOpens, 3, none)
set_option maxRecDepth 10000 in
theorem mi_X12_qOpens : MI gX12_qOpens 2 := ⟨gwT_7 161 rfl rfl, gwT_1 12 rfl rfl, ⟨by decide, by decide, by decide +kernel⟩, by decide⟩
set_option maxRecDepth 10000 in
theorem lk_X12_617 : Cond.methodLink RX12 617 yX12_qFact ∈ GW := gwT_7 162 rfl rfl
set_option maxRecDepth 10000 in
theorem im_X12_qFact : Cond.instanceMethod yX12_qFact ∈ GW := gwT_7 164 rfl rfl
abbrev gX12_qFact : mI := (yX12_qFact, cX12_qFact, 2, none)
set_option maxRecDepth 10000 in
theorem mi_X12_qFact : MI gX12_qFact 0 := ⟨gwT_7 165 rfl rfl, gwT_1 12 rfl rfl, ⟨by decide, by decide, by decide +kernel⟩, by decide⟩
set_option maxRecDepth 10000 in
theorem lk_X12_575 : Cond.methodLink RX12 575 yX12_qCode ∈ GW := gwT_7 166 rfl rfl
set_option maxRecDepth 10000 in
theorem im_X12_qCode : Cond.instanceMethod yX12_qCode ∈ GW := gwT_7 168 rfl rfl
abbrev gX12_qCode : mI := (yX12_qCode, cX12_qCode, 2, none)
set_option maxRecDepth 10000 in
theorem mi_X12_qCode : MI gX12_qCode 1 := ⟨gwT_7 169 rfl rfl, gwT_1 12 rfl rfl, ⟨by decide, by decide, by decide +kernel⟩, by decide⟩
set_option maxRecDepth 10000 in
theorem lk_X12_321 : Cond.methodLink RX12 321 yX12_qSums ∈ GW := gwT_7 170 rfl rfl
set_option maxRecDepth 10000 in
theorem im_X12_qSums : Cond.instanceMethod yX12_qSums ∈ GW := gwT_7 172 rfl rfl
abbrev gX12_qSums : mI := (yX12_qSums, cX12_qSums, 3, none)
set_option maxRecDepth 10000 in
theorem mi_X12_qSums : MI gX12_qSums 0 := ⟨gwT_7 173 rfl rfl, gwT_1 12 rfl rfl, ⟨by decide, by decide, by decide +kernel⟩, by decide⟩
set_option maxRecDepth 10000 in
theorem lk_X12_611 : Cond.methodLink RX12 611 yX12_qPartTold ∈ GW := gwT_7 174 rfl rfl
set_option maxRecDepth 10000 in
theorem im_X12_qPartTold : Cond.instanceMethod yX12_qPartTold ∈ GW := gwT_7 176 rfl rfl
abbrev gX12_qPartTold : mI := (yX12_qPartTold, cX12_qPartTold, 6, none)
set_option maxRecDepth 10000 in
theorem mi_X12_qPartTold : MI gX12_qPartTold 0 := ⟨gwT_7 177 rfl rfl, gwT_1 12 rfl rfl, ⟨by decide, by decide, by decide +kernel⟩, by decide⟩
set_option maxRecDepth 10000 in
theorem lk_X12_590 : Cond.methodLink RX12 590 yX12_qWordOf ∈ GW := gwT_7 178 rfl rfl
set_option maxRecDepth 10000 in
theorem im_X12_qWordOf : Cond.instanceMethod yX12_qWordOf ∈ GW := gwT_7 180 rfl rfl
abbrev gX12_qWordOf : mI := (yX12_qWordOf, cX12_qWordOf, 4, (some .int))
set_option maxRecDepth 10000 in
theorem mi_X12_qWordOf : MI gX12_qWordOf 2 := ⟨gwT_7 181 rfl rfl, gwT_1 12 rfl rfl, ⟨by decide, by decide, by decide +kernel⟩, by decide⟩
set_option maxRecDepth 10000 in
theorem lk_X12_584 : Cond.methodLink RX12 584 yX12_qWordHere ∈ GW := gwT_7 182 rfl rfl
set_option maxRecDepth 10000 in
theorem im_X12_qWordHere : Cond.instanceMethod yX12_qWordHere ∈ GW := gwT_7 184 rfl rfl
abbrev gX12_qWordHere : mI := (yX12_qWordHere, cX12_qWordHere, 1, (some .int))
set_option maxRecDepth 10000 in
theorem mi_X12_qWordHere : MI gX12_qWordHere 0 := ⟨gwT_7 185 rfl rfl, gwT_1 12 rfl rfl, ⟨by decide, by decide, by decide +kernel⟩, by decide⟩
set_option maxRecDepth 10000 in
theorem lk_X12_587 : Cond.methodLink RX12 587 yX12_isAllowed ∈ GW := gwT_7 186 rfl rfl
set_option maxRecDepth 10000 in
theorem im_X12_isAllowed : Cond.instanceMethod yX12_isAllowed ∈ GW := gwT_7 188 rfl rfl
abbrev gX12_isAllowed : mI := (yX12_isAllowed, cX12_isAllowed, 2, (some .boolean))
set_option maxRecDepth 10000 in
theorem mi_X12_isAllowed : MI gX12_isAllowed 1 := ⟨gwT_7 189 rfl rfl, gwT_1 12 rfl rfl, ⟨by decide, by decide, by decide +kernel⟩, by decide⟩
set_option maxRecDepth 10000 in
theorem kc_X12_286 : Cond.constantLong RX12 286 (3) ∈ GW := gwT_7 190 rfl rfl
set_option maxRecDepth 10000 in
theorem kc_X12_288 : Cond.constantLong RX12 288 (6) ∈ GW := gwT_7 191 rfl rfl
set_option maxRecDepth 10000 in
theorem lk_X12_596 : Cond.methodLink RX12 596 yX12_qAsksWord ∈ GW := gwT_7 192 rfl rfl
set_option maxRecDepth 10000 in
theorem im_X12_qAsksWord : Cond.instanceMethod yX12_qAsksWord ∈ GW := gwT_7 194 rfl rfl
abbrev gX12_qAsksWord : mI := (yX12_qAsksWord, cX12_qAsksWord, 2, none)
set_option maxRecDepth 10000 in
theorem mi_X12_qAsksWord : MI gX12_qAsksWord 1 := ⟨gwT_7 195 rfl rfl, gwT_1 12 rfl rfl, ⟨by decide, by decide, by decide +kernel⟩, by decide⟩
set_option maxRecDepth 10000 in
theorem lk_X12_599 : Cond.methodLink RX12 599 yX12_qEndsPart ∈ GW := gwT_7 196 rfl rfl
set_option maxRecDepth 10000 in
theorem im_X12_qEndsPart : Cond.instanceMethod yX12_qEndsPart ∈ GW := gwT_7 198 rfl rfl
abbrev gX12_qEndsPart : mI := (yX12_qEndsPart, cX12_qEndsPart, 1, none)
set_option maxRecDepth 10000 in
theorem mi_X12_qEndsPart : MI gX12_qEndsPart 0 := ⟨gwT_7 199 rfl rfl, gwT_1 12 rfl rfl, ⟨by decide, by decide, by decide +kernel⟩, by decide⟩
set_option maxRecDepth 10000 in
theorem lk_X12_581 : Cond.methodLink RX12 581 yX12_qDrops ∈ GW := gwT_7 200 rfl rfl
set_option maxRecDepth 10000 in
theorem im_X12_qDrops : Cond.instanceMethod yX12_qDrops ∈ GW := gwT_7 202 rfl rfl
abbrev gX12_qDrops : mI := (yX12_qDrops, cX12_qDrops, 1, none)
set_option maxRecDepth 10000 in
theorem mi_X12_qDrops : MI gX12_qDrops 0 := ⟨gwT_7 203 rfl rfl, gwT_1 12 rfl rfl, ⟨by decide, by decide, by decide +kernel⟩, by decide⟩
set_option maxRecDepth 10000 in
theorem lk_X12_614 : Cond.methodLink RX12 614 yX12_qGoesOn ∈ GW := gwT_7 204 rfl rfl
set_option maxRecDepth 10000 in
theorem im_X12_qGoesOn : Cond.instanceMethod yX12_qGoesOn ∈ GW := gwT_7 206 rfl rfl
abbrev gX12_qGoesOn : mI := (yX12_qGoesOn, cX12_qGoesOn, 2, (some .boolean))
set_option maxRecDepth 10000 in
theorem mi_X12_qGoesOn : MI gX12_qGoesOn 0 := ⟨gwT_7 207 rfl rfl, gwT_1 12 rfl rfl, ⟨by decide, by decide, by decide +kernel⟩, by decide⟩
set_option maxRecDepth 10000 in
theorem lk_X12_602 : Cond.methodLink RX12 602 yX12_qBracket ∈ GW := gwT_7 208 rfl rfl
set_option maxRecDepth 10000 in
theorem im_X12_qBracket : Cond.instanceMethod yX12_qBracket ∈ GW := gwT_7 210 rfl rfl
abbrev gX12_qBracket : mI := (yX12_qBracket, cX12_qBracket, 2, (some .int))
set_option maxRecDepth 10000 in
theorem mi_X12_qBracket : MI gX12_qBracket 0 := ⟨gwT_7 211 rfl rfl, gwT_1 12 rfl rfl, ⟨by decide, by decide, by decide +kernel⟩, by decide⟩
set_option maxRecDepth 10000 in
theorem lk_X12_578 : Cond.methodLink RX12 578 yX12_qIsBracket ∈ GW := gwT_7 212 rfl rfl
set_option maxRecDepth 10000 in
theorem sm_X12_qIsBracket : Cond.static yX12_qIsBracket ∈ GW := gwT_7 213 rfl rfl
abbrev gX12_qIsBracket : mI := (yX12_qIsBracket, cX12_qIsBracket, 1, (some .boolean))
set_option maxRecDepth 10000 in
theorem mi_X12_qIsBracket : MI gX12_qIsBracket 1 := ⟨gwT_7 214 rfl rfl, gwT_1 12 rfl rfl, ⟨by decide, by decide, by decide +kernel⟩, by decide⟩
set_option maxRecDepth 10000 in
theorem lk_X12_605 : Cond.methodLink RX12 605 yX12_qDropsToBracket ∈ GW := gwT_7 215 rfl rfl
set_option maxRecDepth 10000 in
theorem im_X12_qDropsToBracket : Cond.instanceMethod yX12_qDropsToBracket ∈ GW := gwT_7 217 rfl rfl
abbrev gX12_qDropsToBracket : mI := (yX12_qDropsToBracket, cX12_qDropsToBracket, 1, none)
set_option maxRecDepth 10000 in
theorem mi_X12_qDropsToBracket : MI gX12_qDropsToBracket 0 := ⟨gwT_7 218 rfl rfl, gwT_1 12 rfl rfl, ⟨by decide, by decide, by decide +kernel⟩, by decide⟩
set_option maxRecDepth 10000 in
theorem lk_X12_608 : Cond.methodLink RX12 608 yX12_qIsOn ∈ GW := gwT_7 219 rfl rfl
set_option maxRecDepth 10000 in
theorem im_X12_qIsOn : Cond.instanceMethod yX12_qIsOn ∈ GW := gwT_7 221 rfl rfl
abbrev gX12_qIsOn : mI := (yX12_qIsOn, cX12_qIsOn, 2, (some .boolean))
set_option maxRecDepth 10000 in
theorem mi_X12_qIsOn : MI gX12_qIsOn 1 := ⟨gwT_7 222 rfl rfl, gwT_1 12 rfl rfl, ⟨by decide, by decide, by decide +kernel⟩, by decide⟩
set_option maxRecDepth 10000 in
theorem lk_X12_620 : Cond.methodLink RX12 620 yX12_qDropsNots ∈ GW := gwT_7 223 rfl rfl
set_option maxRecDepth 10000 in
theorem im_X12_qDropsNots : Cond.instanceMethod yX12_qDropsNots ∈ GW := gwT_7 225 rfl rfl
abbrev gX12_qDropsNots : mI := (yX12_qDropsNots, cX12_qDropsNots, 1, none)
set_option maxRecDepth 10000 in
theorem mi_X12_qDropsNots : MI gX12_qDropsNots 0 := ⟨gwT_7 226 rfl rfl, gwT_1 12 rfl rfl, ⟨by decide, by decide, by decide +kernel⟩, by decide⟩
set_option maxRecDepth 10000 in
theorem lk_X12_623 : Cond.methodLink RX12 623 yX12_qGoesOnTest ∈ GW := gwT_7 227 rfl rfl
set_option maxRecDepth 10000 in
theorem im_X12_qGoesOnTest : Cond.instanceMethod yX12_qGoesOnTest ∈ GW := gwT_7 229 rfl rfl
abbrev gX12_qGoesOnTest : mI := (yX12_qGoesOnTest, cX12_qGoesOnTest, 1, (some .boolean))
set_option maxRecDepth 10000 in
theorem mi_X12_qGoesOnTest : MI gX12_qGoesOnTest 0 := ⟨gwT_7 230 rfl rfl, gwT_1 12 rfl rfl, ⟨by decide, by decide, by decide +kernel⟩, by decide⟩
set_option maxRecDepth 10000 in
theorem lk_X12_626 : Cond.methodLink RX12 626 yX12_qHasSquare ∈ GW := gwT_7 231 rfl rfl
set_option maxRecDepth 10000 in
theorem im_X12_qHasSquare : Cond.instanceMethod yX12_qHasSquare ∈ GW := gwT_7 233 rfl rfl
abbrev gX12_qHasSquare : mI := (yX12_qHasSquare, cX12_qHasSquare, 2, (some .boolean))
set_option maxRecDepth 10000 in
theorem mi_X12_qHasSquare : MI gX12_qHasSquare 0 := ⟨gwT_7 234 rfl rfl, gwT_1 12 rfl rfl, ⟨by decide, by decide, by decide +kernel⟩, by decide⟩
set_option maxRecDepth 10000 in
theorem lk_X12_345 : Cond.methodLink RX12 345 yX12_refuses ∈ GW := gwT_7 235 rfl rfl
set_option maxRecDepth 10000 in
theorem im_X12_refuses : Cond.instanceMethod yX12_refuses ∈ GW := gwT_7 237 rfl rfl
abbrev gX12_refuses : mI := (yX12_refuses, cX12_refuses, 2, (some .int))
set_option maxRecDepth 10000 in
theorem mi_X12_refuses : MI gX12_refuses 1 := ⟨gwT_7 238 rfl rfl, gwT_1 12 rfl rfl, ⟨by decide, by decide, by decide +kernel⟩, by decide⟩
set_option maxRecDepth 10000 in
theorem lk_X12_349 : Cond.methodLink RX12 349 yX12_stands ∈ GW := gwT_7 239 rfl rfl
set_option maxRecDepth 10000 in
theorem im_X12_stands : Cond.instanceMethod yX12_stands ∈ GW := gwT_8 1 rfl rfl
abbrev gX12_stands : mI := (yX12_stands, cX12_stands, 2, none)
set_option maxRecDepth 10000 in
theorem mi_X12_stands : MI gX12_stands 0 := ⟨gwT_8 2 rfl rfl, gwT_1 12 rfl rfl, ⟨by decide, by decide, by decide +kernel⟩, by decide⟩
set_option maxRecDepth 10000 in
theorem lk_X12_356 : Cond.methodLink RX12 356 yX12_encodes ∈ GW := gwT_8 3 rfl rfl
set_option maxRecDepth 10000 in
theorem im_X12_encodes : Cond.instanceMethod yX12_encodes ∈ GW := gwT_8 5 rfl rfl
abbrev gX12_encodes : mI := (yX12_encodes, cX12_encodes, 3, none)
set_option maxRecDepth 10000 in
theorem mi_X12_encodes : MI gX12_encodes 2 := ⟨gwT_8 6 rfl rfl, gwT_1 12 rfl rfl, ⟨by decide, by decide, by decide +kernel⟩, by decide⟩
set_option maxRecDepth 10000 in
theorem lk_X12_396 : Cond.methodLink RX12 396 yX12_mantissa ∈ GW := gwT_8 7 rfl rfl
set_option maxRecDepth 10000 in
theorem im_X12_mantissa : Cond.instanceMethod yX12_mantissa ∈ GW := gwT_8 9 rfl rfl
abbrev gX12_mantissa : mI := (yX12_mantissa, cX12_mantissa, 1, (some .int))
set_option maxRecDepth 10000 in
theorem mi_X12_mantissa : MI gX12_mantissa 0 := ⟨gwT_8 10 rfl rfl, gwT_1 12 rfl rfl, ⟨by decide, by decide, by decide +kernel⟩, by decide⟩
set_option maxRecDepth 10000 in
theorem lk_X12_399 : Cond.methodLink RX12 399 yX12_encodesBy ∈ GW := gwT_8 11 rfl rfl
set_option maxRecDepth 10000 in
theorem im_X12_encodesBy : Cond.instanceMethod yX12_encodesBy ∈ GW := gwT_8 13 rfl rfl
abbrev gX12_encodesBy : mI := (yX12_encodesBy, cX12_encodesBy, 5, none)
set_option maxRecDepth 10000 in
theorem mi_X12_encodesBy : MI gX12_encodesBy 3 := ⟨gwT_8 14 rfl rfl, gwT_1 12 rfl rfl, ⟨by decide, by decide, by decide +kernel⟩, by decide⟩
set_option maxRecDepth 10000 in
theorem lk_X12_359 : Cond.methodLink RX12 359 yX12_laysBounds ∈ GW := gwT_8 15 rfl rfl
set_option maxRecDepth 10000 in
theorem im_X12_laysBounds : Cond.instanceMethod yX12_laysBounds ∈ GW := gwT_8 17 rfl rfl
abbrev gX12_laysBounds : mI := (yX12_laysBounds, cX12_laysBounds, 2, none)
set_option maxRecDepth 10000 in
theorem mi_X12_laysBounds : MI gX12_laysBounds 1 := ⟨gwT_8 18 rfl rfl, gwT_1 12 rfl rfl, ⟨by decide, by decide, by decide +kernel⟩, by decide⟩
set_option maxRecDepth 10000 in
theorem lk_X12_403 : Cond.methodLink RX12 403 yX12_modulo ∈ GW := gwT_8 19 rfl rfl
set_option maxRecDepth 10000 in
theorem im_X12_modulo : Cond.instanceMethod yX12_modulo ∈ GW := gwT_8 21 rfl rfl
abbrev gX12_modulo : mI := (yX12_modulo, cX12_modulo, 2, (some .int))
set_option maxRecDepth 10000 in
theorem mi_X12_modulo : MI gX12_modulo 1 := ⟨gwT_8 22 rfl rfl, gwT_1 12 rfl rfl, ⟨by decide, by decide, by decide +kernel⟩, by decide⟩
set_option maxRecDepth 10000 in
theorem lk_L_32 : Cond.methodLink "FatPointersLaw" 32 yX12_fault ∈ GW := gwT_8 23 rfl rfl
set_option maxRecDepth 10000 in
theorem im_X12_fault : Cond.instanceMethod yX12_fault ∈ GW := gwT_8 24 rfl rfl
set_option maxRecDepth 10000 in
theorem se_X12_fault : Cond.selects RX12 yX12_fault yX12_fault ∈ GW := gwT_8 25 rfl rfl
abbrev gX12_fault : mI := (yX12_fault, cX12_fault, 2, (some .int))
set_option maxRecDepth 10000 in
theorem mi_X12_fault : MI gX12_fault 1 := ⟨gwT_8 26 rfl rfl, gwT_1 12 rfl rfl, ⟨by decide, by decide, by decide +kernel⟩, by decide⟩
set_option maxRecDepth 10000 in
theorem lk_L_36 : Cond.methodLink "FatPointersLaw" 36 yX12_has ∈ GW := gwT_8 27 rfl rfl
set_option maxRecDepth 10000 in
theorem im_X12_has : Cond.instanceMethod yX12_has ∈ GW := gwT_8 28 rfl rfl
set_option maxRecDepth 10000 in
theorem se_X12_has : Cond.selects RX12 yX12_has yX12_has ∈ GW := gwT_8 29 rfl rfl
abbrev gX12_has : mI := (yX12_has, cX12_has, 2, (some .int))
set_option maxRecDepth 10000 in
theorem mi_X12_has : MI gX12_has 1 := ⟨gwT_8 30 rfl rfl, gwT_1 12 rfl rfl, ⟨by decide, by decide, by decide +kernel⟩, by decide⟩
set_option maxRecDepth 10000 in
theorem lk_X12_448 : Cond.methodLink RX12 448 yX12_laysHoles ∈ GW := gwT_8 31 rfl rfl
set_option maxRecDepth 10000 in
theorem im_X12_laysHoles : Cond.instanceMethod yX12_laysHoles ∈ GW := gwT_8 33 rfl rfl
abbrev gX12_laysHoles : mI := (yX12_laysHoles, cX12_laysHoles, 4, none)
set_option maxRecDepth 10000 in
theorem mi_X12_laysHoles : MI gX12_laysHoles 0 := ⟨gwT_8 34 rfl rfl, gwT_1 12 rfl rfl, ⟨by decide, by decide, by decide +kernel⟩, by decide⟩
set_option maxRecDepth 10000 in
theorem lk_X12_425 : Cond.methodLink RX12 425 yX12_objectMany ∈ GW := gwT_8 35 rfl rfl
set_option maxRecDepth 10000 in
theorem im_X12_objectMany : Cond.instanceMethod yX12_objectMany ∈ GW := gwT_8 37 rfl rfl
abbrev gX12_objectMany : mI := (yX12_objectMany, cX12_objectMany, 1, (some .int))
set_option maxRecDepth 10000 in
theorem mi_X12_objectMany : MI gX12_objectMany 0 := ⟨gwT_8 38 rfl rfl, gwT_1 12 rfl rfl, ⟨by decide, by decide, by decide +kernel⟩, by decide⟩
set_option maxRecDepth 10000 in
theorem lk_X12_428 : Cond.methodLink RX12 428 yX12_objectOf ∈ GW := gwT_8 39 rfl rfl
set_option maxRecDepth 10000 in
theorem im_X12_objectOf : Cond.instanceMethod yX12_objectOf ∈ GW := gwT_8 41 rfl rfl
abbrev gX12_objectOf : mI := (yX12_objectOf, cX12_objectOf, 3, (some .int))
set_option maxRecDepth 10000 in
theorem mi_X12_objectOf : MI gX12_objectOf 2 := ⟨gwT_8 42 rfl rfl, gwT_1 12 rfl rfl, ⟨by decide, by decide, by decide +kernel⟩, by decide⟩
set_option maxRecDepth 10000 in
theorem lk_X12_463 : Cond.methodLink RX12 463 yX12_validMany ∈ GW := gwT_8 43 rfl rfl
set_option maxRecDepth 10000 in
theorem im_X12_validMany : Cond.instanceMethod yX12_validMany ∈ GW := gwT_8 45 rfl rfl
abbrev gX12_validMany : mI := (yX12_validMany, cX12_validMany, 3, (some .int))
set_option maxRecDepth 10000 in
theorem mi_X12_validMany : MI gX12_validMany 0 := ⟨gwT_8 46 rfl rfl, gwT_1 12 rfl rfl, ⟨by decide, by decide, by decide +kernel⟩, by decide⟩
set_option maxRecDepth 10000 in
theorem lk_X12_466 : Cond.methodLink RX12 466 yX12_objectBytes ∈ GW := gwT_8 47 rfl rfl
set_option maxRecDepth 10000 in
theorem im_X12_objectBytes : Cond.instanceMethod yX12_objectBytes ∈ GW := gwT_8 49 rfl rfl
abbrev gX12_objectBytes : mI := (yX12_objectBytes, cX12_objectBytes, 4, (some .int))
set_option maxRecDepth 10000 in
theorem mi_X12_objectBytes : MI gX12_objectBytes 1 := ⟨gwT_8 50 rfl rfl, gwT_1 12 rfl rfl, ⟨by decide, by decide, by decide +kernel⟩, by decide⟩
set_option maxRecDepth 10000 in
theorem lk_X12_469 : Cond.methodLink RX12 469 yX12_longestHole ∈ GW := gwT_8 51 rfl rfl
set_option maxRecDepth 10000 in
theorem im_X12_longestHole : Cond.instanceMethod yX12_longestHole ∈ GW := gwT_8 53 rfl rfl
abbrev gX12_longestHole : mI := (yX12_longestHole, cX12_longestHole, 3, (some .int))
set_option maxRecDepth 10000 in
theorem mi_X12_longestHole : MI gX12_longestHole 0 := ⟨gwT_8 54 rfl rfl, gwT_1 12 rfl rfl, ⟨by decide, by decide, by decide +kernel⟩, by decide⟩
set_option maxRecDepth 10000 in
theorem lk_X12_370 : Cond.methodLink RX12 370 yX12_shelfMany ∈ GW := gwT_8 55 rfl rfl
set_option maxRecDepth 10000 in
theorem im_X12_shelfMany : Cond.instanceMethod yX12_shelfMany ∈ GW := gwT_8 57 rfl rfl
abbrev gX12_shelfMany : mI := (yX12_shelfMany, cX12_shelfMany, 1, (some .int))
set_option maxRecDepth 10000 in
theorem mi_X12_shelfMany : MI gX12_shelfMany 0 := ⟨gwT_8 58 rfl rfl, gwT_1 12 rfl rfl, ⟨by decide, by decide, by decide +kernel⟩, by decide⟩
set_option maxRecDepth 10000 in
theorem lk_L_41 : Cond.methodLink "FatPointersLaw" 41 yX12_letter ∈ GW := gwT_8 59 rfl rfl
set_option maxRecDepth 10000 in
theorem im_X12_letter : Cond.instanceMethod yX12_letter ∈ GW := gwT_8 60 rfl rfl
set_option maxRecDepth 10000 in
theorem se_X12_letter : Cond.selects RX12 yX12_letter yX12_letter ∈ GW := gwT_8 61 rfl rfl
abbrev gX12_letter : mI := (yX12_letter, cX12_letter, 8, (some .int))
set_option maxRecDepth 10000 in
theorem mi_X12_letter : MI gX12_letter 2 := ⟨gwT_8 62 rfl rfl, gwT_1 12 rfl rfl, ⟨by decide, by decide, by decide +kernel⟩, by decide⟩
set_option maxRecDepth 10000 in
theorem lk_X12_472 : Cond.methodLink RX12 472 yX12_isShelf ∈ GW := gwT_8 63 rfl rfl
set_option maxRecDepth 10000 in
theorem im_X12_isShelf : Cond.instanceMethod yX12_isShelf ∈ GW := gwT_8 65 rfl rfl
abbrev gX12_isShelf : mI := (yX12_isShelf, cX12_isShelf, 2, (some .boolean))
set_option maxRecDepth 10000 in
theorem mi_X12_isShelf : MI gX12_isShelf 1 := ⟨gwT_8 66 rfl rfl, gwT_1 12 rfl rfl, ⟨by decide, by decide, by decide +kernel⟩, by decide⟩
set_option maxRecDepth 10000 in
theorem kc_X12_475 : Cond.constantLong RX12 475 (5) ∈ GW := gwT_8 67 rfl rfl
set_option maxRecDepth 10000 in
theorem lk_L_45 : Cond.methodLink "FatPointersLaw" 45 yX12_pointer ∈ GW := gwT_8 68 rfl rfl
set_option maxRecDepth 10000 in
theorem im_X12_pointer : Cond.instanceMethod yX12_pointer ∈ GW := gwT_8 69 rfl rfl
set_option maxRecDepth 10000 in
theorem se_X12_pointer : Cond.selects RX12 yX12_pointer yX12_pointer ∈ GW := gwT_8 70 rfl rfl
abbrev gX12_pointer : mI := (yX12_pointer, cX12_pointer, 3, (some .int))
set_option maxRecDepth 10000 in
theorem mi_X12_pointer : MI gX12_pointer 2 := ⟨gwT_8 71 rfl rfl, gwT_1 12 rfl rfl, ⟨by decide, by decide, by decide +kernel⟩, by decide⟩
set_option maxRecDepth 10000 in
theorem lk_X12_418 : Cond.methodLink RX12 418 yX12_isPointer ∈ GW := gwT_8 72 rfl rfl
set_option maxRecDepth 10000 in
theorem im_X12_isPointer : Cond.instanceMethod yX12_isPointer ∈ GW := gwT_8 74 rfl rfl
abbrev gX12_isPointer : mI := (yX12_isPointer, cX12_isPointer, 3, (some .boolean))
set_option maxRecDepth 10000 in
theorem mi_X12_isPointer : MI gX12_isPointer 1 := ⟨gwT_8 75 rfl rfl, gwT_1 12 rfl rfl, ⟨by decide, by decide, by decide +kernel⟩, by decide⟩
set_option maxRecDepth 10000 in
theorem kc_X12_368 : Cond.constantLong RX12 368 (15) ∈ GW := gwT_8 76 rfl rfl
set_option maxRecDepth 10000 in
theorem lk_X12_477 : Cond.methodLink RX12 477 yX12_told ∈ GW := gwT_8 77 rfl rfl
set_option maxRecDepth 10000 in
theorem im_X12_told : Cond.instanceMethod yX12_told ∈ GW := gwT_8 79 rfl rfl
abbrev gX12_told : mI := (yX12_told, cX12_told, 3, (some .int))
set_option maxRecDepth 10000 in
theorem mi_X12_told : MI gX12_told 2 := ⟨gwT_8 80 rfl rfl, gwT_1 12 rfl rfl, ⟨by decide, by decide, by decide +kernel⟩, by decide⟩
set_option maxRecDepth 10000 in
theorem lk_X12_412 : Cond.methodLink RX12 412 yX12_baseOf ∈ GW := gwT_8 81 rfl rfl
set_option maxRecDepth 10000 in
theorem im_X12_baseOf : Cond.instanceMethod yX12_baseOf ∈ GW := gwT_8 83 rfl rfl
abbrev gX12_baseOf : mI := (yX12_baseOf, cX12_baseOf, 2, (some .int))
set_option maxRecDepth 10000 in
theorem mi_X12_baseOf : MI gX12_baseOf 1 := ⟨gwT_8 84 rfl rfl, gwT_1 12 rfl rfl, ⟨by decide, by decide, by decide +kernel⟩, by decide⟩
set_option maxRecDepth 10000 in
theorem lk_X12_409 : Cond.methodLink RX12 409 yX12_baseFrom ∈ GW := gwT_8 85 rfl rfl
set_option maxRecDepth 10000 in
theorem im_X12_baseFrom : Cond.instanceMethod yX12_baseFrom ∈ GW := gwT_8 87 rfl rfl
abbrev gX12_baseFrom : mI := (yX12_baseFrom, cX12_baseFrom, 8, (some .int))
set_option maxRecDepth 10000 in
theorem mi_X12_baseFrom : MI gX12_baseFrom 2 := ⟨gwT_8 88 rfl rfl, gwT_1 12 rfl rfl, ⟨by decide, by decide, by decide +kernel⟩, by decide⟩
set_option maxRecDepth 10000 in
theorem lk_X12_406 : Cond.methodLink RX12 406 yX12_edgeOf ∈ GW := gwT_8 89 rfl rfl
set_option maxRecDepth 10000 in
theorem im_X12_edgeOf : Cond.instanceMethod yX12_edgeOf ∈ GW := gwT_8 91 rfl rfl
abbrev gX12_edgeOf : mI := (yX12_edgeOf, cX12_edgeOf, 2, (some .int))
set_option maxRecDepth 10000 in
theorem mi_X12_edgeOf : MI gX12_edgeOf 1 := ⟨gwT_8 92 rfl rfl, gwT_1 12 rfl rfl, ⟨by decide, by decide, by decide +kernel⟩, by decide⟩
set_option maxRecDepth 10000 in
theorem lk_X12_415 : Cond.methodLink RX12 415 yX12_lengthOf ∈ GW := gwT_8 93 rfl rfl
set_option maxRecDepth 10000 in
theorem im_X12_lengthOf : Cond.instanceMethod yX12_lengthOf ∈ GW := gwT_8 95 rfl rfl
abbrev gX12_lengthOf : mI := (yX12_lengthOf, cX12_lengthOf, 2, (some .int))
set_option maxRecDepth 10000 in
theorem mi_X12_lengthOf : MI gX12_lengthOf 1 := ⟨gwT_8 96 rfl rfl, gwT_1 12 rfl rfl, ⟨by decide, by decide, by decide +kernel⟩, by decide⟩
set_option maxRecDepth 10000 in
theorem lk_L_50 : Cond.methodLink "FatPointersLaw" 50 yX12_shelf ∈ GW := gwT_8 97 rfl rfl
set_option maxRecDepth 10000 in
theorem im_X12_shelf : Cond.instanceMethod yX12_shelf ∈ GW := gwT_8 98 rfl rfl
set_option maxRecDepth 10000 in
theorem se_X12_shelf : Cond.selects RX12 yX12_shelf yX12_shelf ∈ GW := gwT_8 99 rfl rfl
abbrev gX12_shelf : mI := (yX12_shelf, cX12_shelf, 4, (some .int))
set_option maxRecDepth 10000 in
theorem mi_X12_shelf : MI gX12_shelf 3 := ⟨gwT_8 100 rfl rfl, gwT_1 12 rfl rfl, ⟨by decide, by decide, by decide +kernel⟩, by decide⟩
set_option maxRecDepth 10000 in
theorem lk_X12_480 : Cond.methodLink RX12 480 yX12_shelfAt ∈ GW := gwT_8 101 rfl rfl
set_option maxRecDepth 10000 in
theorem im_X12_shelfAt : Cond.instanceMethod yX12_shelfAt ∈ GW := gwT_8 103 rfl rfl
abbrev gX12_shelfAt : mI := (yX12_shelfAt, cX12_shelfAt, 3, (some .int))
set_option maxRecDepth 10000 in
theorem mi_X12_shelfAt : MI gX12_shelfAt 2 := ⟨gwT_8 104 rfl rfl, gwT_1 12 rfl rfl, ⟨by decide, by decide, by decide +kernel⟩, by decide⟩
set_option maxRecDepth 10000 in
theorem lk_L_54 : Cond.methodLink "FatPointersLaw" 54 yX12_object ∈ GW := gwT_8 105 rfl rfl
set_option maxRecDepth 10000 in
theorem im_X12_object : Cond.instanceMethod yX12_object ∈ GW := gwT_8 106 rfl rfl
set_option maxRecDepth 10000 in
theorem se_X12_object : Cond.selects RX12 yX12_object yX12_object ∈ GW := gwT_8 107 rfl rfl
abbrev gX12_object : mI := (yX12_object, cX12_object, 3, (some .int))
set_option maxRecDepth 10000 in
theorem mi_X12_object : MI gX12_object 2 := ⟨gwT_8 108 rfl rfl, gwT_1 12 rfl rfl, ⟨by decide, by decide, by decide +kernel⟩, by decide⟩
set_option maxRecDepth 10000 in
theorem kc_X12_483 : Cond.constantLong RX12 483 (2) ∈ GW := gwT_8 109 rfl rfl
set_option maxRecDepth 10000 in
theorem lk_L_58 : Cond.methodLink "FatPointersLaw" 58 yX12_hole ∈ GW := gwT_8 110 rfl rfl
set_option maxRecDepth 10000 in
theorem im_X12_hole : Cond.instanceMethod yX12_hole ∈ GW := gwT_8 111 rfl rfl
set_option maxRecDepth 10000 in
theorem se_X12_hole : Cond.selects RX12 yX12_hole yX12_hole ∈ GW := gwT_8 112 rfl rfl
abbrev gX12_hole : mI := (yX12_hole, cX12_hole, 3, (some .int))
set_option maxRecDepth 10000 in
theorem mi_X12_hole : MI gX12_hole 2 := ⟨gwT_8 113 rfl rfl, gwT_1 12 rfl rfl, ⟨by decide, by decide, by decide +kernel⟩, by decide⟩
set_option maxRecDepth 10000 in
theorem lk_L_62 : Cond.methodLink "FatPointersLaw" 62 yX12_octetAt ∈ GW := gwT_8 114 rfl rfl
set_option maxRecDepth 10000 in
theorem im_X12_octetAt : Cond.instanceMethod yX12_octetAt ∈ GW := gwT_8 115 rfl rfl
set_option maxRecDepth 10000 in
theorem se_X12_octetAt : Cond.selects RX12 yX12_octetAt yX12_octetAt ∈ GW := gwT_8 116 rfl rfl
abbrev gX12_octetAt : mI := (yX12_octetAt, cX12_octetAt, 2, (some .int))
set_option maxRecDepth 10000 in
theorem mi_X12_octetAt : MI gX12_octetAt 1 := ⟨gwT_8 117 rfl rfl, gwT_1 12 rfl rfl, ⟨by decide, by decide, by decide +kernel⟩, by decide⟩
set_option maxRecDepth 10000 in
theorem lk_L_66 : Cond.methodLink "FatPointersLaw" 66 yX12_kept ∈ GW := gwT_8 118 rfl rfl
set_option maxRecDepth 10000 in
theorem im_X12_kept : Cond.instanceMethod yX12_kept ∈ GW := gwT_8 119 rfl rfl
set_option maxRecDepth 10000 in
theorem se_X12_kept : Cond.selects RX12 yX12_kept yX12_kept ∈ GW := gwT_8 120 rfl rfl
abbrev gX12_kept : mI := (yX12_kept, cX12_kept, 3, (some .int))
set_option maxRecDepth 10000 in
theorem mi_X12_kept : MI gX12_kept 2 := ⟨gwT_8 121 rfl rfl, gwT_1 12 rfl rfl, ⟨by decide, by decide, by decide +kernel⟩, by decide⟩
set_option maxRecDepth 10000 in
theorem lk_L_70 : Cond.methodLink "FatPointersLaw" 70 yX12_rounds ∈ GW := gwT_8 122 rfl rfl
set_option maxRecDepth 10000 in
theorem im_X12_rounds : Cond.instanceMethod yX12_rounds ∈ GW := gwT_8 123 rfl rfl
set_option maxRecDepth 10000 in
theorem se_X12_rounds : Cond.selects RX12 yX12_rounds yX12_rounds ∈ GW := gwT_8 124 rfl rfl
abbrev gX12_rounds : mI := (yX12_rounds, cX12_rounds, 4, (some .int))
set_option maxRecDepth 10000 in
theorem mi_X12_rounds : MI gX12_rounds 3 := ⟨gwT_8 125 rfl rfl, gwT_1 12 rfl rfl, ⟨by decide, by decide, by decide +kernel⟩, by decide⟩
set_option maxRecDepth 10000 in
theorem lk_X12_487 : Cond.methodLink RX12 487 yX12_areBounds ∈ GW := gwT_8 126 rfl rfl
set_option maxRecDepth 10000 in
theorem im_X12_areBounds : Cond.instanceMethod yX12_areBounds ∈ GW := gwT_8 128 rfl rfl
abbrev gX12_areBounds : mI := (yX12_areBounds, cX12_areBounds, 3, (some .boolean))
set_option maxRecDepth 10000 in
theorem mi_X12_areBounds : MI gX12_areBounds 2 := ⟨gwT_8 129 rfl rfl, gwT_1 12 rfl rfl, ⟨by decide, by decide, by decide +kernel⟩, by decide⟩
set_option maxRecDepth 10000 in
theorem kc_X12_485 : Cond.constantLong RX12 485 (4096) ∈ GW := gwT_8 130 rfl rfl
set_option maxRecDepth 10000 in
theorem lk_X12_491 : Cond.methodLink RX12 491 yX12_isExact ∈ GW := gwT_8 131 rfl rfl
set_option maxRecDepth 10000 in
theorem im_X12_isExact : Cond.instanceMethod yX12_isExact ∈ GW := gwT_8 133 rfl rfl
abbrev gX12_isExact : mI := (yX12_isExact, cX12_isExact, 3, (some .boolean))
set_option maxRecDepth 10000 in
theorem mi_X12_isExact : MI gX12_isExact 2 := ⟨gwT_8 134 rfl rfl, gwT_1 12 rfl rfl, ⟨by decide, by decide, by decide +kernel⟩, by decide⟩
set_option maxRecDepth 10000 in
theorem lk_L_74 : Cond.methodLink "FatPointersLaw" 74 yX12_exact ∈ GW := gwT_8 135 rfl rfl
set_option maxRecDepth 10000 in
theorem im_X12_exact : Cond.instanceMethod yX12_exact ∈ GW := gwT_8 136 rfl rfl
set_option maxRecDepth 10000 in
theorem se_X12_exact : Cond.selects RX12 yX12_exact yX12_exact ∈ GW := gwT_8 137 rfl rfl
abbrev gX12_exact : mI := (yX12_exact, cX12_exact, 4, (some .int))
set_option maxRecDepth 10000 in
theorem mi_X12_exact : MI gX12_exact 2 := ⟨gwT_8 138 rfl rfl, gwT_1 12 rfl rfl, ⟨by decide, by decide, by decide +kernel⟩, by decide⟩
set_option maxRecDepth 10000 in
theorem lk_L_78 : Cond.methodLink "FatPointersLaw" 78 yX12_fits ∈ GW := gwT_8 139 rfl rfl
set_option maxRecDepth 10000 in
theorem im_X12_fits : Cond.instanceMethod yX12_fits ∈ GW := gwT_8 140 rfl rfl
set_option maxRecDepth 10000 in
theorem se_X12_fits : Cond.selects RX12 yX12_fits yX12_fits ∈ GW := gwT_8 141 rfl rfl
abbrev gX12_fits : mI := (yX12_fits, cX12_fits, 3, (some .int))
set_option maxRecDepth 10000 in
theorem mi_X12_fits : MI gX12_fits 2 := ⟨gwT_8 142 rfl rfl, gwT_1 12 rfl rfl, ⟨by decide, by decide, by decide +kernel⟩, by decide⟩
set_option maxRecDepth 10000 in
theorem kc_X12_494 : Cond.constantLong RX12 494 (-4095) ∈ GW := gwT_8 143 rfl rfl
set_option maxRecDepth 10000 in
theorem kc_X12_496 : Cond.constantLong RX12 496 (4095) ∈ GW := gwT_8 144 rfl rfl
set_option maxRecDepth 10000 in
theorem lk_X12_498 : Cond.methodLink RX12 498 yX12_doesFit ∈ GW := gwT_8 145 rfl rfl
set_option maxRecDepth 10000 in
theorem im_X12_doesFit : Cond.instanceMethod yX12_doesFit ∈ GW := gwT_8 147 rfl rfl
abbrev gX12_doesFit : mI := (yX12_doesFit, cX12_doesFit, 3, (some .boolean))
set_option maxRecDepth 10000 in
theorem mi_X12_doesFit : MI gX12_doesFit 2 := ⟨gwT_8 148 rfl rfl, gwT_1 12 rfl rfl, ⟨by decide, by decide, by decide +kernel⟩, by decide⟩
set_option maxRecDepth 10000 in
theorem lk_L_82 : Cond.methodLink "FatPointersLaw" 82 yX12_quick ∈ GW := gwT_8 149 rfl rfl
set_option maxRecDepth 10000 in
theorem im_X12_quick : Cond.instanceMethod yX12_quick ∈ GW := gwT_8 150 rfl rfl
set_option maxRecDepth 10000 in
theorem se_X12_quick : Cond.selects RX12 yX12_quick yX12_quick ∈ GW := gwT_8 151 rfl rfl
abbrev gX12_quick : mI := (yX12_quick, cX12_quick, 3, (some .int))
set_option maxRecDepth 10000 in
theorem mi_X12_quick : MI gX12_quick 2 := ⟨gwT_8 152 rfl rfl, gwT_1 12 rfl rfl, ⟨by decide, by decide, by decide +kernel⟩, by decide⟩
set_option maxRecDepth 10000 in
theorem lk_X12_501 : Cond.methodLink RX12 501 yX12_isQuick ∈ GW := gwT_8 153 rfl rfl
set_option maxRecDepth 10000 in
theorem im_X12_isQuick : Cond.instanceMethod yX12_isQuick ∈ GW := gwT_8 155 rfl rfl
abbrev gX12_isQuick : mI := (yX12_isQuick, cX12_isQuick, 7, (some .boolean))
set_option maxRecDepth 10000 in
theorem mi_X12_isQuick : MI gX12_isQuick 2 := ⟨gwT_8 156 rfl rfl, gwT_1 12 rfl rfl, ⟨by decide, by decide, by decide +kernel⟩, by decide⟩
set_option maxRecDepth 10000 in
theorem lk_L_86 : Cond.methodLink "FatPointersLaw" 86 yX12_window ∈ GW := gwT_8 157 rfl rfl
set_option maxRecDepth 10000 in
theorem im_X12_window : Cond.instanceMethod yX12_window ∈ GW := gwT_8 158 rfl rfl
set_option maxRecDepth 10000 in
theorem se_X12_window : Cond.selects RX12 yX12_window yX12_window ∈ GW := gwT_8 159 rfl rfl
abbrev gX12_window : mI := (yX12_window, cX12_window, 6, (some .int))
set_option maxRecDepth 10000 in
theorem mi_X12_window : MI gX12_window 2 := ⟨gwT_8 160 rfl rfl, gwT_1 12 rfl rfl, ⟨by decide, by decide, by decide +kernel⟩, by decide⟩
set_option maxRecDepth 10000 in
theorem lk_L_90 : Cond.methodLink "FatPointersLaw" 90 yX12_reachers ∈ GW := gwT_8 161 rfl rfl
set_option maxRecDepth 10000 in
theorem im_X12_reachers : Cond.instanceMethod yX12_reachers ∈ GW := gwT_8 162 rfl rfl
set_option maxRecDepth 10000 in
theorem se_X12_reachers : Cond.selects RX12 yX12_reachers yX12_reachers ∈ GW := gwT_8 163 rfl rfl
abbrev gX12_reachers : mI := (yX12_reachers, cX12_reachers, 4, (some .int))
set_option maxRecDepth 10000 in
theorem mi_X12_reachers : MI gX12_reachers 1 := ⟨gwT_8 164 rfl rfl, gwT_1 12 rfl rfl, ⟨by decide, by decide, by decide +kernel⟩, by decide⟩
set_option maxRecDepth 10000 in
theorem lk_X12_460 : Cond.methodLink RX12 460 yX12_isOpen ∈ GW := gwT_8 165 rfl rfl
set_option maxRecDepth 10000 in
theorem im_X12_isOpen : Cond.instanceMethod yX12_isOpen ∈ GW := gwT_8 167 rfl rfl
abbrev gX12_isOpen : mI := (yX12_isOpen, cX12_isOpen, 2, (some .boolean))
set_option maxRecDepth 10000 in
theorem mi_X12_isOpen : MI gX12_isOpen 1 := ⟨gwT_8 168 rfl rfl, gwT_1 12 rfl rfl, ⟨by decide, by decide, by decide +kernel⟩, by decide⟩
set_option maxRecDepth 10000 in
theorem lk_X12_504 : Cond.methodLink RX12 504 yX12_isWithin ∈ GW := gwT_8 169 rfl rfl
set_option maxRecDepth 10000 in
theorem im_X12_isWithin : Cond.instanceMethod yX12_isWithin ∈ GW := gwT_8 171 rfl rfl
abbrev gX12_isWithin : mI := (yX12_isWithin, cX12_isWithin, 4, (some .boolean))
set_option maxRecDepth 10000 in
theorem mi_X12_isWithin : MI gX12_isWithin 2 := ⟨gwT_8 172 rfl rfl, gwT_1 12 rfl rfl, ⟨by decide, by decide, by decide +kernel⟩, by decide⟩
set_option maxRecDepth 10000 in
theorem lk_L_94 : Cond.methodLink "FatPointersLaw" 94 yX12_room ∈ GW := gwT_8 173 rfl rfl
set_option maxRecDepth 10000 in
theorem im_X12_room : Cond.instanceMethod yX12_room ∈ GW := gwT_8 174 rfl rfl
set_option maxRecDepth 10000 in
theorem se_X12_room : Cond.selects RX12 yX12_room yX12_room ∈ GW := gwT_8 175 rfl rfl
abbrev gX12_room : mI := (yX12_room, cX12_room, 2, (some .int))
set_option maxRecDepth 10000 in
theorem mi_X12_room : MI gX12_room 1 := ⟨gwT_8 176 rfl rfl, gwT_1 12 rfl rfl, ⟨by decide, by decide, by decide +kernel⟩, by decide⟩
set_option maxRecDepth 10000 in
theorem kc_X12_507 : Cond.constantLong RX12 507 (1024) ∈ GW := gwT_8 177 rfl rfl
set_option maxRecDepth 10000 in
theorem lk_X12_509 : Cond.methodLink RX12 509 yX12_roomFor ∈ GW := gwT_8 178 rfl rfl
set_option maxRecDepth 10000 in
theorem im_X12_roomFor : Cond.instanceMethod yX12_roomFor ∈ GW := gwT_8 180 rfl rfl
abbrev gX12_roomFor : mI := (yX12_roomFor, cX12_roomFor, 11, (some .int))
set_option maxRecDepth 10000 in
theorem mi_X12_roomFor : MI gX12_roomFor 1 := ⟨gwT_8 181 rfl rfl, gwT_1 12 rfl rfl, ⟨by decide, by decide, by decide +kernel⟩, by decide⟩
set_option maxRecDepth 10000 in
theorem lk_X12_434 : Cond.methodLink RX12 434 yX12_isCoded ∈ GW := gwT_8 182 rfl rfl
set_option maxRecDepth 10000 in
theorem im_X12_isCoded : Cond.instanceMethod yX12_isCoded ∈ GW := gwT_8 184 rfl rfl
abbrev gX12_isCoded : mI := (yX12_isCoded, cX12_isCoded, 2, (some .boolean))
set_option maxRecDepth 10000 in
theorem mi_X12_isCoded : MI gX12_isCoded 1 := ⟨gwT_8 185 rfl rfl, gwT_1 12 rfl rfl, ⟨by decide, by decide, by decide +kernel⟩, by decide⟩
set_option maxRecDepth 10000 in
theorem lk_X12_437 : Cond.methodLink RX12 437 yX12_codesTell ∈ GW := gwT_8 186 rfl rfl
set_option maxRecDepth 10000 in
theorem im_X12_codesTell : Cond.instanceMethod yX12_codesTell ∈ GW := gwT_8 188 rfl rfl
abbrev gX12_codesTell : mI := (yX12_codesTell, cX12_codesTell, 4, (some .long))
set_option maxRecDepth 10000 in
theorem mi_X12_codesTell : MI gX12_codesTell 1 := ⟨gwT_8 189 rfl rfl, gwT_1 12 rfl rfl, ⟨by decide, by decide, by decide +kernel⟩, by decide⟩
set_option maxRecDepth 10000 in
theorem lk_X12_376 : Cond.methodLink RX12 376 yX12_qPuts ∈ GW := gwT_8 190 rfl rfl
set_option maxRecDepth 10000 in
theorem im_X12_qPuts : Cond.instanceMethod yX12_qPuts ∈ GW := gwT_8 192 rfl rfl
abbrev gX12_qPuts : mI := (yX12_qPuts, cX12_qPuts, 3, none)
set_option maxRecDepth 10000 in
theorem mi_X12_qPuts : MI gX12_qPuts 1 := ⟨gwT_8 193 rfl rfl, gwT_1 12 rfl rfl, ⟨by decide, by decide, by decide +kernel⟩, by decide⟩
set_option maxRecDepth 10000 in
theorem lk_X12_380 : Cond.methodLink RX12 380 yX12_qPartOf ∈ GW := gwT_8 194 rfl rfl
set_option maxRecDepth 10000 in
theorem im_X12_qPartOf : Cond.instanceMethod yX12_qPartOf ∈ GW := gwT_8 196 rfl rfl
abbrev gX12_qPartOf : mI := (yX12_qPartOf, cX12_qPartOf, 3, (some .long))
set_option maxRecDepth 10000 in
theorem mi_X12_qPartOf : MI gX12_qPartOf 2 := ⟨gwT_8 197 rfl rfl, gwT_1 12 rfl rfl, ⟨by decide, by decide, by decide +kernel⟩, by decide⟩
set_option maxRecDepth 10000 in
theorem lk_X12_384 : Cond.methodLink RX12 384 yX12_qJoins ∈ GW := gwT_8 198 rfl rfl
set_option maxRecDepth 10000 in
theorem im_X12_qJoins : Cond.instanceMethod yX12_qJoins ∈ GW := gwT_8 200 rfl rfl
abbrev gX12_qJoins : mI := (yX12_qJoins, cX12_qJoins, 6, none)
set_option maxRecDepth 10000 in
theorem mi_X12_qJoins : MI gX12_qJoins 1 := ⟨gwT_8 201 rfl rfl, gwT_1 12 rfl rfl, ⟨by decide, by decide, by decide +kernel⟩, by decide⟩
set_option maxRecDepth 10000 in
theorem lk_X12_633 : Cond.methodLink RX12 633 yX12_qClip ∈ GW := gwT_8 202 rfl rfl
set_option maxRecDepth 10000 in
theorem sm_X12_qClip : Cond.static yX12_qClip ∈ GW := gwT_8 203 rfl rfl
abbrev gX12_qClip : mI := (yX12_qClip, cX12_qClip, 2, (some .long))
set_option maxRecDepth 10000 in
theorem mi_X12_qClip : MI gX12_qClip 1 := ⟨gwT_8 204 rfl rfl, gwT_1 12 rfl rfl, ⟨by decide, by decide, by decide +kernel⟩, by decide⟩
set_option maxRecDepth 10000 in
theorem kc_X12_629 : Cond.constantLong RX12 629 (1000000) ∈ GW := gwT_8 205 rfl rfl
set_option maxRecDepth 10000 in
theorem kc_X12_631 : Cond.constantLong RX12 631 (-1000000) ∈ GW := gwT_8 206 rfl rfl
set_option maxRecDepth 10000 in
theorem lk_X12_637 : Cond.methodLink RX12 637 yX12_qFloor ∈ GW := gwT_8 207 rfl rfl
set_option maxRecDepth 10000 in
theorem sm_X12_qFloor : Cond.static yX12_qFloor ∈ GW := gwT_8 208 rfl rfl
abbrev gX12_qFloor : mI := (yX12_qFloor, cX12_qFloor, 6, (some .long))
set_option maxRecDepth 10000 in
theorem mi_X12_qFloor : MI gX12_qFloor 2 := ⟨gwT_8 209 rfl rfl, gwT_1 12 rfl rfl, ⟨by decide, by decide, by decide +kernel⟩, by decide⟩
set_option maxRecDepth 10000 in
theorem lk_X12_441 : Cond.methodLink RX12 441 yX12_clamp ∈ GW := gwT_8 210 rfl rfl
set_option maxRecDepth 10000 in
theorem sm_X12_clamp : Cond.static yX12_clamp ∈ GW := gwT_8 211 rfl rfl
abbrev gX12_clamp : mI := (yX12_clamp, cX12_clamp, 3, (some .int))
set_option maxRecDepth 10000 in
theorem mi_X12_clamp : MI gX12_clamp 2 := ⟨gwT_8 212 rfl rfl, gwT_1 12 rfl rfl, ⟨by decide, by decide, by decide +kernel⟩, by decide⟩
set_option maxRecDepth 10000 in
theorem lk_L_98 : Cond.methodLink "FatPointersLaw" 98 yX12_odds ∈ GW := gwT_8 213 rfl rfl
set_option maxRecDepth 10000 in
theorem im_X12_odds : Cond.instanceMethod yX12_odds ∈ GW := gwT_8 214 rfl rfl
set_option maxRecDepth 10000 in
theorem se_X12_odds : Cond.selects RX12 yX12_odds yX12_odds ∈ GW := gwT_8 215 rfl rfl
abbrev gX12_odds : mI := (yX12_odds, cX12_odds, 3, (some .int))
set_option maxRecDepth 10000 in
theorem mi_X12_odds : MI gX12_odds 0 := ⟨gwT_8 216 rfl rfl, gwT_1 12 rfl rfl, ⟨by decide, by decide, by decide +kernel⟩, by decide⟩
set_option maxRecDepth 10000 in
theorem lk_L_102 : Cond.methodLink "FatPointersLaw" 102 yX12_share ∈ GW := gwT_8 217 rfl rfl
set_option maxRecDepth 10000 in
theorem im_X12_share : Cond.instanceMethod yX12_share ∈ GW := gwT_8 218 rfl rfl
set_option maxRecDepth 10000 in
theorem se_X12_share : Cond.selects RX12 yX12_share yX12_share ∈ GW := gwT_8 219 rfl rfl
abbrev gX12_share : mI := (yX12_share, cX12_share, 3, (some .int))
set_option maxRecDepth 10000 in
theorem mi_X12_share : MI gX12_share 1 := ⟨gwT_8 220 rfl rfl, gwT_1 12 rfl rfl, ⟨by decide, by decide, by decide +kernel⟩, by decide⟩
set_option maxRecDepth 10000 in
theorem lk_L_106 : Cond.methodLink "FatPointersLaw" 106 yX12_see ∈ GW := gwT_8 221 rfl rfl
set_option maxRecDepth 10000 in
theorem im_X12_see : Cond.instanceMethod yX12_see ∈ GW := gwT_8 222 rfl rfl
set_option maxRecDepth 10000 in
theorem se_X12_see : Cond.selects RX12 yX12_see yX12_see ∈ GW := gwT_8 223 rfl rfl
abbrev gX12_see : mI := (yX12_see, cX12_see, 4, (some .int))
set_option maxRecDepth 10000 in
theorem mi_X12_see : MI gX12_see 0 := ⟨gwT_8 224 rfl rfl, gwT_1 12 rfl rfl, ⟨by decide, by decide, by decide +kernel⟩, by decide⟩
set_option maxRecDepth 10000 in
theorem lk_L_110 : Cond.methodLink "FatPointersLaw" 110 yX12_places ∈ GW := gwT_8 225 rfl rfl
set_option maxRecDepth 10000 in
theorem im_X12_places : Cond.instanceMethod yX12_places ∈ GW := gwT_8 226 rfl rfl
set_option maxRecDepth 10000 in
theorem se_X12_places : Cond.selects RX12 yX12_places yX12_places ∈ GW := gwT_8 227 rfl rfl
abbrev gX12_places : mI := (yX12_places, cX12_places, 5, (some .int))
set_option maxRecDepth 10000 in
theorem mi_X12_places : MI gX12_places 2 := ⟨gwT_8 228 rfl rfl, gwT_1 12 rfl rfl, ⟨by decide, by decide, by decide +kernel⟩, by decide⟩
set_option maxRecDepth 10000 in
theorem lk_X12_522 : Cond.methodLink RX12 522 yX12_laysPlaces ∈ GW := gwT_8 229 rfl rfl
set_option maxRecDepth 10000 in
theorem im_X12_laysPlaces : Cond.instanceMethod yX12_laysPlaces ∈ GW := gwT_8 231 rfl rfl
abbrev gX12_laysPlaces : mI := (yX12_laysPlaces, cX12_laysPlaces, 3, none)
set_option maxRecDepth 10000 in
theorem mi_X12_laysPlaces : MI gX12_laysPlaces 1 := ⟨gwT_8 232 rfl rfl, gwT_1 12 rfl rfl, ⟨by decide, by decide, by decide +kernel⟩, by decide⟩
set_option maxRecDepth 10000 in
theorem lk_X12_519 : Cond.methodLink RX12 519 yX12_isPlace ∈ GW := gwT_8 233 rfl rfl
set_option maxRecDepth 10000 in
theorem im_X12_isPlace : Cond.instanceMethod yX12_isPlace ∈ GW := gwT_8 235 rfl rfl
abbrev gX12_isPlace : mI := (yX12_isPlace, cX12_isPlace, 4, (some .boolean))
set_option maxRecDepth 10000 in
theorem mi_X12_isPlace : MI gX12_isPlace 2 := ⟨gwT_8 236 rfl rfl, gwT_1 12 rfl rfl, ⟨by decide, by decide, by decide +kernel⟩, by decide⟩
set_option maxRecDepth 10000 in
theorem lk_X12_512 : Cond.methodLink RX12 512 yX12_fitsFrom ∈ GW := gwT_8 237 rfl rfl
set_option maxRecDepth 10000 in
theorem im_X12_fitsFrom : Cond.instanceMethod yX12_fitsFrom ∈ GW := gwT_8 239 rfl rfl
abbrev gX12_fitsFrom : mI := (yX12_fitsFrom, cX12_fitsFrom, 4, (some .boolean))
set_option maxRecDepth 10000 in
theorem mi_X12_fitsFrom : MI gX12_fitsFrom 3 := ⟨gwT_9 0 rfl rfl, gwT_1 12 rfl rfl, ⟨by decide, by decide, by decide +kernel⟩, by decide⟩
set_option maxRecDepth 10000 in
theorem lk_L_114 : Cond.methodLink "FatPointersLaw" 114 yX12_tells ∈ GW := gwT_9 1 rfl rfl
set_option maxRecDepth 10000 in
theorem im_X12_tells : Cond.instanceMethod yX12_tells ∈ GW := gwT_9 2 rfl rfl
set_option maxRecDepth 10000 in
theorem se_X12_tells : Cond.selects RX12 yX12_tells yX12_tells ∈ GW := gwT_9 3 rfl rfl
abbrev gX12_tells : mI := (yX12_tells, cX12_tells, 8, (some .int))
set_option maxRecDepth 10000 in
theorem mi_X12_tells : MI gX12_tells 2 := ⟨gwT_9 4 rfl rfl, gwT_1 12 rfl rfl, ⟨by decide, by decide, by decide +kernel⟩, by decide⟩
set_option maxRecDepth 10000 in
theorem lk_L_173 : Cond.methodLink "FatPointersLaw" 173 yX12_undo ∈ GW := gwT_9 5 rfl rfl
set_option maxRecDepth 10000 in
theorem im_X12_undo : Cond.instanceMethod yX12_undo ∈ GW := gwT_9 6 rfl rfl
set_option maxRecDepth 10000 in
theorem se_X12_undo : Cond.selects RX12 yX12_undo yX12_undo ∈ GW := gwT_9 7 rfl rfl
abbrev gX12_undo : mI := (yX12_undo, cX12_undo, 2, (some .boolean))
set_option maxRecDepth 10000 in
theorem mi_X12_undo : MI gX12_undo 0 := ⟨gwT_9 8 rfl rfl, gwT_1 12 rfl rfl, ⟨by decide, by decide, by decide +kernel⟩, by decide⟩
set_option maxRecDepth 10000 in
theorem lk_L_118 : Cond.methodLink "FatPointersLaw" 118 yX12_alloc ∈ GW := gwT_9 9 rfl rfl
set_option maxRecDepth 10000 in
theorem im_X12_alloc : Cond.instanceMethod yX12_alloc ∈ GW := gwT_9 10 rfl rfl
set_option maxRecDepth 10000 in
theorem se_X12_alloc : Cond.selects RX12 yX12_alloc yX12_alloc ∈ GW := gwT_9 11 rfl rfl
abbrev gX12_alloc : mI := (yX12_alloc, cX12_alloc, 4, (some .int))
set_option maxRecDepth 10000 in
theorem mi_X12_alloc : MI gX12_alloc 2 := ⟨gwT_9 12 rfl rfl, gwT_1 12 rfl rfl, ⟨by decide, by decide, by decide +kernel⟩, by decide⟩
set_option maxRecDepth 10000 in
theorem lk_X12_528 : Cond.methodLink RX12 528 yX12_keeps ∈ GW := gwT_9 13 rfl rfl
set_option maxRecDepth 10000 in
theorem im_X12_keeps : Cond.instanceMethod yX12_keeps ∈ GW := gwT_9 15 rfl rfl
abbrev gX12_keeps : mI := (yX12_keeps, cX12_keeps, 2, none)
set_option maxRecDepth 10000 in
theorem mi_X12_keeps : MI gX12_keeps 0 := ⟨gwT_9 16 rfl rfl, gwT_1 12 rfl rfl, ⟨by decide, by decide, by decide +kernel⟩, by decide⟩
set_option maxRecDepth 10000 in
theorem lk_X12_531 : Cond.methodLink RX12 531 yX12_allocates ∈ GW := gwT_9 17 rfl rfl
set_option maxRecDepth 10000 in
theorem im_X12_allocates : Cond.instanceMethod yX12_allocates ∈ GW := gwT_9 19 rfl rfl
abbrev gX12_allocates : mI := (yX12_allocates, cX12_allocates, 6, none)
set_option maxRecDepth 10000 in
theorem mi_X12_allocates : MI gX12_allocates 3 := ⟨gwT_9 20 rfl rfl, gwT_1 12 rfl rfl, ⟨by decide, by decide, by decide +kernel⟩, by decide⟩
set_option maxRecDepth 10000 in
theorem lk_X12_457 : Cond.methodLink RX12 457 yX12_isKept ∈ GW := gwT_9 21 rfl rfl
set_option maxRecDepth 10000 in
theorem im_X12_isKept : Cond.instanceMethod yX12_isKept ∈ GW := gwT_9 23 rfl rfl
abbrev gX12_isKept : mI := (yX12_isKept, cX12_isKept, 5, none)
set_option maxRecDepth 10000 in
theorem mi_X12_isKept : MI gX12_isKept 3 := ⟨gwT_9 24 rfl rfl, gwT_1 12 rfl rfl, ⟨by decide, by decide, by decide +kernel⟩, by decide⟩
set_option maxRecDepth 10000 in
theorem lk_L_122 : Cond.methodLink "FatPointersLaw" 122 yX12_free ∈ GW := gwT_9 25 rfl rfl
set_option maxRecDepth 10000 in
theorem im_X12_free : Cond.instanceMethod yX12_free ∈ GW := gwT_9 26 rfl rfl
set_option maxRecDepth 10000 in
theorem se_X12_free : Cond.selects RX12 yX12_free yX12_free ∈ GW := gwT_9 27 rfl rfl
abbrev gX12_free : mI := (yX12_free, cX12_free, 4, (some .int))
set_option maxRecDepth 10000 in
theorem mi_X12_free : MI gX12_free 1 := ⟨gwT_9 28 rfl rfl, gwT_1 12 rfl rfl, ⟨by decide, by decide, by decide +kernel⟩, by decide⟩
set_option maxRecDepth 10000 in
theorem lk_X12_534 : Cond.methodLink RX12 534 yX12_objectBy ∈ GW := gwT_9 29 rfl rfl
set_option maxRecDepth 10000 in
theorem im_X12_objectBy : Cond.instanceMethod yX12_objectBy ∈ GW := gwT_9 31 rfl rfl
abbrev gX12_objectBy : mI := (yX12_objectBy, cX12_objectBy, 3, (some .int))
set_option maxRecDepth 10000 in
theorem mi_X12_objectBy : MI gX12_objectBy 1 := ⟨gwT_9 32 rfl rfl, gwT_1 12 rfl rfl, ⟨by decide, by decide, by decide +kernel⟩, by decide⟩
set_option maxRecDepth 10000 in
theorem lk_X12_537 : Cond.methodLink RX12 537 yX12_frees ∈ GW := gwT_9 33 rfl rfl
set_option maxRecDepth 10000 in
theorem im_X12_frees : Cond.instanceMethod yX12_frees ∈ GW := gwT_9 35 rfl rfl
abbrev gX12_frees : mI := (yX12_frees, cX12_frees, 5, none)
set_option maxRecDepth 10000 in
theorem mi_X12_frees : MI gX12_frees 1 := ⟨gwT_9 36 rfl rfl, gwT_1 12 rfl rfl, ⟨by decide, by decide, by decide +kernel⟩, by decide⟩
set_option maxRecDepth 10000 in
theorem lk_L_127 : Cond.methodLink "FatPointersLaw" 127 yX12_copy ∈ GW := gwT_9 37 rfl rfl
set_option maxRecDepth 10000 in
theorem im_X12_copy : Cond.instanceMethod yX12_copy ∈ GW := gwT_9 38 rfl rfl
set_option maxRecDepth 10000 in
theorem se_X12_copy : Cond.selects RX12 yX12_copy yX12_copy ∈ GW := gwT_9 39 rfl rfl
abbrev gX12_copy : mI := (yX12_copy, cX12_copy, 3, (some .boolean))
set_option maxRecDepth 10000 in
theorem mi_X12_copy : MI gX12_copy 2 := ⟨gwT_9 40 rfl rfl, gwT_1 12 rfl rfl, ⟨by decide, by decide, by decide +kernel⟩, by decide⟩
set_option maxRecDepth 10000 in
theorem lk_X12_540 : Cond.methodLink RX12 540 yX12_isRefused ∈ GW := gwT_9 41 rfl rfl
set_option maxRecDepth 10000 in
theorem im_X12_isRefused : Cond.instanceMethod yX12_isRefused ∈ GW := gwT_9 43 rfl rfl
abbrev gX12_isRefused : mI := (yX12_isRefused, cX12_isRefused, 2, (some .boolean))
set_option maxRecDepth 10000 in
theorem mi_X12_isRefused : MI gX12_isRefused 1 := ⟨gwT_9 44 rfl rfl, gwT_1 12 rfl rfl, ⟨by decide, by decide, by decide +kernel⟩, by decide⟩
set_option maxRecDepth 10000 in
theorem lk_X12_543 : Cond.methodLink RX12 543 yX12_copies ∈ GW := gwT_9 45 rfl rfl
set_option maxRecDepth 10000 in
theorem im_X12_copies : Cond.instanceMethod yX12_copies ∈ GW := gwT_9 47 rfl rfl
abbrev gX12_copies : mI := (yX12_copies, cX12_copies, 4, none)
set_option maxRecDepth 10000 in
theorem mi_X12_copies : MI gX12_copies 2 := ⟨gwT_9 48 rfl rfl, gwT_1 12 rfl rfl, ⟨by decide, by decide, by decide +kernel⟩, by decide⟩
set_option maxRecDepth 10000 in
theorem lk_L_131 : Cond.methodLink "FatPointersLaw" 131 yX12_move ∈ GW := gwT_9 49 rfl rfl
set_option maxRecDepth 10000 in
theorem im_X12_move : Cond.instanceMethod yX12_move ∈ GW := gwT_9 50 rfl rfl
set_option maxRecDepth 10000 in
theorem se_X12_move : Cond.selects RX12 yX12_move yX12_move ∈ GW := gwT_9 51 rfl rfl
abbrev gX12_move : mI := (yX12_move, cX12_move, 5, (some .boolean))
set_option maxRecDepth 10000 in
theorem mi_X12_move : MI gX12_move 2 := ⟨gwT_9 52 rfl rfl, gwT_1 12 rfl rfl, ⟨by decide, by decide, by decide +kernel⟩, by decide⟩
set_option maxRecDepth 10000 in
theorem lk_L_135 : Cond.methodLink "FatPointersLaw" 135 yX12_narrow ∈ GW := gwT_9 53 rfl rfl
set_option maxRecDepth 10000 in
theorem im_X12_narrow : Cond.instanceMethod yX12_narrow ∈ GW := gwT_9 54 rfl rfl
set_option maxRecDepth 10000 in
theorem se_X12_narrow : Cond.selects RX12 yX12_narrow yX12_narrow ∈ GW := gwT_9 55 rfl rfl
abbrev gX12_narrow : mI := (yX12_narrow, cX12_narrow, 6, (some .int))
set_option maxRecDepth 10000 in
theorem mi_X12_narrow : MI gX12_narrow 3 := ⟨gwT_9 56 rfl rfl, gwT_1 12 rfl rfl, ⟨by decide, by decide, by decide +kernel⟩, by decide⟩
set_option maxRecDepth 10000 in
theorem lk_L_139 : Cond.methodLink "FatPointersLaw" 139 yX12_limit ∈ GW := gwT_9 57 rfl rfl
set_option maxRecDepth 10000 in
theorem im_X12_limit : Cond.instanceMethod yX12_limit ∈ GW := gwT_9 58 rfl rfl
set_option maxRecDepth 10000 in
theorem se_X12_limit : Cond.selects RX12 yX12_limit yX12_limit ∈ GW := gwT_9 59 rfl rfl
abbrev gX12_limit : mI := (yX12_limit, cX12_limit, 3, (some .int))
set_option maxRecDepth 10000 in
theorem mi_X12_limit : MI gX12_limit 2 := ⟨gwT_9 60 rfl rfl, gwT_1 12 rfl rfl, ⟨by decide, by decide, by decide +kernel⟩, by decide⟩
set_option maxRecDepth 10000 in
theorem kc_X12_546 : Cond.constantLong RX12 546 (7) ∈ GW := gwT_9 61 rfl rfl
set_option maxRecDepth 10000 in
theorem lk_L_143 : Cond.methodLink "FatPointersLaw" 143 yX12_seal ∈ GW := gwT_9 62 rfl rfl
set_option maxRecDepth 10000 in
theorem im_X12_seal : Cond.instanceMethod yX12_seal ∈ GW := gwT_9 63 rfl rfl
set_option maxRecDepth 10000 in
theorem se_X12_seal : Cond.selects RX12 yX12_seal yX12_seal ∈ GW := gwT_9 64 rfl rfl
abbrev gX12_seal : mI := (yX12_seal, cX12_seal, 4, (some .int))
set_option maxRecDepth 10000 in
theorem mi_X12_seal : MI gX12_seal 2 := ⟨gwT_9 65 rfl rfl, gwT_1 12 rfl rfl, ⟨by decide, by decide, by decide +kernel⟩, by decide⟩
set_option maxRecDepth 10000 in
theorem lk_X12_548 : Cond.methodLink RX12 548 yX12_kindBy ∈ GW := gwT_9 66 rfl rfl
set_option maxRecDepth 10000 in
theorem im_X12_kindBy : Cond.instanceMethod yX12_kindBy ∈ GW := gwT_9 68 rfl rfl
abbrev gX12_kindBy : mI := (yX12_kindBy, cX12_kindBy, 3, (some .int))
set_option maxRecDepth 10000 in
theorem mi_X12_kindBy : MI gX12_kindBy 1 := ⟨gwT_9 69 rfl rfl, gwT_1 12 rfl rfl, ⟨by decide, by decide, by decide +kernel⟩, by decide⟩
set_option maxRecDepth 10000 in
theorem lk_L_147 : Cond.methodLink "FatPointersLaw" 147 yX12_unseal ∈ GW := gwT_9 70 rfl rfl
set_option maxRecDepth 10000 in
theorem im_X12_unseal : Cond.instanceMethod yX12_unseal ∈ GW := gwT_9 71 rfl rfl
set_option maxRecDepth 10000 in
theorem se_X12_unseal : Cond.selects RX12 yX12_unseal yX12_unseal ∈ GW := gwT_9 72 rfl rfl
abbrev gX12_unseal : mI := (yX12_unseal, cX12_unseal, 4, (some .boolean))
set_option maxRecDepth 10000 in
theorem mi_X12_unseal : MI gX12_unseal 2 := ⟨gwT_9 73 rfl rfl, gwT_1 12 rfl rfl, ⟨by decide, by decide, by decide +kernel⟩, by decide⟩
set_option maxRecDepth 10000 in
theorem lk_L_151 : Cond.methodLink "FatPointersLaw" 151 yX12_load ∈ GW := gwT_9 74 rfl rfl
set_option maxRecDepth 10000 in
theorem im_X12_load : Cond.instanceMethod yX12_load ∈ GW := gwT_9 75 rfl rfl
set_option maxRecDepth 10000 in
theorem se_X12_load : Cond.selects RX12 yX12_load yX12_load ∈ GW := gwT_9 76 rfl rfl
abbrev gX12_load : mI := (yX12_load, cX12_load, 2, (some .int))
set_option maxRecDepth 10000 in
theorem mi_X12_load : MI gX12_load 1 := ⟨gwT_9 77 rfl rfl, gwT_1 12 rfl rfl, ⟨by decide, by decide, by decide +kernel⟩, by decide⟩
set_option maxRecDepth 10000 in
theorem lk_X12_554 : Cond.methodLink RX12 554 yX12_canFollow ∈ GW := gwT_9 78 rfl rfl
set_option maxRecDepth 10000 in
theorem im_X12_canFollow : Cond.instanceMethod yX12_canFollow ∈ GW := gwT_9 80 rfl rfl
abbrev gX12_canFollow : mI := (yX12_canFollow, cX12_canFollow, 4, (some .boolean))
set_option maxRecDepth 10000 in
theorem mi_X12_canFollow : MI gX12_canFollow 2 := ⟨gwT_9 81 rfl rfl, gwT_1 12 rfl rfl, ⟨by decide, by decide, by decide +kernel⟩, by decide⟩
set_option maxRecDepth 10000 in
theorem lk_L_155 : Cond.methodLink "FatPointersLaw" 155 yX12_store ∈ GW := gwT_9 82 rfl rfl
set_option maxRecDepth 10000 in
theorem im_X12_store : Cond.instanceMethod yX12_store ∈ GW := gwT_9 83 rfl rfl
set_option maxRecDepth 10000 in
theorem se_X12_store : Cond.selects RX12 yX12_store yX12_store ∈ GW := gwT_9 84 rfl rfl
abbrev gX12_store : mI := (yX12_store, cX12_store, 3, (some .boolean))
set_option maxRecDepth 10000 in
theorem mi_X12_store : MI gX12_store 2 := ⟨gwT_9 85 rfl rfl, gwT_1 12 rfl rfl, ⟨by decide, by decide, by decide +kernel⟩, by decide⟩
set_option maxRecDepth 10000 in
theorem kc_X12_557 : Cond.constantLong RX12 557 (255) ∈ GW := gwT_9 86 rfl rfl
set_option maxRecDepth 10000 in
theorem lk_L_159 : Cond.methodLink "FatPointersLaw" 159 yX12_shelve ∈ GW := gwT_9 87 rfl rfl
set_option maxRecDepth 10000 in
theorem im_X12_shelve : Cond.instanceMethod yX12_shelve ∈ GW := gwT_9 88 rfl rfl
set_option maxRecDepth 10000 in
theorem se_X12_shelve : Cond.selects RX12 yX12_shelve yX12_shelve ∈ GW := gwT_9 89 rfl rfl
abbrev gX12_shelve : mI := (yX12_shelve, cX12_shelve, 4, (some .int))
set_option maxRecDepth 10000 in
theorem mi_X12_shelve : MI gX12_shelve 2 := ⟨gwT_9 90 rfl rfl, gwT_1 12 rfl rfl, ⟨by decide, by decide, by decide +kernel⟩, by decide⟩
set_option maxRecDepth 10000 in
theorem lk_L_164 : Cond.methodLink "FatPointersLaw" 164 yX12_take ∈ GW := gwT_9 91 rfl rfl
set_option maxRecDepth 10000 in
theorem im_X12_take : Cond.instanceMethod yX12_take ∈ GW := gwT_9 92 rfl rfl
set_option maxRecDepth 10000 in
theorem se_X12_take : Cond.selects RX12 yX12_take yX12_take ∈ GW := gwT_9 93 rfl rfl
abbrev gX12_take : mI := (yX12_take, cX12_take, 4, (some .boolean))
set_option maxRecDepth 10000 in
theorem mi_X12_take : MI gX12_take 3 := ⟨gwT_9 94 rfl rfl, gwT_1 12 rfl rfl, ⟨by decide, by decide, by decide +kernel⟩, by decide⟩
set_option maxRecDepth 10000 in
theorem lk_L_177 : Cond.methodLink "FatPointersLaw" 177 yX12_seed ∈ GW := gwT_9 95 rfl rfl
set_option maxRecDepth 10000 in
theorem im_X12_seed : Cond.instanceMethod yX12_seed ∈ GW := gwT_9 96 rfl rfl
set_option maxRecDepth 10000 in
theorem se_X12_seed : Cond.selects RX12 yX12_seed yX12_seed ∈ GW := gwT_9 97 rfl rfl
abbrev gX12_seed : mI := (yX12_seed, cX12_seed, 2, (some .boolean))
set_option maxRecDepth 10000 in
theorem mi_X12_seed : MI gX12_seed 1 := ⟨gwT_9 98 rfl rfl, gwT_1 12 rfl rfl, ⟨by decide, by decide, by decide +kernel⟩, by decide⟩
set_option maxRecDepth 10000 in
theorem lk_L_168 : Cond.methodLink "FatPointersLaw" 168 yX12_chance ∈ GW := gwT_9 99 rfl rfl
set_option maxRecDepth 10000 in
theorem im_X12_chance : Cond.instanceMethod yX12_chance ∈ GW := gwT_9 100 rfl rfl
set_option maxRecDepth 10000 in
theorem se_X12_chance : Cond.selects RX12 yX12_chance yX12_chance ∈ GW := gwT_9 101 rfl rfl
abbrev gX12_chance : mI := (yX12_chance, cX12_chance, 4, (some .int))
set_option maxRecDepth 10000 in
theorem mi_X12_chance : MI gX12_chance 1 := ⟨gwT_9 102 rfl rfl, gwT_1 12 rfl rfl, ⟨by decide, by decide, by decide +kernel⟩, by decide⟩
set_option maxRecDepth 10000 in
theorem kc_X12_570 : Cond.constantLong RX12 570 (40) ∈ GW := gwT_9 103 rfl rfl
set_option maxRecDepth 10000 in
theorem lk_X12_572 : Cond.methodLink RX12 572 yX12_isDrawn ∈ GW := gwT_9 104 rfl rfl
set_option maxRecDepth 10000 in
theorem im_X12_isDrawn : Cond.instanceMethod yX12_isDrawn ∈ GW := gwT_9 106 rfl rfl
abbrev gX12_isDrawn : mI := (yX12_isDrawn, cX12_isDrawn, 5, (some .boolean))
set_option maxRecDepth 10000 in
theorem mi_X12_isDrawn : MI gX12_isDrawn 0 := ⟨gwT_9 107 rfl rfl, gwT_1 12 rfl rfl, ⟨by decide, by decide, by decide +kernel⟩, by decide⟩
set_option maxRecDepth 10000 in
theorem lk_X12_567 : Cond.methodLink RX12 567 yX12_drawOf ∈ GW := gwT_9 108 rfl rfl
set_option maxRecDepth 10000 in
theorem im_X12_drawOf : Cond.instanceMethod yX12_drawOf ∈ GW := gwT_9 110 rfl rfl
abbrev gX12_drawOf : mI := (yX12_drawOf, cX12_drawOf, 2, (some .int))
set_option maxRecDepth 10000 in
theorem mi_X12_drawOf : MI gX12_drawOf 1 := ⟨gwT_9 111 rfl rfl, gwT_1 12 rfl rfl, ⟨by decide, by decide, by decide +kernel⟩, by decide⟩
set_option maxRecDepth 10000 in
theorem kc_X12_559 : Cond.constantLong RX12 559 (1103515245) ∈ GW := gwT_9 112 rfl rfl
set_option maxRecDepth 10000 in
theorem kc_X12_561 : Cond.constantLong RX12 561 (12345) ∈ GW := gwT_9 113 rfl rfl
set_option maxRecDepth 10000 in
theorem kc_X12_563 : Cond.constantLong RX12 563 (2147483648) ∈ GW := gwT_9 114 rfl rfl
set_option maxRecDepth 10000 in
theorem kc_X12_565 : Cond.constantLong RX12 565 (64) ∈ GW := gwT_9 115 rfl rfl
set_option maxRecDepth 10000 in
theorem lk_L_182 : Cond.methodLink "FatPointersLaw" 182 yX12_ask ∈ GW := gwT_9 116 rfl rfl
set_option maxRecDepth 10000 in
theorem im_X12_ask : Cond.instanceMethod yX12_ask ∈ GW := gwT_9 117 rfl rfl
set_option maxRecDepth 10000 in
theorem se_X12_ask : Cond.selects RX12 yX12_ask yX12_ask ∈ GW := gwT_9 118 rfl rfl
abbrev gX12_ask : mI := (yX12_ask, cX12_ask, 3, (some .long))
set_option maxRecDepth 10000 in
theorem mi_X12_ask : MI gX12_ask 0 := ⟨gwT_9 119 rfl rfl, gwT_1 12 rfl rfl, ⟨by decide, by decide, by decide +kernel⟩, by decide⟩
set_option maxRecDepth 10000 in
theorem kc_X12_653 : Cond.constantLong RX12 653 (-1000000000000000) ∈ GW := gwT_9 120 rfl rfl
set_option maxRecDepth 10000 in
theorem lk_X12_655 : Cond.methodLink RX12 655 yX12_qKind ∈ GW := gwT_9 121 rfl rfl
set_option maxRecDepth 10000 in
theorem im_X12_qKind : Cond.instanceMethod yX12_qKind ∈ GW := gwT_9 123 rfl rfl
abbrev gX12_qKind : mI := (yX12_qKind, cX12_qKind, 2, (some .int))
set_option maxRecDepth 10000 in
theorem mi_X12_qKind : MI gX12_qKind 0 := ⟨gwT_9 124 rfl rfl, gwT_1 12 rfl rfl, ⟨by decide, by decide, by decide +kernel⟩, by decide⟩
set_option maxRecDepth 10000 in
theorem kc_X12_648 : Cond.constantLong RX12 648 (-1) ∈ GW := gwT_9 125 rfl rfl
set_option maxRecDepth 10000 in
theorem lk_X12_658 : Cond.methodLink RX12 658 yX12_qTold ∈ GW := gwT_9 126 rfl rfl
set_option maxRecDepth 10000 in
theorem im_X12_qTold : Cond.instanceMethod yX12_qTold ∈ GW := gwT_9 128 rfl rfl
abbrev gX12_qTold : mI := (yX12_qTold, cX12_qTold, 4, (some .long))
set_option maxRecDepth 10000 in
theorem mi_X12_qTold : MI gX12_qTold 1 := ⟨gwT_9 129 rfl rfl, gwT_1 12 rfl rfl, ⟨by decide, by decide, by decide +kernel⟩, by decide⟩
set_option maxRecDepth 10000 in
theorem lk_X12_641 : Cond.methodLink RX12 641 yX12_qOf ∈ GW := gwT_9 130 rfl rfl
set_option maxRecDepth 10000 in
theorem im_X12_qOf : Cond.instanceMethod yX12_qOf ∈ GW := gwT_9 132 rfl rfl
abbrev gX12_qOf : mI := (yX12_qOf, cX12_qOf, 5, (some .long))
set_option maxRecDepth 10000 in
theorem mi_X12_qOf : MI gX12_qOf 3 := ⟨gwT_9 133 rfl rfl, gwT_1 12 rfl rfl, ⟨by decide, by decide, by decide +kernel⟩, by decide⟩
set_option maxRecDepth 10000 in
theorem lk_X12_661 : Cond.methodLink RX12 661 yX12_qTakes ∈ GW := gwT_9 134 rfl rfl
set_option maxRecDepth 10000 in
theorem im_X12_qTakes : Cond.instanceMethod yX12_qTakes ∈ GW := gwT_9 136 rfl rfl
abbrev gX12_qTakes : mI := (yX12_qTakes, cX12_qTakes, 6, none)
set_option maxRecDepth 10000 in
theorem mi_X12_qTakes : MI gX12_qTakes 3 := ⟨gwT_9 137 rfl rfl, gwT_1 12 rfl rfl, ⟨by decide, by decide, by decide +kernel⟩, by decide⟩
set_option maxRecDepth 10000 in
theorem lk_L_190 : Cond.methodLink "FatPointersLaw" 190 yX12_octet ∈ GW := gwT_9 138 rfl rfl
set_option maxRecDepth 10000 in
theorem im_X12_octet : Cond.instanceMethod yX12_octet ∈ GW := gwT_9 139 rfl rfl
set_option maxRecDepth 10000 in
theorem se_X12_octet : Cond.selects RX12 yX12_octet yX12_octet ∈ GW := gwT_9 140 rfl rfl
abbrev gX12_octet : mI := (yX12_octet, cX12_octet, 2, (some .int))
set_option maxRecDepth 10000 in
theorem mi_X12_octet : MI gX12_octet 1 := ⟨gwT_9 141 rfl rfl, gwT_1 12 rfl rfl, ⟨by decide, by decide, by decide +kernel⟩, by decide⟩
set_option maxRecDepth 10000 in
theorem lk_L_198 : Cond.methodLink "FatPointersLaw" 198 yX12_status ∈ GW := gwT_9 142 rfl rfl
set_option maxRecDepth 10000 in
theorem im_X12_status : Cond.instanceMethod yX12_status ∈ GW := gwT_9 143 rfl rfl
set_option maxRecDepth 10000 in
theorem se_X12_status : Cond.selects RX12 yX12_status yX12_status ∈ GW := gwT_9 144 rfl rfl
abbrev gX12_status : mI := (yX12_status, cX12_status, 2, (some .int))
set_option maxRecDepth 10000 in
theorem mi_X12_status : MI gX12_status 1 := ⟨gwT_9 145 rfl rfl, gwT_1 12 rfl rfl, ⟨by decide, by decide, by decide +kernel⟩, by decide⟩
set_option maxRecDepth 10000 in
theorem lk_L_186 : Cond.methodLink "FatPointersLaw" 186 yX12_image ∈ GW := gwT_9 146 rfl rfl
set_option maxRecDepth 10000 in
theorem im_X12_image : Cond.instanceMethod yX12_image ∈ GW := gwT_9 147 rfl rfl
set_option maxRecDepth 10000 in
theorem se_X12_image : Cond.selects RX12 yX12_image yX12_image ∈ GW := gwT_9 148 rfl rfl
abbrev gX12_image : mI := (yX12_image, cX12_image, 2, (some .int))
set_option maxRecDepth 10000 in
theorem mi_X12_image : MI gX12_image 0 := ⟨gwT_9 149 rfl rfl, gwT_1 12 rfl rfl, ⟨by decide, by decide, by decide +kernel⟩, by decide⟩
set_option maxRecDepth 10000 in
theorem lk_X12_674 : Cond.methodLink RX12 674 yX12_writesPointer ∈ GW := gwT_9 150 rfl rfl
set_option maxRecDepth 10000 in
theorem im_X12_writesPointer : Cond.instanceMethod yX12_writesPointer ∈ GW := gwT_9 152 rfl rfl
abbrev gX12_writesPointer : mI := (yX12_writesPointer, cX12_writesPointer, 3, none)
set_option maxRecDepth 10000 in
theorem mi_X12_writesPointer : MI gX12_writesPointer 1 := ⟨gwT_9 153 rfl rfl, gwT_1 12 rfl rfl, ⟨by decide, by decide, by decide +kernel⟩, by decide⟩
set_option maxRecDepth 10000 in
theorem lk_X12_668 : Cond.methodLink RX12 668 yX12_writes ∈ GW := gwT_9 154 rfl rfl
set_option maxRecDepth 10000 in
theorem im_X12_writes : Cond.instanceMethod yX12_writes ∈ GW := gwT_9 156 rfl rfl
abbrev gX12_writes : mI := (yX12_writes, cX12_writes, 2, none)
set_option maxRecDepth 10000 in
theorem mi_X12_writes : MI gX12_writes 1 := ⟨gwT_9 157 rfl rfl, gwT_1 12 rfl rfl, ⟨by decide, by decide, by decide +kernel⟩, by decide⟩
set_option maxRecDepth 10000 in
theorem lk_X12_671 : Cond.methodLink RX12 671 yX12_writesTwo ∈ GW := gwT_9 158 rfl rfl
set_option maxRecDepth 10000 in
theorem im_X12_writesTwo : Cond.instanceMethod yX12_writesTwo ∈ GW := gwT_9 160 rfl rfl
abbrev gX12_writesTwo : mI := (yX12_writesTwo, cX12_writesTwo, 2, none)
set_option maxRecDepth 10000 in
theorem mi_X12_writesTwo : MI gX12_writesTwo 1 := ⟨gwT_9 161 rfl rfl, gwT_1 12 rfl rfl, ⟨by decide, by decide, by decide +kernel⟩, by decide⟩
set_option maxRecDepth 10000 in
theorem lk_X12_677 : Cond.methodLink RX12 677 yX12_checked ∈ GW := gwT_9 162 rfl rfl
set_option maxRecDepth 10000 in
theorem sm_X12_checked : Cond.static yX12_checked ∈ GW := gwT_9 163 rfl rfl
abbrev gX12_checked : mI := (yX12_checked, cX12_checked, 4, (some .int))
set_option maxRecDepth 10000 in
theorem mi_X12_checked : MI gX12_checked 2 := ⟨gwT_9 164 rfl rfl, gwT_1 12 rfl rfl, ⟨by decide, by decide, by decide +kernel⟩, by decide⟩
set_option maxRecDepth 10000 in
theorem lk_L_194 : Cond.methodLink "FatPointersLaw" 194 yX12_on ∈ GW := gwT_9 165 rfl rfl
set_option maxRecDepth 10000 in
theorem im_X12_on : Cond.instanceMethod yX12_on ∈ GW := gwT_9 166 rfl rfl
set_option maxRecDepth 10000 in
theorem se_X12_on : Cond.selects RX12 yX12_on yX12_on ∈ GW := gwT_9 167 rfl rfl
abbrev gX12_on : mI := (yX12_on, cX12_on, 4, (some .boolean))
set_option maxRecDepth 10000 in
theorem mi_X12_on : MI gX12_on 0 := ⟨gwT_9 168 rfl rfl, gwT_1 12 rfl rfl, ⟨by decide, by decide, by decide +kernel⟩, by decide⟩
set_option maxRecDepth 10000 in
theorem lk_X12_693 : Cond.methodLink RX12 693 yX12_isImage ∈ GW := gwT_9 169 rfl rfl
set_option maxRecDepth 10000 in
theorem im_X12_isImage : Cond.instanceMethod yX12_isImage ∈ GW := gwT_9 171 rfl rfl
abbrev gX12_isImage : mI := (yX12_isImage, cX12_isImage, 5, (some .boolean))
set_option maxRecDepth 10000 in
theorem mi_X12_isImage : MI gX12_isImage 1 := ⟨gwT_9 172 rfl rfl, gwT_1 12 rfl rfl, ⟨by decide, by decide, by decide +kernel⟩, by decide⟩
set_option maxRecDepth 10000 in
theorem lk_X12_684 : Cond.methodLink RX12 684 yX12_isEmptyTold ∈ GW := gwT_9 173 rfl rfl
set_option maxRecDepth 10000 in
theorem im_X12_isEmptyTold : Cond.instanceMethod yX12_isEmptyTold ∈ GW := gwT_9 175 rfl rfl
abbrev gX12_isEmptyTold : mI := (yX12_isEmptyTold, cX12_isEmptyTold, 3, (some .boolean))
set_option maxRecDepth 10000 in
theorem mi_X12_isEmptyTold : MI gX12_isEmptyTold 1 := ⟨gwT_9 176 rfl rfl, gwT_1 12 rfl rfl, ⟨by decide, by decide, by decide +kernel⟩, by decide⟩
set_option maxRecDepth 10000 in
theorem lk_X12_687 : Cond.methodLink RX12 687 yX12_isPointerTold ∈ GW := gwT_9 177 rfl rfl
set_option maxRecDepth 10000 in
theorem im_X12_isPointerTold : Cond.instanceMethod yX12_isPointerTold ∈ GW := gwT_9 179 rfl rfl
abbrev gX12_isPointerTold : mI := (yX12_isPointerTold, cX12_isPointerTold, 5, (some .boolean))
set_option maxRecDepth 10000 in
theorem mi_X12_isPointerTold : MI gX12_isPointerTold 1 := ⟨gwT_9 180 rfl rfl, gwT_1 12 rfl rfl, ⟨by decide, by decide, by decide +kernel⟩, by decide⟩
set_option maxRecDepth 10000 in
theorem lk_X12_681 : Cond.methodLink RX12 681 yX12_twoAt ∈ GW := gwT_9 181 rfl rfl
set_option maxRecDepth 10000 in
theorem im_X12_twoAt : Cond.instanceMethod yX12_twoAt ∈ GW := gwT_9 183 rfl rfl
abbrev gX12_twoAt : mI := (yX12_twoAt, cX12_twoAt, 2, (some .int))
set_option maxRecDepth 10000 in
theorem mi_X12_twoAt : MI gX12_twoAt 1 := ⟨gwT_9 184 rfl rfl, gwT_1 12 rfl rfl, ⟨by decide, by decide, by decide +kernel⟩, by decide⟩
set_option maxRecDepth 10000 in
theorem lk_X12_690 : Cond.methodLink RX12 690 yX12_areObjectsTold ∈ GW := gwT_9 185 rfl rfl
set_option maxRecDepth 10000 in
theorem im_X12_areObjectsTold : Cond.instanceMethod yX12_areObjectsTold ∈ GW := gwT_9 187 rfl rfl
abbrev gX12_areObjectsTold : mI := (yX12_areObjectsTold, cX12_areObjectsTold, 7, (some .boolean))
set_option maxRecDepth 10000 in
theorem mi_X12_areObjectsTold : MI gX12_areObjectsTold 2 := ⟨gwT_9 188 rfl rfl, gwT_1 12 rfl rfl, ⟨by decide, by decide, by decide +kernel⟩, by decide⟩
set_option maxRecDepth 10000 in
theorem lk_X12_696 : Cond.methodLink RX12 696 yX12_laysPointer ∈ GW := gwT_9 189 rfl rfl
set_option maxRecDepth 10000 in
theorem im_X12_laysPointer : Cond.instanceMethod yX12_laysPointer ∈ GW := gwT_9 191 rfl rfl
abbrev gX12_laysPointer : mI := (yX12_laysPointer, cX12_laysPointer, 4, none)
set_option maxRecDepth 10000 in
theorem mi_X12_laysPointer : MI gX12_laysPointer 2 := ⟨gwT_9 192 rfl rfl, gwT_1 12 rfl rfl, ⟨by decide, by decide, by decide +kernel⟩, by decide⟩
set_option maxRecDepth 10000 in
theorem se_X11_refuse : Cond.selects RX11 yX11_refuse yX11_refuse ∈ GW := gwP_1 (q := (yX11_refuse, 17)) 0 rfl
set_option maxRecDepth 10000 in
theorem se_X11_put : Cond.selects RX11 yX11_put yX11_put ∈ GW := gwP_1 (q := (yX11_put, 17)) 1 rfl
set_option maxRecDepth 10000 in
theorem se_X11_deny : Cond.selects RX11 yX11_deny yX11_deny ∈ GW := gwP_1 (q := (yX11_deny, 17)) 2 rfl
set_option maxRecDepth 10000 in
theorem se_X11_takeTape : Cond.selects RX11 yX11_takeTape yX11_takeTape ∈ GW := gwP_1 (q := (yX11_takeTape, 17)) 3 rfl
set_option maxRecDepth 10000 in
theorem se_X5_begin : Cond.selects RX5 yX5_begin yX5_begin ∈ GW := gwP_1 (q := (yX5_begin, 5)) 4 rfl
set_option maxRecDepth 10000 in
theorem se_X7_kindAt : Cond.selects RX7 yX7_kindAt yX7_kindAt ∈ GW := gwP_1 (q := (yX7_kindAt, 6)) 5 rfl
set_option maxRecDepth 10000 in
theorem se_X7_plainValue : Cond.selects RX7 yX7_plainValue yX7_plainValue ∈ GW := gwP_1 (q := (yX7_plainValue, 6)) 6 rfl
set_option maxRecDepth 10000 in
theorem se_X5_statement : Cond.selects RX5 yX5_statement yX5_statement ∈ GW := gwP_1 (q := (yX5_statement, 5)) 7 rfl
set_option maxRecDepth 10000 in
theorem se_X5_memoryStatement : Cond.selects RX5 yX5_memoryStatement yX5_memoryStatement ∈ GW := gwP_1 (q := (yX5_memoryStatement, 5)) 8 rfl
set_option maxRecDepth 10000 in
theorem se_X5_word : Cond.selects RX5 yX5_word yX5_word ∈ GW := gwP_1 (q := (yX5_word, 5)) 9 rfl
set_option maxRecDepth 10000 in
theorem se_X5_fail : Cond.selects RX5 yX5_fail yX5_fail ∈ GW := gwP_1 (q := (yX5_fail, 5)) 10 rfl
set_option maxRecDepth 10000 in
theorem se_X5_number : Cond.selects RX5 yX5_number yX5_number ∈ GW := gwP_1 (q := (yX5_number, 5)) 11 rfl
set_option maxRecDepth 10000 in
theorem se_X5_shelfStatement : Cond.selects RX5 yX5_shelfStatement yX5_shelfStatement ∈ GW := gwP_1 (q := (yX5_shelfStatement, 5)) 12 rfl
set_option maxRecDepth 10000 in
theorem se_X5_name : Cond.selects RX5 yX5_name yX5_name ∈ GW := gwP_1 (q := (yX5_name, 5)) 13 rfl
set_option maxRecDepth 10000 in
theorem se_X5_begins : Cond.selects RX5 yX5_begins yX5_begins ∈ GW := gwP_1 (q := (yX5_begins, 5)) 14 rfl
set_option maxRecDepth 10000 in
theorem se_X5_sum : Cond.selects RX5 yX5_sum yX5_sum ∈ GW := gwP_1 (q := (yX5_sum, 5)) 15 rfl
set_option maxRecDepth 10000 in
theorem se_X5_product : Cond.selects RX5 yX5_product yX5_product ∈ GW := gwP_2 (q := (yX5_product, 5)) 0 rfl
set_option maxRecDepth 10000 in
theorem se_X5_part : Cond.selects RX5 yX5_part yX5_part ∈ GW := gwP_2 (q := (yX5_part, 5)) 1 rfl
set_option maxRecDepth 10000 in
theorem se_X5_opening : Cond.selects RX5 yX5_opening yX5_opening ∈ GW := gwP_2 (q := (yX5_opening, 5)) 2 rfl
set_option maxRecDepth 10000 in
theorem se_X5_sign : Cond.selects RX5 yX5_sign yX5_sign ∈ GW := gwP_2 (q := (yX5_sign, 5)) 3 rfl
set_option maxRecDepth 10000 in
theorem se_X5_pair : Cond.selects RX5 yX5_pair yX5_pair ∈ GW := gwP_2 (q := (yX5_pair, 5)) 4 rfl
set_option maxRecDepth 10000 in
theorem se_X5_wordPart : Cond.selects RX5 yX5_wordPart yX5_wordPart ∈ GW := gwP_2 (q := (yX5_wordPart, 5)) 5 rfl
set_option maxRecDepth 10000 in
theorem se_X5_ends : Cond.selects RX5 yX5_ends yX5_ends ∈ GW := gwP_2 (q := (yX5_ends, 5)) 6 rfl
set_option maxRecDepth 10000 in
theorem se_X5_test : Cond.selects RX5 yX5_test yX5_test ∈ GW := gwP_2 (q := (yX5_test, 5)) 7 rfl
set_option maxRecDepth 10000 in
theorem se_X5_both : Cond.selects RX5 yX5_both yX5_both ∈ GW := gwP_2 (q := (yX5_both, 5)) 8 rfl
set_option maxRecDepth 10000 in
theorem se_X5_fact : Cond.selects RX5 yX5_fact yX5_fact ∈ GW := gwP_2 (q := (yX5_fact, 5)) 9 rfl
set_option maxRecDepth 10000 in
theorem se_X11_keepFault : Cond.selects RX11 yX11_keepFault yX11_keepFault ∈ GW := gwP_2 (q := (yX11_keepFault, 17)) 10 rfl
set_option maxRecDepth 10000 in
theorem se_X11_beginAnew : Cond.selects RX11 yX11_beginAnew yX11_beginAnew ∈ GW := gwP_2 (q := (yX11_beginAnew, 17)) 11 rfl
set_option maxRecDepth 10000 in
theorem se_X11_isShelf : Cond.selects RX11 yX11_isShelf yX11_isShelf ∈ GW := gwP_2 (q := (yX11_isShelf, 17)) 12 rfl
set_option maxRecDepth 10000 in
theorem se_X11_isPointer : Cond.selects RX11 yX11_isPointer yX11_isPointer ∈ GW := gwP_2 (q := (yX11_isPointer, 17)) 13 rfl
set_option maxRecDepth 10000 in
theorem se_X6_baseFrom : Cond.selects RX6 yX6_baseFrom yX6_baseFrom ∈ GW := gwP_2 (q := (yX6_baseFrom, 8)) 14 rfl
set_option maxRecDepth 10000 in
theorem se_X11_isPlace : Cond.selects RX11 yX11_isPlace yX11_isPlace ∈ GW := gwP_2 (q := (yX11_isPlace, 17)) 15 rfl
set_option maxRecDepth 10000 in
theorem se_X0_work : Cond.selects RX0 yX0_work yX0_work ∈ GW := gwP_3 (q := (yX0_work, 6)) 0 rfl
set_option maxRecDepth 10000 in
theorem se_X0_push : Cond.selects RX0 yX0_push yX0_push ∈ GW := gwP_3 (q := (yX0_push, 6)) 1 rfl
set_option maxRecDepth 10000 in
theorem se_X0_pop : Cond.selects RX0 yX0_pop yX0_pop ∈ GW := gwP_3 (q := (yX0_pop, 6)) 2 rfl
set_option maxRecDepth 10000 in
theorem se_X0_ofOne : Cond.selects RX0 yX0_ofOne yX0_ofOne ∈ GW := gwP_3 (q := (yX0_ofOne, 6)) 3 rfl
set_option maxRecDepth 10000 in
theorem se_X8_isPlace : Cond.selects RX8 yX8_isPlace yX8_isPlace ∈ GW := gwP_3 (q := (yX8_isPlace, 7)) 4 rfl
set_option maxRecDepth 10000 in
theorem se_X8_isInside : Cond.selects RX8 yX8_isInside yX8_isInside ∈ GW := gwP_3 (q := (yX8_isInside, 7)) 5 rfl
set_option maxRecDepth 10000 in
theorem se_X8_placesAt : Cond.selects RX8 yX8_placesAt yX8_placesAt ∈ GW := gwP_3 (q := (yX8_placesAt, 7)) 6 rfl
set_option maxRecDepth 10000 in
theorem se_X11_allocate : Cond.selects RX11 yX11_allocate yX11_allocate ∈ GW := gwP_3 (q := (yX11_allocate, 17)) 7 rfl
set_option maxRecDepth 10000 in
theorem se_X11_objectOf : Cond.selects RX11 yX11_objectOf yX11_objectOf ∈ GW := gwP_3 (q := (yX11_objectOf, 17)) 8 rfl
set_option maxRecDepth 10000 in
theorem se_X11_kindOfKey : Cond.selects RX11 yX11_kindOfKey yX11_kindOfKey ∈ GW := gwP_3 (q := (yX11_kindOfKey, 17)) 9 rfl
set_option maxRecDepth 10000 in
theorem se_X11_canFollow : Cond.selects RX11 yX11_canFollow yX11_canFollow ∈ GW := gwP_3 (q := (yX11_canFollow, 17)) 10 rfl
set_option maxRecDepth 10000 in
theorem se_X0_setBounds : Cond.selects RX0 yX0_setBounds yX0_setBounds ∈ GW := gwP_3 (q := (yX0_setBounds, 6)) 11 rfl
set_option maxRecDepth 10000 in
theorem se_X11_emptyPlace : Cond.selects RX11 yX11_emptyPlace yX11_emptyPlace ∈ GW := gwP_3 (q := (yX11_emptyPlace, 17)) 12 rfl
set_option maxRecDepth 10000 in
theorem se_X11_actBySeed : Cond.selects RX11 yX11_actBySeed yX11_actBySeed ∈ GW := gwP_3 (q := (yX11_actBySeed, 17)) 13 rfl
set_option maxRecDepth 10000 in
theorem se_X11_draw : Cond.selects RX11 yX11_draw yX11_draw ∈ GW := gwP_3 (q := (yX11_draw, 17)) 14 rfl
set_option maxRecDepth 10000 in
theorem se_X11_answer : Cond.selects RX11 yX11_answer yX11_answer ∈ GW := gwP_3 (q := (yX11_answer, 17)) 15 rfl
set_option maxRecDepth 10000 in
theorem se_X3_writeCell : Cond.selects RX3 yX3_writeCell yX3_writeCell ∈ GW := gwP_4 (q := (yX3_writeCell, 2)) 0 rfl
set_option maxRecDepth 10000 in
theorem se_X3_add : Cond.selects RX3 yX3_add yX3_add ∈ GW := gwP_4 (q := (yX3_add, 2)) 1 rfl
set_option maxRecDepth 10000 in
theorem se_X3_addTwo : Cond.selects RX3 yX3_addTwo yX3_addTwo ∈ GW := gwP_4 (q := (yX3_addTwo, 2)) 2 rfl
set_option maxRecDepth 10000 in
theorem se_X12_machineTold : Cond.selects RX12 yX12_machineTold yX12_machineTold ∈ GW := gwP_4 (q := (yX12_machineTold, 103)) 3 rfl
set_option maxRecDepth 10000 in
theorem se_X12_asks : Cond.selects RX12 yX12_asks yX12_asks ∈ GW := gwP_4 (q := (yX12_asks, 103)) 4 rfl
set_option maxRecDepth 10000 in
theorem se_X12_takes : Cond.selects RX12 yX12_takes yX12_takes ∈ GW := gwP_4 (q := (yX12_takes, 103)) 5 rfl
set_option maxRecDepth 10000 in
theorem se_X12_isHere : Cond.selects RX12 yX12_isHere yX12_isHere ∈ GW := gwP_4 (q := (yX12_isHere, 103)) 6 rfl
set_option maxRecDepth 10000 in
theorem se_X12_look : Cond.selects RX12 yX12_look yX12_look ∈ GW := gwP_4 (q := (yX12_look, 103)) 7 rfl
set_option maxRecDepth 10000 in
theorem se_X12_fail : Cond.selects RX12 yX12_fail yX12_fail ∈ GW := gwP_4 (q := (yX12_fail, 103)) 8 rfl
set_option maxRecDepth 10000 in
theorem se_X12_number : Cond.selects RX12 yX12_number yX12_number ∈ GW := gwP_4 (q := (yX12_number, 103)) 9 rfl
set_option maxRecDepth 10000 in
theorem se_X12_asksSign : Cond.selects RX12 yX12_asksSign yX12_asksSign ∈ GW := gwP_4 (q := (yX12_asksSign, 103)) 10 rfl
set_option maxRecDepth 10000 in
theorem se_X12_takesSign : Cond.selects RX12 yX12_takesSign yX12_takesSign ∈ GW := gwP_4 (q := (yX12_takesSign, 103)) 11 rfl
set_option maxRecDepth 10000 in
theorem se_X12_statementTold : Cond.selects RX12 yX12_statementTold yX12_statementTold ∈ GW := gwP_4 (q := (yX12_statementTold, 103)) 12 rfl
set_option maxRecDepth 10000 in
theorem se_X12_shelfTold : Cond.selects RX12 yX12_shelfTold yX12_shelfTold ∈ GW := gwP_4 (q := (yX12_shelfTold, 103)) 13 rfl
set_option maxRecDepth 10000 in
theorem se_X12_name : Cond.selects RX12 yX12_name yX12_name ∈ GW := gwP_4 (q := (yX12_name, 103)) 14 rfl
set_option maxRecDepth 10000 in
theorem se_X12_isOwnHere : Cond.selects RX12 yX12_isOwnHere yX12_isOwnHere ∈ GW := gwP_4 (q := (yX12_isOwnHere, 103)) 15 rfl
set_option maxRecDepth 10000 in
theorem se_X12_codesTold : Cond.selects RX12 yX12_codesTold yX12_codesTold ∈ GW := gwP_5 (q := (yX12_codesTold, 103)) 0 rfl
set_option maxRecDepth 10000 in
theorem se_X12_qTest : Cond.selects RX12 yX12_qTest yX12_qTest ∈ GW := gwP_5 (q := (yX12_qTest, 103)) 1 rfl
set_option maxRecDepth 10000 in
theorem se_X12_qOpens : Cond.selects RX12 yX12_qOpens yX12_qOpens ∈ GW := gwP_5 (q := (yX12_qOpens, 103)) 2 rfl
set_option maxRecDepth 10000 in
theorem se_X12_qFact : Cond.selects RX12 yX12_qFact yX12_qFact ∈ GW := gwP_5 (q := (yX12_qFact, 103)) 3 rfl
set_option maxRecDepth 10000 in
theorem se_X12_qCode : Cond.selects RX12 yX12_qCode yX12_qCode ∈ GW := gwP_5 (q := (yX12_qCode, 103)) 4 rfl
set_option maxRecDepth 10000 in
theorem se_X12_qSums : Cond.selects RX12 yX12_qSums yX12_qSums ∈ GW := gwP_5 (q := (yX12_qSums, 103)) 5 rfl
set_option maxRecDepth 10000 in
theorem se_X12_qPartTold : Cond.selects RX12 yX12_qPartTold yX12_qPartTold ∈ GW := gwP_5 (q := (yX12_qPartTold, 103)) 6 rfl
set_option maxRecDepth 10000 in
theorem se_X12_qWordOf : Cond.selects RX12 yX12_qWordOf yX12_qWordOf ∈ GW := gwP_5 (q := (yX12_qWordOf, 103)) 7 rfl
set_option maxRecDepth 10000 in
theorem se_X12_qWordHere : Cond.selects RX12 yX12_qWordHere yX12_qWordHere ∈ GW := gwP_5 (q := (yX12_qWordHere, 103)) 8 rfl
set_option maxRecDepth 10000 in
theorem se_X12_isAllowed : Cond.selects RX12 yX12_isAllowed yX12_isAllowed ∈ GW := gwP_5 (q := (yX12_isAllowed, 103)) 9 rfl
set_option maxRecDepth 10000 in
theorem se_X12_qAsksWord : Cond.selects RX12 yX12_qAsksWord yX12_qAsksWord ∈ GW := gwP_5 (q := (yX12_qAsksWord, 103)) 10 rfl
set_option maxRecDepth 10000 in
theorem se_X12_qEndsPart : Cond.selects RX12 yX12_qEndsPart yX12_qEndsPart ∈ GW := gwP_5 (q := (yX12_qEndsPart, 103)) 11 rfl
set_option maxRecDepth 10000 in
theorem se_X12_qDrops : Cond.selects RX12 yX12_qDrops yX12_qDrops ∈ GW := gwP_5 (q := (yX12_qDrops, 103)) 12 rfl
set_option maxRecDepth 10000 in
theorem se_X12_qGoesOn : Cond.selects RX12 yX12_qGoesOn yX12_qGoesOn ∈ GW := gwP_5 (q := (yX12_qGoesOn, 103)) 13 rfl
set_option maxRecDepth 10000 in
theorem se_X12_qBracket : Cond.selects RX12 yX12_qBracket yX12_qBracket ∈ GW := gwP_5 (q := (yX12_qBracket, 103)) 14 rfl
set_option maxRecDepth 10000 in
theorem se_X12_qDropsToBracket : Cond.selects RX12 yX12_qDropsToBracket yX12_qDropsToBracket ∈ GW := gwP_5 (q := (yX12_qDropsToBracket, 103)) 15 rfl
set_option maxRecDepth 10000 in
theorem se_X12_qIsOn : Cond.selects RX12 yX12_qIsOn yX12_qIsOn ∈ GW := gwP_6 (q := (yX12_qIsOn, 103)) 0 rfl
set_option maxRecDepth 10000 in
theorem se_X12_qDropsNots : Cond.selects RX12 yX12_qDropsNots yX12_qDropsNots ∈ GW := gwP_6 (q := (yX12_qDropsNots, 103)) 1 rfl
set_option maxRecDepth 10000 in
theorem se_X12_qGoesOnTest : Cond.selects RX12 yX12_qGoesOnTest yX12_qGoesOnTest ∈ GW := gwP_6 (q := (yX12_qGoesOnTest, 103)) 2 rfl
set_option maxRecDepth 10000 in
theorem se_X12_qHasSquare : Cond.selects RX12 yX12_qHasSquare yX12_qHasSquare ∈ GW := gwP_6 (q := (yX12_qHasSquare, 103)) 3 rfl
set_option maxRecDepth 10000 in
theorem se_X12_refuses : Cond.selects RX12 yX12_refuses yX12_refuses ∈ GW := gwP_6 (q := (yX12_refuses, 103)) 4 rfl
set_option maxRecDepth 10000 in
theorem se_X12_stands : Cond.selects RX12 yX12_stands yX12_stands ∈ GW := gwP_6 (q := (yX12_stands, 103)) 5 rfl
set_option maxRecDepth 10000 in
theorem se_X12_encodes : Cond.selects RX12 yX12_encodes yX12_encodes ∈ GW := gwP_6 (q := (yX12_encodes, 103)) 6 rfl
set_option maxRecDepth 10000 in
theorem se_X12_mantissa : Cond.selects RX12 yX12_mantissa yX12_mantissa ∈ GW := gwP_6 (q := (yX12_mantissa, 103)) 7 rfl
set_option maxRecDepth 10000 in
theorem se_X12_encodesBy : Cond.selects RX12 yX12_encodesBy yX12_encodesBy ∈ GW := gwP_6 (q := (yX12_encodesBy, 103)) 8 rfl
set_option maxRecDepth 10000 in
theorem se_X12_laysBounds : Cond.selects RX12 yX12_laysBounds yX12_laysBounds ∈ GW := gwP_6 (q := (yX12_laysBounds, 103)) 9 rfl
set_option maxRecDepth 10000 in
theorem se_X12_modulo : Cond.selects RX12 yX12_modulo yX12_modulo ∈ GW := gwP_6 (q := (yX12_modulo, 103)) 10 rfl
set_option maxRecDepth 10000 in
theorem se_X12_laysHoles : Cond.selects RX12 yX12_laysHoles yX12_laysHoles ∈ GW := gwP_6 (q := (yX12_laysHoles, 103)) 11 rfl
set_option maxRecDepth 10000 in
theorem se_X12_objectMany : Cond.selects RX12 yX12_objectMany yX12_objectMany ∈ GW := gwP_6 (q := (yX12_objectMany, 103)) 12 rfl
set_option maxRecDepth 10000 in
theorem se_X12_objectOf : Cond.selects RX12 yX12_objectOf yX12_objectOf ∈ GW := gwP_6 (q := (yX12_objectOf, 103)) 13 rfl
set_option maxRecDepth 10000 in
theorem se_X12_validMany : Cond.selects RX12 yX12_validMany yX12_validMany ∈ GW := gwP_6 (q := (yX12_validMany, 103)) 14 rfl
set_option maxRecDepth 10000 in
theorem se_X12_objectBytes : Cond.selects RX12 yX12_objectBytes yX12_objectBytes ∈ GW := gwP_6 (q := (yX12_objectBytes, 103)) 15 rfl
set_option maxRecDepth 10000 in
theorem se_X12_longestHole : Cond.selects RX12 yX12_longestHole yX12_longestHole ∈ GW := gwP_7 (q := (yX12_longestHole, 103)) 0 rfl
set_option maxRecDepth 10000 in
theorem se_X12_shelfMany : Cond.selects RX12 yX12_shelfMany yX12_shelfMany ∈ GW := gwP_7 (q := (yX12_shelfMany, 103)) 1 rfl
set_option maxRecDepth 10000 in
theorem se_X12_isShelf : Cond.selects RX12 yX12_isShelf yX12_isShelf ∈ GW := gwP_7 (q := (yX12_isShelf, 103)) 2 rfl
set_option maxRecDepth 10000 in
theorem se_X12_isPointer : Cond.selects RX12 yX12_isPointer yX12_isPointer ∈ GW := gwP_7 (q := (yX12_isPointer, 103)) 3 rfl
set_option maxRecDepth 10000 in
theorem se_X12_told : Cond.selects RX12 yX12_told yX12_told ∈ GW := gwP_7 (q := (yX12_told, 103)) 4 rfl
set_option maxRecDepth 10000 in
theorem se_X12_baseOf : Cond.selects RX12 yX12_baseOf yX12_baseOf ∈ GW := gwP_7 (q := (yX12_baseOf, 103)) 5 rfl
set_option maxRecDepth 10000 in
theorem se_X12_baseFrom : Cond.selects RX12 yX12_baseFrom yX12_baseFrom ∈ GW := gwP_7 (q := (yX12_baseFrom, 103)) 6 rfl
set_option maxRecDepth 10000 in
theorem se_X12_edgeOf : Cond.selects RX12 yX12_edgeOf yX12_edgeOf ∈ GW := gwP_7 (q := (yX12_edgeOf, 103)) 7 rfl
set_option maxRecDepth 10000 in
theorem se_X12_lengthOf : Cond.selects RX12 yX12_lengthOf yX12_lengthOf ∈ GW := gwP_7 (q := (yX12_lengthOf, 103)) 8 rfl
set_option maxRecDepth 10000 in
theorem se_X12_shelfAt : Cond.selects RX12 yX12_shelfAt yX12_shelfAt ∈ GW := gwP_7 (q := (yX12_shelfAt, 103)) 9 rfl
set_option maxRecDepth 10000 in
theorem se_X12_areBounds : Cond.selects RX12 yX12_areBounds yX12_areBounds ∈ GW := gwP_7 (q := (yX12_areBounds, 103)) 10 rfl
set_option maxRecDepth 10000 in
theorem se_X12_isExact : Cond.selects RX12 yX12_isExact yX12_isExact ∈ GW := gwP_7 (q := (yX12_isExact, 103)) 11 rfl
set_option maxRecDepth 10000 in
theorem se_X12_doesFit : Cond.selects RX12 yX12_doesFit yX12_doesFit ∈ GW := gwP_7 (q := (yX12_doesFit, 103)) 12 rfl
set_option maxRecDepth 10000 in
theorem se_X12_isQuick : Cond.selects RX12 yX12_isQuick yX12_isQuick ∈ GW := gwP_7 (q := (yX12_isQuick, 103)) 13 rfl
set_option maxRecDepth 10000 in
theorem se_X12_isOpen : Cond.selects RX12 yX12_isOpen yX12_isOpen ∈ GW := gwP_7 (q := (yX12_isOpen, 103)) 14 rfl
set_option maxRecDepth 10000 in
theorem se_X12_isWithin : Cond.selects RX12 yX12_isWithin yX12_isWithin ∈ GW := gwP_7 (q := (yX12_isWithin, 103)) 15 rfl
set_option maxRecDepth 10000 in
theorem se_X12_roomFor : Cond.selects RX12 yX12_roomFor yX12_roomFor ∈ GW := gwP_8 (q := (yX12_roomFor, 103)) 0 rfl
set_option maxRecDepth 10000 in
theorem se_X12_isCoded : Cond.selects RX12 yX12_isCoded yX12_isCoded ∈ GW := gwP_8 (q := (yX12_isCoded, 103)) 1 rfl
set_option maxRecDepth 10000 in
theorem se_X12_codesTell : Cond.selects RX12 yX12_codesTell yX12_codesTell ∈ GW := gwP_8 (q := (yX12_codesTell, 103)) 2 rfl
set_option maxRecDepth 10000 in
theorem se_X12_qPuts : Cond.selects RX12 yX12_qPuts yX12_qPuts ∈ GW := gwP_8 (q := (yX12_qPuts, 103)) 3 rfl
set_option maxRecDepth 10000 in
theorem se_X12_qPartOf : Cond.selects RX12 yX12_qPartOf yX12_qPartOf ∈ GW := gwP_8 (q := (yX12_qPartOf, 103)) 4 rfl
set_option maxRecDepth 10000 in
theorem se_X12_qJoins : Cond.selects RX12 yX12_qJoins yX12_qJoins ∈ GW := gwP_8 (q := (yX12_qJoins, 103)) 5 rfl
set_option maxRecDepth 10000 in
theorem se_X12_laysPlaces : Cond.selects RX12 yX12_laysPlaces yX12_laysPlaces ∈ GW := gwP_8 (q := (yX12_laysPlaces, 103)) 6 rfl
set_option maxRecDepth 10000 in
theorem se_X12_isPlace : Cond.selects RX12 yX12_isPlace yX12_isPlace ∈ GW := gwP_8 (q := (yX12_isPlace, 103)) 7 rfl
set_option maxRecDepth 10000 in
theorem se_X12_fitsFrom : Cond.selects RX12 yX12_fitsFrom yX12_fitsFrom ∈ GW := gwP_8 (q := (yX12_fitsFrom, 103)) 8 rfl
set_option maxRecDepth 10000 in
theorem se_X12_keeps : Cond.selects RX12 yX12_keeps yX12_keeps ∈ GW := gwP_8 (q := (yX12_keeps, 103)) 9 rfl
set_option maxRecDepth 10000 in
theorem se_X12_allocates : Cond.selects RX12 yX12_allocates yX12_allocates ∈ GW := gwP_8 (q := (yX12_allocates, 103)) 10 rfl
set_option maxRecDepth 10000 in
theorem se_X12_isKept : Cond.selects RX12 yX12_isKept yX12_isKept ∈ GW := gwP_8 (q := (yX12_isKept, 103)) 11 rfl
set_option maxRecDepth 10000 in
theorem se_X12_objectBy : Cond.selects RX12 yX12_objectBy yX12_objectBy ∈ GW := gwP_8 (q := (yX12_objectBy, 103)) 12 rfl
set_option maxRecDepth 10000 in
theorem se_X12_frees : Cond.selects RX12 yX12_frees yX12_frees ∈ GW := gwP_8 (q := (yX12_frees, 103)) 13 rfl
set_option maxRecDepth 10000 in
theorem se_X12_isRefused : Cond.selects RX12 yX12_isRefused yX12_isRefused ∈ GW := gwP_8 (q := (yX12_isRefused, 103)) 14 rfl
set_option maxRecDepth 10000 in
theorem se_X12_copies : Cond.selects RX12 yX12_copies yX12_copies ∈ GW := gwP_8 (q := (yX12_copies, 103)) 15 rfl
set_option maxRecDepth 10000 in
theorem se_X12_kindBy : Cond.selects RX12 yX12_kindBy yX12_kindBy ∈ GW := gwP_9 (q := (yX12_kindBy, 103)) 0 rfl
set_option maxRecDepth 10000 in
theorem se_X12_canFollow : Cond.selects RX12 yX12_canFollow yX12_canFollow ∈ GW := gwP_9 (q := (yX12_canFollow, 103)) 1 rfl
set_option maxRecDepth 10000 in
theorem se_X12_isDrawn : Cond.selects RX12 yX12_isDrawn yX12_isDrawn ∈ GW := gwP_9 (q := (yX12_isDrawn, 103)) 2 rfl
set_option maxRecDepth 10000 in
theorem se_X12_drawOf : Cond.selects RX12 yX12_drawOf yX12_drawOf ∈ GW := gwP_9 (q := (yX12_drawOf, 103)) 3 rfl
set_option maxRecDepth 10000 in
theorem se_X12_qKind : Cond.selects RX12 yX12_qKind yX12_qKind ∈ GW := gwP_9 (q := (yX12_qKind, 103)) 4 rfl
set_option maxRecDepth 10000 in
theorem se_X12_qTold : Cond.selects RX12 yX12_qTold yX12_qTold ∈ GW := gwP_9 (q := (yX12_qTold, 103)) 5 rfl
set_option maxRecDepth 10000 in
theorem se_X12_qOf : Cond.selects RX12 yX12_qOf yX12_qOf ∈ GW := gwP_9 (q := (yX12_qOf, 103)) 6 rfl
set_option maxRecDepth 10000 in
theorem se_X12_qTakes : Cond.selects RX12 yX12_qTakes yX12_qTakes ∈ GW := gwP_9 (q := (yX12_qTakes, 103)) 7 rfl
set_option maxRecDepth 10000 in
theorem se_X12_writesPointer : Cond.selects RX12 yX12_writesPointer yX12_writesPointer ∈ GW := gwP_9 (q := (yX12_writesPointer, 103)) 8 rfl
set_option maxRecDepth 10000 in
theorem se_X12_writes : Cond.selects RX12 yX12_writes yX12_writes ∈ GW := gwP_9 (q := (yX12_writes, 103)) 9 rfl
set_option maxRecDepth 10000 in
theorem se_X12_writesTwo : Cond.selects RX12 yX12_writesTwo yX12_writesTwo ∈ GW := gwP_9 (q := (yX12_writesTwo, 103)) 10 rfl
set_option maxRecDepth 10000 in
theorem se_X12_isImage : Cond.selects RX12 yX12_isImage yX12_isImage ∈ GW := gwP_9 (q := (yX12_isImage, 103)) 11 rfl
set_option maxRecDepth 10000 in
theorem se_X12_isEmptyTold : Cond.selects RX12 yX12_isEmptyTold yX12_isEmptyTold ∈ GW := gwP_9 (q := (yX12_isEmptyTold, 103)) 12 rfl
set_option maxRecDepth 10000 in
theorem se_X12_isPointerTold : Cond.selects RX12 yX12_isPointerTold yX12_isPointerTold ∈ GW := gwP_9 (q := (yX12_isPointerTold, 103)) 13 rfl
set_option maxRecDepth 10000 in
theorem se_X12_twoAt : Cond.selects RX12 yX12_twoAt yX12_twoAt ∈ GW := gwP_9 (q := (yX12_twoAt, 103)) 14 rfl
set_option maxRecDepth 10000 in
theorem se_X12_areObjectsTold : Cond.selects RX12 yX12_areObjectsTold yX12_areObjectsTold ∈ GW := gwP_9 (q := (yX12_areObjectsTold, 103)) 15 rfl
set_option maxRecDepth 10000 in
theorem se_X12_laysPointer : Cond.selects RX12 yX12_laysPointer yX12_laysPointer ∈ GW := gwP_10 (q := (yX12_laysPointer, 103)) 0 rfl
