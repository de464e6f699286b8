/-! THE WORDS' TEXT: what lies in the heap ahead of us -/
theorem HI.old {Γ : gS} {h : aH} {H : Heap} (hH : HI Γ h H) : ∀ a : Nat, a < (gO Γ).size → ¬ Az Γ a → H[a]? = (gO Γ)[a]? := fun a _ n => hH.2.2.1 a (Nat.not_le.mp n)
section SRows
variable {Γ : gS} {γ : mI} {d pc : Nat} {lv : List (Nat × Value)} {st : List Value} {h : aH} {r : Option Value} {h' : aH}
theorem x_ldcS (hc : γ.1.cls = "FatPointers$Words") (hd : decode γ.2.1 pc = .ok (.ldc 11, 2)) (k : Ex Γ γ d (pc + 2) lv (.ref (gs Γ) :: st) h r h') : Ex Γ γ d pc lv st h r h' :=
  ⟨k.1, fun p e R s m args below meth c H locs cells slots ls C hH hL hl e1 e2 => va_ldcS C.1 C.2.1 (hc ▸ C.2.2.2.1) C.2.2.2.2.2.1.2.2.2.2.1 hd (k.2 p e R s m args below meth c H locs cells slots ls C hH hL hl e1 e2)⟩
theorem wx_gets {C n dsc : String} {v : Value} {idx : Nat} {p : Program} {e : Env} {R : Room} {s : State} {m : MethodId} {args : Array Value} {below : List Frame} {meth : Method} {c : Code} {H : Heap} {locs : List Loc} {cells slots : Nat} {ls : Array Slot} {Q : State → Prop} (Cc : Cx Γ γ d p R s m args meth c) (hH : HI Γ h H) (zz : va_Z C n dsc v (Az Γ) s (gO Γ)) (hl : Cond.fieldLink γ.1.cls idx C n dsc ∈ GW) (hd : decode γ.2.1 pc = .ok (.getstatic idx, 3)) (k : W p (gl Γ) e R s m args below meth c H locs cells slots Q (F0 m (pc + 3) ls (v :: st))) : W p (gl Γ) e R s m args below meth c H locs cells slots Q (F0 m pc ls st) := by
  obtain ⟨cf, kf, fi, f, a, cell, h1, h2, h3, h4, h5, h6, h7, h8⟩ := zz.kept hH.old
  exact W.gets Cc.1 Cc.2.1 Cc.2.2.2.1 (Cc.2.2.2.2.1 _ hl) h1 h2 h3 h4 h5 (fun e => by rw [e] at h6; cases h6) h7 rfl hd k
theorem x_gets {C n dsc : String} {v : Value} {idx : Nat} (zz : ∀ U, KX Γ U → va_Z C n dsc v (Az Γ) U (gO Γ)) (hl : Cond.fieldLink γ.1.cls idx C n dsc ∈ GW) (hd : decode γ.2.1 pc = .ok (.getstatic idx, 3)) (k : Ex Γ γ d (pc + 3) lv (v :: st) h r h') : Ex Γ γ d pc lv st h r h' :=
  ⟨k.1, fun p e R s m args below meth c H locs cells slots ls C hH hL hl' e1 e2 => wx_gets C hH (zz s C.2.2.2.2.2.1) hl hd (k.2 p e R s m args below meth c H locs cells slots ls C hH hL hl' e1 e2)⟩
theorem x_getsQ {C n dsc : String} {idx : Nat} (zz : ∀ U, KX Γ U → va_Zq C n dsc (Az Γ) U (gO Γ)) (hl : Cond.fieldLink γ.1.cls idx C n dsc ∈ GW) (hd : decode γ.2.1 pc = .ok (.getstatic idx, 3)) (k : ∀ o : Option Nat, Ex Γ γ d (pc + 3) lv (va_rf o :: st) h r h') : Ex Γ γ d pc lv st h r h' := by
  refine ⟨(k none).1, fun p e R s m args below meth c H locs cells slots ls C hH hL hl' e1 e2 => ?_⟩
  rcases zz s C.2.2.2.2.2.1 with z | ⟨t, z⟩
  · exact wx_gets C hH z hl hd ((k none).2 p e R s m args below meth c H locs cells slots ls C hH hL hl' e1 e2)
  · exact wx_gets C hH z hl hd ((k (some t)).2 p e R s m args below meth c H locs cells slots ls C hH hL hl' e1 e2)
theorem x_getfS {n dsc : String} {v : Value} {idx : Nat} (zz : ∀ U, KX Γ U → va_OF "java/lang/String" n dsc v (gs Γ) (Az Γ) U (gO Γ)) (hl : Cond.fieldLink γ.1.cls idx "java/lang/String" n dsc ∈ GW) (hd : decode γ.2.1 pc = .ok (.getfield idx, 3)) (k : Ex Γ γ d (pc + 3) lv (v :: st) h r h') : Ex Γ γ d pc lv (.ref (gs Γ) :: st) h r h' := by
  refine ⟨k.1, fun p e R s m args below meth c H locs cells slots ls C hH hL hl' e1 e2 => ?_⟩
  obtain ⟨cf, kk, fi, f, cell, h1, h2, h3, h4, h5, h6⟩ := (zz s C.2.2.2.2.2.1).kept hH.old
  exact W.getf C.1 C.2.1 C.2.2.2.1 (C.2.2.2.2.1 _ hl) h1 h2 h3 h4 (v := v) h5 rfl rfl hd (k.2 p e R s m args below meth c H locs cells slots ls C hH hL hl' e1 e2)
theorem x_baldS {i : Int32} (hd : decode γ.2.1 pc = .ok (.baload, 1)) (hi : vp_in i 248) (k : Ex Γ γ d (pc + 1) lv (.int (wch i) :: st) h r h') : Ex Γ γ d pc lv (.int i :: .ref (gv Γ) :: st) h r h' := by
  refine ⟨k.1, fun p e R s m args below meth c H locs cells slots ls C hH hL hl' e1 e2 => ?_⟩
  obtain ⟨cell, h1, h2, h3, h4, h5, h6, h7⟩ := C.2.2.2.2.2.1.2.2.2.2.2.2.2.2.1.kept hH.old
  have hlt : i.toNatClampNeg < 248 := Nat.not_le.mp fun q => hi (Or.inr q)
  refine W.bald (v := .int (wch i)) C.1 C.2.1 h1 h2 h3 (fun q => ?_) (h6 _ hlt) rfl rfl hd (k.2 p e R s m args below meth c H locs cells slots ls C hH hL hl' e1 e2)
  rcases q with q | q
  · exact hi (Or.inl q)
  · omega
theorem x_alenS (hd : decode γ.2.1 pc = .ok (.arraylength, 1)) (k : Ex Γ γ d (pc + 1) lv (.int 248 :: st) h r h') : Ex Γ γ d pc lv (.ref (gv Γ) :: st) h r h' := by
  refine ⟨k.1, fun p e R s m args below meth c H locs cells slots ls C hH hL hl' e1 e2 => ?_⟩
  obtain ⟨cell, h1, h2, h3, h4, h5, h6, h7⟩ := C.2.2.2.2.2.1.2.2.2.2.2.2.2.2.1.kept hH.old
  exact W.alen (n := 248) C.1 C.2.1 h1 h2 h5 rfl rfl hd (k.2 p e R s m args below meth c H locs cells slots ls C hH hL hl' e1 e2)
/-- a call of the text's own method -/
theorem x_callVS {γ' : mI} {n idx : Nat} {As rest : List Value} {v1 : Int32} {h1 : aH} (hd : decode γ.2.1 pc = .ok (.invokevirtual idx, 3)) (hm : MI γ' n) (hl : Cond.methodLink γ.1.cls idx γ'.1 ∈ GW) (hin : Cond.instanceMethod γ'.1 ∈ GW) (hse : Cond.selects "java/lang/String" γ'.1 γ'.1 ∈ GW) (hst : st = As.reverse ++ .ref (gs Γ) :: rest) (hn : As.length = n) (hw : (rest.map fun v => v.category).sum ≤ 8)
    (M : Mx Γ γ' d (.ref (gs Γ) :: As) h (some (.int v1)) h1) (k : Ex Γ γ (d + 1) (pc + 3) lv (.int v1 :: rest) h1 r h') : Ex Γ γ (d + 1) pc lv st h r h' := by
  refine Ex.call M k (fun {p e R s m args below meth c H locs cells slots ls} C hH hl0 hf => ?_)
  obtain ⟨hx, hb', hml, hown, hG, hKX, -, -, -, c1, c2, -⟩ := id C
  obtain ⟨cell, g1, g2, g3, -⟩ := hKX.2.2.2.2.2.1.kept hH.old
  exact va_runV (As := As) (C := "java/lang/String") ⟨hx, hb', hml, hown, hG⟩ M.2 ⟨cb_of hm hl C, hG _ hin, hG _ hse⟩ ⟨Px.blind, ⟨cell, g1, g2, g3⟩, fun U e hW => px_of hH hKX e hW⟩ rfl hn hl0.1 hst (by show 2 * 0 + _ ≤ 8; omega) hd hf
end SRows
theorem jl_38 : Cond.fieldLink RJ0 38 "java/lang/String" "COMPACT_STRINGS" "Z" ∈ GW := gwT_2 239 rfl rfl
theorem jl_1053 : Cond.fieldLink RJ0 1053 "jdk/internal/util/Preconditions" "SIOOBE_FORMATTER" "Ljava/util/function/BiFunction;" ∈ GW := gwT_3 7 rfl rfl
set_option maxRecDepth 10000 in
theorem jl_15 : Cond.fieldLink RJ0 15 "java/lang/String" "coder" "B" ∈ GW := gwT_9 193 rfl rfl
set_option maxRecDepth 10000 in
theorem jl_9 : Cond.fieldLink RJ0 9 "java/lang/String" "value" "[B" ∈ GW := gwT_9 194 rfl rfl
set_option maxRecDepth 100000 in
theorem t_pcheck {Γ : gS} {d : Nat} {x0 x1 : Int32} {o : Option Nat} {h : aH} (h0 : ¬ x0 < 0) (h1 : x0 < x1) : Mx Γ gJ3_checkIndex_8e157 d [.int x0, .int x1, va_rf o] h (some (.int x0)) h := by
  refine Mx.of (by decide +kernel) (by cases o <;> exact Nat.le_of_ble_eq_true rfl) ?_
  have e : lv_args 0 [.int x0, .int x1, va_rf o] = [(0, .int x0), (1, .int x1), (2, va_rf o)] := by cases o <;> rfl
  rw [e]
  refine x_iload_n dJ3_checkIndex_8e157_0 rfl 0 rfl ?_
  refine x_if_lt (tgt := 9) dJ3_checkIndex_8e157_1 (by decide) (fun c => absurd c h0) (fun _ => ?_)
  refine x_iload_n dJ3_checkIndex_8e157_4 rfl 0 rfl ?_
  refine x_iload_n dJ3_checkIndex_8e157_5 rfl 1 rfl ?_
  refine x_icmp_lt (tgt := 16) dJ3_checkIndex_8e157_6 (by decide) (fun _ => ?_) (fun c => absurd h1 c)
  refine x_iload_n dJ3_checkIndex_8e157_16 rfl 0 rfl ?_
  exact x_iret dJ3_checkIndex_8e157_17 rfl rfl
set_option maxRecDepth 100000 in
theorem t_scheck {Γ : gS} {d : Nat} {x0 x1 : Int32} {h : aH} (h0 : ¬ x0 < 0) (h1 : x0 < x1) : Mx Γ gJ0_checkIndex_df160 (d + 1) [.int x0, .int x1] h none h := by
  refine Mx.of (by decide +kernel) (Nat.le_of_ble_eq_true rfl) ?_
  show Ex Γ gJ0_checkIndex_df160 (d + 1) 0 [(0, .int x0), (1, .int x1)] [] h none h
  refine x_iload_n dJ0_checkIndex_df160_0 rfl 0 rfl ?_
  refine x_iload_n dJ0_checkIndex_df160_1 rfl 1 rfl ?_
  refine x_getsQ (fun U hU => hU.2.2.2.2.2.2.2.2.2.2) jl_1053 dJ0_checkIndex_df160_2 (fun o => ?_)
  refine x_callSi (As := [.int x0, .int x1, va_rf o]) dJ0_checkIndex_df160_5 mi_J3_checkIndex_8e157 lk_J0_1059 sm_J3_checkIndex_8e157 rfl rfl (Nat.le_of_ble_eq_true rfl) (t_pcheck h0 h1) ?_
  refine x_pop dJ0_checkIndex_df160_8 rfl ?_
  exact x_vret dJ0_checkIndex_df160_9 rfl
theorem wch_nar (i : Int32) : ((wch i &&& 255).toUInt32 % 65536).toInt32 = wch i ∧ narrow .char (.int (wch i)) = .int (wch i) := by
  have h : ∀ x ∈ wByt, ((x &&& 255).toUInt32 % 65536).toInt32 = x ∧ narrow .char (.int x) = .int x := by decide +kernel
  unfold wch
  rw [List.getD_eq_getElem?_getD]
  cases e : wByt[i.toNatClampNeg]? with
  | none => decide +kernel
  | some y => exact h y (List.mem_of_getElem? e)
set_option maxRecDepth 100000 in
theorem t_lchar {Γ : gS} {d : Nat} {x1 : Int32} {h : aH} (hi : vp_in x1 248) : Mx Γ gJ1_charAt_3b067 (d + 2) [.ref (gv Γ), .int x1] h (some (.int (wch x1))) h := by
  refine Mx.of (by decide +kernel) (Nat.le_of_ble_eq_true rfl) ?_
  show Ex Γ gJ1_charAt_3b067 (d + 2) 0 [(0, .ref (gv Γ)), (1, .int x1)] [] h (some (.int (wch x1))) h
  obtain ⟨j, hj, rfl⟩ := vp_in_of hi (by decide)
  refine x_iload_n dJ1_charAt_3b067_0 rfl 1 rfl ?_
  refine x_aload_n dJ1_charAt_3b067_1 rfl 0 rfl ?_
  refine x_alenS dJ1_charAt_3b067_2 ?_
  refine x_callSv (As := [.int (nI j), .int 248]) dJ1_charAt_3b067_3 mi_J0_checkIndex_df160 lk_J1_9 sm_J0_checkIndex_df160 rfl rfl (Nat.le_of_ble_eq_true rfl) (t_scheck (nI_pos (by omega)) (nI_lt (b := 248) hj (by decide))) ?_
  refine x_aload_n dJ1_charAt_3b067_6 rfl 0 rfl ?_
  refine x_iload_n dJ1_charAt_3b067_7 rfl 1 rfl ?_
  refine x_baldS dJ1_charAt_3b067_8 hi ?_
  refine x_sipush (v := 255) dJ1_charAt_3b067_9 (by decide) ?_
  refine x_iand dJ1_charAt_3b067_12 ?_
  refine x_i2c dJ1_charAt_3b067_13 ?_
  rw [(wch_nar _).1]
  exact x_iret dJ1_charAt_3b067_14 rfl (wch_nar _).2
set_option maxRecDepth 100000 in
theorem t_latin {Γ : gS} {d : Nat} {h : aH} : Mx Γ gJ0_isLatin1_aae02 d [.ref (gs Γ)] h (some (.int 1)) h := by
  refine Mx.of (by decide +kernel) (Nat.le_of_ble_eq_true rfl) ?_
  show Ex Γ gJ0_isLatin1_aae02 d 0 [(0, .ref (gs Γ))] [] h (some (.int 1)) h
  refine x_gets (fun U hU => hU.2.2.2.2.2.2.2.2.2.1) jl_38 dJ0_isLatin1_aae02_0 ?_
  refine x_if_eq (tgt := 17) dJ0_isLatin1_aae02_3 (by decide) (fun c => absurd c (by decide)) (fun _ => ?_)
  refine x_aload_n dJ0_isLatin1_aae02_6 rfl 0 rfl ?_
  refine x_getfS (fun U hU => hU.2.2.2.2.2.2.1) jl_15 dJ0_isLatin1_aae02_7 ?_
  refine x_if_ne (tgt := 17) dJ0_isLatin1_aae02_10 (by decide) (fun c => absurd rfl c) (fun _ => ?_)
  refine x_iconst (v := 1) dJ0_isLatin1_aae02_13 (by decide) ?_
  refine x_goto (tgt := 18) dJ0_isLatin1_aae02_14 (by decide) ?_
  exact x_iret dJ0_isLatin1_aae02_18 rfl (by decide)
set_option maxRecDepth 100000 in
theorem t_char {Γ : gS} {d : Nat} {x1 : Int32} {h : aH} (hi : vp_in x1 248) : Mx Γ gJ0_charAt_5068e (d + 3) [.ref (gs Γ), .int x1] h (some (.int (wch x1))) h := by
  refine Mx.of (by decide +kernel) (Nat.le_of_ble_eq_true rfl) ?_
  show Ex Γ gJ0_charAt_5068e (d + 3) 0 [(0, .ref (gs Γ)), (1, .int x1)] [] h (some (.int (wch x1))) h
  refine x_aload_n dJ0_charAt_5068e_0 rfl 0 rfl ?_
  refine x_callVS (As := []) dJ0_charAt_5068e_1 mi_J0_isLatin1_aae02 lk_J0_492 im_J0_isLatin1_aae02 se_J0_isLatin1_aae02 rfl rfl (Nat.le_of_ble_eq_true rfl) t_latin ?_
  refine x_if_eq (tgt := 16) dJ0_charAt_5068e_4 (by decide) (fun c => absurd c (by decide)) (fun _ => ?_)
  refine x_aload_n dJ0_charAt_5068e_7 rfl 0 rfl ?_
  refine x_getfS (fun U hU => hU.2.2.2.2.2.2.2.1) jl_9 dJ0_charAt_5068e_8 ?_
  refine x_iload_n dJ0_charAt_5068e_11 rfl 1 rfl ?_
  refine x_callSi (As := [.ref (gv Γ), .int x1]) dJ0_charAt_5068e_12 mi_J1_charAt_3b067 lk_J0_495 sm_J1_charAt_3b067 rfl rfl (Nat.le_of_ble_eq_true rfl) (t_lchar hi) ?_
  exact x_iret dJ0_charAt_5068e_15 rfl (wch_nar _).2
theorem x_charAt {Γ : gS} {γ : mI} {d pc : Nat} {lv : List (Nat × Value)} {h : aH} {r : Option Value} {h' : aH} {i : Int32} {rest : List Value} {idx : Nat} (hd : decode γ.2.1 pc = .ok (.invokevirtual idx, 3)) (hl : Cond.methodLink γ.1.cls idx yJ0_charAt_5068e ∈ GW) (hi : vp_in i 248) (hw : (rest.map fun v => v.category).sum ≤ 8) (hdd : 4 ≤ d) (k : Ex Γ γ d (pc + 3) lv (.int (wch i) :: rest) h r h') : Ex Γ γ d pc lv (.int i :: .ref (gs Γ) :: rest) h r h' := by
  obtain ⟨e, rfl⟩ : ∃ e, d = e + 3 + 1 := ⟨d - 4, by omega⟩
  exact x_callVS (As := [.int i]) hd mi_J0_charAt_5068e hl im_J0_charAt_5068e se_J0_charAt_5068e rfl rfl hw (t_char hi) k
