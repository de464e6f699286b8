/-! THE START: what the Statement gives at the law's entry is all that we stand on -/
def h00 (z : Nat) : aH := (fun _ => none, fun _ _ => 0, fun _ _ => 0, fun _ _ => none, z, 0)
theorem mem_of_all {α : Type} [DecidableEq α] {big : List α} {ws : List α} (h : ws.all (fun w => big.contains w) = true) {w : α} (hw : w ∈ ws) : w ∈ big := by
  have := List.all_eq_true.mp h w hw
  simpa using this
set_option maxRecDepth 100000 in
theorem st_vw {args : Array Value} {s : State} (hG : ∀ w ∈ GW, w.before args s = true) (c : Nat) : ∃ p : ClassId × (Nat → Nat), ∀ q : vw_C, vwCl[c]? = some q → u_Kn s q.1 q.2.1 q.2.2 p.1 p.2 := by
  have key : ∀ (q : vw_C), CK c → vwCl[c]? = some q → Cond.instantiable q.1 q.2.2 ∈ GW → ∃ p : ClassId × (Nat → Nat), ∀ q : vw_C, vwCl[c]? = some q → u_Kn s q.1 q.2.1 q.2.2 p.1 p.2 := by
    intro q hck hq hi
    obtain ⟨q', hq', hin, -⟩ := hck
    cases hq.symm.trans hq'
    obtain ⟨cC, iS, hk⟩ := u_known (C := q.1) (T := q.2.1) (N := q.2.2) (n := q.2.2) hG hin (hG _ hi)
    exact ⟨(cC, iS), fun q2 h2 => by cases hq.symm.trans h2; exact hk⟩
  match c with
  | 0 => exact key _ ck0 rfl is_X0
  | 1 => exact key _ ck1 rfl is_X1
  | 2 => exact key _ ck2 rfl is_X2
  | 3 => exact key _ ck3 rfl is_X3
  | 4 => exact key _ ck4 rfl is_X4
  | 5 => exact key _ ck5 rfl is_X5
  | 6 => exact key _ ck6 rfl is_X6
  | 7 => exact key _ ck7 rfl is_X7
  | 8 => exact key _ ck8 rfl is_X8
  | 9 => exact key _ ck9 rfl is_X9
  | 10 => exact key _ ck10 rfl is_X11
  | 11 => exact key _ ck11 rfl is_X12
  | n + 12 => exact ⟨(0, fun _ => 0), fun q h => by simp [vwCl] at h⟩
theorem st_arr {args : Array Value} {s : State} (hts : ∀ w ∈ lw_tbl, w.before args s = true) (ao1 : va_AO "FatPointers$Pointer" s) (ao2 : va_AO "FatPointers$State" s) (hG : ∀ w ∈ GW, w.before args s = true) (t : FieldType) : ∃ cA : ClassId, t ∈ tysL → ArrOfT s cA t ∧ va_RA s cA t := by
  have prim : ∀ t : FieldType, rT t = false → Cond.arrayClass t ∈ GW → ∃ cA : ClassId, ArrOfT s cA t ∧ va_RA s cA t := by
    intro t ht hc
    obtain ⟨cA, kA, comp, h1, h2, h3⟩ := Cond.arrayClass_spec (hG _ hc)
    refine ⟨cA, fun n z => ⟨fun k h => (by cases h), kA, h2, comp, h3⟩, ?_⟩
    cases t <;> first | exact h1 | exact absurd ht (by simp [rT])
  have obj : ∀ C : String, va_AO C s → ∃ cA : ClassId, ArrOfT s cA (.object C) ∧ va_RA s cA (.object C) := by
    intro C h
    obtain ⟨comp, c, k, h1, h2, h3, h4, h5⟩ := Cond.arrayOver_spec h
    exact ⟨c, fun n z => ⟨fun k h => (by cases h), k, h3, comp, h4⟩, k, comp, h3, h4, h1, h5⟩
  by_cases ht : t ∈ tysL
  · have h2 : t = .int ∨ t = .byte ∨ t = .long ∨ t = .char ∨ t = .boolean ∨ t = .object "FatPointers$Pointer" ∨ t = .object "FatPointers$State" := by simpa [tysL] using ht
    rcases h2 with rfl | rfl | rfl | rfl | rfl | rfl | rfl
    · exact (prim _ rfl ac_int).imp fun _ h _ => h
    · exact (prim _ rfl ac_byte).imp fun _ h _ => h
    · exact (prim _ rfl ac_long).imp fun _ h _ => h
    · exact (prim _ rfl ac_char).imp fun _ h _ => h
    · exact (prim _ rfl ac_boolean).imp fun _ h _ => h
    · exact (obj _ ao1).imp fun _ h _ => h
    · exact (obj _ ao2).imp fun _ h _ => h
  · exact ⟨0, fun h => absurd h ht⟩
def wTerm : Term := .string "FatPointers$Words" 11
def wEl (j : Nat) : Cond := Cond.eq (.elem (.field wTerm "java/lang/String" "value" "[B") (.int (Int32.ofNat j))) (.int (wByt.getD j 0))
set_option maxRecDepth 1000000 in
theorem st_l : (flatC (Jvm.Cond.and given_1 narrow_1)).drop 37 = (List.range 248).map wEl := by decide +kernel
theorem st_el (j : Nat) (hj : j < 248) : wEl j ∈ flatC (Jvm.Cond.and given_1 narrow_1) := by
  have h : wEl j ∈ (flatC (Jvm.Cond.and given_1 narrow_1)).drop 37 := by rw [st_l]; exact List.mem_map.mpr ⟨j, List.mem_range.mpr hj, rfl⟩
  exact List.mem_of_mem_drop h
theorem ltT_1 {w : Cond} (i : Nat) (h : tables_1_1[i]? = some w) : w ∈ lw_tbl := List.mem_append_right _ (show w ∈ tables_1 from List.mem_append_left _ (List.mem_of_getElem? h))
theorem ltT_2 {w : Cond} (i : Nat) (h : tables_1_2[i]? = some w) : w ∈ lw_tbl := List.mem_append_right _ (show w ∈ tables_1 from List.mem_append_right _ (List.mem_append_left _ (List.mem_of_getElem? h)))
theorem ltT_3 {w : Cond} (i : Nat) (h : tables_1_3[i]? = some w) : w ∈ lw_tbl := List.mem_append_right _ (show w ∈ tables_1 from List.mem_append_right _ (List.mem_append_right _ (List.mem_append_left _ (List.mem_of_getElem? h))))
theorem ltT_4 {w : Cond} (i : Nat) (h : tables_1_4[i]? = some w) : w ∈ lw_tbl := List.mem_append_right _ (show w ∈ tables_1 from List.mem_append_right _ (List.mem_append_right _ (List.mem_append_right _ (List.mem_append_left _ (List.mem_of_getElem? h)))))
set_option maxRecDepth 1000000 in
theorem st_nest (q : String × Nat × MethodName × String) (hq : q ∈ nestL) : nestW q ∈ lw_tbl := by
  simp only [nestL, List.mem_cons, List.not_mem_nil, or_false] at hq
  rcases hq with rfl | rfl | rfl | rfl | rfl | rfl | rfl
  · exact ltT_1 38 rfl
  · exact ltT_1 128 rfl
  · exact ltT_1 197 rfl
  · exact ltT_1 229 rfl
  · exact ltT_2 4 rfl
  · exact ltT_2 68 rfl
  · exact ltT_4 149 rfl
set_option maxRecDepth 1000000 in
set_option maxHeartbeats 4000000 in
theorem whole_start {p : Program} {e : Env} {s : State} {m : MethodId} {below : List Frame} {meth : Method} {c : Code} (l : Launch) {b L : Nat} {xs : Nat → Int32} (hL : L ≤ 3072) (C0 : lw_At p s m meth c b L xs) : W p l e room_1 s m #[Value.ref b] below meth c s.heap [] 0 0 (lw_Z below #[Value.ref b] s) (entryFrame m ([Value.ref b] : List Value).toArray 4) := by
  obtain ⟨hx, hb, hr, hml, hown, hts, hX, hbl, hlocks, hgv⟩ := id C0
  have hG : ∀ w ∈ GW, w.before #[Value.ref b] s = true := fun w hw => hts w (List.mem_filter.mp hw).1
  have hs := flat_of_before _ hgv
  have hA : ∀ a : Nat, a < s.heap.size → ¬ s.heap.size ≤ a := fun a h => Nat.not_le.mpr h
  obtain ⟨D, hD⟩ := Classical.axiomOfChoice (st_vw hG)
  have ao1 : va_AO "FatPointers$Pointer" s := va_AO.of (hts _ (ltT_1 36 rfl))
  have ao2 : va_AO "FatPointers$State" s := va_AO.of (hts _ (ltT_1 133 rfl))
  obtain ⟨dA, hdA⟩ := Classical.axiomOfChoice (st_arr hts ao1 ao2 hG)
  have f33 := hs (Cond.exactly wTerm "java/lang/String") (List.mem_of_getElem? (i := 33) rfl)
  have f34 := hs (Cond.eq (.field wTerm "java/lang/String" "coder" "B") (.int 0)) (List.mem_of_getElem? (i := 34) rfl)
  have f35 := hs (Cond.arrayOf (.field wTerm "java/lang/String" "value" "[B") .byte) (List.mem_of_getElem? (i := 35) rfl)
  have f36 := hs (Cond.eq (.length (.field wTerm "java/lang/String" "value" "[B")) (.int 248)) (List.mem_of_getElem? (i := 36) rfl)
  have i0 : ∀ i : Nat, i < 1 → i = 0 := fun i h => by omega
  obtain ⟨adK, adV, hS, hev⟩ := vk_Sof (N := 1) (tm := fun _ => wTerm) (len := [248]) (byt := [wByt]) (A := fun q => s.heap.size ≤ q) (args := #[Value.ref b]) (s := s) (fun i hi => by rw [i0 i hi]; decide) (fun i hi => f33) (fun i hi => f34) (fun i hi => f35) (fun i hi => by rw [i0 i hi]; exact f36) (fun i hi j hj => by rw [i0 i hi] at hj ⊢; exact hs _ (st_el j hj)) (fun i j hi hj hij => absurd ((i0 i hi).trans (i0 j hj).symm) hij) hA
  obtain ⟨hS0, -⟩ := hS
  have hS1 := hS0 0 (by omega)
  have hev0 := hev 0 (by omega)
  obtain ⟨h', hf, n1, n2⟩ := law_pure s.heap.size L xs hL
  let Γ : gS := (l, s.heap.size, s.heap, (fun c => (D c).1, fun c => (D c).2), dA, adK 0, adV 0, b, L, xs)
  have hKX : KX Γ s := by
    refine ⟨⟨fun c q hq => hD c q hq, fun k q hk => ?_⟩, fun q hq => ?_, ao1, ao2, ?_⟩
    · obtain ⟨t, ht, rfl⟩ := List.mem_map.mp (List.mem_of_getElem? hk)
      exact hdA t ht
    · exact va_Nw.of rfl (hts _ (st_nest q hq))
    · exact ⟨vk_R.of (A := #[Value.ref b]) (hts _ (ltT_2 230 rfl)) hev0, hS1.1, hS1.2.1, hS1.2.2.1, hS1.2.2.2,
        va_Zof (hts _ (ltT_3 0 rfl)) (hG _ ii_J0) (va_eqi (hs _ (List.mem_of_getElem? (i := 4) rfl))) hA,
        va_Zqof (hts _ (ltT_3 8 rfl)) (hG _ ii_J3) (hs _ (List.mem_of_getElem? (i := 5) rfl)) hA⟩
  have hE := t_L_law (Γ := Γ) (d := 2048) (by decide) (h := h00 s.heap.size) hf
  have hl0 := lv_entry ([.ref b]) (n := 4) (Nat.le_of_ble_eq_true rfl)
  rw [lg_entry_eq]
  exact hE.2 p e room_1 s m #[Value.ref b] below meth c s.heap [] 0 0 _ ⟨hx, hb, hml, hown, hG, hKX, hr, hlocks, (fun q => by cases q), by decide, by decide, fun _ => ⟨rfl, rfl, rfl, hX, hbl⟩⟩ ⟨rfl, Nat.le_refl _, fun _ _ => rfl, fun a κ h => by cases h⟩ (fun q hq => by cases hq) hl0 n1 n2
