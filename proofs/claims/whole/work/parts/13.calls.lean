/-! ARRAYS, NEW CELLS, CALLS, RETURNS -/
def inb (i : Int32) (n : Nat) : Bool := !(decide (i < 0) || decide (n ≤ i.toNatClampNeg))
theorem inb_in {i : Int32} {n : Nat} : inb i n = true ↔ vp_in i n := by simp [inb, vp_in]
section ARows
variable {Γ : gS} {γ : mI} {d pc : Nat} {lv : List (Nat × Value)} {st : List Value} {h : aH} {r : Option Value} {h' : aH}
theorem arr_at {h : aH} {H : Heap} {a n : Nat} {t : FieldType} (hH : HI Γ h H) (ha : hK h a = some (.inr (t, n))) : H[a]? = some (arrV (gA Γ t) n (fun j => fv h a j t)) := (hH.2.2.2 a _ ha).2
theorem x_ald {ins : Instr} {a n : Nat} {t : FieldType} {i : Int32} {v : Value} (hd : decode γ.2.1 pc = .ok (ins, 1)) (ha : hK h a = some (.inr (t, n))) (ht : t ∈ tysL) (hi : vp_in i n) (hv : fv h a i.toNatClampNeg t = v)
    (row : ∀ {p : Program} {l : Launch} {e : Env} {R : Room} {s : State} {m : MethodId} {args : Array Value} {below : List Frame} {meth : Method} {c : Code} {H : Heap} {locs : List Loc} {cells slots : Nat} {Q : State → Prop} {ls : Array Slot} {cell : Cell}, p.tables.exec = Jvm.exec → c.code = γ.2.1 → H[a]? = some cell → s.isArrayOf cell t → cell.vm ≠ .unknown → ¬ (i < 0 ∨ cell.slots.size ≤ i.toNatClampNeg) → cell.slots[i.toNatClampNeg]? = some v → W p l e R s m args below meth c H locs cells slots Q (F0 m (pc + 1) ls (v :: st)) → W p l e R s m args below meth c H locs cells slots Q (F0 m pc ls (.int i :: .ref a :: st)))
    (kk : Ex Γ γ d (pc + 1) lv (v :: st) h r h') : Ex Γ γ d pc lv (.int i :: .ref a :: st) h r h' := by
  refine ⟨kk.1, fun p e R s m args below meth c H locs cells slots ls C hH hL hl e1 e2 => ?_⟩
  have kw := kk.2 p e R s m args below meth c H locs cells slots ls C hH hL hl e1 e2
  have hlt : i.toNatClampNeg < n := Nat.not_le.mp fun q => hi (Or.inr q)
  exact row C.1 C.2.1 (arr_at hH ha) ((C.2.2.2.2.2.1.arr ht).1 n _) (fun q => by cases q) (by rw [arrV_size]; exact hi) (by rw [arrV_read _ _ hlt, hv]) kw
theorem x_iald {a n : Nat} {i : Int32} (hd : decode γ.2.1 pc = .ok (.iaload, 1)) (ha : hK h a = some (.inr (.int, n))) (hi : vp_in i n) (kk : Ex Γ γ d (pc + 1) lv (.int (hI h a i.toNatClampNeg) :: st) h r h') : Ex Γ γ d pc lv (.int i :: .ref a :: st) h r h' :=
  x_ald hd ha (by decide) hi (fv_i rfl) (fun hx hb h1 h2 h3 h4 h5 w => W.iald hx hb h1 h2 h3 h4 h5 rfl rfl hd w) kk
theorem x_bald {a n : Nat} {i : Int32} (hd : decode γ.2.1 pc = .ok (.baload, 1)) (ha : hK h a = some (.inr (.byte, n))) (hi : vp_in i n) (kk : Ex Γ γ d (pc + 1) lv (.int (hI h a i.toNatClampNeg) :: st) h r h') : Ex Γ γ d pc lv (.int i :: .ref a :: st) h r h' :=
  x_ald hd ha (by decide) hi (fv_i rfl) (fun hx hb h1 h2 h3 h4 h5 w => W.bald hx hb h1 h2 h3 h4 h5 rfl rfl hd w) kk
theorem x_zald {a n : Nat} {i : Int32} (hd : decode γ.2.1 pc = .ok (.baload, 1)) (ha : hK h a = some (.inr (.boolean, n))) (hi : vp_in i n) (kk : Ex Γ γ d (pc + 1) lv (.int (hI h a i.toNatClampNeg) :: st) h r h') : Ex Γ γ d pc lv (.int i :: .ref a :: st) h r h' :=
  x_ald hd ha (by decide) hi (fv_i rfl) (fun hx hb h1 h2 h3 h4 h5 w => W.zald hx hb h1 h2 h3 h4 h5 rfl rfl hd w) kk
theorem x_cald {a n : Nat} {i : Int32} (hd : decode γ.2.1 pc = .ok (.caload, 1)) (ha : hK h a = some (.inr (.char, n))) (hi : vp_in i n) (kk : Ex Γ γ d (pc + 1) lv (.int (hI h a i.toNatClampNeg) :: st) h r h') : Ex Γ γ d pc lv (.int i :: .ref a :: st) h r h' :=
  x_ald hd ha (by decide) hi (fv_i rfl) (fun hx hb h1 h2 h3 h4 h5 w => W.cald hx hb h1 h2 h3 h4 h5 rfl rfl hd w) kk
theorem x_lald {a n : Nat} {i : Int32} (hd : decode γ.2.1 pc = .ok (.laload, 1)) (ha : hK h a = some (.inr (.long, n))) (hi : vp_in i n) (kk : Ex Γ γ d (pc + 1) lv (.long (hL h a i.toNatClampNeg) :: st) h r h') : Ex Γ γ d pc lv (.int i :: .ref a :: st) h r h' :=
  x_ald hd ha (by decide) hi rfl (fun hx hb h1 h2 h3 h4 h5 w => W.lald hx hb h1 h2 h3 h4 h5 rfl rfl hd w) kk
theorem x_aald {a n x : Nat} {C : String} {i : Int32} (hd : decode γ.2.1 pc = .ok (.aaload, 1)) (ha : hK h a = some (.inr (.object C, n))) (ht : FieldType.object C ∈ tysL) (hi : vp_in i n) (hx : hR h a i.toNatClampNeg = some x) (kk : Ex Γ γ d (pc + 1) lv (.ref x :: st) h r h') : Ex Γ γ d pc lv (.int i :: .ref a :: st) h r h' :=
  x_ald (v := .ref x) hd ha ht hi (by rw [fv_r rfl, hx]; rfl) (fun hx hb h1 h2 h3 h4 h5 w => W.aald (ty := .object C) hx hb h1 h2 rfl h3 h4 h5 rfl rfl hd w) kk
theorem x_aaldN {a n : Nat} {C : String} {i : Int32} (hd : decode γ.2.1 pc = .ok (.aaload, 1)) (ha : hK h a = some (.inr (.object C, n))) (ht : FieldType.object C ∈ tysL) (hi : vp_in i n) (hx : hR h a i.toNatClampNeg = none) (kk : Ex Γ γ d (pc + 1) lv (.null :: st) h r h') : Ex Γ γ d pc lv (.int i :: .ref a :: st) h r h' :=
  x_ald (v := .null) hd ha ht hi (by rw [fv_r rfl, hx]; rfl) (fun hx hb h1 h2 h3 h4 h5 w => W.aald (ty := .object C) hx hb h1 h2 rfl h3 h4 h5 rfl rfl hd w) kk
theorem x_alen {a n : Nat} {t : FieldType} (hd : decode γ.2.1 pc = .ok (.arraylength, 1)) (ha : hK h a = some (.inr (t, n))) (ht : t ∈ tysL) (kk : Ex Γ γ d (pc + 1) lv (.int (Int32.ofNat n) :: st) h r h') : Ex Γ γ d pc lv (.ref a :: st) h r h' := by
  refine ⟨kk.1, fun p e R s m args below meth c H locs cells slots ls C hH hL hl e1 e2 => ?_⟩
  have kw := kk.2 p e R s m args below meth c H locs cells slots ls C hH hL hl e1 e2
  exact W.alen (n := Int32.ofNat n) C.1 C.2.1 (arr_at hH ha) ((C.2.2.2.2.2.1.arr ht).1 n _) (by rw [arrV_size] <;> rfl) rfl rfl hd kw
/-- an element is written -/
theorem x_ast {a n : Nat} {t : FieldType} {i : Int32} {v v' : Value} {h1 : aH} (ha : hK h a = some (.inr (t, n))) (ht : t ∈ tysL)
    (eK : h1.1 = h.1) (eN : hN h1 = hN h) (eS : hS h1 = hS h) (ef : ∀ b, b ≠ a → ∀ k t, fv h1 b k t = fv h b k t) (es : fv h1 a i.toNatClampNeg t = v') (en : ∀ j, j ≠ i.toNatClampNeg → fv h1 a j t = fv h a j t)
    (row : ∀ {p : Program} {l : Launch} {e : Env} {R : Room} {s : State} {m : MethodId} {args : Array Value} {below : List Frame} {meth : Method} {c : Code} {H : Heap} {locs : List Loc} {cells slots : Nat} {Q : State → Prop} {ls : Array Slot}, Cx Γ γ d p R s m args meth c → HI Γ h H → s.isArrayOf (arrV (gA Γ t) n (fun j => fv h a j t)) t → (∀ H' : Heap, H'[a]? = some ((arrV (gA Γ t) n (fun j => fv h a j t)).setSlot i.toNatClampNeg v') → H'.size = H.size → (∀ q, q ≠ a → H'[q]? = H[q]?) → W p l e R s m args below meth c H' (locs ++ [⟨a, i.toNatClampNeg⟩]) cells slots Q (F0 m (pc + 1) ls st)) → W p l e R s m args below meth c H locs cells slots Q (F0 m pc ls (v :: .int i :: .ref a :: st)))
    (kk : Ex Γ γ d (pc + 1) lv st h1 r h') : Ex Γ γ d pc lv (v :: .int i :: .ref a :: st) h r h' := by
  refine ⟨by rw [← eN, ← eS]; exact kk.1, fun p e R s m args below meth c H locs cells slots ls C hH hL hl e1 e2 => ?_⟩
  refine row C hH ((C.2.2.2.2.2.1.arr ht).1 n _) (fun H' k1 k2 k3 => ?_)
  refine kk.2 p e R s m args below meth c H' _ cells slots ls C (hH.set ha k2 k3 eK eN ef ?_) (fun x hx => ?_) hl (by rw [eN]; exact e1) (by rw [eS]; exact e2)
  · show H'[a]? = _
    rw [k1, arrV_store]
    congr 2
    funext j
    by_cases hj : j = i.toNatClampNeg
    · subst hj; simp [updV, es]
    · simp only [updV, if_neg hj]; exact (en j hj).symm
  · rcases List.mem_append.mp hx with h1 | h1
    · exact hL x h1
    · rw [List.mem_singleton.mp h1]; exact (hH.2.2.2 a _ ha).1.1
theorem x_iast {a n : Nat} {i x : Int32} (hd : decode γ.2.1 pc = .ok (.iastore, 1)) (ha : hK h a = some (.inr (.int, n))) (hi : vp_in i n) (kk : Ex Γ γ d (pc + 1) lv st (sI h a i.toNatClampNeg x) r h') : Ex Γ γ d pc lv (.int x :: .int i :: .ref a :: st) h r h' :=
  x_ast (h1 := sI h a i.toNatClampNeg x) (v' := .int x) ha (by decide) rfl rfl rfl (fun _ e _ _ => fv_sI_a e) (fv_sI_s rfl) (fun _ e => fv_sI_i e) (fun C hH h2 w => W.iast C.1 C.2.1 (arr_at hH ha) h2 (fun q => by cases q) (by rw [arrV_size]; exact hi) rfl rfl hd w) kk
theorem x_bast {a n : Nat} {i x : Int32} (hd : decode γ.2.1 pc = .ok (.bastore, 1)) (ha : hK h a = some (.inr (.byte, n))) (hi : vp_in i n) (kk : Ex Γ γ d (pc + 1) lv st (sI h a i.toNatClampNeg x.toInt8.toInt32) r h') : Ex Γ γ d pc lv (.int x :: .int i :: .ref a :: st) h r h' :=
  x_ast (h1 := sI h a i.toNatClampNeg x.toInt8.toInt32) (v' := .int x.toInt8.toInt32) ha (by decide) rfl rfl rfl (fun _ e _ _ => fv_sI_a e) (fv_sI_s rfl) (fun _ e => fv_sI_i e) (fun C hH h2 w => W.bast C.1 C.2.1 (arr_at hH ha) h2 (fun q => by cases q) (by rw [arrV_size]; exact hi) rfl rfl hd w) kk
theorem x_zast {a n : Nat} {i x : Int32} (hd : decode γ.2.1 pc = .ok (.bastore, 1)) (ha : hK h a = some (.inr (.boolean, n))) (hi : vp_in i n) (kk : Ex Γ γ d (pc + 1) lv st (sI h a i.toNatClampNeg (x &&& 1)) r h') : Ex Γ γ d pc lv (.int x :: .int i :: .ref a :: st) h r h' :=
  x_ast (h1 := sI h a i.toNatClampNeg (x &&& 1)) (v' := .int (x &&& 1)) ha (by decide) rfl rfl rfl (fun _ e _ _ => fv_sI_a e) (fv_sI_s rfl) (fun _ e => fv_sI_i e) (fun C hH h2 w => W.zast C.1 C.2.1 (arr_at hH ha) h2 (fun q => by cases q) (by rw [arrV_size]; exact hi) rfl rfl hd w) kk
theorem x_cast {a n : Nat} {i x : Int32} (hd : decode γ.2.1 pc = .ok (.castore, 1)) (ha : hK h a = some (.inr (.char, n))) (hi : vp_in i n) (kk : Ex Γ γ d (pc + 1) lv st (sI h a i.toNatClampNeg x.toUInt32.toUInt16.toUInt32.toInt32) r h') : Ex Γ γ d pc lv (.int x :: .int i :: .ref a :: st) h r h' :=
  x_ast (h1 := sI h a i.toNatClampNeg x.toUInt32.toUInt16.toUInt32.toInt32) (v' := .int x.toUInt32.toUInt16.toUInt32.toInt32) ha (by decide) rfl rfl rfl (fun _ e _ _ => fv_sI_a e) (fv_sI_s rfl) (fun _ e => fv_sI_i e) (fun C hH h2 w => W.cast C.1 C.2.1 (arr_at hH ha) h2 (fun q => by cases q) (by rw [arrV_size]; exact hi) rfl rfl hd w) kk
theorem x_last {a n : Nat} {i : Int32} {x : Int64} (hd : decode γ.2.1 pc = .ok (.lastore, 1)) (ha : hK h a = some (.inr (.long, n))) (hi : vp_in i n) (kk : Ex Γ γ d (pc + 1) lv st (sL h a i.toNatClampNeg x) r h') : Ex Γ γ d pc lv (.long x :: .int i :: .ref a :: st) h r h' :=
  x_ast (h1 := sL h a i.toNatClampNeg x) (v' := .long x) ha (by decide) rfl rfl rfl (fun _ e _ _ => fv_sL_a e) fv_sL_s (fun _ e => fv_sL_i e) (fun C hH h2 w => W.last C.1 C.2.1 (arr_at hH ha) h2 (fun q => by cases q) (by rw [arrV_size]; exact hi) rfl rfl hd w) kk
/-- a reference to an object of just the array's class is written -/
theorem x_aast {a n x ci : Nat} {q : vw_C} {i : Int32} (hd : decode γ.2.1 pc = .ok (.aastore, 1)) (hq : vwCl[ci]? = some q) (ha : hK h a = some (.inr (.object q.1, n))) (ht : FieldType.object q.1 ∈ tysL) (hi : vp_in i n) (hx : hK h x = some (.inl ci)) (kk : Ex Γ γ d (pc + 1) lv st (sR h a i.toNatClampNeg (some x)) r h') : Ex Γ γ d pc lv (.ref x :: .int i :: .ref a :: st) h r h' := by
  refine x_ast (h1 := sR h a i.toNatClampNeg (some x)) (v' := .ref x) ha ht rfl rfl rfl (fun _ e _ _ => fv_sR_a e) (fv_sR_s rfl) (fun _ e => fv_sR_i e) (fun {p l e R s m args below meth c H locs cells slots Q ls} C hH h2 w => ?_) kk
  have hlt : i.toNatClampNeg < n := Nat.not_le.mp fun q => hi (Or.inr q)
  have h0 : ¬ i < 0 := fun q => hi (Or.inl q)
  obtain ⟨-, q2, g1, cellV, g2, g3, g4, -⟩ := hH.2.2.2 x _ hx
  have hcls := (C.2.2.2.2.2.1.1.1 ci q hq).2
  obtain ⟨kA, comp, k1, k2, k3, -⟩ := (C.2.2.2.2.2.1.arr ht).2
  have hcomp : comp = (gD Γ).1 ci := Option.some.inj (k3.symm.trans hcls.1)
  subst hcomp
  obtain ⟨kC, hkC, -⟩ := hcls.2
  exact W.aast C.1 C.2.1 (arr_at hH ha) (fun q h => by cases h) (fun h => by cases h) k1 k2 rfl hkC ⟨h0, by rw [arrV_size]; exact hlt⟩ g2 (fun q h => by rw [g4] at h; cases h) (by rw [g3]; exact hkC) (by rw [g3]; exact va_assign hcls) rfl rfl hd w
/-- a new array of numbers -/
theorem x_newa {atype : ArrayType} {t : FieldType} {n : Int32} {N : Nat} (hd : decode γ.2.1 pc = .ok (.newarray atype, 2)) (hty : newarray.typeOf atype = t) (ht : t ∈ tysL) (hp : rT t = false) (hc : Cond.arrayClass t ∈ GW) (hn : ¬ n < 0) (hN' : n.toNatClampNeg = N) (hb' : N * componentBytes t ≤ 536870912)
    (kk : Ex Γ γ d (pc + 2) lv (.ref (hN h) :: st) (nw h (.inr (t, N)) N) r h') : Ex Γ γ d pc lv (.int n :: st) h r h' := by
  subst hty
  obtain ⟨m1, m2⟩ := id kk.1
  have m1' : hN h + 1 ≤ hN h' := m1
  have m2' : hS h + N ≤ hS h' := m2
  refine ⟨⟨by omega, by omega⟩, fun p e R s m args below meth c H locs cells slots ls C hH hL hl e1 e2 => ?_⟩
  refine va_newaK C.1 C.2.1 (C.2.2.2.2.1 _ hc) rfl hd rfl hn hN' hb' (by omega) (by omega) hH.1 fun H1 cA k1 k2 k3 hAr hNm => ?_
  have hcA : cA = gA Γ (newarray.typeOf atype) := by
    have h2 : va_RA s (gA Γ (newarray.typeOf atype)) (newarray.typeOf atype) := (C.2.2.2.2.2.1.arr ht).2
    have h3 : s.vm.findClass ("[" ++ (newarray.typeOf atype).toString) = some (gA Γ (newarray.typeOf atype)) := by
      clear hp
      revert h2
      cases atype <;> intro h2 <;> exact h2
    exact Option.some.inj (hNm.symm.trans h3)
  subst hcA
  refine kk.2 p e R s m args below meth c H1 locs (cells + 1) (slots + N) ls C (hH.push (by rw [k2, hH.1]) (fun q hq => k3 q (by rw [← hH.1]; exact hq)) ?_) hL hl ?_ ?_
  · show H1[hN h]? = _
    rw [k1]
    congr 2
    funext j
    exact (fv_nw0 (by cases atype <;> first | rfl | exact absurd ht (by decide))).symm
  · show cells + 1 + (hN h' - (hN h + 1)) ≤ R.cells; omega
  · show slots + N + (hS h' - (hS h + N)) ≤ R.slots; omega
theorem x_newq {C0 : String} {idx : Nat} {n : Int32} {N : Nat} (hd : decode γ.2.1 pc = .ok (.anewarray idx, 3)) (hc : Cond.classLink γ.1.cls idx C0 ∈ GW) (ht : FieldType.object C0 ∈ tysL) (hn : ¬ n < 0) (hN' : n.toNatClampNeg = N) (hb' : N * 4 ≤ 536870912)
    (kk : Ex Γ γ d (pc + 3) lv (.ref (hN h) :: st) (nw h (.inr (.object C0, N)) N) r h') : Ex Γ γ d pc lv (.int n :: st) h r h' := by
  subst hN'
  obtain ⟨m1, m2⟩ := id kk.1
  have m1' : hN h + 1 ≤ hN h' := m1
  have m2' : hS h + n.toNatClampNeg ≤ hS h' := m2
  refine ⟨⟨by omega, by omega⟩, fun p e R s m args below meth c H locs cells slots ls C hH hL hl e1 e2 => ?_⟩
  have hover : va_AO C0 s := by
    have h1 := C.2.2.2.2.2.1.2.2
    simp [tysL] at ht
    rcases ht with rfl | rfl
    · exact h1.1
    · exact h1.2.1
  refine W.anew C.1 C.2.1 C.2.2.2.1 (C.2.2.2.2.1 _ hc) (va_AO.use hover) rfl hd rfl hn hb' (by omega) (by omega) fun cA kA comp f1 f2 f3 f4 => ?_
  have hcA : cA = gA Γ (.object C0) := by
    obtain ⟨_, _, -, -, -, h4⟩ := (C.2.2.2.2.2.1.arr ht).2
    exact Option.some.inj (f1.symm.trans h4)
  subst hcA
  generalize hH1 : H.push ({ cls := gA Γ (.object C0), slots := Array.replicate n.toNatClampNeg .null, vm := .none } : Cell) = H1
  have k2 : H1.size = H.size + 1 := by rw [← hH1, Array.size_push]
  have k1 : H1[H.size]? = some (arrV (gA Γ (.object C0)) n.toNatClampNeg (fun _ => .null)) := by rw [← hH1, Array.getElem?_push_size, ← arrV_new]
  have k3 : ∀ q : Nat, q < H.size → H1[q]? = H[q]? := fun q hq => by rw [← hH1, Array.getElem?_push, if_neg (Nat.ne_of_lt hq)]
  rw [hH.1] at k1
  rw [hH.1]
  refine kk.2 p e R s m args below meth c H1 locs (cells + 1) (slots + n.toNatClampNeg) ls C (hH.push k2 k3 ?_) hL hl ?_ ?_
  · show H1[hN h]? = _
    rw [k1]
    congr 2
    funext j
    exact (fv_nw0 (t := .object C0) rfl).symm
  · show cells + 1 + (hN h' - (hN h + 1)) ≤ R.cells; omega
  · show slots + n.toNatClampNeg + (hS h' - (hS h + n.toNatClampNeg)) ≤ R.slots; omega
theorem x_new {ci idx : Nat} {q : vw_C} (hd : decode γ.2.1 pc = .ok (.new idx, 3)) (hck : CK ci) (hq : vwCl[ci]? = some q) (hcl : Cond.classLink γ.1.cls idx q.1 ∈ GW) (hins : Cond.instantiable q.1 q.2.2 ∈ GW) (hini : Cond.initialized q.1 ∈ GW)
    (kk : Ex Γ γ d (pc + 3) lv (.ref (hN h) :: st) (nw h (.inl ci) q.2.2) r h') : Ex Γ γ d pc lv st h r h' := by
  obtain ⟨m1, m2⟩ := id kk.1
  have m1' : hN h + 1 ≤ hN h' := m1
  have m2' : hS h + q.2.2 ≤ hS h' := m2
  obtain ⟨q', hq', hin, hty, -, hok⟩ := hck
  cases hq.symm.trans hq'
  refine ⟨⟨by omega, by omega⟩, fun p e R s m args below meth c H locs cells slots ls C hH hL hl e1 e2 => ?_⟩
  have hG := C.2.2.2.2.1
  have hKn := C.2.2.2.2.2.1.1.1 ci _ hq
  refine W.newcK C.1 C.2.1 C.2.2.2.1 (hG _ hcl) (hG _ hins) (hG _ hini) rfl hd (by omega) (by omega) hKn.2.1 hH.1 fun H1 kC hkC k1 k2 k3 => ?_
  refine kk.2 p e R s m args below meth c H1 locs (cells + 1) (slots + q.2.2) ls C (hH.push (by rw [k2, hH.1]) (fun x hx => k3 x (by rw [← hH.1]; exact hx)) ⟨q, hq, (u_born (TY ci) hG hin hKn hkC k1 hty).to (fun j hj => (fv_nw0 (hok j hj)).symm)⟩) hL hl ?_ ?_
  · show cells + 1 + (hN h' - (hN h + 1)) ≤ R.cells; omega
  · show slots + q.2.2 + (hS h' - (hS h + q.2.2)) ≤ R.slots; omega
/-- returns -/
theorem x_ret {ins : Instr} {v : Option Value} (row : ∀ {p : Program} {l : Launch} {e : Env} {R : Room} {s : State} {m : MethodId} {args : Array Value} {below : List Frame} {meth : Method} {c : Code} {H : Heap} {locs : List Loc} {cells slots : Nat} {ls : Array Slot}, Cx Γ γ d p R s m args meth c → (∀ t : State, t.heap = H → s.WarmedH t.vm → Qx Γ v h args s (.returned v) t) → (∀ q ∈ locs, fr Γ q.base) → W p l e R s m args below meth c H locs cells slots (MQ below (Qx Γ v h) args s cells slots (fr Γ)) (F0 m pc ls st)) (hg : isLaw γ = false) : Ex Γ γ d pc lv st h v h := by
  refine ⟨⟨Nat.le_refl _, Nat.le_refl _⟩, fun p e R s m args below meth c H locs cells slots ls C hH hL hl e1 e2 => ?_⟩
  unfold fnl
  rw [hg]
  exact W.widen (by omega) (by omega) (row C (fun t ht _ => ⟨rfl, by rw [ht]; exact hH⟩) hL)
theorem x_iret {v : Int32} {t : FieldType} (hd : decode γ.2.1 pc = .ok (.ireturn, 1)) (hr : γ.2.2.2 = some t) (hn : narrow t (.int v) = .int v) (hg : isLaw γ = false := by rfl) : Ex Γ γ d pc lv [.int v] h (some (.int v)) h :=
  x_ret (ins := .ireturn) (fun C h1 h2 => W.zret C.1 C.2.1 (C.2.2.2.2.2.2.1.trans hr) hn h1 h2 hd (hlocks := C.2.2.2.2.2.2.2.1)) hg
theorem x_lret {v : Int64} (hd : decode γ.2.1 pc = .ok (.lreturn, 1)) (hr : γ.2.2.2 = some .long) (hg : isLaw γ = false := by rfl) : Ex Γ γ d pc lv [.long v] h (some (.long v)) h :=
  x_ret (ins := .lreturn) (fun C h1 h2 => W.lret C.1 C.2.1 (C.2.2.2.2.2.2.1.trans hr) h1 h2 hd (hlocks := C.2.2.2.2.2.2.2.1)) hg
theorem x_vret (hd : decode γ.2.1 pc = .ok (.return_, 1)) (hr : γ.2.2.2 = none) (hg : isLaw γ = false := by rfl) : Ex Γ γ d pc lv [] h none h :=
  x_ret (ins := .return_) (fun C h1 h2 => W.vret C.1 C.2.1 (C.2.2.2.2.2.2.1.trans hr) h1 h2 hd (hlocks := C.2.2.2.2.2.2.2.1)) hg
/-- Object.<init> -/
theorem x_oinit {idx a : Nat} (hd : decode γ.2.1 pc = .ok (.invokespecial idx, 3)) (h1 : Cond.methodLink γ.1.cls idx objectInit ∈ GW) (h2 : Cond.instanceMethod objectInit ∈ GW) (h3 : Cond.code objectInit ⟨#[0xb1]⟩ 1 none ∈ GW) (hst : (st.map fun v => v.category).sum ≤ 8) (kk : Ex Γ γ (d + 1) (pc + 3) lv st h r h') : Ex Γ γ (d + 1) pc lv (.ref a :: st) h r h' := by
  refine ⟨kk.1, fun p e R s m args below meth c H locs cells slots ls C hH hL hl e1 e2 => ?_⟩
  have kw := kk.2 p e R s m args below meth c H locs cells slots ls C hH hL hl e1 e2
  obtain ⟨hx, hb, hml, hown, hG, hKX, -, -, -, c1, c2, -⟩ := id C
  exact W.objInit hx hb hown (hG _ h1) (hG _ h2) (hG _ h3) rfl (by rw [hml]; exact hl.1) rfl hd (by omega) (by show 2 * 0 + _ + 12 ≤ _; omega) kw
/-- what is known of a method that is called -/
def MI (γ' : mI) (n : Nat) : Prop := Cond.code γ'.1 γ'.2.1 γ'.2.2.1 γ'.2.2.2 ∈ GW ∧ Cond.initialized γ'.1.cls ∈ GW ∧ (γ'.1.cls ≠ "java/lang/invoke/MethodHandle" ∧ γ'.1.cls ≠ "java/lang/invoke/VarHandle" ∧ (parseMethodDescriptor γ'.1.desc).map (fun d => d.parameters.length) = some n) ∧ γ'.2.2.1 ≤ 22
theorem Ex.call {γ' : mI} {As rest : List Value} {r1 : Option Value} {h1 : aH} (M : Mx Γ γ' d As h r1 h1) (k : Ex Γ γ (d + 1) (pc + 3) lv (r1.toList ++ rest) h1 r h')
    (run : ∀ {p : Program} {e : Env} {R : Room} {s : State} {m : MethodId} {args : Array Value} {below : List Frame} {meth : Method} {c : Code} {H : Heap} {locs : List Loc} {cells slots : Nat} {ls : Array Slot}, Cx Γ γ (d + 1) p R s m args meth c → HI Γ h H → lv_has ls γ.2.2.1 lv → cells + (hN h1 - hN h) ≤ R.cells ∧ slots + (hS h1 - hS h) ≤ R.slots → va_Run p (gl Γ) e R s m args below meth c H locs cells slots (hN h1 - hN h) (hS h1 - hS h) (F0 m pc ls st) rest (Qx Γ r1 h1 As.toArray) (fr Γ)) : Ex Γ γ (d + 1) pc lv st h r h' := by
  obtain ⟨a1, a2⟩ := id M.1
  obtain ⟨b1, b2⟩ := id k.1
  refine ⟨⟨Nat.le_trans a1 b1, Nat.le_trans a2 b2⟩, fun p e R s m args below meth c H locs cells slots ls C hH hL hl e1 e2 => ?_⟩
  intro T hT X
  obtain ⟨v, st₀, t, T', L, h0, X', hL', k1, k2, ⟨hv, hH1⟩, stp⟩ := run (below := below) (e := e) (locs := locs) C hH hl (cells := cells) (slots := slots) ⟨by omega, by omega⟩ T hT X
  cases hv
  obtain ⟨t2, x1, x2⟩ := k.2 p e R s m args below meth c T'.heap (locs ++ L) (cells + (hN h1 - hN h)) (slots + (hS h1 - hS h)) ls C (by rw [k1]; exact hH1) (fun q hq => by
      rcases List.mem_append.mp hq with h | h
      · exact hL q h
      · exact hL' q h) hl (by omega) (by omega) T' rfl X'
  exact ⟨t2, stp t2 x1, x2⟩
theorem gw_ws (γ' : mI) {args : Array Value} {s : State} (hc : Cond.code γ'.1 γ'.2.1 γ'.2.2.1 γ'.2.2.2 ∈ GW) (hG : ∀ w ∈ GW, w.before args s = true) : ∀ w ∈ Cond.code γ'.1 γ'.2.1 γ'.2.2.1 γ'.2.2.2 :: GW, ∀ (a' : Array Value) (U : State), s.WarmedH U.vm → w.before a' U = true :=
  pay_in hG (fun w hw => by
    have h1 : w ∈ GW := by
      rcases List.mem_cons.mp hw with rfl | h
      · exact hc
      · exact h
    exact ⟨h1, gw_good h1⟩)
theorem cb_of {γ' : mI} {n idx : Nat} {own : String} {p : Program} {R : Room} {s : State} {m : MethodId} {args : Array Value} {meth : Method} {c : Code} {h1 : aH} (hm : MI γ' n) (hl : Cond.methodLink own idx γ'.1 ∈ GW) (C : Cx Γ γ (d + 1) p R s m args meth c) : CallB R s args own idx γ'.1 γ'.2.1 γ'.2.2.1 γ'.2.2.2 (Cond.code γ'.1 γ'.2.1 γ'.2.2.1 γ'.2.2.2 :: GW) (rmX d h h1) (hN h1 - hN h) (hS h1 - hS h) n := by
  obtain ⟨hx, hb, hml, hown, hG, hKX, -, -, -, c1, c2, -⟩ := id C
  obtain ⟨m1, m2, m3, m4⟩ := hm
  refine ⟨rfl, rfl, by show d + 1 ≤ _; omega, by show 8 + (γ'.2.2.1 + 11) + 41 * d ≤ _; omega, gw_ws γ' m1 hG, List.mem_cons_self, hG _ m1, hG _ m2, ⟨m3.1, m3.2.1⟩, fun sig h => ?_, hG _ hl⟩
  have h2 := m3.2.2
  rw [h] at h2
  exact (Option.some.inj h2).symm
theorem px_of {As : List Value} {s U : State} {H : Heap} (hH : HI Γ h H) (hKX : KX Γ s) (e : U.heap = H) (hW : s.WarmedH U.vm) : Px Γ As h As.toArray U := ⟨rfl, by rw [e]; exact hH, hKX.warm hW⟩
/-- invokevirtual -/
theorem x_callV {γ' : mI} {n idx b ci : Nat} {q : vw_C} {As rest : List Value} {r1 : Option Value} {h1 : aH} (hd : decode γ.2.1 pc = .ok (.invokevirtual idx, 3)) (hm : MI γ' n) (hl : Cond.methodLink γ.1.cls idx γ'.1 ∈ GW) (hin : Cond.instanceMethod γ'.1 ∈ GW) (hse : Cond.selects q.1 γ'.1 γ'.1 ∈ GW) (hq : vwCl[ci]? = some q) (hb : hK h b = some (.inl ci)) (hst : st = As.reverse ++ .ref b :: rest) (hn : As.length = n) (hw : (rest.map fun v => v.category).sum ≤ 8)
    (M : Mx Γ γ' d (.ref b :: As) h r1 h1) (k : Ex Γ γ (d + 1) (pc + 3) lv (r1.toList ++ rest) h1 r h') : Ex Γ γ (d + 1) pc lv st h r h' := by
  refine Ex.call M k (fun {p e R s m args below meth c H locs cells slots ls} C hH hl0 hf => ?_)
  obtain ⟨hx, hb', hml, hown, hG, hKX, -, -, -, c1, c2, -⟩ := id C
  obtain ⟨-, q2, g1, cell, g2, g3, g4, -⟩ := hH.2.2.2 b _ hb
  have hcls := (hKX.1.1 ci q hq).2
  exact va_runV (As := As) (C := q.1) ⟨hx, hb', hml, hown, hG⟩ M.2 ⟨cb_of hm hl C, hG _ hin, hG _ hse⟩ ⟨Px.blind, ⟨cell, g2, by rw [g4]; rfl, by rw [g3]; exact hcls.1⟩, fun U e hW => px_of hH hKX e hW⟩ rfl hn hl0.1 hst (by show 2 * 0 + _ ≤ 8; omega) hd hf
/-- invokestatic -/
theorem x_callS {γ' : mI} {n idx : Nat} {As rest : List Value} {r1 : Option Value} {h1 : aH} (hd : decode γ.2.1 pc = .ok (.invokestatic idx, 3)) (hm : MI γ' n) (hl : Cond.methodLink γ.1.cls idx γ'.1 ∈ GW) (hs : Cond.static γ'.1 ∈ GW) (hst : st = As.reverse ++ rest) (hn : As.length = n) (hw : (rest.map fun v => v.category).sum ≤ 8)
    (M : Mx Γ γ' d As h r1 h1) (k : Ex Γ γ (d + 1) (pc + 3) lv (r1.toList ++ rest) h1 r h') : Ex Γ γ (d + 1) pc lv st h r h' := by
  refine Ex.call M k (fun {p e R s m args below meth c H locs cells slots ls} C hH hl0 hf => ?_)
  obtain ⟨hx, hb', hml, hown, hG, hKX, -, -, -, c1, c2, -⟩ := id C
  exact va_runS (As := As) ⟨hx, hb', hml, hown, hG⟩ M.2 ⟨cb_of hm hl C, hG _ hs⟩ ⟨Px.blind, fun U e hW => px_of hH hKX e hW⟩ rfl hn hl0.1 hst (by show 2 * 0 + _ ≤ 8; omega) hd hf
/-- invokespecial <init> -/
theorem x_callI {y : MethodName} {cc : ByteArray} {nL n idx b : Nat} {As rest : List Value} {r1 : Option Value} {h1 : aH} (hd : decode γ.2.1 pc = .ok (.invokespecial idx, 3)) (hm : MI (y, cc, nL, none) n) (hl : Cond.methodLink γ.1.cls idx y ∈ GW) (hin : Cond.instanceMethod y ∈ GW) (hnm : y.name = "<init>") (hst : st = As.reverse ++ .ref b :: rest) (hn : As.length = n) (hw : (rest.map fun v => v.category).sum ≤ 8)
    (M : Mx Γ (y, cc, nL, none) d (.ref b :: As) h r1 h1) (k : Ex Γ γ (d + 1) (pc + 3) lv (r1.toList ++ rest) h1 r h') : Ex Γ γ (d + 1) pc lv st h r h' := by
  refine Ex.call M k (fun {p e R s m args below meth c H locs cells slots ls} C hH hl0 hf => ?_)
  obtain ⟨hx, hb', hml, hown, hG, hKX, -, -, -, c1, c2, -⟩ := id C
  exact va_runI (As := As) ⟨hx, hb', hml, hown, hG⟩ M.2 ⟨cb_of hm hl C, hnm, hG _ hin⟩ ⟨Px.blind, fun U e hW => px_of hH hKX e hW⟩ rfl hn hl0.1 hst (by show 2 * 0 + _ ≤ 8; omega) hd hf
theorem cn_of {γ' : mI} {n idx : Nat} {own host : String} {p : Program} {R : Room} {s : State} {m : MethodId} {args : Array Value} {meth : Method} {c : Code} {h1 : aH} (hm : MI γ' n) (hl : (own, idx, γ'.1, host) ∈ nestL) (C : Cx Γ γ (d + 1) p R s m args meth c) : va_CN R s args own idx γ'.1 host γ'.2.1 γ'.2.2.1 γ'.2.2.2 (Cond.code γ'.1 γ'.2.1 γ'.2.2.1 γ'.2.2.2 :: GW) (rmX d h h1) (hN h1 - hN h) (hS h1 - hS h) n := by
  obtain ⟨hx, hb, hml, hown, hG, hKX, -, -, -, c1, c2, -⟩ := id C
  obtain ⟨m1, m2, m3, m4⟩ := hm
  refine ⟨⟨rfl, rfl, by show d + 1 ≤ _; omega, by show 8 + (γ'.2.2.1 + 11) + 41 * d ≤ _; omega, gw_ws γ' m1 hG, List.mem_cons_self⟩, hG _ m1, hG _ m2, ⟨m3.1, m3.2.1⟩, fun sig h => ?_, va_Nw.use rfl (hKX.2.1 _ hl)⟩
  have h2 := m3.2.2
  rw [h] at h2
  exact (Option.some.inj h2).symm
/-- the same, private ones of another class of the nest -/
theorem x_callSN {γ' : mI} {n idx : Nat} {host : String} {As rest : List Value} {r1 : Option Value} {h1 : aH} (hd : decode γ.2.1 pc = .ok (.invokestatic idx, 3)) (hm : MI γ' n) (hl : (γ.1.cls, idx, γ'.1, host) ∈ nestL) (hs : Cond.static γ'.1 ∈ GW) (hst : st = As.reverse ++ rest) (hn : As.length = n) (hw : (rest.map fun v => v.category).sum ≤ 8)
    (M : Mx Γ γ' d As h r1 h1) (k : Ex Γ γ (d + 1) (pc + 3) lv (r1.toList ++ rest) h1 r h') : Ex Γ γ (d + 1) pc lv st h r h' := by
  refine Ex.call M k (fun {p e R s m args below meth c H locs cells slots ls} C hH hl0 hf => ?_)
  obtain ⟨hx, hb', hml, hown, hG, hKX, -, -, -, c1, c2, -⟩ := id C
  exact va_runSN (As := As) ⟨hx, hb', hml, hown, hG⟩ M.2 ⟨cn_of hm hl C, hG _ hs, trivial⟩ ⟨Px.blind, fun U e hW => px_of hH hKX e hW⟩ rfl hn hl0.1 hst (by show 2 * 0 + _ ≤ 8; omega) hd hf
theorem x_callIN {y : MethodName} {cc : ByteArray} {nL n idx b : Nat} {host : String} {As rest : List Value} {r1 : Option Value} {h1 : aH} (hd : decode γ.2.1 pc = .ok (.invokespecial idx, 3)) (hm : MI (y, cc, nL, none) n) (hl : (γ.1.cls, idx, y, host) ∈ nestL) (hin : Cond.instanceMethod y ∈ GW) (hnm : y.name = "<init>") (hst : st = As.reverse ++ .ref b :: rest) (hn : As.length = n) (hw : (rest.map fun v => v.category).sum ≤ 8)
    (M : Mx Γ (y, cc, nL, none) d (.ref b :: As) h r1 h1) (k : Ex Γ γ (d + 1) (pc + 3) lv (r1.toList ++ rest) h1 r h') : Ex Γ γ (d + 1) pc lv st h r h' := by
  refine Ex.call M k (fun {p e R s m args below meth c H locs cells slots ls} C hH hl0 hf => ?_)
  obtain ⟨hx, hb', hml, hown, hG, hKX, -, -, -, c1, c2, -⟩ := id C
  exact va_runIN (As := As) ⟨hx, hb', hml, hown, hG⟩ M.2 ⟨cn_of hm hl C, hnm, hG _ hin⟩ ⟨Px.blind, fun U e hW => px_of hH hKX e hW⟩ rfl hn hl0.1 hst (by show 2 * 0 + _ ≤ 8; omega) hd hf
end ARows
