/-! System.arraycopy over ints -/
def acp (h : aH) (a0 sp a dp n : Nat) : aH := (h.1, fun b j => if b = a ∧ dp ≤ j ∧ j < dp + n then hI h a0 (sp + (j - dp)) else hI h b j, h.2.2)
theorem fv_acp_a {h : aH} {a0 sp a dp n b k : Nat} {t : FieldType} (e : b ≠ a) : fv (acp h a0 sp a dp n) b k t = fv h b k t := by cases t <;> simp [fv, acp, hI, hL, hR, e]
theorem nfw_le : nativeFrameWords "java/lang/System" "arraycopy" 5 ≤ 22 := by decide +kernel
section CRow
variable {Γ : gS} {γ : mI} {d pc : Nat} {lv : List (Nat × Value)} {st : List Value} {h : aH} {r : Option Value} {h' : aH}
theorem x_acopy {idx a0 a n0 n1 : Nat} {sp dp n : Int32} (hd : decode γ.2.1 pc = .ok (.invokestatic idx, 3)) (l1 : Cond.methodLink γ.1.cls idx arraycopyName ∈ GW) (l2 : Cond.native arraycopyName ∈ GW) (l3 : Cond.static arraycopyName ∈ GW) (l4 : Cond.initialized "java/lang/System" ∈ GW) (ha0 : hK h a0 = some (.inr (.int, n0))) (ha : hK h a = some (.inr (.int, n1))) (h1 : ¬ sp < 0) (h2 : ¬ dp < 0) (h3 : ¬ n < 0) (h4 : sp.toNatClampNeg + n.toNatClampNeg ≤ n0) (h5 : dp.toNatClampNeg + n.toNatClampNeg ≤ n1) (hw : (st.map fun v => v.category).sum ≤ 8)
    (kk : Ex Γ γ (d + 1) (pc + 3) lv st (acp h a0 sp.toNatClampNeg a dp.toNatClampNeg n.toNatClampNeg) r h') : Ex Γ γ (d + 1) pc lv (.int n :: .int dp :: .ref a :: .int sp :: .ref a0 :: st) h r h' := by
  refine ⟨kk.1, fun p e R s m args below meth c H locs cells slots ls C hH hL hl e1 e2 => ?_⟩
  have nn : ∀ z : Int32, ¬ z < 0 → z.toInt = (z.toNatClampNeg : Int) := by
    intro z hz
    have hz0 : (0 : Int) ≤ z.toInt := by
      have := Int32.not_lt.mp hz
      simpa using Int32.le_iff_toInt_le.mp this
    show z.toInt = ((z.toInt.toNat : Nat) : Int)
    omega
  obtain ⟨hx, hb, hml, hown, hG, hKX, -, -, -, c1, c2, -⟩ := id C
  have hnf := nfw_le
  intro T hT X
  have hc0 := arr_at hH ha0
  have hc1 := arr_at hH ha
  have q0 : (fun j => fv h a0 j .int) = fun j => Value.int (hI h a0 j) := rfl
  have q1 : (fun j => fv h a j .int) = fun j => Value.int (hI h a j) := rfl
  rw [q0] at hc0
  rw [q1] at hc1
  obtain ⟨-, k0, hk0, cm0, hkk0⟩ := (hKX.arr (t := .int) (by decide)).1 n0 (fun j => .int (hI h a0 j))
  obtain ⟨vm', X', step⟩ := X.arraycopy hx hown (hG _ l1) (hG _ l2) (hG _ l3) (hG _ l4) (src := a0) (dst := a) (cs := arrV (gA Γ .int) n0 (fun j => .int (hI h a0 j))) (cd := arrV (gA Γ .int) n1 (fun j => .int (hI h a j))) (srcPos := sp) (destPos := dp) (n := n) (by rw [hT]; exact hc0) (by rw [hT]; exact hc1)
    (fun _ h => by cases h) (fun _ h => by cases h) (fun h => by cases h) (fun h => by cases h) hk0 hk0 hkk0 hkk0 (by simp [refKind]) h1 h2 h3
    (by rw [nn sp h1, nn n h3]; show ¬ _ > ((arrV _ n0 _).slots.size : Int); rw [arrV_size]; omega)
    (by rw [nn dp h2, nn n h3]; show ¬ _ > ((arrV _ n1 _).slots.size : Int); rw [arrV_size]; omega)
    (fun vm₁ _ i hi => by
      have e : (arrV (gA Γ .int) n0 (fun j => .int (hI h a0 j))).slots.getD (sp.toNatClampNeg + i) .null = .int (hI h a0 (sp.toNatClampNeg + i)) := by
        rw [Array.getD_eq_getD_getElem?, arrV_read _ _ (by omega)]
        rfl
      refine ⟨?_, ?_⟩
      · rw [e]; rfl
      · rw [e]; exact trivial)
    (g := F0 m pc ls (.int n :: .int dp :: .ref a :: .int sp :: .ref a0 :: st)) rfl (by rw [hml]; exact hl.1) (rest := st) rfl (by rw [hb]; exact hd) (by omega) (by show 2 * 0 + _ + _ ≤ _; omega)
  have ec : copied (arrV (gA Γ .int) n0 (fun j => .int (hI h a0 j))) (arrV (gA Γ .int) n1 (fun j => .int (hI h a j))) sp dp n = arrV (gA Γ .int) n1 (fun j => .int (va_cpy (hI h a0) (hI h a) sp.toNatClampNeg dp.toNatClampNeg n.toNatClampNeg j)) := va_copied (fun z => .int z) (gA Γ .int) (gA Γ .int) (hI h a0) (hI h a) h4
  rw [ec] at X' step
  generalize hcell : arrV (gA Γ .int) n1 (fun j => Value.int (va_cpy (hI h a0) (hI h a) sp.toNatClampNeg dp.toNatClampNeg n.toNatClampNeg j)) = cell at X' step
  have hl' : a < H.size := (Array.getElem?_eq_some_iff.mp hc1).1
  have hheap : ((T.setVm vm').setCell a cell).heap = H.setIfInBounds a cell := by rw [← hT]; rfl
  have oq : ∀ q : Nat, q ≠ a → (H.setIfInBounds a cell)[q]? = H[q]? := fun q hq => by simp [Array.getElem?_setIfInBounds, Ne.symm hq]
  obtain ⟨t, a1, b1⟩ := kk.2 p e R s m args below meth c (H.setIfInBounds a cell) _ cells slots ls C (hH.set ha (by simp) oq rfl rfl (fun b hb k t => fv_acp_a hb) (by
      show (H.setIfInBounds a cell)[a]? = _
      rw [show (H.setIfInBounds a cell)[a]? = some cell by simp [Array.getElem?_setIfInBounds, hl'], ← hcell]
      congr 2
      funext j
      show Value.int (va_cpy _ _ _ _ _ j) = Value.int (hI (acp h a0 _ a _ _) a j)
      simp [va_cpy, acp, hI])) (fun q hq => by
      rcases List.mem_append.mp hq with h | h
      · exact hL q h
      · obtain ⟨z, -, hz⟩ := List.mem_map.mp h
        rw [← hz]
        exact (hH.2.2.2 a _ ha).1.1) hl e1 e2 _ hheap X'
  exact ⟨t, step t a1, b1⟩
end CRow
