/-! THE LAW'S OWN ROWS: it reads its script, which lies ahead of our heap, and ends with true -/
abbrev gL_law : mI := (yL_law, cL_law, 4, some .boolean)
section LRows
variable {Γ : gS} {γ : mI} {d pc : Nat} {lv : List (Nat × Value)} {st : List Value} {h : aH} {r : Option Value} {h' : aH}
theorem x_sld {i : Int32} (hd : decode γ.2.1 pc = .ok (.iaload, 1)) (hi : vp_in i (gn Γ)) (k : Ex Γ γ d (pc + 1) lv (.int (gx Γ i.toNatClampNeg) :: st) h r h') (hg : isLaw γ = true := by rfl) : Ex Γ γ d pc lv (.int i :: .ref (gb Γ) :: st) h r h' := by
  refine ⟨k.1, fun p e R s m args below meth c H locs cells slots ls C hH hL hl e1 e2 => ?_⟩
  have kw := k.2 p e R s m args below meth c H locs cells slots ls C hH hL hl e1 e2
  obtain ⟨-, -, -, ⟨scr, h1, h2, h3, h4, h5⟩, hb⟩ := C.2.2.2.2.2.2.2.2.2.2.2 hg
  have hlt : i.toNatClampNeg < gn Γ := Nat.not_le.mp fun q => hi (Or.inr q)
  exact W.iald (v := .int (gx Γ i.toNatClampNeg)) C.1 C.2.1 (by rw [hH.2.2.1 _ hb]; exact h1) h2 h3 (by rw [h4]; exact hi) (h5 _ hlt) rfl rfl hd kw
theorem x_slen (hd : decode γ.2.1 pc = .ok (.arraylength, 1)) (k : Ex Γ γ d (pc + 1) lv (.int (Int32.ofNat (gn Γ)) :: st) h r h') (hg : isLaw γ = true := by rfl) : Ex Γ γ d pc lv (.ref (gb Γ) :: st) h r h' := by
  refine ⟨k.1, fun p e R s m args below meth c H locs cells slots ls C hH hL hl e1 e2 => ?_⟩
  have kw := k.2 p e R s m args below meth c H locs cells slots ls C hH hL hl e1 e2
  obtain ⟨-, -, -, ⟨scr, h1, h2, h3, h4, h5⟩, hb⟩ := C.2.2.2.2.2.2.2.2.2.2.2 hg
  exact W.alen (n := Int32.ofNat (gn Γ)) C.1 C.2.1 (by rw [hH.2.2.1 _ hb]; exact h1) h2 (by rw [h4] <;> rfl) rfl rfl hd kw
theorem x_lawret (hd : decode code pc = .ok (.ireturn, 1)) : Ex Γ gL_law d pc lv [.int 1] h (some (.int 1)) h := by
  refine ⟨⟨Nat.le_refl _, Nat.le_refl _⟩, fun p e R s m args below meth c H locs cells slots ls C hH hL hl e1 e2 => ?_⟩
  obtain ⟨a1, a2, a3, -, -⟩ := C.2.2.2.2.2.2.2.2.2.2.2 rfl
  subst a1
  subst a2
  show W p (gl Γ) e room_1 s m _ below meth c H locs cells slots (lw_Z below _ s) _
  refine va_forget (fun q hq => by rw [a3]; exact hL q hq) ?_
  refine W.widen (k := 600000) (n := 7302250) (by have : room_1.cells = 600000 := rfl; omega) (by have : room_1.slots = 7302250 := rfl; omega) ?_
  exact lw_ret C.1 C.2.1 C.2.2.2.2.2.2.1 C.2.2.2.2.2.2.2.1 hd
end LRows
