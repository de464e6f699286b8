/-! WHAT THE PROGRAMS ARE WRITTEN IN -/
def nm {α β : Type} (e : α) (f : α → β) : β := f e
theorem nm_o {α β : Type} {e : α} {f : α → Option β} {q : β} (H : nm e f = some q) : ∃ x, e = x ∧ f x = some q := ⟨e, rfl, H⟩
def bd {ρ β : Type} (o : Option (ρ × aH)) (f : ρ → aH → Option β) : Option β := match o with
  | none => none
  | some q => f q.1 q.2
theorem bd_o {ρ β : Type} {o : Option (ρ × aH)} {f : ρ → aH → Option β} {q : β} (H : bd o f = some q) : ∃ v h, o = some (v, h) ∧ f v h = some q := by
  cases o with
  | none => cases H
  | some p => exact ⟨p.1, p.2, rfl, H⟩
def chk {β : Type} (c : Prop) [Decidable c] (x : Option β) : Option β := if c then x else none
theorem chk_o {β : Type} {c : Prop} [Decidable c] {x : Option β} {q : β} (H : chk c x = some q) : c ∧ x = some q := by
  unfold chk at H
  split at H
  · exact ⟨by assumption, H⟩
  · cases H
def ko {β : Type} (h : aH) (a ci : Nat) (x : Option β) : Option β := match hK h a with
  | some (.inl c) => if c = ci then x else none
  | _ => none
theorem ko_o {β : Type} {h : aH} {a ci : Nat} {x : Option β} {q : β} (H : ko h a ci x = some q) : hK h a = some (.inl ci) ∧ x = some q := by
  unfold ko at H
  split at H
  · next c e =>
    split at H
    · next e2 => subst e2; exact ⟨e, H⟩
    · cases H
  · cases H
def ka {β : Type} (h : aH) (a : Nat) (t : FieldType) (f : Nat → Option β) : Option β := match hK h a with
  | some (.inr p) => if p.1 = t then f p.2 else none
  | _ => none
theorem ka_o {β : Type} {h : aH} {a : Nat} {t : FieldType} {f : Nat → Option β} {q : β} (H : ka h a t f = some q) : ∃ n, hK h a = some (.inr (t, n)) ∧ f n = some q := by
  unfold ka at H
  split at H
  · next p e =>
    split at H
    · next e2 => subst e2; exact ⟨p.2, e, H⟩
    · cases H
  · cases H
def kr {α β : Type} (o : Option α) (f : α → Option β) : Option β := o.bind f
theorem kr_o {α β : Type} {o : Option α} {f : α → Option β} {q : β} (H : kr o f = some q) : ∃ x, o = some x ∧ f x = some q := by
  cases o with
  | none => cases H
  | some x => exact ⟨x, rfl, H⟩
/-- null or not -/
def kn {α β : Type} (o : Option α) (a : Option β) (f : α → Option β) : Option β := match o with
  | none => a
  | some x => f x
theorem kn_o {α β : Type} {o : Option α} {a : Option β} {f : α → Option β} {q : β} (H : kn o a f = some q) : (o = none ∧ a = some q) ∨ ∃ x, o = some x ∧ f x = some q := by
  cases o with
  | none => exact Or.inl ⟨rfl, H⟩
  | some x => exact Or.inr ⟨x, rfl, H⟩
theorem ite_p {α : Type} {c : Prop} [Decidable c] {a b q : α} (H : ite c a b = q) (hc : c) : a = q := by rw [if_pos hc] at H; exact H
theorem ite_m {α : Type} {c : Prop} [Decidable c] {a b q : α} (H : ite c a b = q) (hc : ¬ c) : b = q := by rw [if_neg hc] at H; exact H
theorem so_1 {α β : Type} {a a' : α} {b b' : β} (H : some (a, b) = some (a', b')) : a = a' ∧ b = b' := by cases H; exact ⟨rfl, rfl⟩
def FU : Nat := 10000
theorem Ex.ren {Γ : gS} {γ : mI} {d pc : Nat} {lv : List (Nat × Value)} {st : List Value} {h h1 : aH} {r : Option Value} {h' : aH} (e : h = h1) (k : Ex Γ γ d pc lv st h1 r h') : Ex Γ γ d pc lv st h r h' := e ▸ k
/-- the words' text -/
def wch (i : Int32) : Int32 := wByt.getD i.toNatClampNeg 0
section VRows
variable {Γ : gS} {γ : mI} {d pc : Nat} {lv : List (Nat × Value)} {st : List Value} {h : aH} {r : Option Value} {h' : aH}
theorem x_callVi {γ' : mI} {n idx b ci : Nat} {q : vw_C} {As rest : List Value} {v1 : Int32} {h1 : aH} (hd : decode γ.2.1 pc = .ok (.invokevirtual idx, 3)) (hm : MI γ' n) (hl : Cond.methodLink γ.1.cls idx γ'.1 ∈ GW) (hin : Cond.instanceMethod γ'.1 ∈ GW) (hse : Cond.selects q.1 γ'.1 γ'.1 ∈ GW) (hq : vwCl[ci]? = some q) (hb : hK h b = some (.inl ci)) (hst : st = As.reverse ++ .ref b :: rest) (hn : As.length = n) (hw : (rest.map fun v => v.category).sum ≤ 8) (M : Mx Γ γ' d (.ref b :: As) h (some (.int v1)) h1) (k : Ex Γ γ (d + 1) (pc + 3) lv (.int v1 :: rest) h1 r h') : Ex Γ γ (d + 1) pc lv st h r h' := x_callV hd hm hl hin hse hq hb hst hn hw M k
theorem x_callVl {γ' : mI} {n idx b ci : Nat} {q : vw_C} {As rest : List Value} {v1 : Int64} {h1 : aH} (hd : decode γ.2.1 pc = .ok (.invokevirtual idx, 3)) (hm : MI γ' n) (hl : Cond.methodLink γ.1.cls idx γ'.1 ∈ GW) (hin : Cond.instanceMethod γ'.1 ∈ GW) (hse : Cond.selects q.1 γ'.1 γ'.1 ∈ GW) (hq : vwCl[ci]? = some q) (hb : hK h b = some (.inl ci)) (hst : st = As.reverse ++ .ref b :: rest) (hn : As.length = n) (hw : (rest.map fun v => v.category).sum ≤ 8) (M : Mx Γ γ' d (.ref b :: As) h (some (.long v1)) h1) (k : Ex Γ γ (d + 1) (pc + 3) lv (.long v1 :: rest) h1 r h') : Ex Γ γ (d + 1) pc lv st h r h' := x_callV hd hm hl hin hse hq hb hst hn hw M k
theorem x_callVv {γ' : mI} {n idx b ci : Nat} {q : vw_C} {As rest : List Value}  {h1 : aH} (hd : decode γ.2.1 pc = .ok (.invokevirtual idx, 3)) (hm : MI γ' n) (hl : Cond.methodLink γ.1.cls idx γ'.1 ∈ GW) (hin : Cond.instanceMethod γ'.1 ∈ GW) (hse : Cond.selects q.1 γ'.1 γ'.1 ∈ GW) (hq : vwCl[ci]? = some q) (hb : hK h b = some (.inl ci)) (hst : st = As.reverse ++ .ref b :: rest) (hn : As.length = n) (hw : (rest.map fun v => v.category).sum ≤ 8) (M : Mx Γ γ' d (.ref b :: As) h none h1) (k : Ex Γ γ (d + 1) (pc + 3) lv (rest) h1 r h') : Ex Γ γ (d + 1) pc lv st h r h' := x_callV hd hm hl hin hse hq hb hst hn hw M k
theorem x_callSi {γ' : mI} {n idx : Nat} {As rest : List Value} {v1 : Int32} {h1 : aH} (hd : decode γ.2.1 pc = .ok (.invokestatic idx, 3)) (hm : MI γ' n) (hl : Cond.methodLink γ.1.cls idx γ'.1 ∈ GW) (hs : Cond.static γ'.1 ∈ GW) (hst : st = As.reverse ++ rest) (hn : As.length = n) (hw : (rest.map fun v => v.category).sum ≤ 8) (M : Mx Γ γ' d As h (some (.int v1)) h1) (k : Ex Γ γ (d + 1) (pc + 3) lv (.int v1 :: rest) h1 r h') : Ex Γ γ (d + 1) pc lv st h r h' := x_callS hd hm hl hs hst hn hw M k
theorem x_callSl {γ' : mI} {n idx : Nat} {As rest : List Value} {v1 : Int64} {h1 : aH} (hd : decode γ.2.1 pc = .ok (.invokestatic idx, 3)) (hm : MI γ' n) (hl : Cond.methodLink γ.1.cls idx γ'.1 ∈ GW) (hs : Cond.static γ'.1 ∈ GW) (hst : st = As.reverse ++ rest) (hn : As.length = n) (hw : (rest.map fun v => v.category).sum ≤ 8) (M : Mx Γ γ' d As h (some (.long v1)) h1) (k : Ex Γ γ (d + 1) (pc + 3) lv (.long v1 :: rest) h1 r h') : Ex Γ γ (d + 1) pc lv st h r h' := x_callS hd hm hl hs hst hn hw M k
theorem x_callSv {γ' : mI} {n idx : Nat} {As rest : List Value}  {h1 : aH} (hd : decode γ.2.1 pc = .ok (.invokestatic idx, 3)) (hm : MI γ' n) (hl : Cond.methodLink γ.1.cls idx γ'.1 ∈ GW) (hs : Cond.static γ'.1 ∈ GW) (hst : st = As.reverse ++ rest) (hn : As.length = n) (hw : (rest.map fun v => v.category).sum ≤ 8) (M : Mx Γ γ' d As h none h1) (k : Ex Γ γ (d + 1) (pc + 3) lv (rest) h1 r h') : Ex Γ γ (d + 1) pc lv st h r h' := x_callS hd hm hl hs hst hn hw M k
theorem x_callSNi {γ' : mI} {n idx : Nat} {host : String} {As rest : List Value} {v1 : Int32} {h1 : aH} (hd : decode γ.2.1 pc = .ok (.invokestatic idx, 3)) (hm : MI γ' n) (hl : (γ.1.cls, idx, γ'.1, host) ∈ nestL) (hs : Cond.static γ'.1 ∈ GW) (hst : st = As.reverse ++ rest) (hn : As.length = n) (hw : (rest.map fun v => v.category).sum ≤ 8) (M : Mx Γ γ' d As h (some (.int v1)) h1) (k : Ex Γ γ (d + 1) (pc + 3) lv (.int v1 :: rest) h1 r h') : Ex Γ γ (d + 1) pc lv st h r h' := x_callSN hd hm hl hs hst hn hw M k
theorem x_callSNl {γ' : mI} {n idx : Nat} {host : String} {As rest : List Value} {v1 : Int64} {h1 : aH} (hd : decode γ.2.1 pc = .ok (.invokestatic idx, 3)) (hm : MI γ' n) (hl : (γ.1.cls, idx, γ'.1, host) ∈ nestL) (hs : Cond.static γ'.1 ∈ GW) (hst : st = As.reverse ++ rest) (hn : As.length = n) (hw : (rest.map fun v => v.category).sum ≤ 8) (M : Mx Γ γ' d As h (some (.long v1)) h1) (k : Ex Γ γ (d + 1) (pc + 3) lv (.long v1 :: rest) h1 r h') : Ex Γ γ (d + 1) pc lv st h r h' := x_callSN hd hm hl hs hst hn hw M k
theorem x_callSNv {γ' : mI} {n idx : Nat} {host : String} {As rest : List Value}  {h1 : aH} (hd : decode γ.2.1 pc = .ok (.invokestatic idx, 3)) (hm : MI γ' n) (hl : (γ.1.cls, idx, γ'.1, host) ∈ nestL) (hs : Cond.static γ'.1 ∈ GW) (hst : st = As.reverse ++ rest) (hn : As.length = n) (hw : (rest.map fun v => v.category).sum ≤ 8) (M : Mx Γ γ' d As h none h1) (k : Ex Γ γ (d + 1) (pc + 3) lv (rest) h1 r h') : Ex Γ γ (d + 1) pc lv st h r h' := x_callSN hd hm hl hs hst hn hw M k
theorem x_callIv {y : MethodName} {cc : ByteArray} {nL n idx b : Nat} {As rest : List Value}  {h1 : aH} (hd : decode γ.2.1 pc = .ok (.invokespecial idx, 3)) (hm : MI (y, cc, nL, none) n) (hl : Cond.methodLink γ.1.cls idx y ∈ GW) (hin : Cond.instanceMethod y ∈ GW) (hnm : y.name = "<init>") (hst : st = As.reverse ++ .ref b :: rest) (hn : As.length = n) (hw : (rest.map fun v => v.category).sum ≤ 8) (M : Mx Γ (y, cc, nL, none) d (.ref b :: As) h none h1) (k : Ex Γ γ (d + 1) (pc + 3) lv (rest) h1 r h') : Ex Γ γ (d + 1) pc lv st h r h' := x_callI hd hm hl hin hnm hst hn hw M k
theorem x_callINv {y : MethodName} {cc : ByteArray} {nL n idx b : Nat} {host : String} {As rest : List Value}  {h1 : aH} (hd : decode γ.2.1 pc = .ok (.invokespecial idx, 3)) (hm : MI (y, cc, nL, none) n) (hl : (γ.1.cls, idx, y, host) ∈ nestL) (hin : Cond.instanceMethod y ∈ GW) (hnm : y.name = "<init>") (hst : st = As.reverse ++ .ref b :: rest) (hn : As.length = n) (hw : (rest.map fun v => v.category).sum ≤ 8) (M : Mx Γ (y, cc, nL, none) d (.ref b :: As) h none h1) (k : Ex Γ γ (d + 1) (pc + 3) lv (rest) h1 r h') : Ex Γ γ (d + 1) pc lv st h r h' := x_callIN hd hm hl hin hnm hst hn hw M k
end VRows
theorem co_obj : Cond.code objectInit ⟨#[0xb1]⟩ 1 none ∈ GW := gwT_1 28 rfl rfl
section NRows
variable {Γ : gS} {γ : mI} {d pc : Nat} {lv : List (Nat × Value)} {st : List Value} {h : aH} {r : Option Value} {h' : aH}
theorem x_getIe {idx ci k a : Nat} {v : Int32} (hF : FLr γ.1.cls idx ci k) (hd : decode γ.2.1 pc = .ok (.getfield idx, 3)) (ha : hK h a = some (.inl ci)) (ht : iT (TY ci k) = true) (e : hI h a k = v) (kk : Ex Γ γ d (pc + 3) lv (.int v :: st) h r h') : Ex Γ γ d pc lv (.ref a :: st) h r h' := x_get hF hd ha (by rw [fv_i ht, e]) kk
theorem x_getLe {idx ci k a : Nat} {v : Int64} (hF : FLr γ.1.cls idx ci k) (hd : decode γ.2.1 pc = .ok (.getfield idx, 3)) (ha : hK h a = some (.inl ci)) (ht : TY ci k = .long) (e : hL h a k = v) (kk : Ex Γ γ d (pc + 3) lv (.long v :: st) h r h') : Ex Γ γ d pc lv (.ref a :: st) h r h' := x_get hF hd ha (by rw [ht, fv_l, e]) kk
theorem x_ialde {a n : Nat} {i v : Int32} (hd : decode γ.2.1 pc = .ok (.iaload, 1)) (ha : hK h a = some (.inr (.int, n))) (hi : vp_in i n) (e : hI h a i.toNatClampNeg = v) (kk : Ex Γ γ d (pc + 1) lv (.int v :: st) h r h') : Ex Γ γ d pc lv (.int i :: .ref a :: st) h r h' := by subst e; exact x_iald hd ha hi kk
theorem x_balde {a n : Nat} {i v : Int32} (hd : decode γ.2.1 pc = .ok (.baload, 1)) (ha : hK h a = some (.inr (.byte, n))) (hi : vp_in i n) (e : hI h a i.toNatClampNeg = v) (kk : Ex Γ γ d (pc + 1) lv (.int v :: st) h r h') : Ex Γ γ d pc lv (.int i :: .ref a :: st) h r h' := by subst e; exact x_bald hd ha hi kk
theorem x_zalde {a n : Nat} {i v : Int32} (hd : decode γ.2.1 pc = .ok (.baload, 1)) (ha : hK h a = some (.inr (.boolean, n))) (hi : vp_in i n) (e : hI h a i.toNatClampNeg = v) (kk : Ex Γ γ d (pc + 1) lv (.int v :: st) h r h') : Ex Γ γ d pc lv (.int i :: .ref a :: st) h r h' := by subst e; exact x_zald hd ha hi kk
theorem x_lalde {a n : Nat} {i : Int32} {v : Int64} (hd : decode γ.2.1 pc = .ok (.laload, 1)) (ha : hK h a = some (.inr (.long, n))) (hi : vp_in i n) (e : hL h a i.toNatClampNeg = v) (kk : Ex Γ γ d (pc + 1) lv (.long v :: st) h r h') : Ex Γ γ d pc lv (.int i :: .ref a :: st) h r h' := by subst e; exact x_lald hd ha hi kk
end NRows
