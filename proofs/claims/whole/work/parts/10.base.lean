/-! THE ABSTRACT HEAP: which cell is what, and three tables of what stands in cells (ints, longs, references), the next address, how many slots were made -/
abbrev aK : Type := Nat ⊕ (FieldType × Nat)
abbrev aH : Type := (Nat → Option aK) × (Nat → Nat → Int32) × (Nat → Nat → Int64) × (Nat → Nat → Option Nat) × Nat × Nat
def hK (h : aH) : Nat → Option aK := h.1
def hI (h : aH) : Nat → Nat → Int32 := h.2.1
def hL (h : aH) : Nat → Nat → Int64 := h.2.2.1
def hR (h : aH) : Nat → Nat → Option Nat := h.2.2.2.1
def hN (h : aH) : Nat := h.2.2.2.2.1
def hS (h : aH) : Nat := h.2.2.2.2.2
def up2 {α : Type} (f : Nat → Nat → α) (a i : Nat) (v : α) : Nat → Nat → α := fun b j => if b = a ∧ j = i then v else f b j
def sI (h : aH) (a i : Nat) (v : Int32) : aH := (h.1, up2 h.2.1 a i v, h.2.2)
def sL (h : aH) (a i : Nat) (v : Int64) : aH := (h.1, h.2.1, up2 h.2.2.1 a i v, h.2.2.2)
def sR (h : aH) (a i : Nat) (v : Option Nat) : aH := (h.1, h.2.1, h.2.2.1, up2 h.2.2.2.1 a i v, h.2.2.2.2)
def nw (h : aH) (k : aK) (n : Nat) : aH := (fun b => if b = hN h then some k else h.1 b, fun b j => if b = hN h then 0 else h.2.1 b j, fun b j => if b = hN h then 0 else h.2.2.1 b j, fun b j => if b = hN h then none else h.2.2.2.1 b j, hN h + 1, hS h + n)
theorem up2_s {α : Type} (f : Nat → Nat → α) (a i : Nat) (v : α) : up2 f a i v a i = v := by simp [up2]
theorem up2_a {α : Type} (f : Nat → Nat → α) {a b : Nat} (h : b ≠ a) (i j : Nat) (v : α) : up2 f a i v b j = f b j := by simp [up2, h]
theorem up2_i {α : Type} (f : Nat → Nat → α) (a b : Nat) {i j : Nat} (h : j ≠ i) (v : α) : up2 f a i v b j = f b j := by simp [up2, h]
def fv (h : aH) (a k : Nat) (t : FieldType) : Value := match t with
  | .long => .long (hL h a k)
  | .object _ => va_rf (hR h a k)
  | .array _ => va_rf (hR h a k)
  | _ => .int (hI h a k)
def okT : FieldType → Bool
  | .float => false
  | .double => false
  | _ => true
def TY (ci k : Nat) : FieldType := match ci with
  | 0 => tyX0 k | 1 => tyX1 k | 2 => tyX2 k | 3 => tyX3 k | 4 => tyX4 k | 5 => tyX5 k | 6 => tyX6 k | 7 => tyX7 k | 8 => tyX8 k | 9 => tyX9 k | 10 => tyX11 k | _ => tyX12 k
def GW : List Cond := lw_tbl.filter goodWord
theorem gw_mem {w : Cond} (h : w ∈ lw_tbl) (g : goodWord w = true) : w ∈ GW := List.mem_filter.mpr ⟨h, g⟩
theorem gw_t {w : Cond} (i : Nat) (h : tables_1[i]? = some w) (g : goodWord w = true) : w ∈ GW := gw_mem (List.mem_append_right _ (List.mem_of_getElem? h)) g
theorem gw_s {w : Cond} (i : Nat) (h : (k2_sels lw_privs)[i]? = some w) (g : goodWord w = true) : w ∈ GW := gw_mem (List.mem_append_left _ (List.mem_of_getElem? h)) g
theorem gw_good {w : Cond} (h : w ∈ GW) : (w.onTables && w.keeps) = true ∨ ∃ ty, w = .arrayClass ty := good_of_word (List.mem_filter.mp h).2
/-- the launch, the first address that is ours, the heap ahead of it, the classes' numbers and slots, the arrays' classes -/
abbrev gS : Type := Launch × Nat × Heap × va_G × (FieldType → ClassId) × Nat × Nat × Nat × Nat × (Nat → Int32)
abbrev gl (Γ : gS) : Launch := Γ.1
abbrev gz (Γ : gS) : Nat := Γ.2.1
abbrev gO (Γ : gS) : Heap := Γ.2.2.1
abbrev gD (Γ : gS) : va_G := Γ.2.2.2.1
abbrev gA (Γ : gS) : FieldType → ClassId := Γ.2.2.2.2.1
/-- where the text of the words lies, and its bytes -/
abbrev gs (Γ : gS) : Nat := Γ.2.2.2.2.2.1
abbrev gv (Γ : gS) : Nat := Γ.2.2.2.2.2.2.1
/-- where the script lies, its length, its ints -/
abbrev gb (Γ : gS) : Nat := Γ.2.2.2.2.2.2.2.1
abbrev gn (Γ : gS) : Nat := Γ.2.2.2.2.2.2.2.2.1
abbrev gx (Γ : gS) : Nat → Int32 := Γ.2.2.2.2.2.2.2.2.2
def Az (Γ : gS) : Nat → Prop := fun q => gz Γ ≤ q
def wText : String := "memory  mantissashelf   kind    picks   pads    traps   need    start   room    at      base    length  perms   number  exp     valid   from    fits    or      and     not     all     min     max     first   last    often   total   most    least   "
def wByt : List Int32 := [109, 101, 109, 111, 114, 121, 32, 32, 109, 97, 110, 116, 105, 115, 115, 97, 115, 104, 101, 108, 102, 32, 32, 32, 107, 105, 110, 100, 32, 32, 32, 32, 112, 105, 99, 107, 115, 32, 32, 32, 112, 97, 100, 115, 32, 32, 32, 32, 116, 114, 97, 112, 115, 32, 32, 32, 110, 101, 101, 100, 32, 32, 32, 32, 115, 116, 97, 114, 116, 32, 32, 32, 114, 111, 111, 109, 32, 32, 32, 32, 97, 116, 32, 32, 32, 32, 32, 32, 98, 97, 115, 101, 32, 32, 32, 32, 108, 101, 110, 103, 116, 104, 32, 32, 112, 101, 114, 109, 115, 32, 32, 32, 110, 117, 109, 98, 101, 114, 32, 32, 101, 120, 112, 32, 32, 32, 32, 32, 118, 97, 108, 105, 100, 32, 32, 32, 102, 114, 111, 109, 32, 32, 32, 32, 102, 105, 116, 115, 32, 32, 32, 32, 111, 114, 32, 32, 32, 32, 32, 32, 97, 110, 100, 32, 32, 32, 32, 32, 110, 111, 116, 32, 32, 32, 32, 32, 97, 108, 108, 32, 32, 32, 32, 32, 109, 105, 110, 32, 32, 32, 32, 32, 109, 97, 120, 32, 32, 32, 32, 32, 102, 105, 114, 115, 116, 32, 32, 32, 108, 97, 115, 116, 32, 32, 32, 32, 111, 102, 116, 101, 110, 32, 32, 32, 116, 111, 116, 97, 108, 32, 32, 32, 109, 111, 115, 116, 32, 32, 32, 32, 108, 101, 97, 115, 116, 32, 32, 32]
def KS (Γ : gS) (U : State) : Prop := vk_R "FatPointers$Words" 11 wText (gs Γ) U ∧ va_O "java/lang/String" (gs Γ) (Az Γ) U (gO Γ) ∧ va_OF "java/lang/String" "coder" "B" (.int 0) (gs Γ) (Az Γ) U (gO Γ) ∧ va_OF "java/lang/String" "value" "[B" (.ref (gv Γ)) (gs Γ) (Az Γ) U (gO Γ) ∧ va_T .byte (gv Γ) 248 (fun j => .int (wByt.getD j 0)) (Az Γ) U (gO Γ) ∧ va_Z "java/lang/String" "COMPACT_STRINGS" "Z" (.int 1) (Az Γ) U (gO Γ) ∧ va_Zq "jdk/internal/util/Preconditions" "SIOOBE_FORMATTER" "Ljava/util/function/BiFunction;" (Az Γ) U (gO Γ)
theorem KS.warm {Γ : gS} {s U : State} (hW : s.WarmedH U.vm) (h : KS Γ s) : KS Γ U := ⟨h.1.warm hW, h.2.1.moved hW.alike, h.2.2.1.moved hW.alike, h.2.2.2.1.moved hW.alike, h.2.2.2.2.1.moved hW.alike, h.2.2.2.2.2.1.moved hW.alike, h.2.2.2.2.2.2.moved hW.alike⟩
theorem KS.same {Γ : gS} {s U : State} (e : s.vm = U.vm) (h : KS Γ s) : KS Γ U := ⟨h.1.same e.symm, h.2.1.moved (by rw [e]; exact Vm.Alike.refl _), h.2.2.1.moved (by rw [e]; exact Vm.Alike.refl _), h.2.2.2.1.moved (by rw [e]; exact Vm.Alike.refl _), h.2.2.2.2.1.moved (by rw [e]; exact Vm.Alike.refl _), h.2.2.2.2.2.1.moved (by rw [e]; exact Vm.Alike.refl _), h.2.2.2.2.2.2.moved (by rw [e]; exact Vm.Alike.refl _)⟩
def tysL : List FieldType := [.int, .byte, .long, .char, .boolean, .object "FatPointers$Pointer", .object "FatPointers$State"]
def tysX (Γ : gS) : List (ClassId × FieldType) := tysL.map (fun t => (gA Γ t, t))
def nestL : List (String × Nat × MethodName × String) := [("FatPointers$State", 40, ⟨"FatPointers$Pointer", "<init>", "()V"⟩, "FatPointers"), ("FatPointers", 29, ⟨"FatPointers$History", "<init>", "()V"⟩, "FatPointers"), ("FatPointers", 58, ⟨"FatPointers$Sight", "<init>", "()V"⟩, "FatPointers"), ("FatPointers", 65, ⟨"FatPointers$Image", "<init>", "()V"⟩, "FatPointers"), ("FatPointers", 72, ⟨"FatPointers$Machine", "<init>", "()V"⟩, "FatPointers"), ("FatPointers$Parser", 22, ⟨"FatPointers$Scanner", "<init>", "()V"⟩, "FatPointers"), ("FatPointers$Calculator", 108, ⟨"FatPointers", "isStep", "(I)Z"⟩, "FatPointers")]
def nestW (q : String × Nat × MethodName × String) : Cond := .methodLinkNest q.1 q.2.1 q.2.2.1 q.2.2.2
def KX (Γ : gS) (U : State) : Prop := va_K (gD Γ) vwCl (tysX Γ) U ∧ (∀ q ∈ nestL, va_Nw (nestW q) U) ∧ va_AO "FatPointers$Pointer" U ∧ va_AO "FatPointers$State" U ∧ KS Γ U
theorem KX.warm {Γ : gS} {s U : State} (hW : s.WarmedH U.vm) (h : KX Γ s) : KX Γ U := ⟨h.1.moved hW.alike, fun q hq => va_Nw.warmM hW (h.2.1 q hq), h.2.2.1.moved hW.alike, h.2.2.2.1.moved hW.alike, h.2.2.2.2.warm hW⟩
theorem KX.same {Γ : gS} {s U : State} (e : s.vm = U.vm) (h : KX Γ s) : KX Γ U := ⟨h.1.moved (by rw [e]; exact Vm.Alike.refl _), fun q hq => va_Nw.same rfl e (h.2.1 q hq), h.2.2.1.moved (by rw [e]; exact Vm.Alike.refl _), h.2.2.2.1.moved (by rw [e]; exact Vm.Alike.refl _), h.2.2.2.2.same e⟩
theorem KX.arr {Γ : gS} {s : State} (h : KX Γ s) {t : FieldType} (ht : t ∈ tysL) : ArrOfT s (gA Γ t) t ∧ va_RA s (gA Γ t) t := by
  have h1 : (gA Γ t, t) ∈ tysX Γ := List.mem_map.mpr ⟨t, ht, rfl⟩
  obtain ⟨k, hk⟩ := List.getElem?_of_mem h1
  exact h.1.2 k _ hk
/-- one cell as the abstract heap tells it -/
def aC (Γ : gS) (h : aH) (a : Nat) (κ : aK) (H : Heap) : Prop := match κ with
  | .inl ci => ∃ r : vw_C, vwCl[ci]? = some r ∧ t_OB a ((gD Γ).1 ci) r.2.2 ((gD Γ).2 ci) H (fun k => fv h a k (TY ci k))
  | .inr q => H[a]? = some (arrV (gA Γ q.1) q.2 (fun j => fv h a j q.1))
def HI (Γ : gS) (h : aH) (H : Heap) : Prop := H.size = hN h ∧ gz Γ ≤ hN h ∧ (∀ q, q < gz Γ → H[q]? = (gO Γ)[q]?) ∧ ∀ a κ, hK h a = some κ → (gz Γ ≤ a ∧ a < hN h) ∧ aC Γ h a κ H
/-- a method: its name, code, how many locals, what it answers -/
abbrev mI : Type := MethodName × ByteArray × Nat × Option FieldType
def isLaw (γ : mI) : Bool := γ.1.name == "law"
def Cx (Γ : gS) (γ : mI) (d : Nat) (p : Program) (R : Room) (s : State) (m : MethodId) (args : Array Value) (meth : Method) (c : Code) : Prop :=
  p.tables.exec = Jvm.exec ∧ c.code = γ.2.1 ∧ c.maxLocals = γ.2.2.1 ∧ s.vm.findClass γ.1.cls = some m.cls ∧ (∀ w ∈ GW, w.before args s = true) ∧ KX Γ s ∧ meth.sig.returnType = γ.2.2.2 ∧ meth.locks = false ∧ (isLaw γ = false → meth.name = γ.1.name) ∧ d ≤ R.frames ∧ 41 * d ≤ R.locals ∧ (isLaw γ = true → args = #[.ref (gb Γ)] ∧ R = room_1 ∧ s.heap.size = gz Γ ∧ va_X (gb Γ) (gn Γ) (gx Γ) s (gO Γ) ∧ gb Γ < gz Γ)
def Qx (Γ : gS) (r : Option Value) (h' : aH) : Array Value → State → Outcome → State → Prop := fun _ _ o t => o = .returned r ∧ HI Γ h' t.heap
def Px (Γ : gS) (as : List Value) (h : aH) : Array Value → State → Prop := fun v U => v = as.toArray ∧ HI Γ h U.heap ∧ KX Γ U
def fr (Γ : gS) : Addr → Prop := fun a => gz Γ ≤ a
/-- where a method is to come: the law to its answer true, any other to its contract's end -/
def fnl (Γ : gS) (γ : mI) (r : Option Value) (h' : aH) (R : Room) (s : State) (args : Array Value) (below : List Frame) : State → Prop := match isLaw γ with
  | true => lw_Z below args s
  | false => MQ below (Qx Γ r h') args s R.cells R.slots (fr Γ)
def Wx (Γ : gS) (γ : mI) (d pc : Nat) (lv : List (Nat × Value)) (st : List Value) (h : aH) (r : Option Value) (h' : aH) : Prop :=
  ∀ (p : Program) (e : Env) (R : Room) (s : State) (m : MethodId) (args : Array Value) (below : List Frame) (meth : Method) (c : Code) (H : Heap) (locs : List Loc) (cells slots : Nat) (ls : Array Slot),
    Cx Γ γ d p R s m args meth c → HI Γ h H → (∀ q ∈ locs, gz Γ ≤ q.base) → lv_has ls γ.2.2.1 lv → cells + (hN h' - hN h) ≤ R.cells → slots + (hS h' - hS h) ≤ R.slots →
    W p (gl Γ) e R s m args below meth c H locs cells slots (fnl Γ γ r h' R s args below) (F0 m pc ls st)
/-- from this place on the method returns r, with the heap h' -/
def Ex (Γ : gS) (γ : mI) (d pc : Nat) (lv : List (Nat × Value)) (st : List Value) (h : aH) (r : Option Value) (h' : aH) : Prop :=
  (hN h ≤ hN h' ∧ hS h ≤ hS h') ∧ Wx Γ γ d pc lv st h r h'
def rmX (d : Nat) (h h' : aH) : Room := { frames := d, cells := hN h' - hN h, slots := hS h' - hS h, locals := 41 * d }
/-- the method, begun with these arguments and this heap, returns r with the heap h' -/
def Mx (Γ : gS) (γ : mI) (d : Nat) (as : List Value) (h : aH) (r : Option Value) (h' : aH) : Prop :=
  (hN h ≤ hN h' ∧ hS h ≤ hS h') ∧ Met (gl Γ) γ.1 (.code γ.1 γ.2.1 γ.2.2.1 γ.2.2.2 :: GW) (rmX d h h') (Px Γ as h) (Qx Γ r h') (hN h' - hN h) (hS h' - hS h) (fr Γ)
theorem Px.blind {Γ : gS} {as : List Value} {h : aH} : FrameBlind (Px Γ as h) := fun a U g mk q => ⟨q.1, q.2.1, q.2.2.same rfl⟩
theorem Mx.of {Γ : gS} {γ : mI} {d : Nat} {as : List Value} {h : aH} {r : Option Value} {h' : aH} (hy : plainFor γ.1 = true) (hl : (lg_sl as).length ≤ γ.2.2.1) (k : Ex Γ γ d 0 (lv_args 0 as) [] h r h') (hlaw : isLaw γ = false := by rfl) : Mx Γ γ d as h r h' := by
  refine ⟨k.1, va_MetF (cc := γ.2.1) (maxL := γ.2.2.1) (ret := γ.2.2.2) hy rfl ?_⟩
  intro p e s m args below meth c s₁ B hml hv
  obtain ⟨rfl, hH, hKX⟩ := hv
  have hts := atoms_spec (ws := .code γ.1 γ.2.1 γ.2.2.1 γ.2.2.2 :: GW) B.pre
  have hown : s.vm.findClass γ.1.cls = some m.cls := findClass_of_methodNamed B.named
  have hnm := (name_of_methodNamed B.named B.method).1
  have hl0 := lv_entry as hl
  rw [lg_entry_eq]
  have kw := k.2 p e (rmX d h h') s m _ below meth c s.heap [] 0 0 _ ⟨B.exec, B.bytes, hml, hown, fun w hw => hts w (List.mem_cons_of_mem _ hw), hKX, B.returns, B.notSynchronized, fun _ => hnm, Nat.le_refl d, Nat.le_refl (41 * d), fun q => by rw [hlaw] at q; cases q⟩ hH (fun q hq => by cases hq) hl0 (Nat.le_of_eq (Nat.zero_add _)) (Nat.le_of_eq (Nat.zero_add _))
  unfold fnl at kw
  rw [hlaw] at kw
  exact kw
section Rows
variable {Γ : gS} {γ : mI} {d pc : Nat} {lv : List (Nat × Value)} {st : List Value} {h : aH} {r : Option Value} {h' : aH}
/-- the machine goes on, neither heap nor locals change -/
theorem Ex.go {pc' : Nat} {st' : List Value} (k : Ex Γ γ d pc' lv st' h r h') (f : ∀ {p : Program} {l : Launch} {e : Env} {R : Room} {s : State} {m : MethodId} {args : Array Value} {below : List Frame} {meth : Method} {c : Code} {H : Heap} {locs : List Loc} {cells slots : Nat} {Q : State → Prop} {ls : Array Slot}, p.tables.exec = Jvm.exec → c.code = γ.2.1 → lv_has ls γ.2.2.1 lv → W p l e R s m args below meth c H locs cells slots Q (F0 m pc' ls st') → W p l e R s m args below meth c H locs cells slots Q (F0 m pc ls st)) : Ex Γ γ d pc lv st h r h' :=
  ⟨k.1, fun p e R s m args below meth c H locs cells slots ls C hH hL hl e1 e2 => f C.1 C.2.1 hl (k.2 p e R s m args below meth c H locs cells slots ls C hH hL hl e1 e2)⟩
/-- locals change -/
theorem Ex.goL {pc' : Nat} {st' : List Value} {lv' : List (Nat × Value)} (k : Ex Γ γ d pc' lv' st' h r h') (f : ∀ {p : Program} {l : Launch} {e : Env} {R : Room} {s : State} {m : MethodId} {args : Array Value} {below : List Frame} {meth : Method} {c : Code} {H : Heap} {locs : List Loc} {cells slots : Nat} {Q : State → Prop} {ls : Array Slot}, p.tables.exec = Jvm.exec → c.code = γ.2.1 → lv_has ls γ.2.2.1 lv → (∀ ls', lv_has ls' γ.2.2.1 lv' → W p l e R s m args below meth c H locs cells slots Q (F0 m pc' ls' st')) → W p l e R s m args below meth c H locs cells slots Q (F0 m pc ls st)) : Ex Γ γ d pc lv st h r h' :=
  ⟨k.1, fun p e R s m args below meth c H locs cells slots ls C hH hL hl e1 e2 => f C.1 C.2.1 hl (fun ls' hl' => k.2 p e R s m args below meth c H locs cells slots ls' C hH hL hl' e1 e2)⟩
theorem Ex.sub {lv' : List (Nat × Value)} (ks : List Nat) (hs : lv_pick lv ks = lv') (k : Ex Γ γ d pc lv' st h r h') : Ex Γ γ d pc lv st h r h' :=
  ⟨k.1, fun p e R s m args below meth c H locs cells slots ls C hH hL hl e1 e2 => k.2 p e R s m args below meth c H locs cells slots ls C hH hL (lv_sub hl ks hs) e1 e2⟩
end Rows
