/-! THE START: a heap that is moved -/
def mvH (z : Nat) (g : aH) : aH := (fun b => if z ≤ b then hK g (b - z) else none, fun b j => if z ≤ b then hI g (b - z) j else 0, fun b j => if z ≤ b then hL g (b - z) j else 0, fun b j => if z ≤ b then (hR g (b - z) j).map (fun q => z + q) else none, z + hN g, hS g)
section Sh
variable {z : Nat} {g : aH}
theorem hK_sh (a : Nat) : hK (mvH z g) (z + a) = hK g a := by
  show (if z ≤ z + a then hK g (z + a - z) else none) = _
  rw [if_pos (Nat.le_add_right z a), Nat.add_sub_cancel_left]
theorem hI_sh (a j : Nat) : hI (mvH z g) (z + a) j = hI g a j := by
  show (if z ≤ z + a then hI g (z + a - z) j else 0) = _
  rw [if_pos (Nat.le_add_right z a), Nat.add_sub_cancel_left]
theorem hL_sh (a j : Nat) : hL (mvH z g) (z + a) j = hL g a j := by
  show (if z ≤ z + a then hL g (z + a - z) j else 0) = _
  rw [if_pos (Nat.le_add_right z a), Nat.add_sub_cancel_left]
theorem hR_sh (a j : Nat) : hR (mvH z g) (z + a) j = (hR g a j).map (fun q => z + q) := by
  show (if z ≤ z + a then (hR g (z + a - z) j).map (fun q => z + q) else none) = _
  rw [if_pos (Nat.le_add_right z a), Nat.add_sub_cancel_left]
theorem hN_sh : hN (mvH z g) = z + hN g := rfl
theorem hS_sh : hS (mvH z g) = hS g := rfl
theorem shK (b : Nat) : hK (mvH z g) b = if z ≤ b then hK g (b - z) else none := rfl
theorem shI (b j : Nat) : hI (mvH z g) b j = if z ≤ b then hI g (b - z) j else 0 := rfl
theorem shL (b j : Nat) : hL (mvH z g) b j = if z ≤ b then hL g (b - z) j else 0 := rfl
theorem shR (b j : Nat) : hR (mvH z g) b j = if z ≤ b then (hR g (b - z) j).map (fun q => z + q) else none := rfl
theorem nw_sh (κ : aK) (n : Nat) : nw (mvH z g) κ n = mvH z (nw g κ n) := by
  refine aH_ext (fun b => ?_) (fun b j => ?_) (fun b j => ?_) (fun b j => ?_) rfl rfl
  · rw [hK_nw, shK, shK, hK_nw, hN_sh]
    by_cases c : z ≤ b
    · rw [if_pos c, if_pos c]
      by_cases d : b = z + hN g
      · rw [if_pos d, if_pos (by omega)]
      · rw [if_neg d, if_neg (by omega)]
    · rw [if_neg c, if_neg c, if_neg (by omega)]
  · rw [hI_nw, shI, shI, hI_nw, hN_sh]
    by_cases c : z ≤ b
    · rw [if_pos c, if_pos c]
      by_cases d : b = z + hN g
      · rw [if_pos d, if_pos (by omega)]
      · rw [if_neg d, if_neg (by omega)]
    · rw [if_neg c, if_neg c, if_neg (by omega)]
  · rw [hL_nw, shL, shL, hL_nw, hN_sh]
    by_cases c : z ≤ b
    · rw [if_pos c, if_pos c]
      by_cases d : b = z + hN g
      · rw [if_pos d, if_pos (by omega)]
      · rw [if_neg d, if_neg (by omega)]
    · rw [if_neg c, if_neg c, if_neg (by omega)]
  · rw [hR_nw, shR, shR, hR_nw, hN_sh]
    by_cases c : z ≤ b
    · rw [if_pos c, if_pos c]
      by_cases d : b = z + hN g
      · rw [if_pos d, if_pos (by omega)]; rfl
      · rw [if_neg d, if_neg (by omega)]
    · rw [if_neg c, if_neg c, if_neg (by omega)]
theorem sI_sh (a i : Nat) (v : Int32) : sI (mvH z g) (z + a) i v = mvH z (sI g a i v) := by
  refine aH_ext (fun b => rfl) (fun b j => ?_) (fun b j => rfl) (fun b j => rfl) rfl rfl
  rw [hI_sI, shI, shI, hI_sI]
  by_cases c : z ≤ b
  · rw [if_pos c, if_pos c]
    by_cases d : b = z + a ∧ j = i
    · rw [if_pos d, if_pos (by omega)]
    · rw [if_neg d, if_neg (by omega)]
  · rw [if_neg c, if_neg c, if_neg (by omega)]
theorem sL_sh (a i : Nat) (v : Int64) : sL (mvH z g) (z + a) i v = mvH z (sL g a i v) := by
  refine aH_ext (fun b => rfl) (fun b j => rfl) (fun b j => ?_) (fun b j => rfl) rfl rfl
  rw [hL_sL, shL, shL, hL_sL]
  by_cases c : z ≤ b
  · rw [if_pos c, if_pos c]
    by_cases d : b = z + a ∧ j = i
    · rw [if_pos d, if_pos (by omega)]
    · rw [if_neg d, if_neg (by omega)]
  · rw [if_neg c, if_neg c, if_neg (by omega)]
theorem sR_sh (a i q : Nat) : sR (mvH z g) (z + a) i (some (z + q)) = mvH z (sR g a i (some q)) := by
  refine aH_ext (fun b => rfl) (fun b j => rfl) (fun b j => rfl) (fun b j => ?_) rfl rfl
  rw [hR_sR, shR, shR, hR_sR]
  by_cases c : z ≤ b
  · rw [if_pos c, if_pos c]
    by_cases d : b = z + a ∧ j = i
    · rw [if_pos d, if_pos (by omega)]; rfl
    · rw [if_neg d, if_neg (by omega)]
  · rw [if_neg c, if_neg c, if_neg (by omega)]
theorem sRn_sh (a i : Nat) : sR (mvH z g) (z + a) i none = mvH z (sR g a i none) := by
  refine aH_ext (fun b => rfl) (fun b j => rfl) (fun b j => rfl) (fun b j => ?_) rfl rfl
  rw [hR_sR, shR, shR, hR_sR]
  by_cases c : z ≤ b
  · rw [if_pos c, if_pos c]
    by_cases d : b = z + a ∧ j = i
    · rw [if_pos d, if_pos (by omega)]; rfl
    · rw [if_neg d, if_neg (by omega)]
  · rw [if_neg c, if_neg c, if_neg (by omega)]
theorem ko_sh {β : Type} (a c : Nat) (x : Option β) : ko (mvH z g) (z + a) c x = ko g a c x := by unfold ko; rw [hK_sh]
theorem ka_sh {β : Type} (a : Nat) (t : FieldType) (f : Nat → Option β) : ka (mvH z g) (z + a) t f = ka g a t f := by unfold ka; rw [hK_sh]
theorem kr_sh {β : Type} (a j : Nat) (f : Nat → Option β) : kr (hR (mvH z g) (z + a) j) f = kr (hR g a j) (fun q => f (z + q)) := by
  rw [hR_sh]
  cases hR g a j with
  | none => rfl
  | some q => rfl
end Sh
/-- a result that is moved -/
def mp (z : Nat) (o : Option (Unit × aH)) : Option (Unit × aH) := o.map (fun q => (q.1, mvH z q.2))
section Mp
variable {z : Nat} {g : aH}
theorem mp_some (u : Unit) : mp z (some (u, g)) = some (u, mvH z g) := rfl
theorem mp_ko (a c : Nat) (x : Option (Unit × aH)) : mp z (ko g a c x) = ko g a c (mp z x) := by
  unfold ko
  split
  · split <;> rfl
  · rfl
theorem mp_ka (a : Nat) (t : FieldType) (f : Nat → Option (Unit × aH)) : mp z (ka g a t f) = ka g a t (fun n => mp z (f n)) := by
  unfold ka
  split
  · split <;> rfl
  · rfl
theorem mp_kr {α : Type} (o : Option α) (f : α → Option (Unit × aH)) : mp z (kr o f) = kr o (fun n => mp z (f n)) := by cases o <;> rfl
theorem mp_chk (c : Prop) [Decidable c] (x : Option (Unit × aH)) : mp z (chk c x) = chk c (mp z x) := by
  unfold chk
  split <;> rfl
theorem mp_bd {ρ : Type} (o : Option (ρ × aH)) (f : ρ → aH → Option (Unit × aH)) : mp z (bd o f) = bd o (fun v h => mp z (f v h)) := by cases o <;> rfl
theorem bd_mp {β : Type} (o : Option (Unit × aH)) (f : Unit → aH → Option β) : bd (mp z o) f = bd o (fun v h => f v (mvH z h)) := by cases o <;> rfl
theorem mp_ite (c : Prop) [Decidable c] (x y : Option (Unit × aH)) : mp z (if c then x else y) = if c then mp z x else mp z y := by split <;> rfl
end Mp
section Ms
variable {z : Nat} {g : aH}
theorem ko_c {x y : Option (Unit × aH)} {a c : Nat} (e : x = mp z y) : ko (mvH z g) (z + a) c x = mp z (ko g a c y) := by rw [ko_sh, mp_ko, e]
theorem bd_c {o o1 : Option (Unit × aH)} {F G : Unit → aH → Option (Unit × aH)} (e : o1 = mp z o) (k : ∀ v h, F v (mvH z h) = mp z (G v h)) : bd o1 F = mp z (bd o G) := by
  rw [e]
  cases o with
  | none => rfl
  | some q => exact k q.1 q.2
theorem kr_c {a j : Nat} {F G : Nat → Option (Unit × aH)} (k : ∀ q, F (z + q) = mp z (G q)) : kr (hR (mvH z g) (z + a) j) F = mp z (kr (hR g a j) G) := by
  rw [hR_sh]
  cases hR g a j with
  | none => rfl
  | some q => exact k q
theorem ka_c {a : Nat} {t : FieldType} {F G : Nat → Option (Unit × aH)} (k : ∀ q, F q = mp z (G q)) : ka (mvH z g) (z + a) t F = mp z (ka g a t G) := by
  rw [ka_sh, mp_ka, show F = fun q => mp z (G q) from funext k]
theorem chk_c {x y : Option (Unit × aH)} {c : Prop} [Decidable c] (e : x = mp z y) : chk c x = mp z (chk c y) := by rw [mp_chk, e]
theorem so_c {u : Unit} : some (u, mvH z g) = mp z (some (u, g)) := rfl
theorem nm_cN {F G : Nat → Option (Unit × aH)} (k : F (z + hN g) = mp z (G (hN g))) : nm (hN (mvH z g)) F = mp z (nm (hN g) G) := k
theorem nm_cH {κ : aK} {n : Nat} {F G : aH → Option (Unit × aH)} (k : F (mvH z (nw g κ n)) = mp z (G (nw g κ n))) : nm (nw (mvH z g) κ n) F = mp z (nm (nw g κ n) G) := by
  show F (nw (mvH z g) κ n) = _
  rw [nw_sh]
  exact k
theorem nm_cI {v : Int32} {F G : Int32 → Option (Unit × aH)} (k : F v = mp z (G v)) : nm v F = mp z (nm v G) := k
end Ms
