/-! THE PURE PART: rows by which programs are worked out -/
theorem ko_t {β : Type} {h : aH} {a ci : Nat} {x : Option β} (e : hK h a = some (.inl ci)) : ko h a ci x = x := by simp [ko, e]
theorem ka_t {β : Type} {h : aH} {a n : Nat} {t : FieldType} {f : Nat → Option β} (e : hK h a = some (.inr (t, n))) : ka h a t f = f n := by simp [ka, e]
theorem kr_t {α β : Type} {o : Option α} {x : α} {f : α → Option β} (e : o = some x) : kr o f = f x := by simp [kr, e]
theorem chk_t {β : Type} {c : Prop} [Decidable c] {x : Option β} (e : c) : chk c x = x := by simp [chk, e]
theorem bd_s {ρ β : Type} (v : ρ) (h : aH) (f : ρ → aH → Option β) : bd (some (v, h)) f = f v h := rfl
theorem hK_sI (h : aH) (a i : Nat) (v : Int32) : hK (sI h a i v) = hK h := rfl
theorem hK_sL (h : aH) (a i : Nat) (v : Int64) : hK (sL h a i v) = hK h := rfl
theorem hK_sR (h : aH) (a i : Nat) (v : Option Nat) : hK (sR h a i v) = hK h := rfl
theorem hK_acp (h : aH) (a b c d n : Nat) : hK (acp h a b c d n) = hK h := rfl
theorem hR_sI (h : aH) (a i : Nat) (v : Int32) : hR (sI h a i v) = hR h := rfl
theorem hR_sL (h : aH) (a i : Nat) (v : Int64) : hR (sL h a i v) = hR h := rfl
theorem hR_acp (h : aH) (a b c d n : Nat) : hR (acp h a b c d n) = hR h := rfl
theorem hR_sR (h : aH) (a i : Nat) (v : Option Nat) (b j : Nat) : hR (sR h a i v) b j = if b = a ∧ j = i then v else hR h b j := rfl
theorem hL_sI (h : aH) (a i : Nat) (v : Int32) : hL (sI h a i v) = hL h := rfl
theorem hL_sR (h : aH) (a i : Nat) (v : Option Nat) : hL (sR h a i v) = hL h := rfl
theorem hL_acp (h : aH) (a b c d n : Nat) : hL (acp h a b c d n) = hL h := rfl
theorem hL_sL (h : aH) (a i : Nat) (v : Int64) (b j : Nat) : hL (sL h a i v) b j = if b = a ∧ j = i then v else hL h b j := rfl
theorem hI_sL (h : aH) (a i : Nat) (v : Int64) : hI (sL h a i v) = hI h := rfl
theorem hI_sR (h : aH) (a i : Nat) (v : Option Nat) : hI (sR h a i v) = hI h := rfl
theorem hI_sI (h : aH) (a i : Nat) (v : Int32) (b j : Nat) : hI (sI h a i v) b j = if b = a ∧ j = i then v else hI h b j := rfl
theorem hN_sI (h : aH) (a i : Nat) (v : Int32) : hN (sI h a i v) = hN h := rfl
theorem hN_sL (h : aH) (a i : Nat) (v : Int64) : hN (sL h a i v) = hN h := rfl
theorem hN_sR (h : aH) (a i : Nat) (v : Option Nat) : hN (sR h a i v) = hN h := rfl
theorem hS_sI (h : aH) (a i : Nat) (v : Int32) : hS (sI h a i v) = hS h := rfl
theorem hS_sL (h : aH) (a i : Nat) (v : Int64) : hS (sL h a i v) = hS h := rfl
theorem hS_sR (h : aH) (a i : Nat) (v : Option Nat) : hS (sR h a i v) = hS h := rfl
theorem inb_nI {k n : Nat} (hk : k < n) (hn : n < 2 ^ 31) : inb (nI k) n = true := inb_in.mpr (vp_in_nI hk hn)
theorem nI_k (a n : Nat) : nI a + (OfNat.ofNat n : Int32) = nI (a + n) := by rw [fa_lit, nI_add]
theorem tn_nI {k : Nat} (h : k < 2 ^ 31) : (nI k).toNatClampNeg = k := nI_clamp h
/-! the class's Pointer -/
def dnI (a e : Int32) : Int32 := (a >>> (e &&& 31)) <<< (e &&& 31)
def upI (a e : Int32) : Int32 := dnI (a + (1 <<< (e &&& 31)) - 1) e
def mskI (m : Int32) : Int32 := (1 <<< (m &&& 31)) - 1
def edgI (m b : Int32) : Int32 := (b - (1 <<< ((m - 2) &&& 31))) &&& mskI m
def corI (m e b a : Int32) : Int32 := (if edgI m b ≤ b then 0 else 1) - (if edgI m b ≤ ((a >>> (e &&& 31)) &&& mskI m) then 0 else 1)
/-- the base that is decoded from an address -/
def basI (m e b a : Int32) : Int32 := ((((a >>> ((e + m) &&& 31)) + corI m e b a) <<< ((e + m) &&& 31)) + (b <<< (e &&& 31))) &&& 4095
def lenI (m e b t : Int32) : Int32 := ((t - b) &&& mskI m) <<< (e &&& 31)
theorem p_down (a e : Int32) (h : aH) : f_X6_down a e h = some (dnI a e, h) := rfl
theorem p_up (a e : Int32) (h : aH) : f_X6_up a e h = some (upI a e, h) := rfl
theorem p_baseFrom {h : aH} {p : Nat} (hp : hK h p = some (.inl 6)) (a m : Int32) : f_X6_baseFrom p a m h = some (basI m (hI h p 3) (hI h p 4) a, h) := by
  simp only [f_X6_baseFrom, f_X6_baseFrom_44, f_X6_baseFrom_56, nm, ko_t hp, basI, corI, edgI, mskI]
  split <;> split <;> simp [*]
theorem p_base {h : aH} {p : Nat} (hp : hK h p = some (.inl 6)) (m : Int32) : f_X6_base p m h = some (basI m (hI h p 3) (hI h p 4) (hI h p 2), h) := by
  simp only [f_X6_base, ko_t hp, p_baseFrom hp, bd_s]
theorem p_extent {h : aH} {p : Nat} (hp : hK h p = some (.inl 6)) (m : Int32) : f_X6_extent p m h = some (lenI m (hI h p 3) (hI h p 4) (hI h p 5), h) := by
  simp only [f_X6_extent, ko_t hp, lenI, mskI]
theorem z0_ok {β : Type} {x : Option β} : chk (narrow .boolean (.int 0) = .int 0) x = x := rfl
theorem z1_ok {β : Type} {x : Option β} : chk (narrow .boolean (.int 1) = .int 1) x = x := rfl
def usI (h : aH) (p : Nat) : Bool := decide (¬ hI h p 1 = 0) && decide (hI h p 7 = 0)
def b2i (b : Bool) : Int32 := if b then 1 else 0
theorem b2i_0 (b : Bool) : b2i b = 0 ↔ b = false := by cases b <;> decide
theorem p_isUsable {h : aH} {p : Nat} (hp : hK h p = some (.inl 6)) : f_X6_isUsable p h = some (b2i (usI h p), h) := by
  simp only [f_X6_isUsable, f_X6_isUsable_18, f_X6_isUsable_19, ko_t hp, usI, b2i, z0_ok, z1_ok]
  by_cases h1 : hI h p 1 = 0 <;> by_cases h2 : hI h p 7 = 0 <;> simp [h1, h2]
def covI (m e b t a x : Int32) : Bool := decide (basI m e b a ≤ x) && decide (x < basI m e b a + lenI m e b t)
theorem p_covers {h : aH} {p : Nat} (hp : hK h p = some (.inl 6)) (x m : Int32) : f_X6_covers p x m h = some (b2i (covI m (hI h p 3) (hI h p 4) (hI h p 5) (hI h p 2) x), h) := by
  simp only [f_X6_covers, f_X6_covers_26, f_X6_covers_27, ko_t hp, p_base hp, p_extent hp, bd_s, covI, b2i, nm, z0_ok, z1_ok]
  by_cases h1 : x < basI m (hI h p 3) (hI h p 4) (hI h p 2)
  · simp [h1, Int32.not_le.mpr h1]
  · by_cases h2 : basI m (hI h p 3) (hI h p 4) (hI h p 2) + lenI m (hI h p 3) (hI h p 4) (hI h p 5) ≤ x
    · simp [h1, h2, Int32.not_lt.mpr h2]
    · simp [h1, h2, Int32.not_lt.mp h1, Int32.not_le.mp h2]
theorem p_keeps {h : aH} {p : Nat} (hp : hK h p = some (.inl 6)) (s m : Int32) : f_X6_keepsBounds p s m h = some (b2i (decide (basI m (hI h p 3) (hI h p 4) ((hI h p 2 + s) &&& 4095) = basI m (hI h p 3) (hI h p 4) (hI h p 2))), h) := by
  simp only [f_X6_keepsBounds, f_X6_keepsBounds_34, ko_t hp, p_baseFrom hp, bd_s, b2i, nm, z0_ok, z1_ok]
  split <;> simp [*]
