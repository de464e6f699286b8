/-! WHAT BOTH SIDES HOLD: numbers alone. A: told or not, the tape, refusals, the fault, the seed. B: the machine. N: what acts change, in the reference's order (a flag 2: nothing there). D: the history. E: what is seen. F: the image. -/
abbrev tyA : Type := Nat × Nat × (Nat → Nat) × (Nat → Int32) × Int32 × Int32 × Nat
abbrev tyB : Type := Nat × Nat × Nat × (Nat → List Nat) × (Nat → Nat) × (Nat → List Nat)
abbrev tyN : Type := Nat → Nat
abbrev tyD : Type := (Nat → tyN) × Nat × Nat × Nat
abbrev tyE : Type := Nat × (Nat → Nat)
def mN (N : tyN) (j : Nat) : Int32 := if j < 256 ∧ j % 8 = 0 ∧ N j = 2 then -nI 1 else nI (N j)
theorem mN_n {N : tyN} {j : Nat} (h : 256 ≤ j ∨ ¬ j % 8 = 0) : mN N j = nI (N j) := if_neg (by omega)
theorem mN_f {N : tyN} {j : Nat} (h : N j ≤ 1) : mN N j = nI (N j) := if_neg (by omega)
theorem mN_2 {N : tyN} {j : Nat} (h : N j = 2) (h1 : j < 256) (h2 : j % 8 = 0) : mN N j = -nI 1 := if_pos ⟨h1, h2, h⟩
/-- a Pointer against eight numbers from a on -/
def PS (h : aH) (p : Nat) (N : tyN) (a : Nat) : Prop := (N a = 2 ∧ hI h p 0 = nI 0 ∧ (hI h p 1 = nI 0 ∨ hI h p 1 = nI 1)) ∨ (N a ≤ 1 ∧ hI h p 0 = nI 1 ∧ hI h p 1 = nI (N a) ∧ hI h p 2 = nI (N (a + 1)) ∧ hI h p 3 = nI (N (a + 2)) ∧ hI h p 4 = nI (N (a + 3)) ∧ hI h p 5 = nI (N (a + 4)) ∧ hI h p 6 = nI (N (a + 5)) ∧ hI h p 7 = nI (N (a + 6)))
/-- byte a of a row of packed bytes -/
def byP (h : aH) (r a : Nat) : Int32 := (hI h r (a / 4) >>> (nI (8 * (a % 4)) &&& 31)) &&& 255
/-- a State against the numbers -/
def RS (h : aH) (s : Nat) (N : tyN) : Prop := (∀ k, k < 32 → PS h (s + 7 + k) N (8 * k)) ∧ hI h s 6 = nI (N 256) ∧ (∀ i, i < N 256 → i < 32 → hI h (s + 2) i = nI (N (257 + 3 * i)) ∧ hI h (s + 3) i = nI (N (258 + 3 * i)) ∧ hI h (s + 4) i = nI (N (259 + 3 * i))) ∧ hI h s 7 = nI (N 1377) ∧ (∀ i, i < 3 * N 1377 → i < 120 → hI h (s + 5) i = nI (N (1378 + i))) ∧ (∀ a, a < 1024 → byP h (s + 6) a = nI (N (353 + a)))
/-- codes of the class out of those of the reference -/
def opN (c : Nat) : Nat := if c = 1 then 43 else if c = 2 then 45 else if c = 3 then 42 else if c = 4 then 47 else if c = 5 then 23 else if c = 6 then 24 else if c = 7 then 60 else if c = 8 then 62 else if c = 9 then 61 else if c = 10 then 20 else if c = 11 then 19 else if c = 12 then 21 else if c = 13 then 22 else if c = 49 then 3 else if c = 50 then 16 else if 60 ≤ c then c - 43 else c - 33
def ccI (c : Nat) : Int32 := if 1000 ≤ c then nI (c - 1000) else -1 - nI (opN c)
def nmL (l : List Nat) : Nat := l.foldl (fun v c => 27 * v + c) 0
def cA (h : aH) (x r tl : Nat) (tp : Nat → Nat) (rf : Nat → Int32) (ft fp : Int32) (sd : Nat) : Prop := hI h x 12 = nI r ∧ hI h x 13 = nI tl ∧ (∀ j, j < 1600 → hI h (x + 1) j = (nI (tp j)).toInt8.toInt32) ∧ (∀ k, k < 8 → hI h (x + 2) k = rf k) ∧ hI h x 14 = ft ∧ hI h x 15 = fp ∧ hL h x 16 = lN sd
/-- a Machine at a -/
def mB (h : aH) (a M mem sh : Nat) (ns : Nat → List Nat) (kd : Nat → Nat) (cd : Nat → List Nat) : Prop := hI h a 1 = nI mem ∧ hI h a 2 = nI M ∧ hI h a 3 = nI sh ∧ (∀ s k, s < sh → s < 4 → k < 6 → hI h (a + 1) (6 * s + k) = nI ((ns s).getD k 0)) ∧ (∀ s, s < sh → s < 4 → hI h (a + 2) s = nI (kd s)) ∧ (∀ w, w < 3 → ∃ f, f + (cd w).length ≤ 1600 ∧ hI h (a + 4) w = nI f ∧ hI h (a + 5) w = nI (f + (cd w).length) ∧ ∀ i, i < (cd w).length → hI h (a + 3) (f + i) = ccI ((cd w).getD i 0))
/-- which of the two machines stands -/
def wB (h : aH) (x a a' : Nat) : Prop := (a = x + 92 ∧ a' = x + 98 ∨ a = x + 98 ∧ a' = x + 92) ∧ hR h x 9 = some a ∧ hR h x 10 = some a'
def cB (h : aH) (x r : Nat) (B : tyB) : Prop := ∃ a a', wB h x a a' ∧ (r = 1 → mB h a B.1 B.2.1 B.2.2.1 B.2.2.2.1 B.2.2.2.2.1 B.2.2.2.2.2)
def cD (h : aH) (x : Nat) (sl : Nat → tyN) (nx c cr : Nat) : Prop := hI h (x + 81) 1 = nI nx ∧ hI h (x + 81) 0 = nI c ∧ (∀ k, k < 20 → hR h (x + 82) k = if k < cr then some (x + 175 + 39 * k) else none) ∧ (∀ k, k < cr → SS h (x + 175 + 39 * k)) ∧ (∀ k, k < cr → RS h (x + 175 + 39 * k) (sl k)) ∧ nx < 20 ∧ nx ≤ cr ∧ cr ≤ 20 ∧ (c ≤ nx ∨ cr = 20) ∧ c ≤ 20
def cE (h : aH) (x rn : Nat) (rw_ : Nat → Nat) : Prop := hI h (x + 87) 0 = nI rn ∧ rn ≤ 16 ∧ (∀ i, i < rn → i < 16 → hI h (x + 88) i = nI (rw_ (2 * i)) - nI 64 ∧ hI h (x + 89) i = b2i (decide (rw_ (2 * i + 1) = 1)))
def cF (h : aH) (x on : Nat) (ob : Nat → Nat) : Prop := hI h (x + 90) 1 = nI on ∧ on ≤ 450 ∧ (∀ j, j < on → hI h (x + 91) j = (nI (ob j)).toInt8.toInt32)
/-- all the class holds; how much was made -/
def CX (h : aH) (x : Nat) (A : tyA) (B : tyB) (N : tyN) (D : tyD) (E F : tyE) : Prop := XS h x ∧ cA h x A.1 A.2.1 A.2.2.1 A.2.2.2.1 A.2.2.2.2.1 A.2.2.2.2.2.1 A.2.2.2.2.2.2 ∧ cB h x A.1 B ∧ RS h (x + 3) N ∧ cD h x D.1 D.2.1 D.2.2.1 D.2.2.2 ∧ cE h x E.1 E.2 ∧ cF h x F.1 F.2 ∧ hN h = x + 175 + 39 * D.2.2.2 ∧ hS h ≤ 60000 + 768 * D.2.2.2
/-- all the reference holds -/
def mA (h : aH) (m r tl : Nat) (tp : Nat → Nat) (rf : Nat → Int32) (ft fp : Int32) (sd : Nat) : Prop := hI h m 45 = nI r ∧ hI h m 1 = nI tl ∧ (∀ j, j < 1600 → hI h (m + 1) j = nI (tp j)) ∧ (∀ k, k < 8 → hI h (m + 2) k = rf k) ∧ hI h m 7 = ft ∧ hI h m 8 = fp ∧ hL h m 65 = lN sd
def mM (h : aH) (m M mem sh : Nat) (ns : Nat → List Nat) (kd : Nat → Nat) (cd : Nat → List Nat) : Prop := hI h (m + 28) 3 = nI mem ∧ hI h (m + 28) 4 = nI M ∧ hI h (m + 28) 5 = nI sh ∧ (∀ s, s < sh → s < 4 → hL h (m + 29) (4 + s) = lN (nmL (ns s))) ∧ (∀ s, s < sh → s < 4 → hI h (m + 30) (4 + s) = nI (kd s)) ∧ (∀ w, w < 3 → cd w = [] ∧ hI h (m + 31) (3 + w) = -nI 1 ∨ cd w ≠ [] ∧ ∃ f, f + (cd w).length ≤ 1600 ∧ hI h (m + 31) (3 + w) = nI f ∧ hI h (m + 32) (3 + w) = nI (f + (cd w).length) ∧ ∀ i, i < (cd w).length → hI h (m + 33) (1600 + (f + i)) = nI ((cd w).getD i 0))
def mD (h : aH) (m : Nat) (sl : Nat → tyN) (nx c cr : Nat) : Prop := hI h m 63 = nI c ∧ hI h m 64 = nI nx ∧ (∀ k, k < cr → ∀ j, j < 1498 → hI h (m + 38) (1498 * ((k + 1) % 20) + j) = mN (sl k) j)
def mE (h : aH) (m rn : Nat) (rw_ : Nat → Nat) : Prop := hI h m 58 = nI rn ∧ (∀ j, j < 2 * rn → j < 32 → hI h (m + 36) j = nI (rw_ j))
def mF (h : aH) (m on : Nat) (ob : Nat → Nat) : Prop := hI h m 102 = nI on ∧ (∀ j, j < on → j < 450 → hI h (m + 67) j = nI (ob j))
/-- the words, letter by letter; those of questions by their numbers -/
def WL : List (List Nat) := [[109, 101, 109, 111, 114, 121], [109, 97, 110, 116, 105, 115, 115, 97], [115, 104, 101, 108, 102], [107, 105, 110, 100], [112, 105, 99, 107, 115], [112, 97, 100, 115], [116, 114, 97, 112, 115], [110, 101, 101, 100], [115, 116, 97, 114, 116], [114, 111, 111, 109], [97, 116], [98, 97, 115, 101], [108, 101, 110, 103, 116, 104], [112, 101, 114, 109, 115], [110, 117, 109, 98, 101, 114], [101, 120, 112], [118, 97, 108, 105, 100], [102, 114, 111, 109], [102, 105, 116, 115], [111, 114], [97, 110, 100], [110, 111, 116], [97, 108, 108], [109, 105, 110], [109, 97, 120], [102, 105, 114, 115, 116], [108, 97, 115, 116], [111, 102, 116, 101, 110], [116, 111, 116, 97, 108], [109, 111, 115, 116], [108, 101, 97, 115, 116]]
def WD (i : Nat) : List Nat := WL.getD i []
def AW : List Nat := [25, 26, 27, 28, 29, 30, 21, 20, 19, 22, 23, 24, 7, 8, 9, 10, 11, 12, 13, 14, 15, 3, 16, 17, 18]
def askW (i : Nat) : Nat := AW.getD i 0
def mW (h : aH) (m : Nat) : Prop := ∀ i, i < 25 → (∀ j, j < (WD i).length → hI h (m + 3 + i) j = nI ((WD i).getD j 0)) ∧ (∀ j, j < (WD (askW i)).length → hI h (m + 39 + i) j = nI ((WD (askW i)).getD j 0))
theorem mW.fr {h h1 : aH} {m : Nat} (q : mW h m) (e : ∀ b j, m + 3 ≤ b ∧ b < m + 28 ∨ m + 39 ≤ b ∧ b < m + 64 → hI h1 b j = hI h b j) : mW h1 m := fun i hi => ⟨fun j hj => (e _ j (by omega)).trans ((q i hi).1 j hj), fun j hj => (e _ j (by omega)).trans ((q i hi).2 j hj)⟩
def CM (h : aH) (m : Nat) (A : tyA) (B : tyB) (N : tyN) (D : tyD) (E F : tyE) : Prop := MS h m ∧ mA h m A.1 A.2.1 A.2.2.1 A.2.2.2.1 A.2.2.2.2.1 A.2.2.2.2.2.1 A.2.2.2.2.2.2 ∧ mM h m B.1 B.2.1 B.2.2.1 B.2.2.2.1 B.2.2.2.2.1 B.2.2.2.2.2 ∧ (∀ j, j < 1498 → hI h (m + 34) j = mN N j) ∧ mD h m D.1 D.2.1 D.2.2.1 D.2.2.2 ∧ mE h m E.1 E.2 ∧ mF h m F.1 F.2 ∧ mW h m
/-! what stays -/
/-- the class has run: its own ints at P, its own loose references; nothing was made -/
def FX (x : Nat) (P : Nat → Nat → Prop) (h h1 : aH) : Prop := hK h1 = hK h ∧ (∀ b j, ¬ (b = x ∧ j = 16) → hL h1 b j = hL h b j) ∧ hN h1 = hN h ∧ hS h1 = hS h ∧ (∀ b j, ¬ P b j → hI h1 b j = hI h b j) ∧ (∀ b j, ¬ (b = x + 83 ∧ 3 ≤ j ∨ b = x + 104 ∧ ¬ j = 2 ∨ b = x + 105 ∨ b = x ∧ (j = 9 ∨ j = 10)) → hR h1 b j = hR h b j)
theorem FX.refl (x : Nat) (P : Nat → Nat → Prop) (h : aH) : FX x P h h := ⟨rfl, fun _ _ _ => rfl, rfl, rfl, fun _ _ _ => rfl, fun _ _ _ => rfl⟩
theorem FX.trans {x : Nat} {P : Nat → Nat → Prop} {h h1 h2 : aH} (a : FX x P h h1) (b : FX x P h1 h2) : FX x P h h2 := ⟨b.1.trans a.1, fun p q r => (b.2.1 p q r).trans (a.2.1 p q r), b.2.2.1.trans a.2.2.1, b.2.2.2.1.trans a.2.2.2.1, fun p q r => (b.2.2.2.2.1 p q r).trans (a.2.2.2.2.1 p q r), fun p q r => (b.2.2.2.2.2 p q r).trans (a.2.2.2.2.2 p q r)⟩
theorem FX.mono {x : Nat} {P Q : Nat → Nat → Prop} {h h1 : aH} (a : FX x P h h1) (hp : ∀ b j, P b j → Q b j) : FX x Q h h1 := ⟨a.1, a.2.1, a.2.2.1, a.2.2.2.1, fun b j q => a.2.2.2.2.1 b j (fun z => q (hp b j z)), a.2.2.2.2.2⟩
theorem FX.sI {x : Nat} {P : Nat → Nat → Prop} {h : aH} {a i : Nat} {v : Int32} (hp : P a i) : FX x P h (sI h a i v) := ⟨rfl, fun _ _ _ => rfl, rfl, rfl, fun b j q => by rw [hI_sI, if_neg]; rintro ⟨rfl, rfl⟩; exact q hp, fun _ _ _ => rfl⟩
/-- the reference's cells are as they were -/
def FC (x : Nat) (h h1 : aH) : Prop := ∀ b, x + 107 ≤ b → b < x + 175 → hK h1 b = hK h b ∧ ∀ j, hI h1 b j = hI h b j ∧ hL h1 b j = hL h b j ∧ hR h1 b j = hR h b j
theorem FC.refl (x : Nat) (h : aH) : FC x h h := fun _ _ _ => ⟨rfl, fun _ => ⟨rfl, rfl, rfl⟩⟩
theorem FC.trans {x : Nat} {h h1 h2 : aH} (a : FC x h h1) (b : FC x h1 h2) : FC x h h2 := fun p q r => ⟨(b p q r).1.trans (a p q r).1, fun j => ⟨((b p q r).2 j).1.trans ((a p q r).2 j).1, ((b p q r).2 j).2.1.trans ((a p q r).2 j).2.1, ((b p q r).2 j).2.2.trans ((a p q r).2 j).2.2⟩⟩
theorem FX.fc {x : Nat} {P : Nat → Nat → Prop} {h h1 : aH} (a : FX x P h h1) (hp : ∀ b j, P b j → b < x + 107 ∨ x + 175 ≤ b) : FC x h h1 := fun b b1 b2 => ⟨by rw [a.1], fun j => ⟨a.2.2.2.2.1 b j (fun q => by have := hp b j q; omega), a.2.1 b j (by omega), a.2.2.2.2.2 b j (by omega)⟩⟩
/-- the reference has run: its own numbers alone -/
def FM (x : Nat) (h h1 : aH) : Prop := hK h1 = hK h ∧ hR h1 = hR h ∧ hN h1 = hN h ∧ hS h1 = hS h ∧ ∀ b, b < x + 107 ∨ x + 175 ≤ b → ∀ j, hI h1 b j = hI h b j ∧ hL h1 b j = hL h b j
theorem FM.refl (x : Nat) (h : aH) : FM x h h := ⟨rfl, rfl, rfl, rfl, fun _ _ _ => ⟨rfl, rfl⟩⟩
theorem FM.trans {x : Nat} {h h1 h2 : aH} (a : FM x h h1) (b : FM x h1 h2) : FM x h h2 := ⟨b.1.trans a.1, b.2.1.trans a.2.1, b.2.2.1.trans a.2.2.1, b.2.2.2.1.trans a.2.2.2.1, fun p q j => ⟨((b.2.2.2.2 p q j).1).trans (a.2.2.2.2 p q j).1, ((b.2.2.2.2 p q j).2).trans (a.2.2.2.2 p q j).2⟩⟩
theorem FM.sI {x : Nat} {h : aH} {a i : Nat} {v : Int32} (h1 : x + 107 ≤ a) (h2 : a < x + 175) : FM x h (sI h a i v) := ⟨rfl, rfl, rfl, rfl, fun b q j => ⟨by rw [hI_sI, if_neg (by omega)], rfl⟩⟩
theorem FM.sL {x : Nat} {h : aH} {a i : Nat} {v : Int64} (h1 : x + 107 ≤ a) (h2 : a < x + 175) : FM x h (sL h a i v) := ⟨rfl, rfl, rfl, rfl, fun b q j => ⟨rfl, by rw [hL_sL, if_neg (by omega)]⟩⟩
theorem FM.fb {x : Nat} {h : aH} {a t n : Nat} {f : Nat → Int32} (h1 : x + 107 ≤ a) (h2 : a < x + 175) : FM x h (fb h a t n f) := ⟨rfl, rfl, rfl, rfl, fun b q j => ⟨by rw [hI_fb, if_neg (by omega)], rfl⟩⟩
section Fr
variable {h h1 : aH} {x m s : Nat} {N : tyN}
theorem PS.fr {p a : Nat} (P : PS h p N a) (e : ∀ j, j < 8 → hI h1 p j = hI h p j) : PS h1 p N a := by
  unfold PS at P ⊢
  rw [e 0 (by omega), e 1 (by omega), e 2 (by omega), e 3 (by omega), e 4 (by omega), e 5 (by omega), e 6 (by omega), e 7 (by omega)]
  exact P
theorem RS.fr (R : RS h s N) (e : ∀ b, s ≤ b → b < s + 39 → ∀ j, hI h1 b j = hI h b j) : RS h1 s N := by
  obtain ⟨r1, r2, r3, r4, r5, r6⟩ := R
  refine ⟨fun k hk => (r1 k hk).fr (fun j _ => e _ (by omega) (by omega) j), ?_, ?_, ?_, ?_, ?_⟩
  · rw [e s (by omega) (by omega)]; exact r2
  · intro i h1 h2; rw [e (s + 2) (by omega) (by omega), e (s + 3) (by omega) (by omega), e (s + 4) (by omega) (by omega)]; exact r3 i h1 h2
  · rw [e s (by omega) (by omega)]; exact r4
  · intro i h1 h2; rw [e (s + 5) (by omega) (by omega)]; exact r5 i h1 h2
  · intro a ha; unfold byP; rw [e (s + 6) (by omega) (by omega)]; exact r6 a ha
theorem SS.fr (S : SS h s) (e1 : ∀ b, s ≤ b → b < s + 39 → hK h1 b = hK h b) (e2 : ∀ b, s ≤ b → b < s + 39 → ∀ j, hR h1 b j = hR h b j) : SS h1 s := by
  unfold SS at S ⊢
  rw [e1 s (by omega) (by omega), e1 (s + 1) (by omega) (by omega), e1 (s + 2) (by omega) (by omega), e1 (s + 3) (by omega) (by omega), e1 (s + 4) (by omega) (by omega), e1 (s + 5) (by omega) (by omega), e1 (s + 6) (by omega) (by omega), e2 s (by omega) (by omega), e2 s (by omega) (by omega), e2 s (by omega) (by omega), e2 s (by omega) (by omega), e2 s (by omega) (by omega), e2 s (by omega) (by omega)]
  obtain ⟨a1, a2, a3, a4, a5, a6, a7, a8, a9, b1, b2, b3, b4, b5, b6⟩ := S
  exact ⟨a1, a2, a3, a4, a5, a6, a7, a8, a9, b1, b2, b3, b4, fun k hk => by rw [e2 (s + 1) (by omega) (by omega)]; exact b5 k hk, fun k hk => by rw [e1 _ (by omega) (by omega)]; exact b6 k hk⟩
theorem XS.fr (S : XS h x) (e1 : ∀ b, b < x + 107 → hK h1 b = hK h b) (e2 : ∀ b j, b < x + 107 → ¬ (b = x + 83 ∧ 3 ≤ j ∨ b = x + 104 ∧ ¬ j = 2 ∨ b = x + 105 ∨ b = x ∧ (j = 9 ∨ j = 10)) → hR h1 b j = hR h b j) : XS h1 x := by
  refine ⟨S.now.fr (fun b _ q => e1 b (by omega)) (fun b _ q j => e2 b j (by omega) (by omega)), S.draft.fr (fun b _ q => e1 b (by omega)) (fun b _ q j => e2 b j (by omega) (by omega)), ?_⟩
  obtain ⟨-, -, q⟩ := S
  simp (disch := omega) only [XS0, XS1, XS2, XS3, XS4, XS5, e1, e2] at q ⊢
  exact q
theorem mB.fr {a M mem sh : Nat} {ns : Nat → List Nat} {kd : Nat → Nat} {cd : Nat → List Nat} (B : mB h a M mem sh ns kd cd) (e : ∀ b, a ≤ b → b < a + 6 → ∀ j, hI h1 b j = hI h b j) : mB h1 a M mem sh ns kd cd := by
  unfold mB at B ⊢
  simp (disch := omega) only [e]
  exact B
theorem cA.fr {r tl : Nat} {tp : Nat → Nat} {rf : Nat → Int32} {ft fp : Int32} {sd : Nat} (A : cA h x r tl tp rf ft fp sd) (e : ∀ b, x ≤ b → b < x + 3 → ∀ j, hI h1 b j = hI h b j) (e2 : hL h1 x 16 = hL h x 16) : cA h1 x r tl tp rf ft fp sd := by
  unfold cA at A ⊢
  simp (disch := omega) only [e, e2]
  exact A
theorem cB.fr {r : Nat} {B : tyB} (C : cB h x r B) (e : ∀ b, x + 92 ≤ b → b < x + 104 → ∀ j, hI h1 b j = hI h b j) (e2 : hR h1 x 9 = hR h x 9) (e3 : hR h1 x 10 = hR h x 10) : cB h1 x r B := by
  obtain ⟨a, a', w, k⟩ := C
  refine ⟨a, a', ?_, fun hr => (k hr).fr (fun b q1 q2 j => e b (by have := w.1; omega) (by have := w.1; omega) j)⟩
  unfold wB at w ⊢
  rw [e2, e3]; exact w
theorem cE.fr {rn : Nat} {f : Nat → Nat} (C : cE h x rn f) (e0 : hI h1 (x + 87) 0 = hI h (x + 87) 0) (e : ∀ b, x + 88 ≤ b → b < x + 90 → ∀ j, hI h1 b j = hI h b j) : cE h1 x rn f := by
  unfold cE at C ⊢
  rw [e0]
  simp (disch := omega) only [e]; exact C
theorem cF.fr {rn : Nat} {f : Nat → Nat} (C : cF h x rn f) (e : ∀ b, x + 90 ≤ b → b < x + 92 → ∀ j, hI h1 b j = hI h b j) : cF h1 x rn f := by
  unfold cF at C ⊢
  simp (disch := omega) only [e]; exact C
theorem cD.fr {sl : Nat → tyN} {nx c cr : Nat} (C : cD h x sl nx c cr) (e : ∀ b, x + 81 ≤ b → b < x + 83 ∨ x + 175 ≤ b → ∀ j, hI h1 b j = hI h b j) (e1 : ∀ b, x + 81 ≤ b → b < x + 83 ∨ x + 175 ≤ b → hK h1 b = hK h b) (e2 : ∀ b, x + 81 ≤ b → b < x + 83 ∨ x + 175 ≤ b → ∀ j, hR h1 b j = hR h b j) : cD h1 x sl nx c cr := by
  obtain ⟨a1, a2, a3, a4, a5, a6⟩ := C
  refine ⟨?_, ?_, ?_, ?_, ?_, a6⟩
  · rw [e _ (by omega) (by omega)]; exact a1
  · rw [e _ (by omega) (by omega)]; exact a2
  · intro k hk; rw [e2 _ (by omega) (by omega)]; exact a3 k hk
  · intro k hk; exact (a4 k hk).fr (fun b _ _ => e1 b (by omega) (by omega)) (fun b _ _ j => e2 b (by omega) (by omega) j)
  · intro k hk; exact (a5 k hk).fr (fun b _ _ j => e b (by omega) (by omega) j)
variable {A : tyA} {B : tyB} {D : tyD} {E F : tyE}
/-- behind a run of the reference the class holds what it held -/
theorem CX.fm (C : CX h x A B N D E F) (f : FM x h h1) : CX h1 x A B N D E F := by
  obtain ⟨c1, c2, c3, c4, c5, c6, c7, c8, c9⟩ := C
  obtain ⟨f1, f2, f3, f4, f5⟩ := f
  exact ⟨c1.of f1 f2, c2.fr (fun b _ _ j => (f5 b (by omega) j).1) (f5 x (by omega) 16).2, c3.fr (fun b _ _ j => (f5 b (by omega) j).1) (by rw [f2]) (by rw [f2]), c4.fr (fun b _ _ j => (f5 b (by omega) j).1), c5.fr (fun b _ _ j => (f5 b (by omega) j).1) (fun b _ _ => by rw [f1]) (fun b _ _ j => by rw [f2]), c6.fr (f5 _ (by omega) 0).1 (fun b _ _ j => (f5 b (by omega) j).1), c7.fr (fun b _ _ j => (f5 b (by omega) j).1), by rw [f3]; exact c8, by rw [f4]; exact c9⟩
/-- behind a run of the class the reference holds what it held -/
theorem CM.fc (C : CM h (x + 107) A B N D E F) (f : FC x h h1) : CM h1 (x + 107) A B N D E F := by
  have eI : ∀ b, x + 107 ≤ b → b < x + 175 → ∀ j, hI h1 b j = hI h b j := fun b p q j => ((f b p q).2 j).1
  have eL : ∀ b, x + 107 ≤ b → b < x + 175 → ∀ j, hL h1 b j = hL h b j := fun b p q j => ((f b p q).2 j).2.1
  have eR : ∀ b, x + 107 ≤ b → b < x + 175 → ∀ j, hR h1 b j = hR h b j := fun b p q j => ((f b p q).2 j).2.2
  have eK : ∀ b, x + 107 ≤ b → b < x + 175 → hK h1 b = hK h b := fun b p q => (f b p q).1
  obtain ⟨c1, c2, c3, c4, c5, c6, c7, c8⟩ := C
  unfold mA mM mD mE mF at *
  refine ⟨?_, ?_, ?_, ?_, ?_, ?_, ?_, c8.fr (fun b j q => eI b (by omega) (by omega) j)⟩
  · simp (disch := omega) only [MS, MS0, MS1, MS2, MS3, MS4, MS5, MS6, MS7, MS8, MS9, MS10, MS11, MS12, MS13, eK, eR] at c1 ⊢
    exact c1
  · unfold mA; simp (disch := omega) only [eI, eL]; exact c2
  · unfold mM; simp (disch := omega) only [eI, eL]; exact c3
  · simp (disch := omega) only [eI]; exact c4
  · unfold mD; simp (disch := omega) only [eI]; exact c5
  · unfold mE; simp (disch := omega) only [eI]; exact c6
  · unfold mF; simp (disch := omega) only [eI]; exact c7
/-- cells of the class that hold nothing that lasts -/
def SC (x : Nat) (b j : Nat) : Prop := x + 42 ≤ b ∧ b < x + 81 ∨ x + 83 ≤ b ∧ b < x + 87 ∨ b = x + 87 ∧ 0 < j ∨ x + 104 ≤ b ∧ b < x + 107
theorem CX.sc (C : CX h x A B N D E F) (f : FX x (SC x) h h1) (e9 : hR h1 x 9 = hR h x 9) (e10 : hR h1 x 10 = hR h x 10) (el : hL h1 x 16 = hL h x 16) : CX h1 x A B N D E F := by
  obtain ⟨c1, c2, c3, c4, c5, c6, c7, c8, c9⟩ := C
  obtain ⟨f1, f0, f3, f4, f5, f2⟩ := f
  unfold SC at f5
  refine ⟨c1.fr (fun b _ => by rw [f1]) (fun b j _ q => f2 b j q), c2.fr (fun b _ _ j => f5 b j (by omega)) el, c3.fr (fun b _ _ j => f5 b j (by omega)) e9 e10, c4.fr (fun b _ _ j => f5 b j (by omega)), c5.fr (fun b _ _ j => f5 b j (by omega)) (fun b _ _ => by rw [f1]) (fun b _ _ j => f2 b j (by omega)), c6.fr (f5 _ _ (by omega)) (fun b _ _ j => f5 b j (by omega)), c7.fr (fun b _ _ j => f5 b j (by omega)), by rw [f3]; exact c8, by rw [f4]; exact c9⟩
/-- what acts change has changed, and nothing that lasts besides -/
def NC (x : Nat) (b j : Nat) : Prop := x + 3 ≤ b ∧ b < x + 81 ∨ x + 83 ≤ b ∧ b < x + 87 ∨ b = x + 87 ∧ 0 < j ∨ x + 104 ≤ b ∧ b < x + 107
theorem CX.nc {N' : tyN} (C : CX h x A B N D E F) (f : FX x (NC x) h h1) (e9 : hR h1 x 9 = hR h x 9) (e10 : hR h1 x 10 = hR h x 10) (el : hL h1 x 16 = hL h x 16) (R : RS h1 (x + 3) N') : CX h1 x A B N' D E F := by
  obtain ⟨c1, c2, c3, c4, c5, c6, c7, c8, c9⟩ := C
  obtain ⟨f1, f0, f3, f4, f5, f2⟩ := f
  unfold NC at f5
  refine ⟨c1.fr (fun b _ => by rw [f1]) (fun b j _ q => f2 b j q), c2.fr (fun b _ _ j => f5 b j (by omega)) el, c3.fr (fun b _ _ j => f5 b j (by omega)) e9 e10, R, c5.fr (fun b _ _ j => f5 b j (by omega)) (fun b _ _ => by rw [f1]) (fun b _ _ j => f2 b j (by omega)), c6.fr (f5 _ _ (by omega)) (fun b _ _ j => f5 b j (by omega)), c7.fr (fun b _ _ j => f5 b j (by omega)), by rw [f3]; exact c8, by rw [f4]; exact c9⟩
end Fr
