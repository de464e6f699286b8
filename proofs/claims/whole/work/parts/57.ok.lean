/-! WHAT THE NUMBERS KEEP TO -/
def okP (M : Nat) (N : tyN) (a : Nat) : Prop := N a ≤ 2 ∧ N (a + 1) < 4096 ∧ N (a + 2) ≤ 13 - M ∧ N (a + 3) < 2 ^ M ∧ N (a + 4) < 2 ^ M ∧ (N (a + 4) + 2 ^ M - N (a + 3)) % 2 ^ M ≤ 2 ^ (M - 1) ∧ N (a + 5) ≤ 7 ∧ N (a + 6) ≤ 7
def okN (M mem sh : Nat) (N : tyN) : Prop := (∀ j, N j ≤ 4096) ∧ (∀ k, k < 32 → okP M N (8 * k)) ∧ (∀ k, k < 16 → N (8 * k) ≤ 1) ∧ (∀ k, 16 + 4 * sh ≤ k → k < 32 → N (8 * k) = 2) ∧ N 256 ≤ 32 ∧ GA (N 256) mem (fun i => N (257 + 3 * i)) (fun i => N (258 + 3 * i)) ∧ (∀ i, i < N 256 → 1 ≤ N (259 + 3 * i) ∧ N (259 + 3 * i) ≤ N (258 + 3 * i)) ∧ N 1377 ≤ 40 ∧ (∀ a, a < 1024 → N (353 + a) ≤ 255)
/-- what codes leave of kinds of values (true: a test's) -/
def tyC (al : Nat → Bool) : List Nat → List Bool → Option (List Bool)
  | [], s => some s
  | c :: l, s => if 60 < s.length then none else
    if 1000 ≤ c then (if c ≤ 10999 then tyC al l (false :: s) else none) else
    if c = 60 ∨ c = 61 then (match s with
      | false :: _ => if al c then tyC al l s else none
      | _ => none) else
    if 40 ≤ c ∧ c ≤ 50 then (if al c then tyC al l (false :: s) else none) else
    if c = 13 then tyC al l (true :: s) else
    if c = 12 then (match s with
      | true :: _ => tyC al l s
      | _ => none) else
    if c = 10 ∨ c = 11 then (match s with
      | true :: true :: s' => tyC al l (true :: s')
      | _ => none) else
    if 7 ≤ c ∧ c ≤ 9 then (match s with
      | false :: false :: s' => tyC al l (true :: s')
      | _ => none) else
    if 1 ≤ c ∧ c ≤ 6 then (match s with
      | false :: false :: s' => tyC al l (false :: s')
      | _ => none) else none
def alC (w c : Nat) : Bool := if w = 0 then decide (40 ≤ c ∧ c ≤ 42) else if w = 1 then decide (c = 40) else if w = 2 then decide (43 ≤ c ∧ c ≤ 46) else decide (43 ≤ c ∧ c ≤ 61)
def okB (M mem sh : Nat) (ns : Nat → List Nat) (kd : Nat → Nat) (cd : Nat → List Nat) : Prop := 4 ≤ M ∧ M ≤ 8 ∧ 64 ≤ mem ∧ mem ≤ 1024 ∧ sh ≤ 4 ∧ (∀ s, s < sh → 1 ≤ (ns s).length ∧ (ns s).length ≤ 6 ∧ ∀ c ∈ ns s, 1 ≤ c ∧ c ≤ 26) ∧ (∀ s, s < sh → 1 ≤ kd s ∧ kd s ≤ 7) ∧ (∀ w, w < 3 → cd w = [] ∨ tyC (alC w) (cd w) [] = some [decide (w = 2)])
def okA (tl : Nat) (tp : Nat → Nat) (sd : Nat) : Prop := tl ≤ 1600 ∧ (∀ j, tp j ≤ 255) ∧ sd < 2 ^ 31
def okD (M mem sh : Nat) (sl : Nat → tyN) (nx c : Nat) : Prop := ∀ i, i < c → okN M mem sh (sl ((nx + 19 - i) % 20))
def okEE (rn : Nat) (rw_ : Nat → Nat) : Prop := rn ≤ 16 ∧ ∀ i, i < rn → rw_ (2 * i) ≤ 127 ∧ rw_ (2 * i + 1) ≤ 1
def okF (on : Nat) (ob : Nat → Nat) : Prop := on ≤ 450 ∧ ∀ j, ob j ≤ 255
def Ok (A : tyA) (B : tyB) (N : tyN) (D : tyD) (E F : tyE) : Prop := okA A.2.1 A.2.2.1 A.2.2.2.2.2.2 ∧ okEE E.1 E.2 ∧ okF F.1 F.2 ∧ ((A.1 = 0 ∧ B.1 = 0 ∧ B.2.1 = 0 ∧ B.2.2.1 = 0 ∧ N = (fun _ => 0) ∧ D.2.2.1 = 0 ∧ E.1 = 0) ∨ (A.1 = 1 ∧ okB B.1 B.2.1 B.2.2.1 B.2.2.2.1 B.2.2.2.2.1 B.2.2.2.2.2 ∧ okN B.1 B.2.1 B.2.2.1 N ∧ okD B.1 B.2.1 B.2.2.1 D.1 D.2.1 D.2.2.1))
/-- THE INVARIANT -/
def IV (z : Nat) (h : aH) : Prop := ∃ A B N D E F, CX h z A B N D E F ∧ CM h (z + 107) A B N D E F ∧ Ok A B N D E F
/-- one call on both sides -/
def SM (ρ : Type) (z : Nat) (h : aH) (f g : aH → Option (ρ × aH)) : Prop := ∃ v h1 h2, f h = some (v, h1) ∧ g h1 = some (v, h2) ∧ IV z h2
section Gl
variable {ρ : Type} {z : Nat} {h : aH} {f g : aH → Option (ρ × aH)} {A A' : tyA} {B B' : tyB} {N N' : tyN} {D D' : tyD} {E E' F F' : tyE} {v : ρ}
theorem glue (Q : CM h (z + 107) A B N D E F) (hc : ∃ h1, f h = some (v, h1) ∧ CX h1 z A' B' N' D' E' F' ∧ FC z h h1) (hm : ∀ h1, CM h1 (z + 107) A B N D E F → ∃ h2, g h1 = some (v, h2) ∧ CM h2 (z + 107) A' B' N' D' E' F' ∧ FM z h1 h2) (O : Ok A' B' N' D' E' F') : SM ρ z h f g := by
  obtain ⟨h1, e1, C1, f1⟩ := hc
  obtain ⟨h2, e2, Q2, f2⟩ := hm h1 (Q.fc f1)
  exact ⟨v, h1, h2, e1, e2, A', B', N', D', E', F', C1.fm f2, Q2, O⟩
/-- nothing changes -/
theorem glue0 (C : CX h z A B N D E F) (Q : CM h (z + 107) A B N D E F) (O : Ok A B N D E F) (hc : f h = some (v, h)) (hm : g h = some (v, h)) : SM ρ z h f g := ⟨v, h, h, hc, hm, A, B, N, D, E, F, C, Q, O⟩
end Gl
/-! a refusal -/
def rfN (rf : Nat → Int32) (k : Nat) : Nat → Int32 := fun j => if j = k then rf k + 1 else rf j
section Rf
variable {h : aH} {x m k : Nat} {r tl : Nat} {tp : Nat → Nat} {rf : Nat → Int32} {ft fp : Int32} {sd : Nat} {B : tyB} {N : tyN} {D : tyD} {E F : tyE}
theorem CX.rfd (C : CX h x (r, tl, tp, rf, ft, fp, sd) B N D E F) (hk : k < 8) : CX (rfX h x k) x (r, tl, tp, rfN rf k, ft, fp, sd) B N D E F ∧ FC x h (rfX h x k) := by
  obtain ⟨c1, c2, c3, c4, c5, c6, c7, c8, c9⟩ := C
  have eI : ∀ b j, ¬ (b = x + 2 ∧ j = k) → hI (rfX h x k) b j = hI h b j := fun b j q => by unfold rfX; rw [hI_sI, if_neg q]
  refine ⟨⟨c1.of rfl rfl, ?_, c3.fr (fun b _ _ j => eI b j (by omega)) rfl rfl, c4.fr (fun b _ _ j => eI b j (by omega)), c5.fr (fun b _ _ j => eI b j (by omega)) (fun _ _ _ => rfl) (fun _ _ _ _ => rfl), c6.fr (eI _ _ (by omega)) (fun b _ _ j => eI b j (by omega)), c7.fr (fun b _ _ j => eI b j (by omega)), c8, c9⟩, fun b b1 b2 => ⟨rfl, fun j => ⟨eI b j (by omega), rfl, rfl⟩⟩⟩
  obtain ⟨a1, a2, a3, a4, a5, a6, a7⟩ := c2
  refine ⟨?_, ?_, ?_, ?_, ?_, ?_, a7⟩
  · rw [eI _ _ (by omega)]; exact a1
  · rw [eI _ _ (by omega)]; exact a2
  · intro j hj; rw [eI _ _ (by omega)]; exact a3 j hj
  · intro j hj
    show hI (rfX h x k) (x + 2) j = if j = k then rf k + 1 else rf j
    by_cases e : j = k
    · subst e; rw [if_pos rfl, rfX, hI_sI, if_pos ⟨rfl, rfl⟩]; rw [a4 j hj]
    · rw [if_neg e, eI _ _ (by omega)]; exact a4 j hj
  · rw [eI _ _ (by omega)]; exact a5
  · rw [eI _ _ (by omega)]; exact a6
theorem CM.rfd (C : CM h (x + 107) (r, tl, tp, rf, ft, fp, sd) B N D E F) (hk : k < 8) : CM (rfX h (x + 107) k) (x + 107) (r, tl, tp, rfN rf k, ft, fp, sd) B N D E F ∧ FM x h (rfX h (x + 107) k) := by
  have eI : ∀ b j, ¬ (b = x + 107 + 2 ∧ j = k) → hI (rfX h (x + 107) k) b j = hI h b j := fun b j q => by unfold rfX; rw [hI_sI, if_neg q]
  refine ⟨?_, FM.sI (by omega) (by omega)⟩
  obtain ⟨c1, ⟨a1, a2, a3, a4, a5⟩, c2, c3, c4, c5, c6, c7⟩ := C
  refine ⟨c1.of rfl rfl, ⟨?_, ?_, ?_, ?_, ?_⟩, ?_, ?_, ?_, ?_, ?_, c7.fr (fun b j q => eI b j (by omega))⟩
  · rw [eI _ _ (by omega)]; exact a1
  · rw [eI _ _ (by omega)]; exact a2
  · intro j hj; rw [eI _ _ (by omega)]; exact a3 j hj
  · intro j hj
    show hI (rfX h (x + 107) k) (x + 107 + 2) j = if j = k then rf k + 1 else rf j
    by_cases e : j = k
    · subst e; rw [if_pos rfl, rfX, hI_sI, if_pos ⟨rfl, rfl⟩]; rw [a4 j hj]
    · rw [if_neg e, eI _ _ (by omega)]; exact a4 j hj
  · simp (disch := omega) only [eI]; exact a5
  · unfold mM at c2 ⊢; simp (disch := omega) only [eI]; exact c2
  · simp (disch := omega) only [eI]; exact c3
  · unfold mD at c4 ⊢; simp (disch := omega) only [eI]; exact c4
  · unfold mE at c5 ⊢; simp (disch := omega) only [eI]; exact c5
  · unfold mF at c6 ⊢; simp (disch := omega) only [eI]; exact c6
theorem Ok.rfd (O : Ok (r, tl, tp, rf, ft, fp, sd) B N D E F) : Ok (r, tl, tp, rfN rf k, ft, fp, sd) B N D E F := O
/-- a call that is refused on both sides -/
theorem glueR {ρ : Type} {v : ρ} {f g : aH → Option (ρ × aH)} (C : CX h x (r, tl, tp, rf, ft, fp, sd) B N D E F) (Q : CM h (x + 107) (r, tl, tp, rf, ft, fp, sd) B N D E F) (O : Ok (r, tl, tp, rf, ft, fp, sd) B N D E F) (hk : k < 8) (hc : f h = some (v, rfX h x k)) (hm : ∀ g1, CM g1 (x + 107) (r, tl, tp, rf, ft, fp, sd) B N D E F → g g1 = some (v, rfX g1 (x + 107) k)) : SM ρ x h f g :=
  glue Q ⟨_, hc, (C.rfd hk).1, (C.rfd hk).2⟩ (fun h1 Q1 => ⟨_, hm h1 Q1, (Q1.rfd hk).1, (Q1.rfd hk).2⟩) O.rfd
end Rf
