/-! ROWS OVER THE HEAP -/
def iT : FieldType → Bool
  | .int => true
  | .byte => true
  | .char => true
  | .short => true
  | .boolean => true
  | _ => false
def rT : FieldType → Bool
  | .object _ => true
  | .array _ => true
  | _ => false
theorem fv_i {h : aH} {a k : Nat} {t : FieldType} (e : iT t = true) : fv h a k t = .int (hI h a k) := by cases t <;> first | rfl | cases e
theorem fv_r {h : aH} {a k : Nat} {t : FieldType} (e : rT t = true) : fv h a k t = va_rf (hR h a k) := by cases t <;> first | rfl | cases e
theorem fv_l {h : aH} {a k : Nat} : fv h a k .long = .long (hL h a k) := rfl
theorem fv_sI_a {h : aH} {a b i k : Nat} {x : Int32} {t : FieldType} (e : b ≠ a) : fv (sI h a i x) b k t = fv h b k t := by cases t <;> simp [fv, sI, hI, hL, hR, up2, e]
theorem fv_sI_i {h : aH} {a i k : Nat} {x : Int32} {t : FieldType} (e : k ≠ i) : fv (sI h a i x) a k t = fv h a k t := by cases t <;> simp [fv, sI, hI, hL, hR, up2, e]
theorem fv_sI_s {h : aH} {a i : Nat} {x : Int32} {t : FieldType} (e : iT t = true) : fv (sI h a i x) a i t = .int x := by rw [fv_i e]; simp [sI, hI, up2]
theorem fv_sL_a {h : aH} {a b i k : Nat} {x : Int64} {t : FieldType} (e : b ≠ a) : fv (sL h a i x) b k t = fv h b k t := by cases t <;> simp [fv, sL, hI, hL, hR, up2, e]
theorem fv_sL_i {h : aH} {a i k : Nat} {x : Int64} {t : FieldType} (e : k ≠ i) : fv (sL h a i x) a k t = fv h a k t := by cases t <;> simp [fv, sL, hI, hL, hR, up2, e]
theorem fv_sL_s {h : aH} {a i : Nat} {x : Int64} : fv (sL h a i x) a i .long = .long x := by simp [fv, sL, hL, up2]
theorem fv_sR_a {h : aH} {a b i k : Nat} {x : Option Nat} {t : FieldType} (e : b ≠ a) : fv (sR h a i x) b k t = fv h b k t := by cases t <;> simp [fv, sR, hI, hL, hR, up2, e]
theorem fv_sR_i {h : aH} {a i k : Nat} {x : Option Nat} {t : FieldType} (e : k ≠ i) : fv (sR h a i x) a k t = fv h a k t := by cases t <;> simp [fv, sR, hI, hL, hR, up2, e]
theorem fv_sR_s {h : aH} {a i : Nat} {x : Option Nat} {t : FieldType} (e : rT t = true) : fv (sR h a i x) a i t = va_rf x := by rw [fv_r e]; simp [sR, hR, up2]
theorem fv_nw {h : aH} {κ : aK} {n b k : Nat} {t : FieldType} (e : b ≠ hN h) : fv (nw h κ n) b k t = fv h b k t := by cases t <;> simp [fv, nw, hI, hL, hR, e]
theorem fv_nw0 {h : aH} {κ : aK} {n k : Nat} {t : FieldType} (e : okT t = true) : fv (nw h κ n) (hN h) k t = defaultValue t := by cases t <;> first | exact absurd e (by decide) | simp [fv, nw, hI, hL, hR, defaultValue, va_rf]
/-- what is known of a class: its fields' words, types and names -/
def CK (ci : Nat) : Prop := ∃ q : vw_C, vwCl[ci]? = some q ∧ (∀ w ∈ u_ws q.1 q.2.1 q.2.2, w ∈ GW) ∧ (∀ k, k < q.2.2 → parseFieldDescriptor (q.2.1 k).2.2.1 = some (TY ci k)) ∧ (∀ a, a < q.2.2 → ∀ b, b < q.2.2 → a ≠ b → (q.2.1 a).2.1 ≠ (q.2.1 b).2.1) ∧ (∀ k, k < q.2.2 → okT (TY ci k) = true)
/-- a field's link: from the class own, by the place idx of its pool, to field k of class ci -/
def FLr (own : String) (idx ci k : Nat) : Prop := CK ci ∧ ∃ q : vw_C, vwCl[ci]? = some q ∧ k < q.2.2 ∧ Cond.fieldLink own idx (q.2.1 k).1 (q.2.1 k).2.1 (q.2.1 k).2.2.1 ∈ GW
/-- one that may be written, too -/
def FL (own : String) (idx ci k : Nat) (fin : Bool) : Prop := FLr own idx ci k ∧ ∃ q : vw_C, vwCl[ci]? = some q ∧ (q.2.1 k).2.2.2 = fin ∧ (fin = true → (q.2.1 k).1 = own)
theorem HI.set {Γ : gS} {h h1 : aH} {H H' : Heap} {a : Nat} {κ : aK} (hH : HI Γ h H) (ha : hK h a = some κ) (z : H'.size = H.size) (oq : ∀ q, q ≠ a → H'[q]? = H[q]?) (eK : h1.1 = h.1) (eN : hN h1 = hN h) (ef : ∀ b, b ≠ a → ∀ k t, fv h1 b k t = fv h b k t) (hc : aC Γ h1 a κ H') : HI Γ h1 H' := by
  obtain ⟨s1, s2, s3, s4⟩ := hH
  refine ⟨by rw [z, s1, eN], by rw [eN]; exact s2, fun q hq => ?_, fun b κ' hb => ?_⟩
  · rw [oq q (fun e => by subst e; have := (s4 _ _ ha).1.1; omega)]
    exact s3 q hq
  · have hb' : hK h b = some κ' := by rw [← hb]; unfold hK; rw [eK]
    obtain ⟨t1, t2⟩ := s4 b κ' hb'
    refine ⟨by rw [eN]; exact t1, ?_⟩
    by_cases e : b = a
    · subst e
      cases hb'.symm.trans ha
      exact hc
    · cases κ' with
      | inl ci =>
        obtain ⟨q, q1, q2⟩ := t2
        exact ⟨q, q1, (q2.kept (oq b e)).to (fun k _ => (ef b e k _).symm)⟩
      | inr q =>
        show H'[b]? = _
        rw [oq b e]
        have t2' : H[b]? = some (arrV (gA Γ q.1) q.2 (fun j => fv h b j q.1)) := t2
        rw [t2']
        congr 2
        funext j
        exact (ef b e j _).symm
theorem HI.push {Γ : gS} {h : aH} {H H' : Heap} {κ : aK} {n : Nat} (hH : HI Γ h H) (z : H'.size = H.size + 1) (oq : ∀ q, q < H.size → H'[q]? = H[q]?) (hc : aC Γ (nw h κ n) (hN h) κ H') : HI Γ (nw h κ n) H' := by
  obtain ⟨s1, s2, s3, s4⟩ := hH
  refine ⟨by rw [z, s1]; rfl, Nat.le_succ_of_le s2, fun q hq => ?_, fun b κ' hb => ?_⟩
  · rw [oq q (by omega)]
    exact s3 q hq
  · by_cases e : b = hN h
    · subst e
      have : κ' = κ := by
        have h2 : hK (nw h κ n) (hN h) = some κ := by simp [hK, nw]
        exact Option.some.inj (hb.symm.trans h2)
      subst this
      exact ⟨⟨s2, Nat.lt_succ_self _⟩, hc⟩
    · have hb' : hK h b = some κ' := by rw [← hb]; simp [hK, nw, e]
      obtain ⟨⟨t0, t1⟩, t2⟩ := s4 b κ' hb'
      refine ⟨⟨t0, Nat.lt_succ_of_lt t1⟩, ?_⟩
      have ho := oq b (by omega)
      cases κ' with
      | inl ci =>
        obtain ⟨q, q1, q2⟩ := t2
        exact ⟨q, q1, (q2.kept ho).to (fun k _ => (fv_nw e).symm)⟩
      | inr q =>
        show H'[b]? = _
        rw [ho]
        have t2' : H[b]? = some (arrV (gA Γ q.1) q.2 (fun j => fv h b j q.1)) := t2
        rw [t2']
        congr 2
        funext j
        exact (fv_nw e).symm
section HRows
variable {Γ : gS} {γ : mI} {d pc : Nat} {lv : List (Nat × Value)} {st : List Value} {h : aH} {r : Option Value} {h' : aH}
/-- a field is read -/
theorem x_get {idx ci k a : Nat} {v : Value} (hF : FLr γ.1.cls idx ci k) (hd : decode γ.2.1 pc = .ok (.getfield idx, 3)) (ha : hK h a = some (.inl ci)) (hv : fv h a k (TY ci k) = v) (kk : Ex Γ γ d (pc + 3) lv (v :: st) h r h') : Ex Γ γ d pc lv (.ref a :: st) h r h' := by
  refine ⟨kk.1, fun p e R s m args below meth c H locs cells slots ls C hH hL hl e1 e2 => ?_⟩
  have kw := kk.2 p e R s m args below meth c H locs cells slots ls C hH hL hl e1 e2
  obtain ⟨hx, hb, -, hown, hG, hK, -⟩ := id C
  obtain ⟨⟨q, hq, hin, hty, -, -⟩, q', hq', hk, hlink⟩ := hF
  cases hq.symm.trans hq'
  obtain ⟨-, q2, g1, cell, g2, g3, g4, g5⟩ := hH.2.2.2 a _ ha
  cases hq.symm.trans g1
  obtain ⟨hS, hfc, kC, hkC, hkind⟩ := hK.1.1 ci _ hq
  obtain ⟨cf, kf, fi, f, hi, hsl⟩ := hS k hk
  refine W.getf hx hb hown (hG _ hlink) hi (u_facts hfc hkC (u_lays hG hin hk) hi).1 g2 (by rw [g4]; exact fun h => by cases h) (v := v) ?_ rfl rfl hd kw
  rw [hsl, g5 k hk]
  exact congrArg some hv
theorem x_getI {idx ci k a : Nat} (hF : FLr γ.1.cls idx ci k) (hd : decode γ.2.1 pc = .ok (.getfield idx, 3)) (ha : hK h a = some (.inl ci)) (ht : iT (TY ci k) = true) (kk : Ex Γ γ d (pc + 3) lv (.int (hI h a k) :: st) h r h') : Ex Γ γ d pc lv (.ref a :: st) h r h' := x_get hF hd ha (fv_i ht) kk
theorem x_getL {idx ci k a : Nat} (hF : FLr γ.1.cls idx ci k) (hd : decode γ.2.1 pc = .ok (.getfield idx, 3)) (ha : hK h a = some (.inl ci)) (ht : TY ci k = .long) (kk : Ex Γ γ d (pc + 3) lv (.long (hL h a k) :: st) h r h') : Ex Γ γ d pc lv (.ref a :: st) h r h' := x_get hF hd ha (by rw [ht]; rfl) kk
theorem x_getR {idx ci k a x : Nat} (hF : FLr γ.1.cls idx ci k) (hd : decode γ.2.1 pc = .ok (.getfield idx, 3)) (ha : hK h a = some (.inl ci)) (ht : rT (TY ci k) = true) (hx : hR h a k = some x) (kk : Ex Γ γ d (pc + 3) lv (.ref x :: st) h r h') : Ex Γ γ d pc lv (.ref a :: st) h r h' := x_get hF hd ha (by rw [fv_r ht, hx]; rfl) kk
theorem x_getN {idx ci k a : Nat} (hF : FLr γ.1.cls idx ci k) (hd : decode γ.2.1 pc = .ok (.getfield idx, 3)) (ha : hK h a = some (.inl ci)) (ht : rT (TY ci k) = true) (hx : hR h a k = none) (kk : Ex Γ γ d (pc + 3) lv (.null :: st) h r h') : Ex Γ γ d pc lv (.ref a :: st) h r h' := x_get hF hd ha (by rw [fv_r ht, hx]; rfl) kk
/-- a field is written -/
theorem x_put {idx ci k a : Nat} {fin : Bool} {v : Value} {h1 : aH} (hF : FL γ.1.cls idx ci k fin) (hd : decode γ.2.1 pc = .ok (.putfield idx, 3)) (ha : hK h a = some (.inl ci)) (hfin : fin = true → γ.1.name = "<init>") (hn : narrow (TY ci k) v = v) (hf : fits (TY ci k) v = true)
    (eK : h1.1 = h.1) (eN : hN h1 = hN h) (eS : hS h1 = hS h) (ef : ∀ b, b ≠ a → ∀ k t, fv h1 b k t = fv h b k t) (es : fv h1 a k (TY ci k) = v) (en : ∀ j, j ≠ k → fv h1 a j (TY ci j) = fv h a j (TY ci j))
    (kk : Ex Γ γ d (pc + 3) lv st h1 r h') : Ex Γ γ d pc lv (v :: .ref a :: st) h r h' := by
  refine ⟨by rw [← eN, ← eS]; exact kk.1, fun p e R s m args below meth c H locs cells slots ls C hH hL hl e1 e2 => ?_⟩
  obtain ⟨hx, hb, -, hown, hG, hKX, -, -, hnm, -⟩ := id C
  obtain ⟨⟨⟨q, hq, hin, hty, hdist, -⟩, q', hq', hk, hlink⟩, q'', hq'', hfi, hdecl⟩ := hF
  cases hq.symm.trans hq'
  cases hq.symm.trans hq''
  have hap := va_apart (own := γ.1.cls) hG hin (TY ci) hty hdist hKX.1 (show vwCl[ci]? = some (q.1, q.2.1, q.2.2) from hq)
  obtain ⟨⟨hz, -⟩, q2, g1, cell, g2, g3, g4, g5⟩ := hH.2.2.2 a _ ha
  cases hq.symm.trans g1
  obtain ⟨hS, hfc, kC, hkC, hkind⟩ := hKX.1.1 ci _ hq
  obtain ⟨cf, kf, fi, f, hi, hsl⟩ := hS k hk
  have hst := (u_facts hfc hkC (u_lays hG hin hk) hi).1
  have hlt : f.slot < cell.slots.size := by rw [hsl]; exact k2_hasslot (g5 k hk)
  have fin2 : ∀ H' : Heap, H'[a]? = some (cell.setSlot f.slot v) → H'.size = H.size → (∀ q, q ≠ a → H'[q]? = H[q]?) → W p (gl Γ) e R s m args below meth c H' (locs ++ [⟨a, f.slot⟩]) cells slots (fnl Γ γ r h' R s args below) (F0 m (pc + 3) ls st) := by
    intro H' k1 k2 k3
    refine kk.2 p e R s m args below meth c H' _ cells slots ls C (hH.set ha k2 k3 eK eN ef ⟨q, hq, t_OB.to (V := updV (fun k => fv h a k (TY ci k)) k v) ⟨_, k1, g3, g4, by rw [hsl]; exact t_set g5 hap hk v⟩ (fun j _ => ?_)⟩) (fun x hx => ?_) hl (by rw [eN]; exact e1) (by rw [eS]; exact e2)
    · by_cases hj : j = k
      · subst hj; simp [updV, es]
      · simp only [updV, if_neg hj]; exact (en j hj).symm
    · rcases List.mem_append.mp hx with h1 | h1
      · exact hL x h1
      · rw [List.mem_singleton.mp h1]; exact hz
  have hlay := hG _ (hin _ (u_in_lay hk))
  unfold u_lay at hlay
  cases fin with
  | false =>
    rw [if_neg (by rw [hfi]; decide)] at hlay
    exact W.putK hx hb (f := f) ⟨hown, hG _ hlink, ⟨_, _, _, hi⟩, hst⟩ (by rw [g3]; exact u_store hfc hkC hkind hlay hi (hty k hk) hn hf) g2 g4 hlt rfl rfl hd fin2
  | true =>
    rw [if_pos hfi] at hlay
    have hcf : m.cls = cf := by
      obtain ⟨_, _, c', _, _, _, -, -, hf', -, -, -, hown2, -⟩ := Cond.laysFinal_spec hlay
      have e1 : c' = cf := by have := hi.symm.trans hf'; simp at this; exact this.1.symm
      rw [hdecl rfl] at hown2
      rw [← e1]; exact Option.some.inj (hown.symm.trans hown2)
    exact W.putFinK hx hb hown (hG _ hlink) hi hst hcf (by rw [hnm (by unfold isLaw; rw [hfin rfl]; rfl)]; exact hfin rfl) (by rw [g3]; exact u_fits hfc hkC hkind (Or.inr hlay) hi (hty k hk) hn hf) g2 g4 hlt rfl rfl hd fin2
theorem nar_i {t : FieldType} (ht : iT t = true) {x : Int32} : narrow t (.int x) = .int (vp_nar t x) := by cases t <;> first | rfl | cases ht
theorem x_putI {idx ci k a : Nat} {fin : Bool} {x : Int32} (hF : FL γ.1.cls idx ci k fin) (hd : decode γ.2.1 pc = .ok (.putfield idx, 3)) (ha : hK h a = some (.inl ci)) (hfin : fin = true → γ.1.name = "<init>") (ht : TY ci k = .int) (kk : Ex Γ γ d (pc + 3) lv st (sI h a k x) r h') : Ex Γ γ d pc lv (.int x :: .ref a :: st) h r h' :=
  x_put (h1 := sI h a k x) hF hd ha hfin (by rw [ht]; rfl) (by rw [ht]; rfl) rfl rfl rfl (fun _ e _ _ => fv_sI_a e) (by rw [fv_sI_s (by rw [ht]; rfl)]) (fun _ e => fv_sI_i e) kk
theorem bool_nar {x : Int32} (hx : x = 0 ∨ x = 1) : narrow .boolean (.int x) = .int x ∧ fits .boolean (.int x) = true := by rcases hx with rfl | rfl <;> exact ⟨rfl, rfl⟩
theorem x_putZ {idx ci k a : Nat} {fin : Bool} {x : Int32} (hF : FL γ.1.cls idx ci k fin) (hd : decode γ.2.1 pc = .ok (.putfield idx, 3)) (ha : hK h a = some (.inl ci)) (hfin : fin = true → γ.1.name = "<init>") (ht : TY ci k = .boolean) (hx : x = 0 ∨ x = 1) (kk : Ex Γ γ d (pc + 3) lv st (sI h a k x) r h') : Ex Γ γ d pc lv (.int x :: .ref a :: st) h r h' :=
  x_put (h1 := sI h a k x) hF hd ha hfin (by rw [ht]; exact (bool_nar hx).1) (by rw [ht]; exact (bool_nar hx).2) rfl rfl rfl (fun _ e _ _ => fv_sI_a e) (by rw [fv_sI_s (by rw [ht]; rfl)]) (fun _ e => fv_sI_i e) kk
theorem x_putL {idx ci k a : Nat} {fin : Bool} {x : Int64} (hF : FL γ.1.cls idx ci k fin) (hd : decode γ.2.1 pc = .ok (.putfield idx, 3)) (ha : hK h a = some (.inl ci)) (hfin : fin = true → γ.1.name = "<init>") (ht : TY ci k = .long) (kk : Ex Γ γ d (pc + 3) lv st (sL h a k x) r h') : Ex Γ γ d pc lv (.long x :: .ref a :: st) h r h' :=
  x_put (h1 := sL h a k x) hF hd ha hfin (by rw [ht]; rfl) (by rw [ht]; rfl) rfl rfl rfl (fun _ e _ _ => fv_sL_a e) (by rw [ht]; exact fv_sL_s) (fun _ e => fv_sL_i e) kk
theorem rT_nar {t : FieldType} (ht : rT t = true) {x : Option Nat} : narrow t (va_rf x) = va_rf x ∧ fits t (va_rf x) = true := by cases t <;> first | exact absurd ht (by decide) | (cases x <;> exact ⟨rfl, rfl⟩)
theorem x_putR {idx ci k a x : Nat} {fin : Bool} (hF : FL γ.1.cls idx ci k fin) (hd : decode γ.2.1 pc = .ok (.putfield idx, 3)) (ha : hK h a = some (.inl ci)) (hfin : fin = true → γ.1.name = "<init>") (ht : rT (TY ci k) = true) (kk : Ex Γ γ d (pc + 3) lv st (sR h a k (some x)) r h') : Ex Γ γ d pc lv (.ref x :: .ref a :: st) h r h' :=
  x_put (h1 := sR h a k (some x)) (v := .ref x) hF hd ha hfin (rT_nar (x := some x) ht).1 (rT_nar (x := some x) ht).2 rfl rfl rfl (fun _ e _ _ => fv_sR_a e) (fv_sR_s ht) (fun _ e => fv_sR_i e) kk
theorem x_putN {idx ci k a : Nat} {fin : Bool} (hF : FL γ.1.cls idx ci k fin) (hd : decode γ.2.1 pc = .ok (.putfield idx, 3)) (ha : hK h a = some (.inl ci)) (hfin : fin = true → γ.1.name = "<init>") (ht : rT (TY ci k) = true) (kk : Ex Γ γ d (pc + 3) lv st (sR h a k none) r h') : Ex Γ γ d pc lv (.null :: .ref a :: st) h r h' :=
  x_put (h1 := sR h a k none) (v := .null) hF hd ha hfin (rT_nar (x := none) ht).1 (rT_nar (x := none) ht).2 rfl rfl rfl (fun _ e _ _ => fv_sR_a e) (fv_sR_s ht) (fun _ e => fv_sR_i e) kk
end HRows
