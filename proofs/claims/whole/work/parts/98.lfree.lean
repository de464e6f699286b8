/-! free: cells whose base lay inside -/
def ivS (M b l k : Nat) (N : tyN) : tyN := if N (8 * k) = 1 ∧ b ≤ basN M (N (8 * k + 2)) (N (8 * k + 3)) (N (8 * k + 1)) ∧ basN M (N (8 * k + 2)) (N (8 * k + 3)) (N (8 * k + 1)) < b + l then updN N (8 * k) 0 else N
def ivF (M b l : Nat) : Nat → Nat → tyN → tyN
  | 0, _, N => N
  | j + 1, k, N => ivF M b l j (k + 1) (ivS M b l k N)
section Iv
variable {h : aH} {x r tl : Nat} {tp : Nat → Nat} {rf : Nat → Int32} {ft fp : Int32} {sd : Nat} {M mem sh : Nat} {ns : Nat → List Nat} {kd : Nat → Nat} {cd : Nat → List Nat} {N : tyN} {sl : Nat → tyN} {nx c cr : Nat} {rn : Nat} {rw_ : Nat → Nat} {on_ : Nat} {ob : Nat → Nat}
theorem updN_id {a v : Nat} (h : N a = v) : updN N a v = N := by
  funext j
  unfold updN
  split
  · rename_i z; rw [z, h]
  · rfl
theorem CX.gone (C : CX h x (r, tl, tp, rf, ft, fp, sd) (M, mem, sh, ns, kd, cd) N (sl, nx, c, cr) (rn, rw_) (on_, ob)) {k : Nat} (hk : k < 32) (z : N (8 * k) = 2) : CX (sI h (x + 3 + 7 + k) 1 (nI 0)) x (r, tl, tp, rf, ft, fp, sd) (M, mem, sh, ns, kd, cd) N (sl, nx, c, cr) (rn, rw_) (on_, ob) ∧ FC x h (sI h (x + 3 + 7 + k) 1 (nI 0)) := by
  refine C.nc1 (FX.sI (by unfold NC; omega)) rfl rfl (C.2.2.2.1.cell hk (fun b _ _ q j => by rw [hI_sI, if_neg (by omega)]) (fun j q => rfl) ?_)
  rcases C.2.2.2.1.1 k hk with q | q
  · exact Or.inl ⟨q.1, by rw [hI_sI, if_neg (by omega)]; exact q.2.1, Or.inl (by rw [hI_sI, if_pos ⟨rfl, rfl⟩])⟩
  · omega
end Iv
