/-! THE START: programs that make the first cells, on a heap that is moved -/
section Pg
variable {z : Nat}
theorem e_X6_init (a : Nat) (g : aH) : f_X6_init (z + a) (mvH z g) = mp z (f_X6_init a g) := by
  unfold f_X6_init
  repeat ((try simp only [sI_sh, sR_sh, sRn_sh, sL_sh]); first | exact so_c | refine nm_cN ?_ | refine nm_cH ?_ | refine nm_cI ?_ | refine ko_c ?_ | refine chk_c ?_ | refine ka_c (fun _ => ?_) | refine kr_c (fun _ => ?_))
theorem e_X9_init_66 (n : Nat) : ∀ (a : Nat) (v : Int32) (g : aH), f_X9_init_66 n (z + a) v (mvH z g) = mp z (f_X9_init_66 n a v g) := by
  induction n with
  | zero => intro a v g; rfl
  | succ n ih =>
    intro a v g
    show b_X9_init_66 (f_X9_init_66 n) (z + a) v (mvH z g) = mp z (b_X9_init_66 (f_X9_init_66 n) a v g)
    unfold b_X9_init_66
    rw [mp_ite]
    by_cases c : (32 : Int32) ≤ v
    · rw [if_pos c, if_pos c]; rfl
    · rw [if_neg c, if_neg c]
      repeat ((try simp only [sI_sh, sR_sh, sRn_sh, sL_sh]); first | exact so_c | exact e_X6_init _ _ | exact ih _ _ _ | refine nm_cN ?_ | refine nm_cH ?_ | refine nm_cI ?_ | refine ko_c ?_ | refine chk_c ?_ | refine ka_c (fun _ => ?_) | refine kr_c (fun _ => ?_) | refine bd_c (e_X6_init _ _) (fun _ _ => ?_) | refine bd_c (ih _ _ _) (fun _ _ => ?_))
theorem e_X9_init (a : Nat) (g : aH) : f_X9_init (z + a) (mvH z g) = mp z (f_X9_init a g) := by
  unfold f_X9_init
  repeat ((try simp only [sI_sh, sR_sh, sRn_sh, sL_sh]); first | exact so_c | exact e_X9_init_66 _ _ _ _ | refine nm_cN ?_ | refine nm_cH ?_ | refine nm_cI ?_ | refine ko_c ?_ | refine chk_c ?_ | refine ka_c (fun _ => ?_) | refine kr_c (fun _ => ?_) | refine bd_c (e_X9_init_66 _ _ _ _) (fun _ _ => ?_))
theorem e_X2_init (a : Nat) (g : aH) : f_X2_init (z + a) (mvH z g) = mp z (f_X2_init a g) := by
  unfold f_X2_init
  repeat ((try simp only [sI_sh, sR_sh, sRn_sh, sL_sh]); first | exact so_c | refine nm_cN ?_ | refine nm_cH ?_ | refine nm_cI ?_ | refine ko_c ?_ | refine chk_c ?_ | refine ka_c (fun _ => ?_) | refine kr_c (fun _ => ?_))
theorem e_X3_init (a : Nat) (g : aH) : f_X3_init (z + a) (mvH z g) = mp z (f_X3_init a g) := by
  unfold f_X3_init
  repeat ((try simp only [sI_sh, sR_sh, sRn_sh, sL_sh]); first | exact so_c | refine nm_cN ?_ | refine nm_cH ?_ | refine nm_cI ?_ | refine ko_c ?_ | refine chk_c ?_ | refine ka_c (fun _ => ?_) | refine kr_c (fun _ => ?_))
theorem e_X4_init (a : Nat) (g : aH) : f_X4_init (z + a) (mvH z g) = mp z (f_X4_init a g) := by
  unfold f_X4_init
  repeat ((try simp only [sI_sh, sR_sh, sRn_sh, sL_sh]); first | exact so_c | refine nm_cN ?_ | refine nm_cH ?_ | refine nm_cI ?_ | refine ko_c ?_ | refine chk_c ?_ | refine ka_c (fun _ => ?_) | refine kr_c (fun _ => ?_))
theorem e_X7_init (a : Nat) (g : aH) : f_X7_init (z + a) (mvH z g) = mp z (f_X7_init a g) := by
  unfold f_X7_init
  repeat ((try simp only [sI_sh, sR_sh, sRn_sh, sL_sh]); first | exact so_c | refine nm_cN ?_ | refine nm_cH ?_ | refine nm_cI ?_ | refine ko_c ?_ | refine chk_c ?_ | refine ka_c (fun _ => ?_) | refine kr_c (fun _ => ?_))
theorem e_X5_init (a : Nat) (b : Nat) (g : aH) : f_X5_init (z + a) (z + b) (mvH z g) = mp z (f_X5_init a b g) := by
  unfold f_X5_init
  repeat ((try simp only [sI_sh, sR_sh, sRn_sh, sL_sh]); first | exact so_c | exact e_X7_init _ _ | refine nm_cN ?_ | refine nm_cH ?_ | refine nm_cI ?_ | refine ko_c ?_ | refine chk_c ?_ | refine ka_c (fun _ => ?_) | refine kr_c (fun _ => ?_) | refine bd_c (e_X7_init _ _) (fun _ _ => ?_))
theorem e_X8_init (a : Nat) (g : aH) : f_X8_init (z + a) (mvH z g) = mp z (f_X8_init a g) := by
  unfold f_X8_init
  repeat ((try simp only [sI_sh, sR_sh, sRn_sh, sL_sh]); first | exact so_c | refine nm_cN ?_ | refine nm_cH ?_ | refine nm_cI ?_ | refine ko_c ?_ | refine chk_c ?_ | refine ka_c (fun _ => ?_) | refine kr_c (fun _ => ?_))
theorem e_X0_init (a : Nat) (b : Nat) (g : aH) : f_X0_init (z + a) (z + b) (mvH z g) = mp z (f_X0_init a b g) := by
  unfold f_X0_init
  repeat ((try simp only [sI_sh, sR_sh, sRn_sh, sL_sh]); first | exact so_c | refine nm_cN ?_ | refine nm_cH ?_ | refine nm_cI ?_ | refine ko_c ?_ | refine chk_c ?_ | refine ka_c (fun _ => ?_) | refine kr_c (fun _ => ?_))
theorem e_X1_init (a : Nat) (b c : Nat) (g : aH) : f_X1_init (z + a) (z + b) (z + c) (mvH z g) = mp z (f_X1_init a b c g) := by
  unfold f_X1_init
  repeat ((try simp only [sI_sh, sR_sh, sRn_sh, sL_sh]); first | exact so_c | refine nm_cN ?_ | refine nm_cH ?_ | refine nm_cI ?_ | refine ko_c ?_ | refine chk_c ?_ | refine ka_c (fun _ => ?_) | refine kr_c (fun _ => ?_))
theorem e_X11_init (a : Nat) (g : aH) : f_X11_init (z + a) (mvH z g) = mp z (f_X11_init a g) := by
  unfold f_X11_init
  repeat ((try simp only [sI_sh, sR_sh, sRn_sh, sL_sh]); first | exact so_c | exact e_X9_init _ _ | exact e_X2_init _ _ | exact e_X3_init _ _ | exact e_X4_init _ _ | exact e_X5_init _ _ _ | exact e_X8_init _ _ | exact e_X0_init _ _ _ | exact e_X1_init _ _ _ _ | refine nm_cN ?_ | refine nm_cH ?_ | refine nm_cI ?_ | refine ko_c ?_ | refine chk_c ?_ | refine ka_c (fun _ => ?_) | refine kr_c (fun _ => ?_) | refine bd_c (e_X9_init _ _) (fun _ _ => ?_) | refine bd_c (e_X2_init _ _) (fun _ _ => ?_) | refine bd_c (e_X3_init _ _) (fun _ _ => ?_) | refine bd_c (e_X4_init _ _) (fun _ _ => ?_) | refine bd_c (e_X5_init _ _ _) (fun _ _ => ?_) | refine bd_c (e_X8_init _ _) (fun _ _ => ?_) | refine bd_c (e_X0_init _ _ _) (fun _ _ => ?_) | refine bd_c (e_X1_init _ _ _ _) (fun _ _ => ?_))
end Pg
