/-! gaps between objects -/
/-- the objects of a State: how many, where each begins, how long each is -/
def OB (h : aH) (s n : Nat) (B L : Nat → Nat) : Prop := hI h s 6 = nI n ∧ n ≤ 32 ∧ (∀ i, i < n → hI h (s + 2) i = nI (B i) ∧ hI h (s + 3) i = nI (L i) ∧ B i ≤ 1024 ∧ L i ≤ 1024)
def gst (B L : Nat → Nat) (g : Nat) : Nat := if g = 0 then 16 else B (g - 1) + L (g - 1)
def gen_ (n mem : Nat) (B : Nat → Nat) (g : Nat) : Nat := if g < n then B g else mem
section Ga
variable {h : aH} {s n mem : Nat} {B L : Nat → Nat}
theorem s_gapStart (S : SS h s) (O : OB h s n B L) {g : Nat} (hg : g ≤ n) : f_X9_gapStart s (nI g) h = some (nI (gst B L g), h) := by
  obtain ⟨o1, o2, o3⟩ := O
  simp only [f_X9_gapStart, f_X9_gapStart_33, f_X9_gapStart_35, ko_t S.k, o1]
  by_cases g0 : g = 0
  · subst g0
    rw [if_pos (by decide)]
    rfl
  · rw [if_neg (show ¬ nI g < (1 : Int32) from nI_nlt (b := 1) (by omega) (by omega)), if_neg (nI_nlt hg (by omega))]
    have e1 : nI g - 1 = nI (g - 1) := pk_sub (b := 1) (by omega)
    obtain ⟨q1, q2, q3, q4⟩ := o3 (g - 1) (by omega)
    simp only [kr_t S.r1, ka_t S.k2, e1, chk_t (inb_nI (show g - 1 < 32 by omega) (show 32 < 2 ^ 31 by omega)), kr_t S.r2, ka_t S.k3, tn_nI (show g - 1 < 2 ^ 31 by omega), q1, q2, nI_add, gst, if_neg g0]
theorem s_gapLength (S : SS h s) (O : OB h s n B L) {g : Nat} (hg : g ≤ n) (hle : gst B L g ≤ gen_ n mem B g) (hm : mem ≤ 1024) : f_X9_gapLength s (nI g) (nI mem) h = some (nI (gen_ n mem B g - gst B L g), h) := by
  have G := s_gapStart S O hg
  obtain ⟨o1, o2, o3⟩ := O
  simp only [f_X9_gapLength, f_X9_gapLength_21, f_X9_gapLength_22, ko_t S.k, o1, if_neg (nI_pos (show g < 2 ^ 31 by omega)), G, bd_s]
  by_cases gn : g < n
  · rw [if_neg (nI_ge gn (by omega))]
    obtain ⟨q1, q2, q3, q4⟩ := o3 g gn
    have hge : gen_ n mem B g = B g := if_pos gn
    rw [hge] at hle ⊢
    simp only [kr_t S.r1, ka_t S.k2, chk_t (inb_nI (show g < 32 by omega) (show 32 < 2 ^ 31 by omega)), tn_nI (show g < 2 ^ 31 by omega), q1, pk_sub hle]
  · rw [if_pos (nI_le (by omega) (by omega))]
    have hge : gen_ n mem B g = mem := if_neg gn
    rw [hge] at hle ⊢
    rw [pk_sub hle]
/-- all gaps are none or some bytes -/
def GA (n mem : Nat) (B L : Nat → Nat) : Prop := ∀ g, g ≤ n → gst B L g ≤ gen_ n mem B g
def cntG (n mem : Nat) (B L : Nat → Nat) (g : Nat) (acc : Int32) : Int32 := if gen_ n mem B g - gst B L g = 0 then acc else acc + 1
theorem s_countHoles (S : SS h s) (O : OB h s n B L) (A : GA n mem B L) (hm : mem ≤ 1024) : f_X9_countHoles s (nI mem) h = some (itr (cntG n mem B L) (n + 1) 0 0, h) := by
  obtain ⟨o1, o2, -⟩ := id O
  have := (loop_itr (fun k i acc => f_X9_countHoles_4 k s (nI mem) acc (nI i) h) (n + 1) (cntG n mem B L) (fun r => (r, h)) (fun _ _ => True) (fun k i acc hi _ => ⟨?_, trivial⟩) (fun k acc _ => ?_) (n + 1) 0 0 FU (by omega) trivial (FU_gt (by omega))).1
  · exact this
  · have h1 : ¬ nI n < nI i := nI_nlt (by omega) (by omega)
    simp only [f_X9_countHoles_4, b_X9_countHoles_4, f_X9_countHoles_24, ko_t S.k, o1, if_neg h1, s_gapLength S O (show i ≤ n by omega) (A i (by omega)) hm, bd_s, nm, nI_1, cntG]
    have hb : gen_ n mem B i - gst B L i ≤ 1024 := by
      unfold gen_
      split
      · next q => have := (O.2.2 i q).2.2.1; omega
      · omega
    by_cases c : gen_ n mem B i - gst B L i = 0
    · rw [if_pos (show nI (gen_ n mem B i - gst B L i) ≤ 0 by rw [c]; decide), if_pos c]
    · rw [if_neg (nI_nle (by omega) (by omega)), if_neg c]
  · have h1 : nI n < nI (n + 1) := nI_lt (by omega) (by omega)
    simp only [f_X9_countHoles_4, b_X9_countHoles_4, ko_t S.k, o1, if_pos h1]
end Ga
