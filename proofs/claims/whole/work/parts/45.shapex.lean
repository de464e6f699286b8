def XS0 (h : aH) (x : Nat) : Prop := hK h x = some (.inl 10) ∧ hR h x 0 = some (x + 1) ∧ hR h x 1 = some (x + 2) ∧ hR h x 2 = some (x + 3) ∧ hR h x 3 = some (x + 42) ∧ hR h x 4 = some (x + 81) ∧ hR h x 5 = some (x + 83) ∧ hR h x 6 = some (x + 86) ∧ hR h x 7 = some (x + 87) ∧ hR h x 8 = some (x + 90)
def XS1 (h : aH) (x : Nat) : Prop := hR h x 11 = some (x + 104) ∧ hK h (x + 1) = some (.inr (.byte, 1600)) ∧ hK h (x + 2) = some (.inr (.int, 8)) ∧ hK h (x + 81) = some (.inl 2) ∧ hR h (x + 81) 2 = some (x + 82) ∧ hK h (x + 82) = some (.inr (.object RX9, 20)) ∧ hK h (x + 83) = some (.inl 0) ∧ hR h (x + 83) 0 = some (x + 4) ∧ hR h (x + 83) 1 = some (x + 84) ∧ hR h (x + 83) 2 = some (x + 85)
def XS2 (h : aH) (x : Nat) : Prop := hK h (x + 84) = some (.inr (.int, 17)) ∧ hK h (x + 85) = some (.inr (.int, 64)) ∧ hK h (x + 86) = some (.inl 1) ∧ hR h (x + 86) 3 = some (x + 3) ∧ hR h (x + 86) 4 = some (x + 83) ∧ hK h (x + 87) = some (.inl 8) ∧ hR h (x + 87) 3 = some (x + 88) ∧ hR h (x + 87) 4 = some (x + 89) ∧ hK h (x + 88) = some (.inr (.int, 16)) ∧ hK h (x + 89) = some (.inr (.boolean, 16))
def XS3 (h : aH) (x : Nat) : Prop := hK h (x + 90) = some (.inl 3) ∧ hR h (x + 90) 0 = some (x + 91) ∧ hK h (x + 91) = some (.inr (.byte, 450)) ∧ hK h (x + 92) = some (.inl 4) ∧ hR h (x + 92) 4 = some (x + 93) ∧ hR h (x + 92) 5 = some (x + 94) ∧ hR h (x + 92) 6 = some (x + 95) ∧ hR h (x + 92) 7 = some (x + 96) ∧ hR h (x + 92) 8 = some (x + 97) ∧ hK h (x + 93) = some (.inr (.byte, 24))
def XS4 (h : aH) (x : Nat) : Prop := hK h (x + 94) = some (.inr (.int, 4)) ∧ hK h (x + 95) = some (.inr (.int, 1600)) ∧ hK h (x + 96) = some (.inr (.int, 3)) ∧ hK h (x + 97) = some (.inr (.int, 3)) ∧ hK h (x + 98) = some (.inl 4) ∧ hR h (x + 98) 4 = some (x + 99) ∧ hR h (x + 98) 5 = some (x + 100) ∧ hR h (x + 98) 6 = some (x + 101) ∧ hR h (x + 98) 7 = some (x + 102) ∧ hR h (x + 98) 8 = some (x + 103)
def XS5 (h : aH) (x : Nat) : Prop := hK h (x + 99) = some (.inr (.byte, 24)) ∧ hK h (x + 100) = some (.inr (.int, 4)) ∧ hK h (x + 101) = some (.inr (.int, 1600)) ∧ hK h (x + 102) = some (.inr (.int, 3)) ∧ hK h (x + 103) = some (.inr (.int, 3)) ∧ hK h (x + 104) = some (.inl 5) ∧ hR h (x + 104) 2 = some (x + 105) ∧ hK h (x + 105) = some (.inl 7) ∧ hK h (x + 106) = some (.inr (.byte, 0))
def XS (h : aH) (x : Nat) : Prop := SS h (x + 3) ∧ SS h (x + 42) ∧ XS0 h x ∧ XS1 h x ∧ XS2 h x ∧ XS3 h x ∧ XS4 h x ∧ XS5 h x
section Xs
variable {h : aH} {x : Nat}
theorem XS.now (S : XS h x) : SS h (x + 3) := S.1
theorem XS.draft (S : XS h x) : SS h (x + 42) := S.2.1
theorem XS.k0 (S : XS h x) : hK h x = some (.inl 10) := S.2.2.1.1
theorem XS.r0_0 (S : XS h x) : hR h x 0 = some (x + 1) := S.2.2.1.2.1
theorem XS.r0_1 (S : XS h x) : hR h x 1 = some (x + 2) := S.2.2.1.2.2.1
theorem XS.r0_2 (S : XS h x) : hR h x 2 = some (x + 3) := S.2.2.1.2.2.2.1
theorem XS.r0_3 (S : XS h x) : hR h x 3 = some (x + 42) := S.2.2.1.2.2.2.2.1
theorem XS.r0_4 (S : XS h x) : hR h x 4 = some (x + 81) := S.2.2.1.2.2.2.2.2.1
theorem XS.r0_5 (S : XS h x) : hR h x 5 = some (x + 83) := S.2.2.1.2.2.2.2.2.2.1
theorem XS.r0_6 (S : XS h x) : hR h x 6 = some (x + 86) := S.2.2.1.2.2.2.2.2.2.2.1
theorem XS.r0_7 (S : XS h x) : hR h x 7 = some (x + 87) := S.2.2.1.2.2.2.2.2.2.2.2.1
theorem XS.r0_8 (S : XS h x) : hR h x 8 = some (x + 90) := S.2.2.1.2.2.2.2.2.2.2.2.2
theorem XS.r0_11 (S : XS h x) : hR h x 11 = some (x + 104) := S.2.2.2.1.1
theorem XS.k1 (S : XS h x) : hK h (x + 1) = some (.inr (.byte, 1600)) := S.2.2.2.1.2.1
theorem XS.k2 (S : XS h x) : hK h (x + 2) = some (.inr (.int, 8)) := S.2.2.2.1.2.2.1
theorem XS.k81 (S : XS h x) : hK h (x + 81) = some (.inl 2) := S.2.2.2.1.2.2.2.1
theorem XS.r81_2 (S : XS h x) : hR h (x + 81) 2 = some (x + 82) := S.2.2.2.1.2.2.2.2.1
theorem XS.k82 (S : XS h x) : hK h (x + 82) = some (.inr (.object RX9, 20)) := S.2.2.2.1.2.2.2.2.2.1
theorem XS.k83 (S : XS h x) : hK h (x + 83) = some (.inl 0) := S.2.2.2.1.2.2.2.2.2.2.1
theorem XS.r83_0 (S : XS h x) : hR h (x + 83) 0 = some (x + 4) := S.2.2.2.1.2.2.2.2.2.2.2.1
theorem XS.r83_1 (S : XS h x) : hR h (x + 83) 1 = some (x + 84) := S.2.2.2.1.2.2.2.2.2.2.2.2.1
theorem XS.r83_2 (S : XS h x) : hR h (x + 83) 2 = some (x + 85) := S.2.2.2.1.2.2.2.2.2.2.2.2.2
theorem XS.k84 (S : XS h x) : hK h (x + 84) = some (.inr (.int, 17)) := S.2.2.2.2.1.1
theorem XS.k85 (S : XS h x) : hK h (x + 85) = some (.inr (.int, 64)) := S.2.2.2.2.1.2.1
theorem XS.k86 (S : XS h x) : hK h (x + 86) = some (.inl 1) := S.2.2.2.2.1.2.2.1
theorem XS.r86_3 (S : XS h x) : hR h (x + 86) 3 = some (x + 3) := S.2.2.2.2.1.2.2.2.1
theorem XS.r86_4 (S : XS h x) : hR h (x + 86) 4 = some (x + 83) := S.2.2.2.2.1.2.2.2.2.1
theorem XS.k87 (S : XS h x) : hK h (x + 87) = some (.inl 8) := S.2.2.2.2.1.2.2.2.2.2.1
theorem XS.r87_3 (S : XS h x) : hR h (x + 87) 3 = some (x + 88) := S.2.2.2.2.1.2.2.2.2.2.2.1
theorem XS.r87_4 (S : XS h x) : hR h (x + 87) 4 = some (x + 89) := S.2.2.2.2.1.2.2.2.2.2.2.2.1
theorem XS.k88 (S : XS h x) : hK h (x + 88) = some (.inr (.int, 16)) := S.2.2.2.2.1.2.2.2.2.2.2.2.2.1
theorem XS.k89 (S : XS h x) : hK h (x + 89) = some (.inr (.boolean, 16)) := S.2.2.2.2.1.2.2.2.2.2.2.2.2.2
theorem XS.k90 (S : XS h x) : hK h (x + 90) = some (.inl 3) := S.2.2.2.2.2.1.1
theorem XS.r90_0 (S : XS h x) : hR h (x + 90) 0 = some (x + 91) := S.2.2.2.2.2.1.2.1
theorem XS.k91 (S : XS h x) : hK h (x + 91) = some (.inr (.byte, 450)) := S.2.2.2.2.2.1.2.2.1
theorem XS.k92 (S : XS h x) : hK h (x + 92) = some (.inl 4) := S.2.2.2.2.2.1.2.2.2.1
theorem XS.r92_4 (S : XS h x) : hR h (x + 92) 4 = some (x + 93) := S.2.2.2.2.2.1.2.2.2.2.1
theorem XS.r92_5 (S : XS h x) : hR h (x + 92) 5 = some (x + 94) := S.2.2.2.2.2.1.2.2.2.2.2.1
theorem XS.r92_6 (S : XS h x) : hR h (x + 92) 6 = some (x + 95) := S.2.2.2.2.2.1.2.2.2.2.2.2.1
theorem XS.r92_7 (S : XS h x) : hR h (x + 92) 7 = some (x + 96) := S.2.2.2.2.2.1.2.2.2.2.2.2.2.1
theorem XS.r92_8 (S : XS h x) : hR h (x + 92) 8 = some (x + 97) := S.2.2.2.2.2.1.2.2.2.2.2.2.2.2.1
theorem XS.k93 (S : XS h x) : hK h (x + 93) = some (.inr (.byte, 24)) := S.2.2.2.2.2.1.2.2.2.2.2.2.2.2.2
theorem XS.k94 (S : XS h x) : hK h (x + 94) = some (.inr (.int, 4)) := S.2.2.2.2.2.2.1.1
theorem XS.k95 (S : XS h x) : hK h (x + 95) = some (.inr (.int, 1600)) := S.2.2.2.2.2.2.1.2.1
theorem XS.k96 (S : XS h x) : hK h (x + 96) = some (.inr (.int, 3)) := S.2.2.2.2.2.2.1.2.2.1
theorem XS.k97 (S : XS h x) : hK h (x + 97) = some (.inr (.int, 3)) := S.2.2.2.2.2.2.1.2.2.2.1
theorem XS.k98 (S : XS h x) : hK h (x + 98) = some (.inl 4) := S.2.2.2.2.2.2.1.2.2.2.2.1
theorem XS.r98_4 (S : XS h x) : hR h (x + 98) 4 = some (x + 99) := S.2.2.2.2.2.2.1.2.2.2.2.2.1
theorem XS.r98_5 (S : XS h x) : hR h (x + 98) 5 = some (x + 100) := S.2.2.2.2.2.2.1.2.2.2.2.2.2.1
theorem XS.r98_6 (S : XS h x) : hR h (x + 98) 6 = some (x + 101) := S.2.2.2.2.2.2.1.2.2.2.2.2.2.2.1
theorem XS.r98_7 (S : XS h x) : hR h (x + 98) 7 = some (x + 102) := S.2.2.2.2.2.2.1.2.2.2.2.2.2.2.2.1
theorem XS.r98_8 (S : XS h x) : hR h (x + 98) 8 = some (x + 103) := S.2.2.2.2.2.2.1.2.2.2.2.2.2.2.2.2
theorem XS.k99 (S : XS h x) : hK h (x + 99) = some (.inr (.byte, 24)) := S.2.2.2.2.2.2.2.1
theorem XS.k100 (S : XS h x) : hK h (x + 100) = some (.inr (.int, 4)) := S.2.2.2.2.2.2.2.2.1
theorem XS.k101 (S : XS h x) : hK h (x + 101) = some (.inr (.int, 1600)) := S.2.2.2.2.2.2.2.2.2.1
theorem XS.k102 (S : XS h x) : hK h (x + 102) = some (.inr (.int, 3)) := S.2.2.2.2.2.2.2.2.2.2.1
theorem XS.k103 (S : XS h x) : hK h (x + 103) = some (.inr (.int, 3)) := S.2.2.2.2.2.2.2.2.2.2.2.1
theorem XS.k104 (S : XS h x) : hK h (x + 104) = some (.inl 5) := S.2.2.2.2.2.2.2.2.2.2.2.2.1
theorem XS.r104_2 (S : XS h x) : hR h (x + 104) 2 = some (x + 105) := S.2.2.2.2.2.2.2.2.2.2.2.2.2.1
theorem XS.k105 (S : XS h x) : hK h (x + 105) = some (.inl 7) := S.2.2.2.2.2.2.2.2.2.2.2.2.2.2.1
theorem XS.k106 (S : XS h x) : hK h (x + 106) = some (.inr (.byte, 0)) := S.2.2.2.2.2.2.2.2.2.2.2.2.2.2.2
theorem XS.of {h1 : aH} (S : XS h x) (e1 : hK h1 = hK h) (e2 : hR h1 = hR h) : XS h1 x := by
  simp only [XS, SS, XS0, XS1, XS2, XS3, XS4, XS5] at S ⊢
  rw [e1, e2]
  exact S
end Xs
