def MS0 (h : aH) (m : Nat) : Prop := hK h m = some (.inl 11) ∧ hR h m 0 = some (m + 1) ∧ hK h (m + 1) = some (.inr (.int, 1600)) ∧ hR h m 9 = some (m + 2) ∧ hK h (m + 2) = some (.inr (.int, 8)) ∧ hR h m 11 = some (m + 3) ∧ hK h (m + 3) = some (.inr (.char, 6)) ∧ hR h m 12 = some (m + 4) ∧ hK h (m + 4) = some (.inr (.char, 8)) ∧ hR h m 13 = some (m + 5)
def MS1 (h : aH) (m : Nat) : Prop := hK h (m + 5) = some (.inr (.char, 5)) ∧ hR h m 14 = some (m + 6) ∧ hK h (m + 6) = some (.inr (.char, 4)) ∧ hR h m 15 = some (m + 7) ∧ hK h (m + 7) = some (.inr (.char, 5)) ∧ hR h m 16 = some (m + 8) ∧ hK h (m + 8) = some (.inr (.char, 4)) ∧ hR h m 17 = some (m + 9) ∧ hK h (m + 9) = some (.inr (.char, 5)) ∧ hR h m 18 = some (m + 10)
def MS2 (h : aH) (m : Nat) : Prop := hK h (m + 10) = some (.inr (.char, 4)) ∧ hR h m 19 = some (m + 11) ∧ hK h (m + 11) = some (.inr (.char, 5)) ∧ hR h m 20 = some (m + 12) ∧ hK h (m + 12) = some (.inr (.char, 4)) ∧ hR h m 21 = some (m + 13) ∧ hK h (m + 13) = some (.inr (.char, 2)) ∧ hR h m 22 = some (m + 14) ∧ hK h (m + 14) = some (.inr (.char, 4)) ∧ hR h m 23 = some (m + 15)
def MS3 (h : aH) (m : Nat) : Prop := hK h (m + 15) = some (.inr (.char, 6)) ∧ hR h m 24 = some (m + 16) ∧ hK h (m + 16) = some (.inr (.char, 5)) ∧ hR h m 25 = some (m + 17) ∧ hK h (m + 17) = some (.inr (.char, 6)) ∧ hR h m 26 = some (m + 18) ∧ hK h (m + 18) = some (.inr (.char, 3)) ∧ hR h m 27 = some (m + 19) ∧ hK h (m + 19) = some (.inr (.char, 5)) ∧ hR h m 28 = some (m + 20)
def MS4 (h : aH) (m : Nat) : Prop := hK h (m + 20) = some (.inr (.char, 4)) ∧ hR h m 29 = some (m + 21) ∧ hK h (m + 21) = some (.inr (.char, 4)) ∧ hR h m 30 = some (m + 22) ∧ hK h (m + 22) = some (.inr (.char, 2)) ∧ hR h m 31 = some (m + 23) ∧ hK h (m + 23) = some (.inr (.char, 3)) ∧ hR h m 32 = some (m + 24) ∧ hK h (m + 24) = some (.inr (.char, 3)) ∧ hR h m 33 = some (m + 25)
def MS5 (h : aH) (m : Nat) : Prop := hK h (m + 25) = some (.inr (.char, 3)) ∧ hR h m 34 = some (m + 26) ∧ hK h (m + 26) = some (.inr (.char, 3)) ∧ hR h m 35 = some (m + 27) ∧ hK h (m + 27) = some (.inr (.char, 3)) ∧ hR h m 37 = some (m + 28) ∧ hK h (m + 28) = some (.inr (.int, 6)) ∧ hR h m 38 = some (m + 29) ∧ hK h (m + 29) = some (.inr (.long, 8)) ∧ hR h m 39 = some (m + 30)
def MS6 (h : aH) (m : Nat) : Prop := hK h (m + 30) = some (.inr (.int, 8)) ∧ hR h m 40 = some (m + 31) ∧ hK h (m + 31) = some (.inr (.int, 6)) ∧ hR h m 41 = some (m + 32) ∧ hK h (m + 32) = some (.inr (.int, 6)) ∧ hR h m 42 = some (m + 33) ∧ hK h (m + 33) = some (.inr (.int, 3200)) ∧ hR h m 47 = some (m + 34) ∧ hK h (m + 34) = some (.inr (.int, 1498)) ∧ hR h m 56 = some (m + 35)
def MS7 (h : aH) (m : Nat) : Prop := hK h (m + 35) = some (.inr (.int, 66)) ∧ hR h m 59 = some (m + 36) ∧ hK h (m + 36) = some (.inr (.int, 32)) ∧ hR h m 60 = some (m + 37) ∧ hK h (m + 37) = some (.inr (.boolean, 4096)) ∧ hR h m 62 = some (m + 38) ∧ hK h (m + 38) = some (.inr (.int, 29960)) ∧ hR h m 66 = some (m + 39) ∧ hK h (m + 39) = some (.inr (.char, 5)) ∧ hR h m 67 = some (m + 40)
def MS8 (h : aH) (m : Nat) : Prop := hK h (m + 40) = some (.inr (.char, 4)) ∧ hR h m 68 = some (m + 41) ∧ hK h (m + 41) = some (.inr (.char, 5)) ∧ hR h m 69 = some (m + 42) ∧ hK h (m + 42) = some (.inr (.char, 5)) ∧ hR h m 70 = some (m + 43) ∧ hK h (m + 43) = some (.inr (.char, 4)) ∧ hR h m 71 = some (m + 44) ∧ hK h (m + 44) = some (.inr (.char, 5)) ∧ hR h m 72 = some (m + 45)
def MS9 (h : aH) (m : Nat) : Prop := hK h (m + 45) = some (.inr (.char, 3)) ∧ hR h m 73 = some (m + 46) ∧ hK h (m + 46) = some (.inr (.char, 3)) ∧ hR h m 74 = some (m + 47) ∧ hK h (m + 47) = some (.inr (.char, 2)) ∧ hR h m 75 = some (m + 48) ∧ hK h (m + 48) = some (.inr (.char, 3)) ∧ hR h m 76 = some (m + 49) ∧ hK h (m + 49) = some (.inr (.char, 3)) ∧ hR h m 77 = some (m + 50)
def MS10 (h : aH) (m : Nat) : Prop := hK h (m + 50) = some (.inr (.char, 3)) ∧ hR h m 78 = some (m + 51) ∧ hK h (m + 51) = some (.inr (.char, 4)) ∧ hR h m 79 = some (m + 52) ∧ hK h (m + 52) = some (.inr (.char, 5)) ∧ hR h m 80 = some (m + 53) ∧ hK h (m + 53) = some (.inr (.char, 4)) ∧ hR h m 81 = some (m + 54) ∧ hK h (m + 54) = some (.inr (.char, 2)) ∧ hR h m 82 = some (m + 55)
def MS11 (h : aH) (m : Nat) : Prop := hK h (m + 55) = some (.inr (.char, 4)) ∧ hR h m 83 = some (m + 56) ∧ hK h (m + 56) = some (.inr (.char, 6)) ∧ hR h m 84 = some (m + 57) ∧ hK h (m + 57) = some (.inr (.char, 5)) ∧ hR h m 85 = some (m + 58) ∧ hK h (m + 58) = some (.inr (.char, 6)) ∧ hR h m 86 = some (m + 59) ∧ hK h (m + 59) = some (.inr (.char, 3)) ∧ hR h m 87 = some (m + 60)
def MS12 (h : aH) (m : Nat) : Prop := hK h (m + 60) = some (.inr (.char, 4)) ∧ hR h m 88 = some (m + 61) ∧ hK h (m + 61) = some (.inr (.char, 5)) ∧ hR h m 89 = some (m + 62) ∧ hK h (m + 62) = some (.inr (.char, 4)) ∧ hR h m 90 = some (m + 63) ∧ hK h (m + 63) = some (.inr (.char, 4)) ∧ hR h m 91 = some (m + 64) ∧ hK h (m + 64) = some (.inr (.int, 1700)) ∧ hR h m 93 = some (m + 65)
def MS13 (h : aH) (m : Nat) : Prop := hK h (m + 65) = some (.inr (.int, 1700)) ∧ hR h m 97 = some (m + 66) ∧ hK h (m + 66) = some (.inr (.long, 1700)) ∧ hR h m 101 = some (m + 67) ∧ hK h (m + 67) = some (.inr (.int, 450))
def MS (h : aH) (m : Nat) : Prop := MS0 h m ∧ MS1 h m ∧ MS2 h m ∧ MS3 h m ∧ MS4 h m ∧ MS5 h m ∧ MS6 h m ∧ MS7 h m ∧ MS8 h m ∧ MS9 h m ∧ MS10 h m ∧ MS11 h m ∧ MS12 h m ∧ MS13 h m
section Ms
variable {h : aH} {m : Nat}
theorem MS.k (S : MS h m) : hK h m = some (.inl 11) := S.1.1
theorem MS.r0 (S : MS h m) : hR h m 0 = some (m + 1) := S.1.2.1
theorem MS.k0 (S : MS h m) : hK h (m + 1) = some (.inr (.int, 1600)) := S.1.2.2.1
theorem MS.r9 (S : MS h m) : hR h m 9 = some (m + 2) := S.1.2.2.2.1
theorem MS.k9 (S : MS h m) : hK h (m + 2) = some (.inr (.int, 8)) := S.1.2.2.2.2.1
theorem MS.r11 (S : MS h m) : hR h m 11 = some (m + 3) := S.1.2.2.2.2.2.1
theorem MS.k11 (S : MS h m) : hK h (m + 3) = some (.inr (.char, 6)) := S.1.2.2.2.2.2.2.1
theorem MS.r12 (S : MS h m) : hR h m 12 = some (m + 4) := S.1.2.2.2.2.2.2.2.1
theorem MS.k12 (S : MS h m) : hK h (m + 4) = some (.inr (.char, 8)) := S.1.2.2.2.2.2.2.2.2.1
theorem MS.r13 (S : MS h m) : hR h m 13 = some (m + 5) := S.1.2.2.2.2.2.2.2.2.2
theorem MS.k13 (S : MS h m) : hK h (m + 5) = some (.inr (.char, 5)) := S.2.1.1
theorem MS.r14 (S : MS h m) : hR h m 14 = some (m + 6) := S.2.1.2.1
theorem MS.k14 (S : MS h m) : hK h (m + 6) = some (.inr (.char, 4)) := S.2.1.2.2.1
theorem MS.r15 (S : MS h m) : hR h m 15 = some (m + 7) := S.2.1.2.2.2.1
theorem MS.k15 (S : MS h m) : hK h (m + 7) = some (.inr (.char, 5)) := S.2.1.2.2.2.2.1
theorem MS.r16 (S : MS h m) : hR h m 16 = some (m + 8) := S.2.1.2.2.2.2.2.1
theorem MS.k16 (S : MS h m) : hK h (m + 8) = some (.inr (.char, 4)) := S.2.1.2.2.2.2.2.2.1
theorem MS.r17 (S : MS h m) : hR h m 17 = some (m + 9) := S.2.1.2.2.2.2.2.2.2.1
theorem MS.k17 (S : MS h m) : hK h (m + 9) = some (.inr (.char, 5)) := S.2.1.2.2.2.2.2.2.2.2.1
theorem MS.r18 (S : MS h m) : hR h m 18 = some (m + 10) := S.2.1.2.2.2.2.2.2.2.2.2
theorem MS.k18 (S : MS h m) : hK h (m + 10) = some (.inr (.char, 4)) := S.2.2.1.1
theorem MS.r19 (S : MS h m) : hR h m 19 = some (m + 11) := S.2.2.1.2.1
theorem MS.k19 (S : MS h m) : hK h (m + 11) = some (.inr (.char, 5)) := S.2.2.1.2.2.1
theorem MS.r20 (S : MS h m) : hR h m 20 = some (m + 12) := S.2.2.1.2.2.2.1
theorem MS.k20 (S : MS h m) : hK h (m + 12) = some (.inr (.char, 4)) := S.2.2.1.2.2.2.2.1
theorem MS.r21 (S : MS h m) : hR h m 21 = some (m + 13) := S.2.2.1.2.2.2.2.2.1
theorem MS.k21 (S : MS h m) : hK h (m + 13) = some (.inr (.char, 2)) := S.2.2.1.2.2.2.2.2.2.1
theorem MS.r22 (S : MS h m) : hR h m 22 = some (m + 14) := S.2.2.1.2.2.2.2.2.2.2.1
theorem MS.k22 (S : MS h m) : hK h (m + 14) = some (.inr (.char, 4)) := S.2.2.1.2.2.2.2.2.2.2.2.1
theorem MS.r23 (S : MS h m) : hR h m 23 = some (m + 15) := S.2.2.1.2.2.2.2.2.2.2.2.2
theorem MS.k23 (S : MS h m) : hK h (m + 15) = some (.inr (.char, 6)) := S.2.2.2.1.1
theorem MS.r24 (S : MS h m) : hR h m 24 = some (m + 16) := S.2.2.2.1.2.1
theorem MS.k24 (S : MS h m) : hK h (m + 16) = some (.inr (.char, 5)) := S.2.2.2.1.2.2.1
theorem MS.r25 (S : MS h m) : hR h m 25 = some (m + 17) := S.2.2.2.1.2.2.2.1
theorem MS.k25 (S : MS h m) : hK h (m + 17) = some (.inr (.char, 6)) := S.2.2.2.1.2.2.2.2.1
theorem MS.r26 (S : MS h m) : hR h m 26 = some (m + 18) := S.2.2.2.1.2.2.2.2.2.1
theorem MS.k26 (S : MS h m) : hK h (m + 18) = some (.inr (.char, 3)) := S.2.2.2.1.2.2.2.2.2.2.1
theorem MS.r27 (S : MS h m) : hR h m 27 = some (m + 19) := S.2.2.2.1.2.2.2.2.2.2.2.1
theorem MS.k27 (S : MS h m) : hK h (m + 19) = some (.inr (.char, 5)) := S.2.2.2.1.2.2.2.2.2.2.2.2.1
theorem MS.r28 (S : MS h m) : hR h m 28 = some (m + 20) := S.2.2.2.1.2.2.2.2.2.2.2.2.2
theorem MS.k28 (S : MS h m) : hK h (m + 20) = some (.inr (.char, 4)) := S.2.2.2.2.1.1
theorem MS.r29 (S : MS h m) : hR h m 29 = some (m + 21) := S.2.2.2.2.1.2.1
theorem MS.k29 (S : MS h m) : hK h (m + 21) = some (.inr (.char, 4)) := S.2.2.2.2.1.2.2.1
theorem MS.r30 (S : MS h m) : hR h m 30 = some (m + 22) := S.2.2.2.2.1.2.2.2.1
theorem MS.k30 (S : MS h m) : hK h (m + 22) = some (.inr (.char, 2)) := S.2.2.2.2.1.2.2.2.2.1
theorem MS.r31 (S : MS h m) : hR h m 31 = some (m + 23) := S.2.2.2.2.1.2.2.2.2.2.1
theorem MS.k31 (S : MS h m) : hK h (m + 23) = some (.inr (.char, 3)) := S.2.2.2.2.1.2.2.2.2.2.2.1
theorem MS.r32 (S : MS h m) : hR h m 32 = some (m + 24) := S.2.2.2.2.1.2.2.2.2.2.2.2.1
theorem MS.k32 (S : MS h m) : hK h (m + 24) = some (.inr (.char, 3)) := S.2.2.2.2.1.2.2.2.2.2.2.2.2.1
theorem MS.r33 (S : MS h m) : hR h m 33 = some (m + 25) := S.2.2.2.2.1.2.2.2.2.2.2.2.2.2
theorem MS.k33 (S : MS h m) : hK h (m + 25) = some (.inr (.char, 3)) := S.2.2.2.2.2.1.1
theorem MS.r34 (S : MS h m) : hR h m 34 = some (m + 26) := S.2.2.2.2.2.1.2.1
theorem MS.k34 (S : MS h m) : hK h (m + 26) = some (.inr (.char, 3)) := S.2.2.2.2.2.1.2.2.1
theorem MS.r35 (S : MS h m) : hR h m 35 = some (m + 27) := S.2.2.2.2.2.1.2.2.2.1
theorem MS.k35 (S : MS h m) : hK h (m + 27) = some (.inr (.char, 3)) := S.2.2.2.2.2.1.2.2.2.2.1
theorem MS.r37 (S : MS h m) : hR h m 37 = some (m + 28) := S.2.2.2.2.2.1.2.2.2.2.2.1
theorem MS.k37 (S : MS h m) : hK h (m + 28) = some (.inr (.int, 6)) := S.2.2.2.2.2.1.2.2.2.2.2.2.1
theorem MS.r38 (S : MS h m) : hR h m 38 = some (m + 29) := S.2.2.2.2.2.1.2.2.2.2.2.2.2.1
theorem MS.k38 (S : MS h m) : hK h (m + 29) = some (.inr (.long, 8)) := S.2.2.2.2.2.1.2.2.2.2.2.2.2.2.1
theorem MS.r39 (S : MS h m) : hR h m 39 = some (m + 30) := S.2.2.2.2.2.1.2.2.2.2.2.2.2.2.2
theorem MS.k39 (S : MS h m) : hK h (m + 30) = some (.inr (.int, 8)) := S.2.2.2.2.2.2.1.1
theorem MS.r40 (S : MS h m) : hR h m 40 = some (m + 31) := S.2.2.2.2.2.2.1.2.1
theorem MS.k40 (S : MS h m) : hK h (m + 31) = some (.inr (.int, 6)) := S.2.2.2.2.2.2.1.2.2.1
theorem MS.r41 (S : MS h m) : hR h m 41 = some (m + 32) := S.2.2.2.2.2.2.1.2.2.2.1
theorem MS.k41 (S : MS h m) : hK h (m + 32) = some (.inr (.int, 6)) := S.2.2.2.2.2.2.1.2.2.2.2.1
theorem MS.r42 (S : MS h m) : hR h m 42 = some (m + 33) := S.2.2.2.2.2.2.1.2.2.2.2.2.1
theorem MS.k42 (S : MS h m) : hK h (m + 33) = some (.inr (.int, 3200)) := S.2.2.2.2.2.2.1.2.2.2.2.2.2.1
theorem MS.r47 (S : MS h m) : hR h m 47 = some (m + 34) := S.2.2.2.2.2.2.1.2.2.2.2.2.2.2.1
theorem MS.k47 (S : MS h m) : hK h (m + 34) = some (.inr (.int, 1498)) := S.2.2.2.2.2.2.1.2.2.2.2.2.2.2.2.1
theorem MS.r56 (S : MS h m) : hR h m 56 = some (m + 35) := S.2.2.2.2.2.2.1.2.2.2.2.2.2.2.2.2
theorem MS.k56 (S : MS h m) : hK h (m + 35) = some (.inr (.int, 66)) := S.2.2.2.2.2.2.2.1.1
theorem MS.r59 (S : MS h m) : hR h m 59 = some (m + 36) := S.2.2.2.2.2.2.2.1.2.1
theorem MS.k59 (S : MS h m) : hK h (m + 36) = some (.inr (.int, 32)) := S.2.2.2.2.2.2.2.1.2.2.1
theorem MS.r60 (S : MS h m) : hR h m 60 = some (m + 37) := S.2.2.2.2.2.2.2.1.2.2.2.1
theorem MS.k60 (S : MS h m) : hK h (m + 37) = some (.inr (.boolean, 4096)) := S.2.2.2.2.2.2.2.1.2.2.2.2.1
theorem MS.r62 (S : MS h m) : hR h m 62 = some (m + 38) := S.2.2.2.2.2.2.2.1.2.2.2.2.2.1
theorem MS.k62 (S : MS h m) : hK h (m + 38) = some (.inr (.int, 29960)) := S.2.2.2.2.2.2.2.1.2.2.2.2.2.2.1
theorem MS.r66 (S : MS h m) : hR h m 66 = some (m + 39) := S.2.2.2.2.2.2.2.1.2.2.2.2.2.2.2.1
theorem MS.k66 (S : MS h m) : hK h (m + 39) = some (.inr (.char, 5)) := S.2.2.2.2.2.2.2.1.2.2.2.2.2.2.2.2.1
theorem MS.r67 (S : MS h m) : hR h m 67 = some (m + 40) := S.2.2.2.2.2.2.2.1.2.2.2.2.2.2.2.2.2
theorem MS.k67 (S : MS h m) : hK h (m + 40) = some (.inr (.char, 4)) := S.2.2.2.2.2.2.2.2.1.1
theorem MS.r68 (S : MS h m) : hR h m 68 = some (m + 41) := S.2.2.2.2.2.2.2.2.1.2.1
theorem MS.k68 (S : MS h m) : hK h (m + 41) = some (.inr (.char, 5)) := S.2.2.2.2.2.2.2.2.1.2.2.1
theorem MS.r69 (S : MS h m) : hR h m 69 = some (m + 42) := S.2.2.2.2.2.2.2.2.1.2.2.2.1
theorem MS.k69 (S : MS h m) : hK h (m + 42) = some (.inr (.char, 5)) := S.2.2.2.2.2.2.2.2.1.2.2.2.2.1
theorem MS.r70 (S : MS h m) : hR h m 70 = some (m + 43) := S.2.2.2.2.2.2.2.2.1.2.2.2.2.2.1
theorem MS.k70 (S : MS h m) : hK h (m + 43) = some (.inr (.char, 4)) := S.2.2.2.2.2.2.2.2.1.2.2.2.2.2.2.1
theorem MS.r71 (S : MS h m) : hR h m 71 = some (m + 44) := S.2.2.2.2.2.2.2.2.1.2.2.2.2.2.2.2.1
theorem MS.k71 (S : MS h m) : hK h (m + 44) = some (.inr (.char, 5)) := S.2.2.2.2.2.2.2.2.1.2.2.2.2.2.2.2.2.1
theorem MS.r72 (S : MS h m) : hR h m 72 = some (m + 45) := S.2.2.2.2.2.2.2.2.1.2.2.2.2.2.2.2.2.2
theorem MS.k72 (S : MS h m) : hK h (m + 45) = some (.inr (.char, 3)) := S.2.2.2.2.2.2.2.2.2.1.1
theorem MS.r73 (S : MS h m) : hR h m 73 = some (m + 46) := S.2.2.2.2.2.2.2.2.2.1.2.1
theorem MS.k73 (S : MS h m) : hK h (m + 46) = some (.inr (.char, 3)) := S.2.2.2.2.2.2.2.2.2.1.2.2.1
theorem MS.r74 (S : MS h m) : hR h m 74 = some (m + 47) := S.2.2.2.2.2.2.2.2.2.1.2.2.2.1
theorem MS.k74 (S : MS h m) : hK h (m + 47) = some (.inr (.char, 2)) := S.2.2.2.2.2.2.2.2.2.1.2.2.2.2.1
theorem MS.r75 (S : MS h m) : hR h m 75 = some (m + 48) := S.2.2.2.2.2.2.2.2.2.1.2.2.2.2.2.1
theorem MS.k75 (S : MS h m) : hK h (m + 48) = some (.inr (.char, 3)) := S.2.2.2.2.2.2.2.2.2.1.2.2.2.2.2.2.1
theorem MS.r76 (S : MS h m) : hR h m 76 = some (m + 49) := S.2.2.2.2.2.2.2.2.2.1.2.2.2.2.2.2.2.1
theorem MS.k76 (S : MS h m) : hK h (m + 49) = some (.inr (.char, 3)) := S.2.2.2.2.2.2.2.2.2.1.2.2.2.2.2.2.2.2.1
theorem MS.r77 (S : MS h m) : hR h m 77 = some (m + 50) := S.2.2.2.2.2.2.2.2.2.1.2.2.2.2.2.2.2.2.2
theorem MS.k77 (S : MS h m) : hK h (m + 50) = some (.inr (.char, 3)) := S.2.2.2.2.2.2.2.2.2.2.1.1
theorem MS.r78 (S : MS h m) : hR h m 78 = some (m + 51) := S.2.2.2.2.2.2.2.2.2.2.1.2.1
theorem MS.k78 (S : MS h m) : hK h (m + 51) = some (.inr (.char, 4)) := S.2.2.2.2.2.2.2.2.2.2.1.2.2.1
theorem MS.r79 (S : MS h m) : hR h m 79 = some (m + 52) := S.2.2.2.2.2.2.2.2.2.2.1.2.2.2.1
theorem MS.k79 (S : MS h m) : hK h (m + 52) = some (.inr (.char, 5)) := S.2.2.2.2.2.2.2.2.2.2.1.2.2.2.2.1
theorem MS.r80 (S : MS h m) : hR h m 80 = some (m + 53) := S.2.2.2.2.2.2.2.2.2.2.1.2.2.2.2.2.1
theorem MS.k80 (S : MS h m) : hK h (m + 53) = some (.inr (.char, 4)) := S.2.2.2.2.2.2.2.2.2.2.1.2.2.2.2.2.2.1
theorem MS.r81 (S : MS h m) : hR h m 81 = some (m + 54) := S.2.2.2.2.2.2.2.2.2.2.1.2.2.2.2.2.2.2.1
theorem MS.k81 (S : MS h m) : hK h (m + 54) = some (.inr (.char, 2)) := S.2.2.2.2.2.2.2.2.2.2.1.2.2.2.2.2.2.2.2.1
theorem MS.r82 (S : MS h m) : hR h m 82 = some (m + 55) := S.2.2.2.2.2.2.2.2.2.2.1.2.2.2.2.2.2.2.2.2
theorem MS.k82 (S : MS h m) : hK h (m + 55) = some (.inr (.char, 4)) := S.2.2.2.2.2.2.2.2.2.2.2.1.1
theorem MS.r83 (S : MS h m) : hR h m 83 = some (m + 56) := S.2.2.2.2.2.2.2.2.2.2.2.1.2.1
theorem MS.k83 (S : MS h m) : hK h (m + 56) = some (.inr (.char, 6)) := S.2.2.2.2.2.2.2.2.2.2.2.1.2.2.1
theorem MS.r84 (S : MS h m) : hR h m 84 = some (m + 57) := S.2.2.2.2.2.2.2.2.2.2.2.1.2.2.2.1
theorem MS.k84 (S : MS h m) : hK h (m + 57) = some (.inr (.char, 5)) := S.2.2.2.2.2.2.2.2.2.2.2.1.2.2.2.2.1
theorem MS.r85 (S : MS h m) : hR h m 85 = some (m + 58) := S.2.2.2.2.2.2.2.2.2.2.2.1.2.2.2.2.2.1
theorem MS.k85 (S : MS h m) : hK h (m + 58) = some (.inr (.char, 6)) := S.2.2.2.2.2.2.2.2.2.2.2.1.2.2.2.2.2.2.1
theorem MS.r86 (S : MS h m) : hR h m 86 = some (m + 59) := S.2.2.2.2.2.2.2.2.2.2.2.1.2.2.2.2.2.2.2.1
theorem MS.k86 (S : MS h m) : hK h (m + 59) = some (.inr (.char, 3)) := S.2.2.2.2.2.2.2.2.2.2.2.1.2.2.2.2.2.2.2.2.1
theorem MS.r87 (S : MS h m) : hR h m 87 = some (m + 60) := S.2.2.2.2.2.2.2.2.2.2.2.1.2.2.2.2.2.2.2.2.2
theorem MS.k87 (S : MS h m) : hK h (m + 60) = some (.inr (.char, 4)) := S.2.2.2.2.2.2.2.2.2.2.2.2.1.1
theorem MS.r88 (S : MS h m) : hR h m 88 = some (m + 61) := S.2.2.2.2.2.2.2.2.2.2.2.2.1.2.1
theorem MS.k88 (S : MS h m) : hK h (m + 61) = some (.inr (.char, 5)) := S.2.2.2.2.2.2.2.2.2.2.2.2.1.2.2.1
theorem MS.r89 (S : MS h m) : hR h m 89 = some (m + 62) := S.2.2.2.2.2.2.2.2.2.2.2.2.1.2.2.2.1
theorem MS.k89 (S : MS h m) : hK h (m + 62) = some (.inr (.char, 4)) := S.2.2.2.2.2.2.2.2.2.2.2.2.1.2.2.2.2.1
theorem MS.r90 (S : MS h m) : hR h m 90 = some (m + 63) := S.2.2.2.2.2.2.2.2.2.2.2.2.1.2.2.2.2.2.1
theorem MS.k90 (S : MS h m) : hK h (m + 63) = some (.inr (.char, 4)) := S.2.2.2.2.2.2.2.2.2.2.2.2.1.2.2.2.2.2.2.1
theorem MS.r91 (S : MS h m) : hR h m 91 = some (m + 64) := S.2.2.2.2.2.2.2.2.2.2.2.2.1.2.2.2.2.2.2.2.1
theorem MS.k91 (S : MS h m) : hK h (m + 64) = some (.inr (.int, 1700)) := S.2.2.2.2.2.2.2.2.2.2.2.2.1.2.2.2.2.2.2.2.2.1
theorem MS.r93 (S : MS h m) : hR h m 93 = some (m + 65) := S.2.2.2.2.2.2.2.2.2.2.2.2.1.2.2.2.2.2.2.2.2.2
theorem MS.k93 (S : MS h m) : hK h (m + 65) = some (.inr (.int, 1700)) := S.2.2.2.2.2.2.2.2.2.2.2.2.2.1
theorem MS.r97 (S : MS h m) : hR h m 97 = some (m + 66) := S.2.2.2.2.2.2.2.2.2.2.2.2.2.2.1
theorem MS.k97 (S : MS h m) : hK h (m + 66) = some (.inr (.long, 1700)) := S.2.2.2.2.2.2.2.2.2.2.2.2.2.2.2.1
theorem MS.r101 (S : MS h m) : hR h m 101 = some (m + 67) := S.2.2.2.2.2.2.2.2.2.2.2.2.2.2.2.2.1
theorem MS.k101 (S : MS h m) : hK h (m + 67) = some (.inr (.int, 450)) := S.2.2.2.2.2.2.2.2.2.2.2.2.2.2.2.2.2
theorem MS.of {h1 : aH} (S : MS h m) (e1 : hK h1 = hK h) (e2 : hR h1 = hR h) : MS h1 m := by
  simp only [MS, MS0, MS1, MS2, MS3, MS4, MS5, MS6, MS7, MS8, MS9, MS10, MS11, MS12, MS13] at S ⊢
  rw [e1, e2]
  exact S
end Ms
