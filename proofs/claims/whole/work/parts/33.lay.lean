/-! WHERE THINGS LIE: shapes and references of each kind of object -/
def vb_isL (P : Nat → Nat → Nat) (S : List (Nat × Nat)) (L : Nat) : Prop := L + 12 ≤ 1000 ∧ S[L]? = some (2, 10) ∧ S[L + 1]? = some (100, 10) ∧ S[L + 2]? = some (100, 10) ∧ S[L + 3]? = some (100, 10) ∧ S[L + 4]? = some (100, 2) ∧ S[L + 5]? = some (100, 36) ∧ S[L + 6]? = some (5, 6) ∧ S[L + 7]? = some (100, 700) ∧ S[L + 8]? = some (100, 4) ∧ S[L + 9]? = some (100, 4) ∧ S[L + 10]? = some (100, 8) ∧ S[L + 11]? = some (100, 64) ∧ P L 4 = L + 1 ∧ P L 5 = L + 2 ∧ P L 6 = L + 3 ∧ P L 7 = L + 4 ∧ P L 8 = L + 5 ∧ P L 9 = L + 6 ∧ P (L + 6) 0 = L + 7 ∧ P (L + 6) 2 = L + 8 ∧ P (L + 6) 3 = L + 9 ∧ P (L + 6) 4 = L + 10 ∧ P (L + 6) 5 = L + 11
theorem vL_S0 {P : Nat → Nat → Nat} {S : List (Nat × Nat)} {L : Nat} (h : vb_isL P S L) : S[L]? = some (2, 10) := h.2.1
theorem vL_a0 {P : Nat → Nat → Nat} {S : List (Nat × Nat)} {L : Nat} (h : vb_isL P S L) : L < 1000 := by have := h.1; omega
theorem vL_S1 {P : Nat → Nat → Nat} {S : List (Nat × Nat)} {L : Nat} (h : vb_isL P S L) : S[L + 1]? = some (100, 10) := h.2.2.1
theorem vL_a1 {P : Nat → Nat → Nat} {S : List (Nat × Nat)} {L : Nat} (h : vb_isL P S L) : L + 1 < 1000 := by have := h.1; omega
theorem vL_S2 {P : Nat → Nat → Nat} {S : List (Nat × Nat)} {L : Nat} (h : vb_isL P S L) : S[L + 2]? = some (100, 10) := h.2.2.2.1
theorem vL_a2 {P : Nat → Nat → Nat} {S : List (Nat × Nat)} {L : Nat} (h : vb_isL P S L) : L + 2 < 1000 := by have := h.1; omega
theorem vL_S3 {P : Nat → Nat → Nat} {S : List (Nat × Nat)} {L : Nat} (h : vb_isL P S L) : S[L + 3]? = some (100, 10) := h.2.2.2.2.1
theorem vL_a3 {P : Nat → Nat → Nat} {S : List (Nat × Nat)} {L : Nat} (h : vb_isL P S L) : L + 3 < 1000 := by have := h.1; omega
theorem vL_S4 {P : Nat → Nat → Nat} {S : List (Nat × Nat)} {L : Nat} (h : vb_isL P S L) : S[L + 4]? = some (100, 2) := h.2.2.2.2.2.1
theorem vL_a4 {P : Nat → Nat → Nat} {S : List (Nat × Nat)} {L : Nat} (h : vb_isL P S L) : L + 4 < 1000 := by have := h.1; omega
theorem vL_S5 {P : Nat → Nat → Nat} {S : List (Nat × Nat)} {L : Nat} (h : vb_isL P S L) : S[L + 5]? = some (100, 36) := h.2.2.2.2.2.2.1
theorem vL_a5 {P : Nat → Nat → Nat} {S : List (Nat × Nat)} {L : Nat} (h : vb_isL P S L) : L + 5 < 1000 := by have := h.1; omega
theorem vL_S6 {P : Nat → Nat → Nat} {S : List (Nat × Nat)} {L : Nat} (h : vb_isL P S L) : S[L + 6]? = some (5, 6) := h.2.2.2.2.2.2.2.1
theorem vL_a6 {P : Nat → Nat → Nat} {S : List (Nat × Nat)} {L : Nat} (h : vb_isL P S L) : L + 6 < 1000 := by have := h.1; omega
theorem vL_S7 {P : Nat → Nat → Nat} {S : List (Nat × Nat)} {L : Nat} (h : vb_isL P S L) : S[L + 7]? = some (100, 700) := h.2.2.2.2.2.2.2.2.1
theorem vL_a7 {P : Nat → Nat → Nat} {S : List (Nat × Nat)} {L : Nat} (h : vb_isL P S L) : L + 7 < 1000 := by have := h.1; omega
theorem vL_S8 {P : Nat → Nat → Nat} {S : List (Nat × Nat)} {L : Nat} (h : vb_isL P S L) : S[L + 8]? = some (100, 4) := h.2.2.2.2.2.2.2.2.2.1
theorem vL_a8 {P : Nat → Nat → Nat} {S : List (Nat × Nat)} {L : Nat} (h : vb_isL P S L) : L + 8 < 1000 := by have := h.1; omega
theorem vL_S9 {P : Nat → Nat → Nat} {S : List (Nat × Nat)} {L : Nat} (h : vb_isL P S L) : S[L + 9]? = some (100, 4) := h.2.2.2.2.2.2.2.2.2.2.1
theorem vL_a9 {P : Nat → Nat → Nat} {S : List (Nat × Nat)} {L : Nat} (h : vb_isL P S L) : L + 9 < 1000 := by have := h.1; omega
theorem vL_S10 {P : Nat → Nat → Nat} {S : List (Nat × Nat)} {L : Nat} (h : vb_isL P S L) : S[L + 10]? = some (100, 8) := h.2.2.2.2.2.2.2.2.2.2.2.1
theorem vL_a10 {P : Nat → Nat → Nat} {S : List (Nat × Nat)} {L : Nat} (h : vb_isL P S L) : L + 10 < 1000 := by have := h.1; omega
theorem vL_S11 {P : Nat → Nat → Nat} {S : List (Nat × Nat)} {L : Nat} (h : vb_isL P S L) : S[L + 11]? = some (100, 64) := h.2.2.2.2.2.2.2.2.2.2.2.2.1
theorem vL_a11 {P : Nat → Nat → Nat} {S : List (Nat × Nat)} {L : Nat} (h : vb_isL P S L) : L + 11 < 1000 := by have := h.1; omega
theorem vL_P0_4 {P : Nat → Nat → Nat} {S : List (Nat × Nat)} {L : Nat} (h : vb_isL P S L) : P L 4 = L + 1 := h.2.2.2.2.2.2.2.2.2.2.2.2.2.1
theorem vL_P0_5 {P : Nat → Nat → Nat} {S : List (Nat × Nat)} {L : Nat} (h : vb_isL P S L) : P L 5 = L + 2 := h.2.2.2.2.2.2.2.2.2.2.2.2.2.2.1
theorem vL_P0_6 {P : Nat → Nat → Nat} {S : List (Nat × Nat)} {L : Nat} (h : vb_isL P S L) : P L 6 = L + 3 := h.2.2.2.2.2.2.2.2.2.2.2.2.2.2.2.1
theorem vL_P0_7 {P : Nat → Nat → Nat} {S : List (Nat × Nat)} {L : Nat} (h : vb_isL P S L) : P L 7 = L + 4 := h.2.2.2.2.2.2.2.2.2.2.2.2.2.2.2.2.1
theorem vL_P0_8 {P : Nat → Nat → Nat} {S : List (Nat × Nat)} {L : Nat} (h : vb_isL P S L) : P L 8 = L + 5 := h.2.2.2.2.2.2.2.2.2.2.2.2.2.2.2.2.2.1
theorem vL_P0_9 {P : Nat → Nat → Nat} {S : List (Nat × Nat)} {L : Nat} (h : vb_isL P S L) : P L 9 = L + 6 := h.2.2.2.2.2.2.2.2.2.2.2.2.2.2.2.2.2.2.1
theorem vL_P6_0 {P : Nat → Nat → Nat} {S : List (Nat × Nat)} {L : Nat} (h : vb_isL P S L) : P (L + 6) 0 = L + 7 := h.2.2.2.2.2.2.2.2.2.2.2.2.2.2.2.2.2.2.2.1
theorem vL_P6_2 {P : Nat → Nat → Nat} {S : List (Nat × Nat)} {L : Nat} (h : vb_isL P S L) : P (L + 6) 2 = L + 8 := h.2.2.2.2.2.2.2.2.2.2.2.2.2.2.2.2.2.2.2.2.1
theorem vL_P6_3 {P : Nat → Nat → Nat} {S : List (Nat × Nat)} {L : Nat} (h : vb_isL P S L) : P (L + 6) 3 = L + 9 := h.2.2.2.2.2.2.2.2.2.2.2.2.2.2.2.2.2.2.2.2.2.1
theorem vL_P6_4 {P : Nat → Nat → Nat} {S : List (Nat × Nat)} {L : Nat} (h : vb_isL P S L) : P (L + 6) 4 = L + 10 := h.2.2.2.2.2.2.2.2.2.2.2.2.2.2.2.2.2.2.2.2.2.2.1
theorem vL_P6_5 {P : Nat → Nat → Nat} {S : List (Nat × Nat)} {L : Nat} (h : vb_isL P S L) : P (L + 6) 5 = L + 11 := h.2.2.2.2.2.2.2.2.2.2.2.2.2.2.2.2.2.2.2.2.2.2.2
def vb_isX (P : Nat → Nat → Nat) (S : List (Nat × Nat)) (X : Nat) : Prop := X + 6 ≤ 1000 ∧ S[X]? = some (3, 6) ∧ S[X + 1]? = some (100, 2) ∧ S[X + 2]? = some (100, 2) ∧ S[X + 3]? = some (100, 2) ∧ S[X + 4]? = some (100, 2) ∧ S[X + 5]? = some (100, 20) ∧ P X 0 = X + 1 ∧ P X 1 = X + 2 ∧ P X 2 = X + 3 ∧ P X 3 = X + 4 ∧ P X 4 = X + 5
theorem vX_S0 {P : Nat → Nat → Nat} {S : List (Nat × Nat)} {X : Nat} (h : vb_isX P S X) : S[X]? = some (3, 6) := h.2.1
theorem vX_a0 {P : Nat → Nat → Nat} {S : List (Nat × Nat)} {X : Nat} (h : vb_isX P S X) : X < 1000 := by have := h.1; omega
theorem vX_S1 {P : Nat → Nat → Nat} {S : List (Nat × Nat)} {X : Nat} (h : vb_isX P S X) : S[X + 1]? = some (100, 2) := h.2.2.1
theorem vX_a1 {P : Nat → Nat → Nat} {S : List (Nat × Nat)} {X : Nat} (h : vb_isX P S X) : X + 1 < 1000 := by have := h.1; omega
theorem vX_S2 {P : Nat → Nat → Nat} {S : List (Nat × Nat)} {X : Nat} (h : vb_isX P S X) : S[X + 2]? = some (100, 2) := h.2.2.2.1
theorem vX_a2 {P : Nat → Nat → Nat} {S : List (Nat × Nat)} {X : Nat} (h : vb_isX P S X) : X + 2 < 1000 := by have := h.1; omega
theorem vX_S3 {P : Nat → Nat → Nat} {S : List (Nat × Nat)} {X : Nat} (h : vb_isX P S X) : S[X + 3]? = some (100, 2) := h.2.2.2.2.1
theorem vX_a3 {P : Nat → Nat → Nat} {S : List (Nat × Nat)} {X : Nat} (h : vb_isX P S X) : X + 3 < 1000 := by have := h.1; omega
theorem vX_S4 {P : Nat → Nat → Nat} {S : List (Nat × Nat)} {X : Nat} (h : vb_isX P S X) : S[X + 4]? = some (100, 2) := h.2.2.2.2.2.1
theorem vX_a4 {P : Nat → Nat → Nat} {S : List (Nat × Nat)} {X : Nat} (h : vb_isX P S X) : X + 4 < 1000 := by have := h.1; omega
theorem vX_S5 {P : Nat → Nat → Nat} {S : List (Nat × Nat)} {X : Nat} (h : vb_isX P S X) : S[X + 5]? = some (100, 20) := h.2.2.2.2.2.2.1
theorem vX_a5 {P : Nat → Nat → Nat} {S : List (Nat × Nat)} {X : Nat} (h : vb_isX P S X) : X + 5 < 1000 := by have := h.1; omega
theorem vX_P0_0 {P : Nat → Nat → Nat} {S : List (Nat × Nat)} {X : Nat} (h : vb_isX P S X) : P X 0 = X + 1 := h.2.2.2.2.2.2.2.1
theorem vX_P0_1 {P : Nat → Nat → Nat} {S : List (Nat × Nat)} {X : Nat} (h : vb_isX P S X) : P X 1 = X + 2 := h.2.2.2.2.2.2.2.2.1
theorem vX_P0_2 {P : Nat → Nat → Nat} {S : List (Nat × Nat)} {X : Nat} (h : vb_isX P S X) : P X 2 = X + 3 := h.2.2.2.2.2.2.2.2.2.1
theorem vX_P0_3 {P : Nat → Nat → Nat} {S : List (Nat × Nat)} {X : Nat} (h : vb_isX P S X) : P X 3 = X + 4 := h.2.2.2.2.2.2.2.2.2.2.1
theorem vX_P0_4 {P : Nat → Nat → Nat} {S : List (Nat × Nat)} {X : Nat} (h : vb_isX P S X) : P X 4 = X + 5 := h.2.2.2.2.2.2.2.2.2.2.2
def vb_isA (P : Nat → Nat → Nat) (S : List (Nat × Nat)) (A : Nat) : Prop := A + 2 ≤ 1000 ∧ S[A]? = some (0, 3) ∧ S[A + 1]? = some (100, 1160) ∧ P A 0 = A + 1
theorem vA_S0 {P : Nat → Nat → Nat} {S : List (Nat × Nat)} {A : Nat} (h : vb_isA P S A) : S[A]? = some (0, 3) := h.2.1
theorem vA_a0 {P : Nat → Nat → Nat} {S : List (Nat × Nat)} {A : Nat} (h : vb_isA P S A) : A < 1000 := by have := h.1; omega
theorem vA_S1 {P : Nat → Nat → Nat} {S : List (Nat × Nat)} {A : Nat} (h : vb_isA P S A) : S[A + 1]? = some (100, 1160) := h.2.2.1
theorem vA_a1 {P : Nat → Nat → Nat} {S : List (Nat × Nat)} {A : Nat} (h : vb_isA P S A) : A + 1 < 1000 := by have := h.1; omega
theorem vA_P0_0 {P : Nat → Nat → Nat} {S : List (Nat × Nat)} {A : Nat} (h : vb_isA P S A) : P A 0 = A + 1 := h.2.2.2
def vb_isT (P : Nat → Nat → Nat) (S : List (Nat × Nat)) (T : Nat) : Prop := T + 3 ≤ 1000 ∧ S[T]? = some (6, 3) ∧ S[T + 1]? = some (100, 6) ∧ S[T + 2]? = some (100, 6) ∧ P T 0 = T + 1 ∧ P T 1 = T + 2
theorem vT_S0 {P : Nat → Nat → Nat} {S : List (Nat × Nat)} {T : Nat} (h : vb_isT P S T) : S[T]? = some (6, 3) := h.2.1
theorem vT_a0 {P : Nat → Nat → Nat} {S : List (Nat × Nat)} {T : Nat} (h : vb_isT P S T) : T < 1000 := by have := h.1; omega
theorem vT_S1 {P : Nat → Nat → Nat} {S : List (Nat × Nat)} {T : Nat} (h : vb_isT P S T) : S[T + 1]? = some (100, 6) := h.2.2.1
theorem vT_a1 {P : Nat → Nat → Nat} {S : List (Nat × Nat)} {T : Nat} (h : vb_isT P S T) : T + 1 < 1000 := by have := h.1; omega
theorem vT_S2 {P : Nat → Nat → Nat} {S : List (Nat × Nat)} {T : Nat} (h : vb_isT P S T) : S[T + 2]? = some (100, 6) := h.2.2.2.1
theorem vT_a2 {P : Nat → Nat → Nat} {S : List (Nat × Nat)} {T : Nat} (h : vb_isT P S T) : T + 2 < 1000 := by have := h.1; omega
theorem vT_P0_0 {P : Nat → Nat → Nat} {S : List (Nat × Nat)} {T : Nat} (h : vb_isT P S T) : P T 0 = T + 1 := h.2.2.2.2.1
theorem vT_P0_1 {P : Nat → Nat → Nat} {S : List (Nat × Nat)} {T : Nat} (h : vb_isT P S T) : P T 1 = T + 2 := h.2.2.2.2.2
def vb_isC (P : Nat → Nat → Nat) (S : List (Nat × Nat)) (C : Nat) : Prop := C + 2 ≤ 1000 ∧ S[C]? = some (1, 3) ∧ S[C + 1]? = some (100, 270) ∧ P C 0 = C + 1
theorem vC_S0 {P : Nat → Nat → Nat} {S : List (Nat × Nat)} {C : Nat} (h : vb_isC P S C) : S[C]? = some (1, 3) := h.2.1
theorem vC_a0 {P : Nat → Nat → Nat} {S : List (Nat × Nat)} {C : Nat} (h : vb_isC P S C) : C < 1000 := by have := h.1; omega
theorem vC_S1 {P : Nat → Nat → Nat} {S : List (Nat × Nat)} {C : Nat} (h : vb_isC P S C) : S[C + 1]? = some (100, 270) := h.2.2.1
theorem vC_a1 {P : Nat → Nat → Nat} {S : List (Nat × Nat)} {C : Nat} (h : vb_isC P S C) : C + 1 < 1000 := by have := h.1; omega
theorem vC_P0_0 {P : Nat → Nat → Nat} {S : List (Nat × Nat)} {C : Nat} (h : vb_isC P S C) : P C 0 = C + 1 := h.2.2.2
