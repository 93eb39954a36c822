/-! THE REFERENCE -/
def vm_isM (P : Nat → Nat → Nat) (S : List (Nat × Nat)) : Prop := S[60]? = some (8, 55) ∧ S[61]? = some (100, 10) ∧ S[62]? = some (100, 10) ∧ S[63]? = some (100, 3) ∧ S[64]? = some (100, 2800) ∧ S[65]? = some (101, 100) ∧ S[66]? = some (100, 700) ∧ S[67]? = some (100, 3) ∧ S[68]? = some (100, 10) ∧ S[69]? = some (100, 10) ∧ S[70]? = some (100, 10) ∧ S[71]? = some (100, 3) ∧ S[72]? = some (100, 2800) ∧ S[73]? = some (100, 950) ∧ S[74]? = some (101, 100) ∧ S[75]? = some (101, 9) ∧ S[76]? = some (100, 276) ∧ S[77]? = some (100, 1840) ∧ S[78]? = some (100, 8) ∧ S[79]? = some (100, 950) ∧ S[80]? = some (100, 10) ∧ S[81]? = some (100, 12) ∧ S[82]? = some (100, 270) ∧ S[83]? = some (100, 46) ∧ S[84]? = some (100, 1840) ∧ S[85]? = some (100, 12) ∧ P 60 5 = 61 ∧ P 60 6 = 62 ∧ P 60 7 = 63 ∧ P 60 8 = 64 ∧ P 60 9 = 65 ∧ P 60 10 = 66 ∧ P 60 14 = 67 ∧ P 60 30 = 68 ∧ P 60 31 = 69 ∧ P 60 32 = 70 ∧ P 60 33 = 71 ∧ P 60 34 = 72 ∧ P 60 35 = 73 ∧ P 60 36 = 74 ∧ P 60 37 = 75 ∧ P 60 38 = 76 ∧ P 60 39 = 77 ∧ P 60 41 = 78 ∧ P 60 42 = 79 ∧ P 60 44 = 80 ∧ P 60 46 = 81 ∧ P 60 47 = 82 ∧ P 60 52 = 83 ∧ P 60 53 = 84 ∧ P 60 54 = 85
theorem vM_S60 {P : Nat → Nat → Nat} {S : List (Nat × Nat)} (h : vm_isM P S) : S[60]? = some (8, 55) := h.1
theorem vM_a60 {P : Nat → Nat → Nat} {S : List (Nat × Nat)} (_ : vm_isM P S) : 60 < 1000 := by decide
theorem vM_S61 {P : Nat → Nat → Nat} {S : List (Nat × Nat)} (h : vm_isM P S) : S[61]? = some (100, 10) := h.2.1
theorem vM_a61 {P : Nat → Nat → Nat} {S : List (Nat × Nat)} (_ : vm_isM P S) : 61 < 1000 := by decide
theorem vM_S62 {P : Nat → Nat → Nat} {S : List (Nat × Nat)} (h : vm_isM P S) : S[62]? = some (100, 10) := h.2.2.1
theorem vM_a62 {P : Nat → Nat → Nat} {S : List (Nat × Nat)} (_ : vm_isM P S) : 62 < 1000 := by decide
theorem vM_S63 {P : Nat → Nat → Nat} {S : List (Nat × Nat)} (h : vm_isM P S) : S[63]? = some (100, 3) := h.2.2.2.1
theorem vM_a63 {P : Nat → Nat → Nat} {S : List (Nat × Nat)} (_ : vm_isM P S) : 63 < 1000 := by decide
theorem vM_S64 {P : Nat → Nat → Nat} {S : List (Nat × Nat)} (h : vm_isM P S) : S[64]? = some (100, 2800) := h.2.2.2.2.1
theorem vM_a64 {P : Nat → Nat → Nat} {S : List (Nat × Nat)} (_ : vm_isM P S) : 64 < 1000 := by decide
theorem vM_S65 {P : Nat → Nat → Nat} {S : List (Nat × Nat)} (h : vm_isM P S) : S[65]? = some (101, 100) := h.2.2.2.2.2.1
theorem vM_a65 {P : Nat → Nat → Nat} {S : List (Nat × Nat)} (_ : vm_isM P S) : 65 < 1000 := by decide
theorem vM_S66 {P : Nat → Nat → Nat} {S : List (Nat × Nat)} (h : vm_isM P S) : S[66]? = some (100, 700) := h.2.2.2.2.2.2.1
theorem vM_a66 {P : Nat → Nat → Nat} {S : List (Nat × Nat)} (_ : vm_isM P S) : 66 < 1000 := by decide
theorem vM_S67 {P : Nat → Nat → Nat} {S : List (Nat × Nat)} (h : vm_isM P S) : S[67]? = some (100, 3) := h.2.2.2.2.2.2.2.1
theorem vM_a67 {P : Nat → Nat → Nat} {S : List (Nat × Nat)} (_ : vm_isM P S) : 67 < 1000 := by decide
theorem vM_S68 {P : Nat → Nat → Nat} {S : List (Nat × Nat)} (h : vm_isM P S) : S[68]? = some (100, 10) := h.2.2.2.2.2.2.2.2.1
theorem vM_a68 {P : Nat → Nat → Nat} {S : List (Nat × Nat)} (_ : vm_isM P S) : 68 < 1000 := by decide
theorem vM_S69 {P : Nat → Nat → Nat} {S : List (Nat × Nat)} (h : vm_isM P S) : S[69]? = some (100, 10) := h.2.2.2.2.2.2.2.2.2.1
theorem vM_a69 {P : Nat → Nat → Nat} {S : List (Nat × Nat)} (_ : vm_isM P S) : 69 < 1000 := by decide
theorem vM_S70 {P : Nat → Nat → Nat} {S : List (Nat × Nat)} (h : vm_isM P S) : S[70]? = some (100, 10) := h.2.2.2.2.2.2.2.2.2.2.1
theorem vM_a70 {P : Nat → Nat → Nat} {S : List (Nat × Nat)} (_ : vm_isM P S) : 70 < 1000 := by decide
theorem vM_S71 {P : Nat → Nat → Nat} {S : List (Nat × Nat)} (h : vm_isM P S) : S[71]? = some (100, 3) := h.2.2.2.2.2.2.2.2.2.2.2.1
theorem vM_a71 {P : Nat → Nat → Nat} {S : List (Nat × Nat)} (_ : vm_isM P S) : 71 < 1000 := by decide
theorem vM_S72 {P : Nat → Nat → Nat} {S : List (Nat × Nat)} (h : vm_isM P S) : S[72]? = some (100, 2800) := h.2.2.2.2.2.2.2.2.2.2.2.2.1
theorem vM_a72 {P : Nat → Nat → Nat} {S : List (Nat × Nat)} (_ : vm_isM P S) : 72 < 1000 := by decide
theorem vM_S73 {P : Nat → Nat → Nat} {S : List (Nat × Nat)} (h : vm_isM P S) : S[73]? = some (100, 950) := h.2.2.2.2.2.2.2.2.2.2.2.2.2.1
theorem vM_a73 {P : Nat → Nat → Nat} {S : List (Nat × Nat)} (_ : vm_isM P S) : 73 < 1000 := by decide
theorem vM_S74 {P : Nat → Nat → Nat} {S : List (Nat × Nat)} (h : vm_isM P S) : S[74]? = some (101, 100) := h.2.2.2.2.2.2.2.2.2.2.2.2.2.2.1
theorem vM_a74 {P : Nat → Nat → Nat} {S : List (Nat × Nat)} (_ : vm_isM P S) : 74 < 1000 := by decide
theorem vM_S75 {P : Nat → Nat → Nat} {S : List (Nat × Nat)} (h : vm_isM P S) : S[75]? = some (101, 9) := h.2.2.2.2.2.2.2.2.2.2.2.2.2.2.2.1
theorem vM_a75 {P : Nat → Nat → Nat} {S : List (Nat × Nat)} (_ : vm_isM P S) : 75 < 1000 := by decide
theorem vM_S76 {P : Nat → Nat → Nat} {S : List (Nat × Nat)} (h : vm_isM P S) : S[76]? = some (100, 276) := h.2.2.2.2.2.2.2.2.2.2.2.2.2.2.2.2.1
theorem vM_a76 {P : Nat → Nat → Nat} {S : List (Nat × Nat)} (_ : vm_isM P S) : 76 < 1000 := by decide
theorem vM_S77 {P : Nat → Nat → Nat} {S : List (Nat × Nat)} (h : vm_isM P S) : S[77]? = some (100, 1840) := h.2.2.2.2.2.2.2.2.2.2.2.2.2.2.2.2.2.1
theorem vM_a77 {P : Nat → Nat → Nat} {S : List (Nat × Nat)} (_ : vm_isM P S) : 77 < 1000 := by decide
theorem vM_S78 {P : Nat → Nat → Nat} {S : List (Nat × Nat)} (h : vm_isM P S) : S[78]? = some (100, 8) := h.2.2.2.2.2.2.2.2.2.2.2.2.2.2.2.2.2.2.1
theorem vM_a78 {P : Nat → Nat → Nat} {S : List (Nat × Nat)} (_ : vm_isM P S) : 78 < 1000 := by decide
theorem vM_S79 {P : Nat → Nat → Nat} {S : List (Nat × Nat)} (h : vm_isM P S) : S[79]? = some (100, 950) := h.2.2.2.2.2.2.2.2.2.2.2.2.2.2.2.2.2.2.2.1
theorem vM_a79 {P : Nat → Nat → Nat} {S : List (Nat × Nat)} (_ : vm_isM P S) : 79 < 1000 := by decide
theorem vM_S80 {P : Nat → Nat → Nat} {S : List (Nat × Nat)} (h : vm_isM P S) : S[80]? = some (100, 10) := h.2.2.2.2.2.2.2.2.2.2.2.2.2.2.2.2.2.2.2.2.1
theorem vM_a80 {P : Nat → Nat → Nat} {S : List (Nat × Nat)} (_ : vm_isM P S) : 80 < 1000 := by decide
theorem vM_S81 {P : Nat → Nat → Nat} {S : List (Nat × Nat)} (h : vm_isM P S) : S[81]? = some (100, 12) := h.2.2.2.2.2.2.2.2.2.2.2.2.2.2.2.2.2.2.2.2.2.1
theorem vM_a81 {P : Nat → Nat → Nat} {S : List (Nat × Nat)} (_ : vm_isM P S) : 81 < 1000 := by decide
theorem vM_S82 {P : Nat → Nat → Nat} {S : List (Nat × Nat)} (h : vm_isM P S) : S[82]? = some (100, 270) := h.2.2.2.2.2.2.2.2.2.2.2.2.2.2.2.2.2.2.2.2.2.2.1
theorem vM_a82 {P : Nat → Nat → Nat} {S : List (Nat × Nat)} (_ : vm_isM P S) : 82 < 1000 := by decide
theorem vM_S83 {P : Nat → Nat → Nat} {S : List (Nat × Nat)} (h : vm_isM P S) : S[83]? = some (100, 46) := h.2.2.2.2.2.2.2.2.2.2.2.2.2.2.2.2.2.2.2.2.2.2.2.1
theorem vM_a83 {P : Nat → Nat → Nat} {S : List (Nat × Nat)} (_ : vm_isM P S) : 83 < 1000 := by decide
theorem vM_S84 {P : Nat → Nat → Nat} {S : List (Nat × Nat)} (h : vm_isM P S) : S[84]? = some (100, 1840) := h.2.2.2.2.2.2.2.2.2.2.2.2.2.2.2.2.2.2.2.2.2.2.2.2.1
theorem vM_a84 {P : Nat → Nat → Nat} {S : List (Nat × Nat)} (_ : vm_isM P S) : 84 < 1000 := by decide
theorem vM_S85 {P : Nat → Nat → Nat} {S : List (Nat × Nat)} (h : vm_isM P S) : S[85]? = some (100, 12) := h.2.2.2.2.2.2.2.2.2.2.2.2.2.2.2.2.2.2.2.2.2.2.2.2.2.1
theorem vM_a85 {P : Nat → Nat → Nat} {S : List (Nat × Nat)} (_ : vm_isM P S) : 85 < 1000 := by decide
theorem vM_P60_5 {P : Nat → Nat → Nat} {S : List (Nat × Nat)} (h : vm_isM P S) : P 60 5 = 61 := h.2.2.2.2.2.2.2.2.2.2.2.2.2.2.2.2.2.2.2.2.2.2.2.2.2.2.1
theorem vM_P60_6 {P : Nat → Nat → Nat} {S : List (Nat × Nat)} (h : vm_isM P S) : P 60 6 = 62 := h.2.2.2.2.2.2.2.2.2.2.2.2.2.2.2.2.2.2.2.2.2.2.2.2.2.2.2.1
theorem vM_P60_7 {P : Nat → Nat → Nat} {S : List (Nat × Nat)} (h : vm_isM P S) : P 60 7 = 63 := h.2.2.2.2.2.2.2.2.2.2.2.2.2.2.2.2.2.2.2.2.2.2.2.2.2.2.2.2.1
theorem vM_P60_8 {P : Nat → Nat → Nat} {S : List (Nat × Nat)} (h : vm_isM P S) : P 60 8 = 64 := h.2.2.2.2.2.2.2.2.2.2.2.2.2.2.2.2.2.2.2.2.2.2.2.2.2.2.2.2.2.1
theorem vM_P60_9 {P : Nat → Nat → Nat} {S : List (Nat × Nat)} (h : vm_isM P S) : P 60 9 = 65 := h.2.2.2.2.2.2.2.2.2.2.2.2.2.2.2.2.2.2.2.2.2.2.2.2.2.2.2.2.2.2.1
theorem vM_P60_10 {P : Nat → Nat → Nat} {S : List (Nat × Nat)} (h : vm_isM P S) : P 60 10 = 66 := h.2.2.2.2.2.2.2.2.2.2.2.2.2.2.2.2.2.2.2.2.2.2.2.2.2.2.2.2.2.2.2.1
theorem vM_P60_14 {P : Nat → Nat → Nat} {S : List (Nat × Nat)} (h : vm_isM P S) : P 60 14 = 67 := h.2.2.2.2.2.2.2.2.2.2.2.2.2.2.2.2.2.2.2.2.2.2.2.2.2.2.2.2.2.2.2.2.1
theorem vM_P60_30 {P : Nat → Nat → Nat} {S : List (Nat × Nat)} (h : vm_isM P S) : P 60 30 = 68 := h.2.2.2.2.2.2.2.2.2.2.2.2.2.2.2.2.2.2.2.2.2.2.2.2.2.2.2.2.2.2.2.2.2.1
theorem vM_P60_31 {P : Nat → Nat → Nat} {S : List (Nat × Nat)} (h : vm_isM P S) : P 60 31 = 69 := h.2.2.2.2.2.2.2.2.2.2.2.2.2.2.2.2.2.2.2.2.2.2.2.2.2.2.2.2.2.2.2.2.2.2.1
theorem vM_P60_32 {P : Nat → Nat → Nat} {S : List (Nat × Nat)} (h : vm_isM P S) : P 60 32 = 70 := h.2.2.2.2.2.2.2.2.2.2.2.2.2.2.2.2.2.2.2.2.2.2.2.2.2.2.2.2.2.2.2.2.2.2.2.1
theorem vM_P60_33 {P : Nat → Nat → Nat} {S : List (Nat × Nat)} (h : vm_isM P S) : P 60 33 = 71 := h.2.2.2.2.2.2.2.2.2.2.2.2.2.2.2.2.2.2.2.2.2.2.2.2.2.2.2.2.2.2.2.2.2.2.2.2.1
theorem vM_P60_34 {P : Nat → Nat → Nat} {S : List (Nat × Nat)} (h : vm_isM P S) : P 60 34 = 72 := h.2.2.2.2.2.2.2.2.2.2.2.2.2.2.2.2.2.2.2.2.2.2.2.2.2.2.2.2.2.2.2.2.2.2.2.2.2.1
theorem vM_P60_35 {P : Nat → Nat → Nat} {S : List (Nat × Nat)} (h : vm_isM P S) : P 60 35 = 73 := h.2.2.2.2.2.2.2.2.2.2.2.2.2.2.2.2.2.2.2.2.2.2.2.2.2.2.2.2.2.2.2.2.2.2.2.2.2.2.1
theorem vM_P60_36 {P : Nat → Nat → Nat} {S : List (Nat × Nat)} (h : vm_isM P S) : P 60 36 = 74 := h.2.2.2.2.2.2.2.2.2.2.2.2.2.2.2.2.2.2.2.2.2.2.2.2.2.2.2.2.2.2.2.2.2.2.2.2.2.2.2.1
theorem vM_P60_37 {P : Nat → Nat → Nat} {S : List (Nat × Nat)} (h : vm_isM P S) : P 60 37 = 75 := h.2.2.2.2.2.2.2.2.2.2.2.2.2.2.2.2.2.2.2.2.2.2.2.2.2.2.2.2.2.2.2.2.2.2.2.2.2.2.2.2.1
theorem vM_P60_38 {P : Nat → Nat → Nat} {S : List (Nat × Nat)} (h : vm_isM P S) : P 60 38 = 76 := h.2.2.2.2.2.2.2.2.2.2.2.2.2.2.2.2.2.2.2.2.2.2.2.2.2.2.2.2.2.2.2.2.2.2.2.2.2.2.2.2.2.1
theorem vM_P60_39 {P : Nat → Nat → Nat} {S : List (Nat × Nat)} (h : vm_isM P S) : P 60 39 = 77 := h.2.2.2.2.2.2.2.2.2.2.2.2.2.2.2.2.2.2.2.2.2.2.2.2.2.2.2.2.2.2.2.2.2.2.2.2.2.2.2.2.2.2.1
theorem vM_P60_41 {P : Nat → Nat → Nat} {S : List (Nat × Nat)} (h : vm_isM P S) : P 60 41 = 78 := h.2.2.2.2.2.2.2.2.2.2.2.2.2.2.2.2.2.2.2.2.2.2.2.2.2.2.2.2.2.2.2.2.2.2.2.2.2.2.2.2.2.2.2.1
theorem vM_P60_42 {P : Nat → Nat → Nat} {S : List (Nat × Nat)} (h : vm_isM P S) : P 60 42 = 79 := h.2.2.2.2.2.2.2.2.2.2.2.2.2.2.2.2.2.2.2.2.2.2.2.2.2.2.2.2.2.2.2.2.2.2.2.2.2.2.2.2.2.2.2.2.1
theorem vM_P60_44 {P : Nat → Nat → Nat} {S : List (Nat × Nat)} (h : vm_isM P S) : P 60 44 = 80 := h.2.2.2.2.2.2.2.2.2.2.2.2.2.2.2.2.2.2.2.2.2.2.2.2.2.2.2.2.2.2.2.2.2.2.2.2.2.2.2.2.2.2.2.2.2.1
theorem vM_P60_46 {P : Nat → Nat → Nat} {S : List (Nat × Nat)} (h : vm_isM P S) : P 60 46 = 81 := h.2.2.2.2.2.2.2.2.2.2.2.2.2.2.2.2.2.2.2.2.2.2.2.2.2.2.2.2.2.2.2.2.2.2.2.2.2.2.2.2.2.2.2.2.2.2.1
theorem vM_P60_47 {P : Nat → Nat → Nat} {S : List (Nat × Nat)} (h : vm_isM P S) : P 60 47 = 82 := h.2.2.2.2.2.2.2.2.2.2.2.2.2.2.2.2.2.2.2.2.2.2.2.2.2.2.2.2.2.2.2.2.2.2.2.2.2.2.2.2.2.2.2.2.2.2.2.1
theorem vM_P60_52 {P : Nat → Nat → Nat} {S : List (Nat × Nat)} (h : vm_isM P S) : P 60 52 = 83 := h.2.2.2.2.2.2.2.2.2.2.2.2.2.2.2.2.2.2.2.2.2.2.2.2.2.2.2.2.2.2.2.2.2.2.2.2.2.2.2.2.2.2.2.2.2.2.2.2.1
theorem vM_P60_53 {P : Nat → Nat → Nat} {S : List (Nat × Nat)} (h : vm_isM P S) : P 60 53 = 84 := h.2.2.2.2.2.2.2.2.2.2.2.2.2.2.2.2.2.2.2.2.2.2.2.2.2.2.2.2.2.2.2.2.2.2.2.2.2.2.2.2.2.2.2.2.2.2.2.2.2.1
theorem vM_P60_54 {P : Nat → Nat → Nat} {S : List (Nat × Nat)} (h : vm_isM P S) : P 60 54 = 85 := h.2.2.2.2.2.2.2.2.2.2.2.2.2.2.2.2.2.2.2.2.2.2.2.2.2.2.2.2.2.2.2.2.2.2.2.2.2.2.2.2.2.2.2.2.2.2.2.2.2.2
def vm_wk (q : Nat) (l r : Int32) : Int32 := if q = 4 then vb_b (!(l == 0) && !(r == 0)) else if q = 5 then vb_b (!(l == 0) || !(r == 0)) else if q = 6 then vb_b (decide (l < r)) else if q = 7 then vb_b (l == r) else if q = 8 then l + r else if q = 9 then l - r else if q = 10 then l * r else (if r = 0 then 0 else l / r)
def vm_st (vals : Nat → Int32) (stk : List Int32) (p : Nat × Int32) : List Int32 := if p.1 = 1 then p.2 :: stk else if p.1 = 2 then vals p.2.toNatClampNeg :: stk else if p.1 = 3 then (match stk with
    | z :: s => vb_b (z == 0) :: s
    | [] => []) else match stk with
    | r :: l :: s => vm_wk p.1 l r :: s
    | s => s
def vm_ok (co : Nat → Int32) : List (Nat × Int32) → Nat → Nat → Prop
  | [], k, h => co k = 0 ∧ k < 2800 ∧ h = 1
  | (q, a) :: c, k, h => k + 1 < 2800 ∧ co k = vb_i q ∧ ((q = 1 ∧ co (k + 1) = a ∧ h < 950 ∧ vm_ok co c (k + 2) (h + 1)) ∨ (q = 2 ∧ (∃ j, j < 8 ∧ a = vb_i j) ∧ co (k + 1) = a ∧ h < 950 ∧ vm_ok co c (k + 2) (h + 1)) ∨ (q = 3 ∧ 1 ≤ h ∧ vm_ok co c (k + 1) h) ∨ (4 ≤ q ∧ q ≤ 11 ∧ 2 ≤ h ∧ vm_ok co c (k + 1) (h - 1)))
/-- a rule of the reference's code gives f -/
def vm_RD (co : Nat → Int32) (a : Nat) (f : (Nat → Int32) → Int32) : Prop := ∃ c, vm_ok co c a 0 ∧ ∀ vals, c.foldl (vm_st vals) [] = [f vals]
def vm_LD (ℓ : vb_L) (I : Nat → Nat → Int32) : Prop := I 60 1 = vb_i (vb_n ℓ) ∧ vb_n ℓ ≤ 10 ∧ I 60 2 = vb_i (vb_rc ℓ) ∧ I 60 3 = vb_i (vb_sc ℓ) ∧ vb_sc ℓ ≤ 3 ∧ (∀ v, v < vb_n ℓ → I 61 v = vb_wo ℓ v) ∧ (∀ v, v < vb_n ℓ → I 62 v = vb_fo ℓ v) ∧ (∀ a b, a < vb_n ℓ → b < vb_n ℓ → I 65 (10 * a + b) = vb_b (vb_has (vb_nb ℓ a) b)) ∧ (vb_ht ℓ = false → I 60 4 = -1) ∧ (vb_ht ℓ = true → ∃ a, a < 2800 ∧ I 60 4 = vb_i a ∧ vm_RD (I 64) a (vb_ru ℓ 3)) ∧ ∀ r, r < vb_sc ℓ → ∃ a, a < 2800 ∧ I 63 r = vb_i a ∧ vm_RD (I 64) a (vb_ru ℓ r)
/-- a position in a row of the reference's numbers -/
def vm_row (ℓ : vb_L) (B : Nat → Int32) (b : Nat) (x : vb_X) (t : Nat) : Prop := (∀ v, v < vb_n ℓ → B (b + 0 + v) = vb_i (vx_in (vx_s x) v)) ∧ (∀ v, v < vb_n ℓ → B (b + 10 + v) = vb_i (vx_in (vx_f x) v)) ∧ (∀ j, j < 20 → B (b + 20 + j) = vx_b x j) ∧ (∀ j, j < 2 → B (b + 40 + j) = vx_t x j) ∧ B (b + 42) = vb_i (vx_e x) ∧ B (b + 43) = vb_i t ∧ (∀ j, j < 2 → B (b + 44 + j) = vx_y x j) ∧ t < 2 ∧ vx_e x ≤ 2000
section
variable {ℓ : vb_L} {I I' : Nat → Nat → Int32} {B B' : Nat → Int32} {b t : Nat} {x : vb_X} {F : Nat → Prop}
theorem vm_n (h : vm_LD ℓ I) : I 60 1 = vb_i (vb_n ℓ) := h.1
theorem vm_10 (h : vm_LD ℓ I) : vb_n ℓ ≤ 10 := h.2.1
theorem vm_rc (h : vm_LD ℓ I) : I 60 2 = vb_i (vb_rc ℓ) := h.2.2.1
theorem vm_sc (h : vm_LD ℓ I) : I 60 3 = vb_i (vb_sc ℓ) := h.2.2.2.1
theorem vm_sc3 (h : vm_LD ℓ I) : vb_sc ℓ ≤ 3 := h.2.2.2.2.1
theorem vm_wo (h : vm_LD ℓ I) {v : Nat} (hv : v < vb_n ℓ) : I 61 v = vb_wo ℓ v := h.2.2.2.2.2.1 v hv
theorem vm_fo (h : vm_LD ℓ I) {v : Nat} (hv : v < vb_n ℓ) : I 62 v = vb_fo ℓ v := h.2.2.2.2.2.2.1 v hv
theorem vm_rd (h : vm_LD ℓ I) {a b : Nat} (ha : a < vb_n ℓ) (hb : b < vb_n ℓ) : I 65 (10 * a + b) = vb_b (vb_has (vb_nb ℓ a) b) := h.2.2.2.2.2.2.2.1 a b ha hb
theorem vm_t0 (h : vm_LD ℓ I) (hh : vb_ht ℓ = false) : I 60 4 = -1 := h.2.2.2.2.2.2.2.2.1 hh
theorem vm_t1 (h : vm_LD ℓ I) (hh : vb_ht ℓ = true) : ∃ a, a < 2800 ∧ I 60 4 = vb_i a ∧ vm_RD (I 64) a (vb_ru ℓ 3) := h.2.2.2.2.2.2.2.2.2.1 hh
theorem vm_sy (h : vm_LD ℓ I) {r : Nat} (hr : r < vb_sc ℓ) : ∃ a, a < 2800 ∧ I 63 r = vb_i a ∧ vm_RD (I 64) a (vb_ru ℓ r) := h.2.2.2.2.2.2.2.2.2.2 r hr
theorem vm_LD.k2 (h : vm_LD ℓ I) (h60 : ∀ s, 1 ≤ s → s ≤ 4 → I' 60 s = I 60 s) (h6 : ∀ a, 61 ≤ a → a ≤ 65 → I' a = I a) : vm_LD ℓ I' := by
  simp only [vm_LD, h60 1 (by decide) (by decide), h60 2 (by decide) (by decide), h60 3 (by decide) (by decide), h60 4 (by decide) (by decide), h6 61 (by decide) (by decide), h6 62 (by decide) (by decide), h6 63 (by decide) (by decide), h6 64 (by decide) (by decide), h6 65 (by decide) (by decide)]
  exact h
theorem vm_LD.fr (h : vm_LD ℓ I) (hf : vb_fr F I I') (hd : ∀ a, 60 ≤ a → a ≤ 65 → ¬ F a) : vm_LD ℓ I' := h.k2 (fun s _ _ => by rw [hf 60 (hd 60 (by decide) (by decide))]) (fun a h1 h2 => hf a (hd a (by omega) h2))
theorem vm_rs (h : vm_row ℓ B b x t) {v : Nat} (hv : v < vb_n ℓ) : B (b + 0 + v) = vb_i (vx_in (vx_s x) v) := h.1 v hv
theorem vm_rf (h : vm_row ℓ B b x t) {v : Nat} (hv : v < vb_n ℓ) : B (b + 10 + v) = vb_i (vx_in (vx_f x) v) := h.2.1 v hv
theorem vm_rb (h : vm_row ℓ B b x t) {j : Nat} (hj : j < 20) : B (b + 20 + j) = vx_b x j := h.2.2.1 j hj
theorem vm_rt (h : vm_row ℓ B b x t) {j : Nat} (hj : j < 2) : B (b + 40 + j) = vx_t x j := h.2.2.2.1 j hj
theorem vm_re (h : vm_row ℓ B b x t) : B (b + 42) = vb_i (vx_e x) := h.2.2.2.2.1
theorem vm_ru (h : vm_row ℓ B b x t) : B (b + 43) = vb_i t := h.2.2.2.2.2.1
theorem vm_ry (h : vm_row ℓ B b x t) {j : Nat} (hj : j < 2) : B (b + 44 + j) = vx_y x j := h.2.2.2.2.2.2.1 j hj
theorem vm_r2 (h : vm_row ℓ B b x t) : t < 2 := h.2.2.2.2.2.2.2.1
theorem vm_e2 (h : vm_row ℓ B b x t) : vx_e x ≤ 2000 := h.2.2.2.2.2.2.2.2
theorem vm_row.kp (h : vm_row ℓ B b x t) (hn : vb_n ℓ ≤ 10) (e : ∀ j, b ≤ j → j < b + 46 → B' j = B j) : vm_row ℓ B' b x t := by
  obtain ⟨h1, h2, h3, h4, h5, h6, h7, h8, h9⟩ := h
  exact ⟨fun v hv => by rw [e _ (by omega) (by omega)]; exact h1 v hv, fun v hv => by rw [e _ (by omega) (by omega)]; exact h2 v hv, fun v hv => by rw [e _ (by omega) (by omega)]; exact h3 v hv, fun v hv => by rw [e _ (by omega) (by omega)]; exact h4 v hv, by rw [e _ (by omega) (by omega)]; exact h5, by rw [e _ (by omega) (by omega)]; exact h6, fun v hv => by rw [e _ (by omega) (by omega)]; exact h7 v hv, h8, h9⟩
theorem vm_row.mv {b' : Nat} (h : vm_row ℓ B b x t) (hn : vb_n ℓ ≤ 10) (e : ∀ j, j < 46 → B' (b' + j) = B (b + j)) : vm_row ℓ B' b' x t := by
  obtain ⟨h1, h2, h3, h4, h5, h6, h7, h8, h9⟩ := h
  have e' : ∀ i j, i + j < 46 → B' (b' + i + j) = B (b + i + j) := fun i j hij => by rw [Nat.add_assoc, Nat.add_assoc]; exact e _ hij
  exact ⟨fun v hv => by rw [e' _ _ (by omega)]; exact h1 v hv, fun v hv => by rw [e' _ _ (by omega)]; exact h2 v hv, fun v hv => by rw [e' _ _ (by omega)]; exact h3 v hv, fun v hv => by rw [e' _ _ (by omega)]; exact h4 v hv, by rw [e _ (by omega)]; exact h5, by rw [e _ (by omega)]; exact h6, fun v hv => by rw [e' _ _ (by omega)]; exact h7 v hv, h8, h9⟩
end
/-- the cells that asking may change -/
def vm_s8 (a : Nat) : Prop := a = 78 ∨ a = 79
/-- no village has two stones, two flags -/
def vx_dj (f : Nat → Int32) : Prop := ∀ v, vb_has (f 0) v = true → vb_has (f 1) v = false
theorem vx_in_eq {f : Nat → Int32} (h : vx_dj f) {s v : Nat} (hs : s < 2) : (vx_in f v = s) ↔ vb_has (f s) v = true := by
  have e : s = 0 ∨ s = 1 := by omega
  simp only [vx_in]
  rcases e with rfl | rfl
  · cases h0 : vb_has (f 0) v with
    | true => simp
    | false => simp; split <;> omega
  · cases h0 : vb_has (f 0) v with
    | true => rw [h v h0]; simp
    | false => cases h1 : vb_has (f 1) v <;> simp
theorem vx_in_dec {f : Nat → Int32} (h : vx_dj f) {s v : Nat} (hs : s < 2) : decide (vx_in f v = s) = vb_has (f s) v := by
  cases hh : vb_has (f s) v with
  | true => exact decide_eq_true ((vx_in_eq h hs).mpr hh)
  | false => exact decide_eq_false (fun e => by rw [(vx_in_eq h hs).mp e] at hh; cases hh)
section REF1
variable {G : mm_G} {d : Nat} {I : Nat → Nat → Int32} {P : Nat → Nat → Nat} {J : Nat → Nat → Int64} {S : List (Nat × Nat)} {nc ns : Nat} {μ : mm_M} {ℓ : vb_L} {x : vb_X} {b t : Nat}
theorem m_bits {v : Int32} : mm_Call G d 140 [.int v] μ (.inl (some (.int (vb_i (vb_cnt 10 (vb_has v))))), μ) := by
  refine mm_C.call ?_
  have loop := vb_down (p := fun i => mm_W G d 140 (mm_blk 140 4) [.int v, .int (vb_i (vb_cnt i (vb_has v))), .int (vb_i i)] [] μ (fun q => q = (.inl (some (.int (vb_i (vb_cnt 10 (vb_has v))))), μ))) 10 (by
    intro i hi ih
    refine mm_w1 rfl ?_
    refine mm_wv (vb_i 10) rfl (by decide) ?_
    refine mm_nicge (by omega) (by omega) ?_ ?_
    · intro h7
      refine mm_w1 rfl ?_
      refine mm_wr rfl rfl rfl ?_
      rw [show i = 10 by omega]
    · intro h7
      refine mm_w1 rfl ?_
      refine mm_w1 rfl ?_
      refine mm_w1 rfl ?_
      refine mm_w1 rfl ?_
      refine mm_wv (vb_i 1) rfl (by decide) ?_
      refine mm_wv (vb_i (vb_has v i).toNat) rfl ((vb_shr1 _ (by omega)).trans (vb_b_nat _)) ?_ 
      refine mm_nadd ?_
      refine mm_w1 (ls' := [_, _, _]) rfl ?_
      refine mm_nincL (ls' := [_, _, _]) 1 rfl (by decide) rfl ?_
      refine mm_wgoto ?_
      exact ih (by omega)
    )
  show mm_W _ _ 140 (mm_blk 140 0) [.int v, .null, .null] [] _ _
  refine mm_wv (vb_i 0) rfl (by decide) ?_
  refine mm_w1 (ls' := [_, _, _]) rfl ?_
  refine mm_wv (vb_i 0) rfl (by decide) ?_
  refine mm_w1 (ls' := [_, _, _]) rfl ?_
  exact loop 0 (by omega)
theorem m_lays0 {fr to : Nat} (hM : vm_isM P S) (h1 : fr + 46 ≤ 276) (h2 : to + 46 ≤ 276) (h3 : fr + 46 ≤ to ∨ to + 46 ≤ fr) : mm_C G d 175 [.ref 60, .int (vb_i fr), .int (vb_i to)] (I, P, J, S, nc, ns) (vb_R none (fun I' => (∀ j, j < 46 → I' 76 (to + j) = I 76 (fr + j)) ∧ (∀ j, ¬ (to ≤ j ∧ j < to + 46) → I' 76 j = I 76 j) ∧ vb_fr (fun a => a = 76) I I') P J S nc ns) := by
  have loop := vb_down (p := fun i => ∀ I1 : Nat → Nat → Int32, (∀ j, j < i → I1 76 (to + j) = I 76 (fr + j)) → (∀ j, ¬ (to ≤ j ∧ j < to + i) → I1 76 j = I 76 j) → vb_fr (fun a => a = 76) I I1 → mm_W G d 175 (mm_blk 175 2) [.ref 60, .int (vb_i fr), .int (vb_i to), .int (vb_i i)] [] (I1, P, J, S, nc, ns) (vb_R none (fun I' => (∀ j, j < 46 → I' 76 (to + j) = I 76 (fr + j)) ∧ (∀ j, ¬ (to ≤ j ∧ j < to + 46) → I' 76 j = I 76 j) ∧ vb_fr (fun a => a = 76) I I') P J S nc ns)) 46 (by
    intro i hi ih I1 g1 g2 g3
    refine mm_w1 rfl ?_
    refine mm_wv (vb_i 46) rfl (by decide) ?_
    refine mm_nicge (by omega) (by omega) ?_ ?_
    · intro h5
      refine mm_wr rfl rfl rfl ?_
      have e : i = 46 := by omega
      subst e
      exact ⟨I1, ⟨g1, g2, g3⟩, rfl⟩
    · intro h5
      refine mm_w1 rfl ?_
      refine mm_wgr (vM_S60 hM) (by decide) (by decide) (vM_P60_38 hM) (vM_a76 hM) ?_
      refine mm_w1 rfl ?_
      refine mm_w1 rfl ?_
      refine mm_nadd ?_
      refine mm_w1 rfl ?_
      refine mm_wgr (vM_S60 hM) (by decide) (by decide) (vM_P60_38 hM) (vM_a76 hM) ?_
      refine mm_w1 rfl ?_
      refine mm_w1 rfl ?_
      refine mm_nadd ?_
      refine mm_wiav (I 76 (fr + i)) (vM_a76 hM) (vM_S76 hM) (by decide) (by omega) (g2 _ (by omega)) ?_
      refine mm_wis (vM_S76 hM) (by decide) (by omega) ?_
      refine mm_nincL (ls' := [_, _, _, _]) 1 rfl (by decide) rfl ?_
      refine mm_wgoto ?_
      refine ih (by omega) _ (fun j hj => ?_) (fun j hj => ?_) (g3.up1)
      · by_cases e : j = i
        · subst e; rw [vb_up1]
        · rw [vb_up2 _ _ (by omega)]; exact g1 j (by omega)
      · rw [vb_up2 _ _ (by omega)]; exact g2 j (by omega)
    )
  show mm_W _ _ 175 (mm_blk 175 0) [.ref 60, .int (vb_i fr), .int (vb_i to), .null] [] _ _
  refine mm_wv (vb_i 0) rfl (by decide) ?_
  refine mm_w1 (ls' := [_, _, _, _]) rfl ?_
  exact loop 0 (by omega) I (fun j h => absurd h (by omega)) (fun j _ => rfl) vb_fr.rf
theorem m_works {q : Nat} {l r : Int32} (h4 : 4 ≤ q) (h11 : q ≤ 11) : mm_Call G d 176 [.int (vb_i q), .int l, .int r] μ (.inl (some (.int (vm_wk q l r))), μ) := by
  refine mm_C.call ?_
  have hq : q = 4 ∨ q = 5 ∨ q = 6 ∨ q = 7 ∨ q = 8 ∨ q = 9 ∨ q = 10 ∨ q = 11 := by omega
  rcases hq with rfl | rfl | rfl | rfl | rfl | rfl | rfl | rfl
  · show mm_W _ _ 176 (mm_blk 176 0) [.int (vb_i 4), .int l, .int r] [] _ _
    refine mm_w1 rfl ?_
    refine mm_wts 44 (by decide +kernel) ?_
    refine mm_w1 rfl ?_
    refine mm_wifeq ?_ ?_
    · intro h45
      refine mm_wv (vb_i 0) rfl (by decide) ?_
      refine mm_wr rfl rfl rfl ?_
      simp only [vm_wk]; first | (rw [vb_eqb h45]; rfl) | (rw [vb_neb h45, vb_eqb h49]; rfl) | (rw [vb_neb h45, vb_neb h49]; rfl)
    · intro h45
      refine mm_w1 rfl ?_
      refine mm_wifeq ?_ ?_
      · intro h49
        refine mm_wv (vb_i 0) rfl (by decide) ?_
        refine mm_wr rfl rfl rfl ?_
        simp only [vm_wk]; first | (rw [vb_eqb h45]; rfl) | (rw [vb_neb h45, vb_eqb h49]; rfl) | (rw [vb_neb h45, vb_neb h49]; rfl)
      · intro h49
        refine mm_wv (vb_i 1) rfl (by decide) ?_
        refine mm_wgoto ?_
        refine mm_wr rfl rfl rfl ?_
        simp only [vm_wk]; first | (rw [vb_eqb h45]; rfl) | (rw [vb_neb h45, vb_eqb h49]; rfl) | (rw [vb_neb h45, vb_neb h49]; rfl)
  · show mm_W _ _ 176 (mm_blk 176 0) [.int (vb_i 5), .int l, .int r] [] _ _
    refine mm_w1 rfl ?_
    refine mm_wts 58 (by decide +kernel) ?_
    refine mm_w1 rfl ?_
    refine mm_wifne ?_ ?_
    · intro h59
      refine mm_wv (vb_i 1) rfl (by decide) ?_
      refine mm_wgoto ?_
      refine mm_wr rfl rfl rfl ?_
      simp only [vm_wk]; first | (rw [vb_neb h59]; rfl) | (rw [vb_eqb h59, vb_eqb h63]; rfl) | (rw [vb_eqb h59, vb_neb h63]; rfl)
    · intro h59
      refine mm_w1 rfl ?_
      refine mm_wifeq ?_ ?_
      · intro h63
        refine mm_wv (vb_i 0) rfl (by decide) ?_
        refine mm_wr rfl rfl rfl ?_
        simp only [vm_wk]; first | (rw [vb_neb h59]; rfl) | (rw [vb_eqb h59, vb_eqb h63]; rfl) | (rw [vb_eqb h59, vb_neb h63]; rfl)
      · intro h63
        refine mm_wv (vb_i 1) rfl (by decide) ?_
        refine mm_wgoto ?_
        refine mm_wr rfl rfl rfl ?_
        simp only [vm_wk]; first | (rw [vb_neb h59]; rfl) | (rw [vb_eqb h59, vb_eqb h63]; rfl) | (rw [vb_eqb h59, vb_neb h63]; rfl)
  · show mm_W _ _ 176 (mm_blk 176 0) [.int (vb_i 6), .int l, .int r] [] _ _
    refine mm_w1 rfl ?_
    refine mm_wts 72 (by decide +kernel) ?_
    refine mm_w1 rfl ?_
    refine mm_w1 rfl ?_
    refine mm_wicge ?_ ?_
    · intro h74
      refine mm_wv (vb_i 0) rfl (by decide) ?_
      refine mm_wr rfl rfl rfl ?_
      simp only [vm_wk]; first | (rw [decide_eq_true h74]; rfl) | (rw [decide_eq_false h74]; rfl)
    · intro h74
      refine mm_wv (vb_i 1) rfl (by decide) ?_
      refine mm_wgoto ?_
      refine mm_wr rfl rfl rfl ?_
      simp only [vm_wk]; first | (rw [decide_eq_true h74]; rfl) | (rw [decide_eq_false h74]; rfl)
  · show mm_W _ _ 176 (mm_blk 176 0) [.int (vb_i 7), .int l, .int r] [] _ _
    refine mm_w1 rfl ?_
    refine mm_wts 83 (by decide +kernel) ?_
    refine mm_w1 rfl ?_
    refine mm_w1 rfl ?_
    refine mm_wicne ?_ ?_
    · intro h85
      refine mm_wv (vb_i 0) rfl (by decide) ?_
      refine mm_wr rfl rfl rfl ?_
      simp only [vm_wk]; first | (rw [vb_eqb h85]; rfl) | (rw [vb_neb h85]; rfl)
    · intro h85
      refine mm_wv (vb_i 1) rfl (by decide) ?_
      refine mm_wgoto ?_
      refine mm_wr rfl rfl rfl ?_
      simp only [vm_wk]; first | (rw [vb_eqb h85]; rfl) | (rw [vb_neb h85]; rfl)
  · show mm_W _ _ 176 (mm_blk 176 0) [.int (vb_i 8), .int l, .int r] [] _ _
    refine mm_w1 rfl ?_
    refine mm_wts 94 (by decide +kernel) ?_
    refine mm_w1 rfl ?_
    refine mm_w1 rfl ?_
    refine mm_w1 rfl ?_
    refine mm_wr rfl rfl rfl ?_
    rfl
  · show mm_W _ _ 176 (mm_blk 176 0) [.int (vb_i 9), .int l, .int r] [] _ _
    refine mm_w1 rfl ?_
    refine mm_wts 98 (by decide +kernel) ?_
    refine mm_w1 rfl ?_
    refine mm_w1 rfl ?_
    refine mm_w1 rfl ?_
    refine mm_wr rfl rfl rfl ?_
    rfl
  · show mm_W _ _ 176 (mm_blk 176 0) [.int (vb_i 10), .int l, .int r] [] _ _
    refine mm_w1 rfl ?_
    refine mm_wts 102 (by decide +kernel) ?_
    refine mm_w1 rfl ?_
    refine mm_w1 rfl ?_
    refine mm_w1 rfl ?_
    refine mm_wr rfl rfl rfl ?_
    rfl
  · show mm_W _ _ 176 (mm_blk 176 0) [.int (vb_i 11), .int l, .int r] [] _ _
    refine mm_w1 rfl ?_
    refine mm_wts 106 (by decide +kernel) ?_
    refine mm_w1 rfl ?_
    refine mm_wifne ?_ ?_
    · intro h107
      refine mm_w1 rfl ?_
      refine mm_w1 rfl ?_
      refine mm_wdiv h107 ?_ 
      refine mm_wr rfl rfl rfl ?_
      simp only [vm_wk]; first | (rw [if_pos h107]; rfl) | (rw [if_neg h107]; rfl)
    · intro h107
      refine mm_wv (vb_i 0) rfl (by decide) ?_
      refine mm_wgoto ?_
      refine mm_wr rfl rfl rfl ?_
      simp only [vm_wk]; first | (rw [if_pos h107]; rfl) | (rw [if_neg h107]; rfl)
end REF1
