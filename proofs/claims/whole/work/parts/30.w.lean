/-! RUNS WITH A POSTCONDITION, goal first -/
def mm_W (G : mm_G) (d k : Nat) (is : List mm_I) (ls st : List Value) (μ : mm_M) (Q : mm_R → Prop) : Prop := ∃ r, mm_Go G d k is ls st μ r ∧ Q r
def mm_C (G : mm_G) (d k : Nat) (args : List Value) (μ : mm_M) (Q : mm_R → Prop) : Prop := mm_W G d k (mm_blk k 0) (mm_ent (mm_mx k) args) [] μ Q
theorem mm_W.deep {G : mm_G} {d d' k : Nat} {is : List mm_I} {ls st : List Value} {μ : mm_M} {Q : mm_R → Prop} (h : mm_W G d k is ls st μ Q) (hd : d ≤ d') : mm_W G d' k is ls st μ Q := by
  obtain ⟨r, h, q⟩ := h
  exact ⟨r, h.deep hd, q⟩
theorem mm_W.imp {G : mm_G} {d k : Nat} {is : List mm_I} {ls st : List Value} {μ : mm_M} {Q Q' : mm_R → Prop} (h : mm_W G d k is ls st μ Q) (hQ : ∀ r, Q r → Q' r) : mm_W G d k is ls st μ Q' := by
  obtain ⟨r, h, q⟩ := h
  exact ⟨r, h, hQ r q⟩
theorem mm_C.imp {G : mm_G} {d k : Nat} {args : List Value} {μ : mm_M} {Q Q' : mm_R → Prop} (h : mm_C G d k args μ Q) (hQ : ∀ r, Q r → Q' r) : mm_C G d k args μ Q' := mm_W.imp h hQ
theorem mm_C.deep {G : mm_G} {d d' k : Nat} {args : List Value} {μ : mm_M} {Q : mm_R → Prop} (h : mm_C G d k args μ Q) (hd : d ≤ d') : mm_C G d' k args μ Q := mm_W.deep h hd
theorem mm_C.call {G : mm_G} {d k : Nat} {args : List Value} {μ : mm_M} {r : mm_R} (h : mm_C G d k args μ (fun q => q = r)) : mm_Call G d k args μ r := by
  obtain ⟨r', h, rfl⟩ := h
  exact h
/-! small naturals as ints, truth as an int, one bit -/
def vb_i (n : Nat) : Int32 := Int32.ofNat n
def vb_b (c : Bool) : Int32 := if c then 1 else 0
def vb_bit (j : Nat) : Int32 := Int32.ofNat (2 ^ j)
def vb_has (s : Int32) (j : Nat) : Bool := s.toBitVec.getLsbD j
theorem vb_toInt {n : Nat} (h : n < 2 ^ 31) : (vb_i n).toInt = n := by
  simp only [vb_i]
  exact Int32.toInt_ofNat_of_lt (by omega)
theorem vb_nat {n : Nat} (h : n < 2 ^ 31) : (vb_i n).toNatClampNeg = n := by
  have := vb_toInt h
  simp only [Int32.toNatClampNeg, this]
  omega
theorem vb_lt {a b : Nat} (ha : a < 2 ^ 31) (hb : b < 2 ^ 31) : vb_i a < vb_i b ↔ a < b := by
  rw [Int32.lt_iff_toInt_lt, vb_toInt ha, vb_toInt hb]
  omega
theorem vb_le {a b : Nat} (ha : a < 2 ^ 31) (hb : b < 2 ^ 31) : vb_i a ≤ vb_i b ↔ a ≤ b := by
  rw [Int32.le_iff_toInt_le, vb_toInt ha, vb_toInt hb]
  omega
theorem vb_inj {a b : Nat} (ha : a < 2 ^ 31) (hb : b < 2 ^ 31) : vb_i a = vb_i b ↔ a = b := by
  constructor
  · intro h
    have := congrArg Int32.toInt h
    rw [vb_toInt ha, vb_toInt hb] at this
    omega
  · rintro rfl; rfl
theorem vb_ge0 {a : Nat} (ha : a < 2 ^ 31) : ¬ vb_i a < 0 := by
  have : (0 : Int32) = vb_i 0 := rfl
  rw [this, vb_lt ha (by omega)]
  omega
theorem vb_ix {a n : Nat} (h : a < n) (ha : a < 2 ^ 31) : mm_ix (vb_i a) n := by
  intro hh
  rcases hh with hh | hh
  · exact vb_ge0 ha hh
  · rw [vb_nat ha] at hh; omega
theorem vb_add (a b : Nat) : vb_i a + vb_i b = vb_i (a + b) := by
  simp only [vb_i, Int32.ofNat_add]
theorem vb_mul (a b : Nat) : vb_i a * vb_i b = vb_i (a * b) := by
  simp only [vb_i, Int32.ofNat_mul]
theorem vb_sub {a b : Nat} (h : b ≤ a) : vb_i a - vb_i b = vb_i (a - b) := by
  have : vb_i a = vb_i (a - b) + vb_i b := by rw [vb_add]; congr 1; omega
  rw [this, Int32.add_sub_cancel]
theorem vb_div {a b : Nat} (ha : a < 2 ^ 31) (hb : b < 2 ^ 31) : vb_i a / vb_i b = vb_i (a / b) := by
  apply Int32.toInt_inj.mp
  have hq : a / b < 2 ^ 31 := Nat.lt_of_le_of_lt (Nat.div_le_self a b) ha
  rw [vb_toInt hq, Int32.toInt_div, vb_toInt ha, vb_toInt hb]
  rw [Int.tdiv_eq_ediv_of_nonneg (by omega), ← Int.natCast_ediv]
  generalize a / b = q at hq
  apply Int.bmod_eq_of_le
  · omega
  · omega
theorem vb_rem {a b : Nat} (ha : a < 2 ^ 31) (hb : b < 2 ^ 31) : vb_i a - vb_i a / vb_i b * vb_i b = vb_i (a % b) := by
  have h : a / b * b ≤ a := Nat.div_mul_le_self a b
  rw [vb_div ha hb, vb_mul, vb_sub h]
  congr 1
  have := Nat.div_add_mod a b
  rw [Nat.mul_comm] at this
  omega
/-- an int between 0 and n is a natural -/
theorem vb_of {v : Int32} {n : Nat} (hn : n < 2 ^ 31) (h0 : ¬ v < 0) (h1 : v < vb_i n) : ∃ j, j < n ∧ v = vb_i j := by
  have h2 : 0 ≤ v.toInt := by
    rw [Int32.lt_iff_toInt_lt] at h0
    have : (0 : Int32).toInt = 0 := rfl
    omega
  refine ⟨v.toInt.toNat, ?_, ?_⟩
  · rw [Int32.lt_iff_toInt_lt, vb_toInt hn] at h1; omega
  · apply Int32.toInt_inj.mp
    have h3 : v.toInt < 2 ^ 31 := by have := Int32.toInt_lt v; omega
    rw [vb_toInt (by omega)]
    omega
theorem vb_nlt {a b : Int32} : ¬ a < b ↔ b ≤ a := by
  rw [Int32.lt_iff_toInt_lt, Int32.le_iff_toInt_le]; omega
theorem vb_nle {a b : Int32} : ¬ a ≤ b ↔ b < a := by
  rw [Int32.lt_iff_toInt_lt, Int32.le_iff_toInt_le]; omega
