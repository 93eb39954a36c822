/-! TOKENS of a text b (-1 behind its end) -/
def tx_kd (c : Int32) : Nat := if 97 ≤ c ∧ c ≤ 122 then 1 else if 48 ≤ c ∧ c ≤ 57 then 2 else if c = -1 then 0 else if c = 59 ∨ c = 40 ∨ c = 41 ∨ c = 43 ∨ c = 45 ∨ c = 42 ∨ c = 47 ∨ c = 60 ∨ c = 61 then c.toNatClampNeg else 4
def tx_ok (b : Nat → Int32) (n : Nat) : Prop := n ≤ 700 ∧ (∀ i, n ≤ i → b i = -1) ∧ ∀ i, i < n → 0 ≤ b i
def tx_sp (c : Int32) : Bool := decide (c = 32 ∨ c = 10)
def tx_sk (b : Nat → Int32) : Nat → Nat → Nat
  | 0, p => p
  | k + 1, p => if tx_sp (b p) = true then tx_sk b k (p + 1) else p
def tx_en (b : Nat → Int32) (K : Nat) : Nat → Nat → Nat
  | 0, p => p
  | k + 1, p => if tx_kd (b p) = K then tx_en b K k (p + 1) else p
def tx_S (b : Nat → Int32) (q : Nat) : Nat := tx_sk b 700 q
def tx_E (b : Nat → Int32) (s : Nat) : Nat := if tx_kd (b s) = 1 ∨ tx_kd (b s) = 2 then tx_en b (tx_kd (b s)) 700 s else if tx_kd (b s) = 0 then s else s + 1
def tx_K (b : Nat → Int32) (s : Nat) : Nat := if tx_kd (b s) = 2 ∧ 4 < tx_E b s - s then 3 else tx_kd (b s)
def tx_N (b : Nat → Int32) (s : Nat) : Nat := tx_S b (tx_E b s)
def tx_vl (b : Nat → Int32) (s : Nat) : Nat → Int32
  | 0 => 0
  | k + 1 => vb_i 10 * tx_vl b s k + b (s + k) - vb_i 48
def tx_V (b : Nat → Int32) (s : Nat) : Nat → Nat
  | 0 => 0
  | k + 1 => 10 * tx_V b s k + ((b (s + k)).toNatClampNeg - 48)
theorem tx_kd_sp {c : Int32} (h : tx_sp c = true) : tx_kd c = 4 := by
  have h1 := of_decide_eq_true h
  rcases h1 with rfl | rfl <;> decide
theorem tx_kd_m1 : tx_kd (-1) = 0 := by decide
theorem tx_sk_le (b : Nat → Int32) : ∀ k p, p ≤ tx_sk b k p := by
  intro k
  induction k with
  | zero => intro p; exact Nat.le_refl _
  | succ k ih =>
    intro p
    rw [tx_sk]
    split
    · have := ih (p + 1); omega
    · exact Nat.le_refl _
theorem tx_sk_n {b : Nat → Int32} {n : Nat} (h : tx_ok b n) : ∀ k p, p ≤ n → tx_sk b k p ≤ n := by
  intro k
  induction k with
  | zero => intro p hp; exact hp
  | succ k ih =>
    intro p hp
    rw [tx_sk]
    split
    · rename_i hs
      by_cases e : p = n
      · rw [h.2.1 p (by omega)] at hs; exact absurd hs (by decide)
      · exact ih (p + 1) (by omega)
    · exact hp
theorem tx_sk_sp {b : Nat → Int32} {n : Nat} (h : tx_ok b n) : ∀ k p, p ≤ n → n ≤ p + k → tx_sp (b (tx_sk b k p)) = false := by
  intro k
  induction k with
  | zero =>
    intro p hp hk
    rw [tx_sk, h.2.1 p (by omega)]; decide
  | succ k ih =>
    intro p hp hk
    rw [tx_sk]
    split
    · rename_i hs
      by_cases e : p = n
      · rw [h.2.1 p (by omega)] at hs; exact absurd hs (by decide)
      · exact ih (p + 1) (by omega) (by omega)
    · rename_i hs; exact (Bool.not_eq_true _).mp hs
theorem tx_S_le (b : Nat → Int32) (q : Nat) : q ≤ tx_S b q := tx_sk_le b 700 q
theorem tx_S_n {b : Nat → Int32} {n q : Nat} (h : tx_ok b n) (hq : q ≤ n) : tx_S b q ≤ n := tx_sk_n h 700 q hq
theorem tx_S_sp {b : Nat → Int32} {n q : Nat} (h : tx_ok b n) (hq : q ≤ n) : tx_sp (b (tx_S b q)) = false := tx_sk_sp h 700 q hq (by have := h.1; omega)
theorem tx_en_le (b : Nat → Int32) (K : Nat) : ∀ k p, p ≤ tx_en b K k p := by
  intro k
  induction k with
  | zero => intro p; exact Nat.le_refl _
  | succ k ih =>
    intro p
    rw [tx_en]
    split
    · have := ih (p + 1); omega
    · exact Nat.le_refl _
theorem tx_en_n {b : Nat → Int32} {n K : Nat} (h : tx_ok b n) (hK : K ≠ 0) : ∀ k p, p ≤ n → tx_en b K k p ≤ n := by
  intro k
  induction k with
  | zero => intro p hp; exact hp
  | succ k ih =>
    intro p hp
    rw [tx_en]
    split
    · rename_i hs
      by_cases e : p = n
      · rw [h.2.1 p (by omega), tx_kd_m1] at hs; exact absurd hs.symm hK
      · exact ih (p + 1) (by omega)
    · exact hp
theorem tx_en_kd {b : Nat → Int32} {K : Nat} : ∀ k p i, p ≤ i → i < tx_en b K k p → tx_kd (b i) = K := by
  intro k
  induction k with
  | zero => intro p i h1 h2; rw [tx_en] at h2; omega
  | succ k ih =>
    intro p i h1 h2
    rw [tx_en] at h2
    split at h2
    · rename_i hs
      by_cases e : i = p
      · rw [e]; exact hs
      · exact ih (p + 1) i (by omega) h2
    · omega
theorem tx_en_ne {b : Nat → Int32} {n K : Nat} (h : tx_ok b n) (hK : K ≠ 0) : ∀ k p, p ≤ n → n ≤ p + k → tx_kd (b (tx_en b K k p)) ≠ K := by
  intro k
  induction k with
  | zero =>
    intro p hp hk
    rw [tx_en, h.2.1 p (by omega), tx_kd_m1]; exact fun e => hK e.symm
  | succ k ih =>
    intro p hp hk
    rw [tx_en]
    split
    · rename_i hs
      by_cases e : p = n
      · rw [h.2.1 p (by omega), tx_kd_m1] at hs; exact absurd hs.symm hK
      · exact ih (p + 1) (by omega) (by omega)
    · assumption
theorem tx_kd0 {b : Nat → Int32} {n s : Nat} (h : tx_ok b n) (hs : s ≤ n) : tx_kd (b s) = 0 ↔ s = n := by
  constructor
  · intro e
    by_cases e2 : s = n
    · exact e2
    · exfalso
      have h0 := h.2.2 s (by omega)
      have hne : ¬ b s = -1 := fun e3 => by rw [e3] at h0; exact absurd h0 (by decide)
      simp only [tx_kd] at e
      split at e
      · cases e
      · split at e
        · cases e
        · (try rw [if_neg hne] at e)
          split at e
          · rename_i h9
            rcases h9 with h9 | h9 | h9 | h9 | h9 | h9 | h9 | h9 | h9 <;> rw [h9] at e <;> exact absurd e (by decide)
          · cases e
  · intro e
    rw [h.2.1 s (by omega)]; decide
theorem tx_E_le (b : Nat → Int32) (s : Nat) : s ≤ tx_E b s := by
  rw [tx_E]
  split
  · exact tx_en_le b _ _ _
  · split <;> omega
theorem tx_E_n {b : Nat → Int32} {n s : Nat} (h : tx_ok b n) (hs : s ≤ n) : tx_E b s ≤ n := by
  rw [tx_E]
  split
  · rename_i h1; exact tx_en_n h (by omega) _ _ hs
  · split
    · exact hs
    · rename_i h1
      have : s ≠ n := fun e => h1 ((tx_kd0 h hs).mpr e)
      omega
theorem tx_E_lt {b : Nat → Int32} {n s : Nat} (h : tx_ok b n) (hs : s < n) : s < tx_E b s := by
  rw [tx_E]
  split
  · rw [show (700 : Nat) = 699 + 1 from rfl, tx_en, if_pos rfl]
    have := tx_en_le b (tx_kd (b s)) 699 (s + 1)
    omega
  · split
    · rename_i h1
      have := (tx_kd0 h (by omega)).mp h1
      omega
    · omega
theorem tx_K0 {b : Nat → Int32} {n s : Nat} (h : tx_ok b n) (hs : s ≤ n) : tx_K b s = 0 ↔ s = n := by
  rw [tx_K]
  split
  · rename_i h1
    constructor
    · intro e; cases e
    · intro e
      have := (tx_kd0 h hs).mpr e
      omega
  · exact tx_kd0 h hs
theorem tx_N_n {b : Nat → Int32} {n s : Nat} (h : tx_ok b n) (hs : s ≤ n) : tx_N b s ≤ n := tx_S_n h (tx_E_n h hs)
theorem tx_N_lt {b : Nat → Int32} {n s : Nat} (h : tx_ok b n) (hs : s < n) : s < tx_N b s := by
  have h1 := tx_E_lt h hs
  have h2 := tx_S_le b (tx_E b s)
  rw [tx_N]; omega
theorem tx_E_N (b : Nat → Int32) (s : Nat) : tx_E b s ≤ tx_N b s := tx_S_le b _
theorem tx_lt {b : Nat → Int32} {n s : Nat} (h : tx_ok b n) (hs : s ≤ n) (hK : tx_K b s ≠ 0) : s < n := by
  have : s ≠ n := fun e => hK ((tx_K0 h hs).mpr e)
  omega
/-- digits -/
theorem tx_dig {c : Int32} (h : tx_kd c = 2) : ∃ d, d < 10 ∧ c = vb_i (48 + d) := by
  simp only [tx_kd] at h
  split at h
  · cases h
  · split at h
    · rename_i h2
      have h3 : c.toInt = (c.toNatClampNeg : Int) := by
        have := Int32.le_iff_toInt_le.mp h2.1
        have e : Int32.toInt 48 = 48 := by decide
        show c.toInt = ((c.toInt.toNat : Nat) : Int)
        omega
      have h4 := Int32.le_iff_toInt_le.mp h2.1
      have h5 := Int32.le_iff_toInt_le.mp h2.2
      have e4 : Int32.toInt 48 = 48 := by decide
      have e5 : Int32.toInt 57 = 57 := by decide
      refine ⟨c.toNatClampNeg - 48, by omega, ?_⟩
      rw [show 48 + (c.toNatClampNeg - 48) = c.toNatClampNeg by omega]
      apply Int32.toInt.inj
      rw [vb_i, Int32.toInt_ofNat_of_lt (by omega)]
      exact h3
    · split at h
      · cases h
      · split at h
        · rename_i h9
          rcases h9 with h9 | h9 | h9 | h9 | h9 | h9 | h9 | h9 | h9 <;> rw [h9] at h <;> exact absurd h (by decide)
        · cases h
theorem tx_vV {b : Nat → Int32} {s : Nat} : ∀ k, k ≤ 4 → (∀ i, i < k → tx_kd (b (s + i)) = 2) → tx_vl b s k = vb_i (tx_V b s k) ∧ tx_V b s k < 10 ^ k := by
  intro k
  induction k with
  | zero => intro _ _; exact ⟨rfl, Nat.one_pos⟩
  | succ k ih =>
    intro hk h
    obtain ⟨h1, h2⟩ := ih (by omega) (fun i hi => h i (by omega))
    obtain ⟨d, hd, e⟩ := tx_dig (h k (by omega))
    have e1 : (vb_i (48 + d)).toNatClampNeg = 48 + d := by rw [vb_i, Int32.toNatClampNeg_ofNat_of_lt (by omega)]
    rw [tx_vl, tx_V, e, e1, h1]
    have h3 : 10 ^ (k + 1) = 10 * 10 ^ k := by rw [Nat.pow_succ]; omega
    refine ⟨?_, by omega⟩
    rw [show 48 + d - 48 = d by omega]
    apply Int32.toBitVec_inj.mp
    simp only [vb_i, Int32.toBitVec_sub, Int32.toBitVec_add, Int32.toBitVec_mul, Int32.toBitVec_ofNat']
    apply BitVec.eq_of_toNat_eq
    simp only [BitVec.toNat_sub, BitVec.toNat_add, BitVec.toNat_mul, BitVec.toNat_ofNat]
    omega
theorem tx_num {b : Nat → Int32} {s : Nat} (h : tx_K b s = 2) : tx_E b s - s ≤ 4 ∧ tx_vl b s (tx_E b s - s) = vb_i (tx_V b s (tx_E b s - s)) ∧ tx_V b s (tx_E b s - s) ≤ 9999 := by
  rw [tx_K] at h
  split at h
  · cases h
  · rename_i h1
    have h4 : tx_E b s - s ≤ 4 := by omega
    have h5 := tx_vV (b := b) (s := s) (tx_E b s - s) h4 (fun i hi => by
      have e : tx_E b s = tx_en b (tx_kd (b s)) 700 s := by rw [tx_E, if_pos (Or.inr h)]
      rw [e] at hi
      rw [tx_en_kd (K := tx_kd (b s)) 700 s (s + i) (by omega) (by omega), h])
    refine ⟨h4, h5.1, ?_⟩
    have : 10 ^ (tx_E b s - s) ≤ 10 ^ 4 := Nat.pow_le_pow_right (by decide) h4
    omega
