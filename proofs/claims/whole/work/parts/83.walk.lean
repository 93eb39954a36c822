theorem vb_cnt_more {n b : Nat} {p q : Nat → Bool} (h : ∀ v, v < n → p v = true → q v = true) (hb : b < n) (h1 : p b = false) (h2 : q b = true) : vb_cnt n p + 1 ≤ vb_cnt n q := by
  induction n with
  | zero => omega
  | succ n ih =>
    simp only [vb_cnt]
    by_cases e : b = n
    · have h3 := vb_cnt_mono (n := n) (fun v hv => h v (by omega))
      rw [← e, h1, h2]
      have e1 : true.toNat = 1 := rfl
      have e2 : false.toNat = 0 := rfl
      rw [e]; omega
    · have h3 := ih (fun v hv => h v (by omega)) (by omega)
      have h2 : (p n).toNat ≤ (q n).toNat := by
        cases e : p n with
        | false => exact Nat.zero_le _
        | true => rw [h n (by omega) e]; exact Nat.le_refl _
      omega
theorem vb_cnt_full {n : Nat} {p : Nat → Bool} (h : n ≤ vb_cnt n p) : ∀ v, v < n → p v = true := by
  induction n with
  | zero => intro v hv; omega
  | succ n ih =>
    simp only [vb_cnt] at h
    have h1 := vb_cnt_le n p
    have h2 : (p n).toNat ≤ 1 := Bool.toNat_le _
    intro v hv
    by_cases e : v = n
    · subst e
      cases e2 : p v with
      | true => rfl
      | false => rw [e2] at h; have e1 : false.toNat = 0 := rfl; omega
    · exact ih (by omega) v (by omega)
/-! growing step by step -/
def vw_s (ℓ : vb_L) (g r : Int32) : Int32 := r ||| (vb_bes ℓ r &&& g)
theorem vw_s_has {ℓ : vb_L} {g r : Int32} (hn : vb_n ℓ ≤ 10) (b : Nat) : vb_has (vw_s ℓ g r) b = (vb_has r b || (decide (b < vb_n ℓ) && (List.range (vb_n ℓ)).any (fun v => vb_has r v && vb_has (vb_nb ℓ v) b) && vb_has g b)) := by
  rw [vw_s, vb_has_or, vb_has_and, vb_bes, vb_has_set _ (by omega)]
def vw_R (ℓ : vb_L) (g r : Int32) : Nat → Int32
  | 0 => r
  | k + 1 => vw_s ℓ g (vw_R ℓ g r k)
theorem vw_R_s (ℓ : vb_L) (g : Int32) : ∀ (k : Nat) (r : Int32), vw_R ℓ g (vw_s ℓ g r) k = vw_s ℓ g (vw_R ℓ g r k) := by
  intro k
  induction k with
  | zero => intro r; rfl
  | succ k ih => intro r; simp only [vw_R, ih]
theorem vw_grow (ℓ : vb_L) (g : Int32) : ∀ (k : Nat) (r : Int32), vb_grow ℓ g k r = vw_R ℓ g r k := by
  intro k
  induction k with
  | zero => intro r; rfl
  | succ k ih => intro r; show vb_grow ℓ g k (vw_s ℓ g r) = _; rw [ih, vw_R_s]; rfl
theorem vw_jn (ℓ : vb_L) (g : Int32) (to : Nat) : ∀ (k i : Nat) (r : Int32), q_jn ℓ g to k i (vw_R ℓ g r i) = -1 ∧ (∀ j, i ≤ j → j < i + k → vb_has (vw_R ℓ g r j) to = false) ∨ ∃ j, i ≤ j ∧ j < i + k ∧ q_jn ℓ g to k i (vw_R ℓ g r i) = vb_i j ∧ vb_has (vw_R ℓ g r j) to = true ∧ ∀ j', i ≤ j' → j' < j → vb_has (vw_R ℓ g r j') to = false := by
  intro k
  induction k with
  | zero => intro i r; exact Or.inl ⟨rfl, fun j h1 h2 => by omega⟩
  | succ k ih =>
    intro i r
    have e : q_jn ℓ g to (k + 1) i (vw_R ℓ g r i) = if vb_has (vw_R ℓ g r i) to then vb_i i else q_jn ℓ g to k (i + 1) (vw_R ℓ g r (i + 1)) := rfl
    rw [e]
    cases h : vb_has (vw_R ℓ g r i) to with
    | true => exact Or.inr ⟨i, by omega, by omega, if_pos rfl, h, fun j' h1 h2 => by omega⟩
    | false =>
      rw [if_neg (by decide)]
      rcases ih (i + 1) r with ⟨h1, h2⟩ | ⟨j, h1, h2, h3, h4, h5⟩
      · refine Or.inl ⟨h1, fun j h3 h4 => ?_⟩
        by_cases e : j = i
        · rw [e]; exact h
        · exact h2 j (by omega) (by omega)
      · refine Or.inr ⟨j, by omega, by omega, h3, h4, fun j' h6 h7 => ?_⟩
        by_cases e : j' = i
        · rw [e]; exact h
        · exact h5 j' (by omega) h7
theorem vw_up1 {ℓ : vb_L} {g r : Int32} (hn : vb_n ℓ ≤ 10) {k b : Nat} (h : vb_has (vw_R ℓ g r k) b = true) : vb_has (vw_R ℓ g r (k + 1)) b = true := by
  show vb_has (vw_s ℓ g (vw_R ℓ g r k)) b = true
  rw [vw_s_has hn, h, Bool.true_or]
theorem vw_up {ℓ : vb_L} {g r : Int32} (hn : vb_n ℓ ≤ 10) {k b : Nat} (h : vb_has (vw_R ℓ g r k) b = true) : ∀ {j}, k ≤ j → vb_has (vw_R ℓ g r j) b = true := by
  intro j hj
  induction j with
  | zero => rw [show (0 : Nat) = k by omega]; exact h
  | succ j ih =>
    by_cases e : k = j + 1
    · rw [← e]; exact h
    · exact vw_up1 hn (ih (by omega))
theorem vw_nx {ℓ : vb_L} {g r : Int32} (hn : vb_n ℓ ≤ 10) {k a b : Nat} (ha : a < vb_n ℓ) (hb : b < vb_n ℓ) (h : vb_has (vw_R ℓ g r k) a = true) (hr : vb_has (vb_nb ℓ a) b = true) (hg : vb_has g b = true) : vb_has (vw_R ℓ g r (k + 1)) b = true := by
  show vb_has (vw_s ℓ g (vw_R ℓ g r k)) b = true
  rw [vw_s_has hn, decide_eq_true hb, hg, Bool.true_and, Bool.and_true]
  have : (List.range (vb_n ℓ)).any (fun v => vb_has (vw_R ℓ g r k) v && vb_has (vb_nb ℓ v) b) = true := List.any_eq_true.mpr ⟨a, List.mem_range.mpr ha, by rw [h, hr]; rfl⟩
  rw [this, Bool.or_true]
theorem vw_bk {ℓ : vb_L} {g r : Int32} (hn : vb_n ℓ ≤ 10) {k b : Nat} (h : vb_has (vw_R ℓ g r (k + 1)) b = true) : vb_has (vw_R ℓ g r k) b = true ∨ (b < vb_n ℓ ∧ vb_has g b = true ∧ ∃ a, a < vb_n ℓ ∧ vb_has (vw_R ℓ g r k) a = true ∧ vb_has (vb_nb ℓ a) b = true) := by
  have h : vb_has (vw_s ℓ g (vw_R ℓ g r k)) b = true := h
  rw [vw_s_has hn, Bool.or_eq_true, Bool.and_eq_true, Bool.and_eq_true, List.any_eq_true, decide_eq_true_eq] at h
  rcases h with h | ⟨⟨h1, a, h2, h3⟩, h4⟩
  · exact Or.inl h
  · rw [Bool.and_eq_true] at h3
    exact Or.inr ⟨h1, h4, a, List.mem_range.mp h2, h3.1, h3.2⟩
theorem vw_below {ℓ : vb_L} {g r : Int32} (hn : vb_n ℓ ≤ 10) (hr : vb_below (vb_n ℓ) r) : ∀ k, vb_below (vb_n ℓ) (vw_R ℓ g r k) := by
  intro k
  induction k with
  | zero => exact hr
  | succ k ih =>
    intro v hv
    rcases vw_bk hn hv with h | h
    · exact ih v h
    · exact h.1
theorem vw_stay {ℓ : vb_L} {g r : Int32} {k : Nat} (h : vw_R ℓ g r (k + 1) = vw_R ℓ g r k) : ∀ j, k ≤ j → vw_R ℓ g r j = vw_R ℓ g r k := by
  intro j hj
  induction j with
  | zero => rw [show k = 0 by omega]
  | succ j ih =>
    by_cases e : k = j + 1
    · rw [e]
    · show vw_s ℓ g (vw_R ℓ g r j) = _
      rw [ih (by omega)]; exact h
theorem vw_pig {ℓ : vb_L} {g r : Int32} (hn : vb_n ℓ ≤ 10) (hr : vb_below (vb_n ℓ) r) {a : Nat} (ha : a < vb_n ℓ) (har : vb_has r a = true) : ∀ i, (∃ k, k ≤ i ∧ ∀ j, k ≤ j → vw_R ℓ g r j = vw_R ℓ g r k) ∨ i + 1 ≤ vb_cnt (vb_n ℓ) (vb_has (vw_R ℓ g r i)) := by
  intro i
  induction i with
  | zero =>
    right
    have h := vb_cnt_more (n := vb_n ℓ) (p := fun _ => false) (q := vb_has (vw_R ℓ g r 0)) (fun _ _ h => by cases h) ha rfl har
    omega
  | succ i ih =>
    rcases ih with ⟨k, h1, h2⟩ | ih
    · exact Or.inl ⟨k, by omega, h2⟩
    · by_cases h : vw_R ℓ g r (i + 1) = vw_R ℓ g r i
      · exact Or.inl ⟨i, by omega, vw_stay h⟩
      · right
        have : ∃ b, b < vb_n ℓ ∧ vb_has (vw_R ℓ g r i) b = false ∧ vb_has (vw_R ℓ g r (i + 1)) b = true := by
          refine Classical.byContradiction (fun hc => h ?_)
          refine vb_ext (fun v _ => ?_)
          cases e : vb_has (vw_R ℓ g r (i + 1)) v with
          | true =>
            cases e2 : vb_has (vw_R ℓ g r i) v with
            | true => rfl
            | false => exact absurd ⟨v, vw_below hn hr _ v e, e2, e⟩ hc
          | false =>
            cases e2 : vb_has (vw_R ℓ g r i) v with
            | false => rfl
            | true => rw [vw_up1 hn e2] at e; cases e
        obtain ⟨b, h1, h2, h3⟩ := this
        have h4 := vb_cnt_more (p := vb_has (vw_R ℓ g r i)) (q := vb_has (vw_R ℓ g r (i + 1))) (fun v _ hv => vw_up1 hn hv) h1 h2 h3
        omega
theorem vw_end {ℓ : vb_L} {g r : Int32} (hn : vb_n ℓ ≤ 10) (hr : vb_below (vb_n ℓ) r) {a : Nat} (ha : a < vb_n ℓ) (har : vb_has r a = true) {j b : Nat} (h : vb_has (vw_R ℓ g r j) b = true) : vb_has (vw_R ℓ g r (vb_n ℓ - 1)) b = true := by
  have hb := vw_below hn hr _ b h
  rcases vw_pig hn hr ha har (g := g) (vb_n ℓ - 1) with ⟨k, h1, h2⟩ | h1
  · by_cases e : j ≤ vb_n ℓ - 1
    · exact vw_up hn h e
    · rw [h2 _ h1, ← h2 j (by omega)]; exact h
  · exact vb_cnt_full (by omega) b hb
