/-! THE REFERENCE'S WAY: acts that wait -/
def rf_st (a : Nat) : Nat := if a = 5 then 1 else if a = 4 then 2 else if a = 3 then 3 else if a = 6 ∨ a = 7 then 4 else if a = 8 ∨ a = 9 then 5 else 6
def rf_dW (k : Nat) : List Nat → List Nat
  | [] => []
  | a :: W => if a < 14 ∧ k ≤ rf_st a then rf_dW k W else a :: W
def rf_dC (k : Nat) : List Nat → List (Nat × Int32)
  | [] => []
  | a :: W => if a < 14 ∧ k ≤ rf_st a then (a, 0) :: rf_dC k W else []
def rf_up (t : Nat → Bool) (D : Nat) (v : Bool) : Nat → Bool := fun j => if j = D then v else t j
/-- A (true): an operand is due; L (false): the head of the loop -/
def rf (b : Nat → Int32) : Nat → Bool → Bool → Nat → Nat → List Nat → (Nat → Bool) → List (Nat × Int32) → Nat → px_R
  | 0, _, _, _, _, _, _, _, _ => none
  | f + 1, true, nt, j, D, W, t, C, s =>
    if nt = true ∧ tx_w b s = 15 then (if j = 6 then some (.inl (2, s)) else rf b f true nt (j + 1) D (3 :: W) t C (tx_N b s))
    else if tx_K b s = 40 then (if D < 6 then rf b f true true 0 (D + 1) (14 :: W) (rf_up t (D + 1) false) C (tx_N b s) else some (.inl (if px_cb b (tx_N b s) then 2 else 1, tx_N b s)))
    else if tx_K b s = 2 then rf b f false false 0 D W t (C ++ [(1, vb_i (tx_V b s (tx_E b s - s)))]) (tx_N b s)
    else if tx_K b s = 3 then some (.inl (2, s))
    else if tx_K b s = 1 then (if tx_w b s < 8 then rf b f false false 0 D W t (C ++ [(2, vb_i (tx_w b s))]) (tx_N b s) else some (.inl (3, s)))
    else some (.inl (1, s))
  | f + 1, false, _, _, D, W, t, C, s =>
    if tx_w b s = 13 ∨ tx_w b s = 14 then rf b f true true 0 D ((if tx_w b s = 13 then 4 else 5) :: rf_dW (if tx_w b s = 13 then 2 else 1) W) (rf_up t D false) (C ++ rf_dC (if tx_w b s = 13 then 2 else 1) W) (tx_N b s)
    else if (tx_K b s = 60 ∨ tx_K b s = 61) ∧ t D = false then rf b f true false 0 D ((if tx_K b s = 60 then 6 else 7) :: rf_dW 4 W) (rf_up t D true) (C ++ rf_dC 4 W) (tx_N b s)
    else if tx_K b s = 43 ∨ tx_K b s = 45 then rf b f true false 0 D ((if tx_K b s = 43 then 8 else 9) :: rf_dW 5 W) t (C ++ rf_dC 5 W) (tx_N b s)
    else if tx_K b s = 42 ∨ tx_K b s = 47 then rf b f true false 0 D ((if tx_K b s = 42 then 10 else 11) :: rf_dW 6 W) t (C ++ rf_dC 6 W) (tx_N b s)
    else if tx_K b s = 41 ∧ W.any (fun a => decide (14 ≤ a)) = true then rf b f false false 0 (D - 1) (rf_dW 0 W).tail t (C ++ rf_dC 0 W) (tx_N b s)
    else if 1 < D then some (.inl (1, s)) else some (.inr (s, C ++ rf_dC 0 W))
def rf_A (b : Nat → Int32) (nt : Bool) (j D : Nat) (W : List Nat) (t : Nat → Bool) (C : List (Nat × Int32)) (s : Nat) (r : (Nat × Nat) ⊕ (Nat × List (Nat × Int32))) : Prop := ∃ F, rf b F true nt j D W t C s = some r
def rf_L (b : Nat → Int32) (D : Nat) (W : List Nat) (t : Nat → Bool) (C : List (Nat × Int32)) (s : Nat) (r : (Nat × Nat) ⊕ (Nat × List (Nat × Int32))) : Prop := ∃ F, rf b F false false 0 D W t C s = some r
section RF
variable {b : Nat → Int32} {nt : Bool} {j D : Nat} {W : List Nat} {t : Nat → Bool} {C : List (Nat × Int32)} {s : Nat} {r : (Nat × Nat) ⊕ (Nat × List (Nat × Int32))}
theorem rf_Anot (h : tx_w b s = 15) (hj : j ≠ 6) (k : rf_A b true (j + 1) D (3 :: W) t C (tx_N b s) r) : rf_A b true j D W t C s r := by
  obtain ⟨F, hF⟩ := k
  exact ⟨F + 1, by rw [rf, if_pos ⟨rfl, h⟩, if_neg hj]; exact hF⟩
theorem rf_Anot6 (h : tx_w b s = 15) : rf_A b true 6 D W t C s (.inl (2, s)) := ⟨1, by rw [rf, if_pos ⟨rfl, h⟩, if_pos rfl]⟩
theorem rf_Aop (hn : nt = true → tx_w b s ≠ 15) (hK : tx_K b s = 40) (hD : D < 6) (k : rf_A b true 0 (D + 1) (14 :: W) (rf_up t (D + 1) false) C (tx_N b s) r) : rf_A b nt j D W t C s r := by
  obtain ⟨F, hF⟩ := k
  exact ⟨F + 1, by rw [rf, if_neg (fun h => hn h.1 h.2), if_pos hK, if_pos hD]; exact hF⟩
theorem rf_Aop6 (hn : nt = true → tx_w b s ≠ 15) (hK : tx_K b s = 40) (hD : ¬ D < 6) : rf_A b nt j D W t C s (.inl (if px_cb b (tx_N b s) then 2 else 1, tx_N b s)) := ⟨1, by rw [rf, if_neg (fun h => hn h.1 h.2), if_pos hK, if_neg hD]⟩
theorem rf_Anum (hn : nt = true → tx_w b s ≠ 15) (hK : tx_K b s = 2) (k : rf_L b D W t (C ++ [(1, vb_i (tx_V b s (tx_E b s - s)))]) (tx_N b s) r) : rf_A b nt j D W t C s r := by
  obtain ⟨F, hF⟩ := k
  exact ⟨F + 1, by rw [rf, if_neg (fun h => hn h.1 h.2), if_neg (by omega), if_pos hK]; exact hF⟩
theorem rf_Awd (hn : nt = true → tx_w b s ≠ 15) (hK : tx_K b s = 1) (h8 : tx_w b s < 8) (k : rf_L b D W t (C ++ [(2, vb_i (tx_w b s))]) (tx_N b s) r) : rf_A b nt j D W t C s r := by
  obtain ⟨F, hF⟩ := k
  exact ⟨F + 1, by rw [rf, if_neg (fun h => hn h.1 h.2), if_neg (by omega), if_neg (by omega), if_neg (by omega), if_pos hK, if_pos h8]; exact hF⟩
theorem rf_Awd3 (hn : nt = true → tx_w b s ≠ 15) (hK : tx_K b s = 1) (h8 : ¬ tx_w b s < 8) : rf_A b nt j D W t C s (.inl (3, s)) := ⟨1, by rw [rf, if_neg (fun h => hn h.1 h.2), if_neg (by omega), if_neg (by omega), if_neg (by omega), if_pos hK, if_neg h8]⟩
theorem rf_Abad (hn : nt = true → tx_w b s ≠ 15) (h1 : ¬ tx_K b s = 40) (h2 : ¬ tx_K b s = 1) (h3 : ¬ tx_K b s = 2) : rf_A b nt j D W t C s (.inl (if tx_K b s = 3 then 2 else 1, s)) := ⟨1, by
  rw [rf, if_neg (fun h => hn h.1 h.2), if_neg h1, if_neg h3]
  by_cases e : tx_K b s = 3
  · rw [if_pos e, if_pos e]
  · rw [if_neg e, if_neg h2, if_neg e]⟩
theorem rf_w16 (h : tx_K b s ≠ 1) : ¬ (tx_w b s = 13 ∨ tx_w b s = 14) := fun e => h (tx_w_K (by omega))
/-- a joining sign at a level -/
def rf_nt (l : Nat) : Bool := decide (l ≤ 1)
def rf_t1 (t : Nat → Bool) (D l : Nat) : Nat → Bool := if l ≤ 1 then rf_up t D false else t
def rf_k (m : Nat) : Nat := if m = 0 then 1 else if m = 1 then 2 else if m = 2 then 3 else if m = 3 then 5 else if m = 4 then 6 else 7
theorem rf_Lj {l : Nat} (hl : l = 0 ∨ l = 1 ∨ l = 3 ∨ l = 4) (hj : px_j b l s ≠ 0) (k : rf_A b (rf_nt l) 0 D (px_j b l s :: rf_dW (rf_k l) W) (rf_t1 t D l) (C ++ rf_dC (rf_k l) W) (tx_N b s) r) : rf_L b D W t C s r := by
  obtain ⟨F, hF⟩ := k
  refine ⟨F + 1, ?_⟩
  rcases hl with rfl | rfl | rfl | rfl
  · have e : tx_w b s = 14 := by
      by_cases e : tx_w b s = 14
      · exact e
      · exact absurd (show px_j b 0 s = 0 by simp only [px_j]; simp [e]) hj
    rw [show px_j b 0 s = 5 by simp only [px_j]; simp [e]] at hF
    rw [rf, if_pos (Or.inr e), if_neg (by omega), if_neg (by omega)]; exact hF
  · have e : tx_w b s = 13 := by
      by_cases e : tx_w b s = 13
      · exact e
      · exact absurd (show px_j b 1 s = 0 by simp only [px_j]; simp [e]) hj
    rw [show px_j b 1 s = 4 by simp only [px_j]; simp [e]] at hF
    rw [rf, if_pos (Or.inl e), if_pos e, if_pos e]; exact hF
  · have e : tx_K b s = 43 ∨ tx_K b s = 45 := by
      by_cases e : tx_K b s = 43 ∨ tx_K b s = 45
      · exact e
      · exact absurd (show px_j b 3 s = 0 by simp only [px_j]; simp; rw [if_neg (fun h => e (Or.inl h)), if_neg (fun h => e (Or.inr h))]) hj
    have e2 : px_j b 3 s = if tx_K b s = 43 then 8 else 9 := by
      simp only [px_j]
      rcases e with e | e <;> simp [e]
    rw [e2] at hF
    rw [rf, if_neg (rf_w16 (by omega)), if_neg (by omega), if_pos e]; exact hF
  · have e : tx_K b s = 42 ∨ tx_K b s = 47 := by
      by_cases e : tx_K b s = 42 ∨ tx_K b s = 47
      · exact e
      · exact absurd (show px_j b 4 s = 0 by simp only [px_j]; simp; rw [if_neg (fun h => e (Or.inl h)), if_neg (fun h => e (Or.inr h))]) hj
    have e2 : px_j b 4 s = if tx_K b s = 42 then 10 else 11 := by
      simp only [px_j]
      rcases e with e | e <;> simp [e]
    rw [e2] at hF
    rw [rf, if_neg (rf_w16 (by omega)), if_neg (by omega), if_neg (by omega), if_pos e]; exact hF
theorem rf_Lc (hj : px_j b 2 s ≠ 0) (ht : t D = false) (k : rf_A b false 0 D (px_j b 2 s :: rf_dW 4 W) (rf_up t D true) (C ++ rf_dC 4 W) (tx_N b s) r) : rf_L b D W t C s r := by
  obtain ⟨F, hF⟩ := k
  refine ⟨F + 1, ?_⟩
  have e : tx_K b s = 60 ∨ tx_K b s = 61 := by
    by_cases e : tx_K b s = 60 ∨ tx_K b s = 61
    · exact e
    · exact absurd (show px_j b 2 s = 0 by simp only [px_j]; simp; rw [if_neg (fun h => e (Or.inl h)), if_neg (fun h => e (Or.inr h))]) hj
  have e2 : px_j b 2 s = if tx_K b s = 60 then 6 else 7 := by
    simp only [px_j]
    rcases e with e | e <;> simp [e]
  rw [e2] at hF
  rw [rf, if_neg (rf_w16 (by omega)), if_pos ⟨e, ht⟩]; exact hF
theorem rf_Lcl (hK : tx_K b s = 41) (hW : W.any (fun a => decide (14 ≤ a)) = true) (k : rf_L b (D - 1) (rf_dW 0 W).tail t (C ++ rf_dC 0 W) (tx_N b s) r) : rf_L b D W t C s r := by
  obtain ⟨F, hF⟩ := k
  exact ⟨F + 1, by rw [rf, if_neg (rf_w16 (by omega)), if_neg (by omega), if_neg (by omega), if_neg (by omega), if_pos ⟨hK, hW⟩]; exact hF⟩
/-- nothing of the levels from m on goes on here -/
def rf_sp (b : Nat → Int32) (m s : Nat) (tD : Bool) : Prop := (m ≤ 4 → px_j b 4 s = 0) ∧ (m ≤ 3 → px_j b 3 s = 0) ∧ (m ≤ 2 → tD = true ∨ px_j b 2 s = 0) ∧ (m ≤ 1 → px_j b 1 s = 0) ∧ (m = 0 → px_j b 0 s = 0)
theorem rf_Lend (h : rf_sp b 0 s (t D)) (hc : ¬ (tx_K b s = 41 ∧ W.any (fun a => decide (14 ≤ a)) = true)) : rf_L b D W t C s (if 1 < D then .inl (1, s) else .inr (s, C ++ rf_dC 0 W)) := by
  refine ⟨1, ?_⟩
  have h4 := h.1 (by decide)
  have h3 := h.2.1 (by decide)
  have h2 := h.2.2.1 (by decide)
  have h1 := h.2.2.2.1 (by decide)
  have h0 := h.2.2.2.2 rfl
  have e0 : ¬ (tx_w b s = 13 ∨ tx_w b s = 14) := by
    intro e
    rcases e with e | e
    · simp only [px_j] at h1; simp [e] at h1
    · simp only [px_j] at h0; simp [e] at h0
  have e2 : ¬ ((tx_K b s = 60 ∨ tx_K b s = 61) ∧ t D = false) := by
    rintro ⟨e, e'⟩
    rcases h2 with h2 | h2
    · rw [h2] at e'; cases e'
    · simp only [px_j] at h2; rcases e with e | e <;> simp [e] at h2
  have e3 : ¬ (tx_K b s = 43 ∨ tx_K b s = 45) := by
    intro e
    simp only [px_j] at h3; rcases e with e | e <;> simp [e] at h3
  have e4 : ¬ (tx_K b s = 42 ∨ tx_K b s = 47) := by
    intro e
    simp only [px_j] at h4; rcases e with e | e <;> simp [e] at h4
  rw [rf, if_neg e0, if_neg e2, if_neg e3, if_neg e4, if_neg hc]
  split <;> rfl
end RF
/-! pending acts -/
def rf_em (p : List Nat) : List (Nat × Int32) := p.map (fun a => (a, 0))
def rf_pd (k : Nat) (p : List Nat) : Prop := ∀ a, a ∈ p → a < 14 ∧ k ≤ rf_st a
def rf_tc (k : Nat) (W : List Nat) : Prop := match W with
  | [] => True
  | a :: _ => 14 ≤ a ∨ rf_st a < k
theorem rf_tc_mono {k k' : Nat} {W : List Nat} (h : rf_tc k W) (hk : k ≤ k') : rf_tc k' W := by
  cases W with
  | nil => exact True.intro
  | cons a W => rcases h with h | h; exact Or.inl h; exact Or.inr (by omega)
theorem rf_pd_mono {k k' : Nat} {p : List Nat} (h : rf_pd k' p) (hk : k ≤ k') : rf_pd k p := fun a ha => ⟨(h a ha).1, Nat.le_trans hk (h a ha).2⟩
theorem rf_drop {k : Nat} {p W : List Nat} (hp : rf_pd k p) (hW : rf_tc k W) : rf_dW k (p ++ W) = W ∧ rf_dC k (p ++ W) = rf_em p := by
  induction p with
  | nil =>
    cases W with
    | nil => exact ⟨rfl, rfl⟩
    | cons a W =>
      have : ¬ (a < 14 ∧ k ≤ rf_st a) := by rcases hW with h | h <;> omega
      rw [List.nil_append, rf_dW, rf_dC, if_neg this, if_neg this]; exact ⟨rfl, rfl⟩
  | cons a p ih =>
    have h1 := hp a List.mem_cons_self
    have ih := ih (fun x hx => hp x (List.mem_cons_of_mem _ hx))
    rw [List.cons_append, rf_dW, rf_dC, if_pos h1, if_pos h1, ih.1, ih.2]; exact ⟨rfl, rfl⟩
theorem rf_em_app (p q : List Nat) : rf_em (p ++ q) = rf_em p ++ rf_em q := List.map_append
theorem rf_em_rep (j : Nat) : rf_em (List.replicate j 3) = List.replicate j (3, 0) := List.map_replicate
theorem rf_pd_app {k : Nat} {p q : List Nat} (h : rf_pd k p) (h' : rf_pd k q) : rf_pd k (p ++ q) := fun a ha => by
  rcases List.mem_append.mp ha with h1 | h1
  · exact h a h1
  · exact h' a h1
theorem rf_tc_rep {k j : Nat} {W : List Nat} (hk : 3 < k) (h : rf_tc 3 W) : rf_tc k (List.replicate j 3 ++ W) := by
  cases j with
  | zero => exact rf_tc_mono h (by omega)
  | succ j => exact Or.inr (by show 3 < k; exact hk)
theorem rf_any {p W : List Nat} : (p ++ 14 :: W).any (fun a => decide (14 ≤ a)) = true := by
  rw [List.any_append, List.any_cons, Bool.or_eq_true]; exact Or.inr (by simp)
theorem rf_none {k : Nat} {p : List Nat} (h : rf_pd k p) : p.any (fun a => decide (14 ≤ a)) = false := by
  rw [List.any_eq_false]; intro a ha; have := (h a ha).1; simp; omega
