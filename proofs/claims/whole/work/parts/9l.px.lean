/-! WORDS; the expressions of a text, read from the top down -/
def tx_wl : List (List Int32) := [[104, 101, 108, 112, 115], [103, 117, 97, 114, 100, 115], [102, 111, 114, 116], [119, 111, 114, 116, 104], [104, 111, 109, 101], [116, 97, 107, 101, 115], [116, 117, 114, 110, 115], [101, 118, 101, 110, 105, 110, 103], [110, 111, 114, 116, 104], [115, 111, 117, 116, 104], [102, 114, 101, 101], [114, 111, 97, 100], [115, 116, 121, 108, 101], [97, 110, 100], [111, 114], [110, 111, 116]]
def tx_is (b : Nat → Int32) (s : Nat) (w : List Int32) : Bool := decide (tx_kd (b s) = 1) && decide (tx_E b s - s = w.length) && (List.range w.length).all (fun i => b (s + i) == w.getD i 0)
def tx_w (b : Nat → Int32) (s : Nat) : Nat := ((List.range 16).find? (fun k => tx_is b s (tx_wl.getD k []))).getD 16
theorem tx_is_in {b : Nat → Int32} {s : Nat} {w w' : List Int32} (h : tx_is b s w = true) (h' : tx_is b s w' = true) : w = w' := by
  simp only [tx_is, Bool.and_eq_true, decide_eq_true_eq] at h h'
  have hl : w.length = w'.length := by omega
  refine List.ext_getElem hl (fun i h1 h2 => ?_)
  have e1 := List.all_eq_true.mp h.2 i (List.mem_range.mpr h1)
  have e2 := List.all_eq_true.mp h'.2 i (List.mem_range.mpr h2)
  have e1 := eq_of_beq e1
  have e2 := eq_of_beq e2
  rw [List.getD_eq_getElem?_getD, List.getElem?_eq_getElem h1] at e1
  rw [List.getD_eq_getElem?_getD, List.getElem?_eq_getElem h2] at e2
  exact e1.symm.trans e2
theorem tx_wl_in : ∀ k, k < 16 → ∀ k', k' < 16 → tx_wl.getD k [] = tx_wl.getD k' [] → k = k' := by decide
theorem tx_w_is {b : Nat → Int32} {s k : Nat} (hk : k < 16) : tx_is b s (tx_wl.getD k []) = decide (tx_w b s = k) := by
  cases h : (List.range 16).find? (fun k => tx_is b s (tx_wl.getD k [])) with
  | none =>
    have h1 := List.find?_eq_none.mp h k (List.mem_range.mpr hk)
    rw [tx_w, h, decide_eq_false (by show ¬ 16 = k; omega)]
    exact (Bool.not_eq_true _).mp h1
  | some j =>
    have h1 := List.find?_some h
    have h2 := List.mem_range.mp (List.mem_of_find?_eq_some h)
    rw [tx_w, h]
    show _ = decide (j = k)
    by_cases e : j = k
    · rw [decide_eq_true e, ← e]; exact h1
    · rw [decide_eq_false e]
      cases h3 : tx_is b s (tx_wl.getD k []) with
      | false => rfl
      | true => exact absurd (tx_wl_in j h2 k hk (tx_is_in h1 h3)) e
theorem tx_w_len {b : Nat → Int32} {s : Nat} (h : tx_w b s < 16) : tx_kd (b s) = 1 ∧ tx_E b s - s = (tx_wl.getD (tx_w b s) []).length := by
  have h1 := tx_w_is (b := b) (s := s) h
  rw [decide_eq_true rfl] at h1
  simp only [tx_is, Bool.and_eq_true, decide_eq_true_eq] at h1
  exact ⟨h1.1.1, h1.1.2⟩
theorem tx_w_K {b : Nat → Int32} {s : Nat} (h : tx_w b s < 16) : tx_K b s = 1 := by
  rw [tx_K, (tx_w_len h).1, if_neg (by omega)]
def px_cb (b : Nat → Int32) (s : Nat) : Bool := decide (tx_K b s = 1 ∨ tx_K b s = 2 ∨ tx_K b s = 3 ∨ tx_K b s = 40)
/-- the sign that joins at a level; 0 for none -/
def px_j (b : Nat → Int32) (lev s : Nat) : Nat := if lev = 0 then (if tx_w b s = 14 then 5 else 0) else if lev = 1 then (if tx_w b s = 13 then 4 else 0) else if lev = 2 then (if tx_K b s = 60 then 6 else if tx_K b s = 61 then 7 else 0) else if lev = 3 then (if tx_K b s = 43 then 8 else if tx_K b s = 45 then 9 else 0) else (if tx_K b s = 42 then 10 else if tx_K b s = 47 then 11 else 0)
abbrev px_R : Type := Option ((Nat × Nat) ⊕ (Nat × List (Nat × Int32)))
def px_bd (r : px_R) (k : Nat → List (Nat × Int32) → px_R) : px_R := match r with
  | none => none
  | some (.inl x) => some (.inl x)
  | some (.inr (s, c)) => k s c
def px (b : Nat → Int32) : Nat → Nat → Nat → Nat → px_R
  | 0, _, _, _ => none
  | f + 1, m, w, s =>
    if m = 5 then
      (if tx_K b s = 40 then (if w + 1 < 6 then px_bd (px b f 0 (w + 1) (tx_N b s)) (fun s2 c => if tx_K b s2 = 41 then some (.inr (tx_N b s2, c)) else some (.inl (1, s2))) else some (.inl (if px_cb b (tx_N b s) then 2 else 1, tx_N b s)))
      else if tx_K b s = 1 then (if tx_w b s < 8 then some (.inr (tx_N b s, [(2, vb_i (tx_w b s))])) else some (.inl (3, s)))
      else if tx_K b s = 2 then some (.inr (tx_N b s, [(1, vb_i (tx_V b s (tx_E b s - s)))]))
      else some (.inl (if tx_K b s = 3 then 2 else 1, s)))
    else if m = 2 then px b f 20 w s
    else if 20 ≤ m then
      (if tx_w b s = 15 then (if m = 26 then some (.inl (2, s)) else px b f (m + 1) w (tx_N b s))
      else px_bd (px b f 3 w s) (fun s1 c1 => if px_j b 2 s1 = 0 then some (.inr (s1, c1 ++ List.replicate (m - 20) (3, 0))) else px_bd (px b f 3 w (tx_N b s1)) (fun s2 c2 => some (.inr (s2, c1 ++ c2 ++ (px_j b 2 s1, 0) :: List.replicate (m - 20) (3, 0))))))
    else if 10 ≤ m then
      (if px_j b (m - 10) s = 0 then some (.inr (s, [])) else px_bd (px b f (m - 10 + 1) w (tx_N b s)) (fun s1 c1 => px_bd (px b f m w s1) (fun s2 c2 => some (.inr (s2, c1 ++ (px_j b (m - 10) s, 0) :: c2)))))
    else px_bd (px b f (m + 1) w s) (fun s1 c1 => px_bd (px b f (m + 10) w s1) (fun s2 c2 => some (.inr (s2, c1 ++ c2))))
theorem px_bd_r {r : px_R} {k : Nat → List (Nat × Int32) → px_R} {s : Nat} {c : List (Nat × Int32)} (h : px_bd r k = some (.inr (s, c))) : ∃ s1 c1, r = some (.inr (s1, c1)) ∧ k s1 c1 = some (.inr (s, c)) := by
  cases r with
  | none => cases h
  | some q =>
    cases q with
    | inl x => cases h
    | inr y => exact ⟨y.1, y.2, rfl, h⟩
theorem px_bd_l {r : px_R} {k : Nat → List (Nat × Int32) → px_R} {x : Nat × Nat} (h : px_bd r k = some (.inl x)) : r = some (.inl x) ∨ ∃ s1 c1, r = some (.inr (s1, c1)) ∧ k s1 c1 = some (.inl x) := by
  cases r with
  | none => cases h
  | some q =>
    cases q with
    | inl x => left; exact h
    | inr y => exact Or.inr ⟨y.1, y.2, rfl, h⟩
/-! one equation a mode -/
theorem px_5 (b : Nat → Int32) (f w s : Nat) : px b (f + 1) 5 w s = (if tx_K b s = 40 then (if w + 1 < 6 then px_bd (px b f 0 (w + 1) (tx_N b s)) (fun s2 c => if tx_K b s2 = 41 then some (.inr (tx_N b s2, c)) else some (.inl (1, s2))) else some (.inl (if px_cb b (tx_N b s) then 2 else 1, tx_N b s)))
      else if tx_K b s = 1 then (if tx_w b s < 8 then some (.inr (tx_N b s, [(2, vb_i (tx_w b s))])) else some (.inl (3, s)))
      else if tx_K b s = 2 then some (.inr (tx_N b s, [(1, vb_i (tx_V b s (tx_E b s - s)))]))
      else some (.inl (if tx_K b s = 3 then 2 else 1, s))) := by rw [px, if_pos rfl]
theorem px_2 (b : Nat → Int32) (f w s : Nat) : px b (f + 1) 2 w s = px b f 20 w s := by rw [px, if_neg (by decide), if_pos rfl]
theorem px_20 (b : Nat → Int32) (f w s j : Nat) : px b (f + 1) (20 + j) w s = (if tx_w b s = 15 then (if j = 6 then some (.inl (2, s)) else px b f (20 + (j + 1)) w (tx_N b s))
      else px_bd (px b f 3 w s) (fun s1 c1 => if px_j b 2 s1 = 0 then some (.inr (s1, c1 ++ List.replicate j (3, 0))) else px_bd (px b f 3 w (tx_N b s1)) (fun s2 c2 => some (.inr (s2, c1 ++ c2 ++ (px_j b 2 s1, 0) :: List.replicate j (3, 0)))))) := by
  rw [px, if_neg (by omega), if_neg (by omega), if_pos (by omega), show 20 + j - 20 = j by omega]
  by_cases e : j = 6
  · subst e; rfl
  · rw [if_neg (show ¬ 20 + j = 26 by omega), if_neg e, show 20 + j + 1 = 20 + (j + 1) by omega]
theorem px_10 (b : Nat → Int32) (f w s l : Nat) (hl : l < 5) : px b (f + 1) (10 + l) w s = (if px_j b l s = 0 then some (.inr (s, [])) else px_bd (px b f (l + 1) w (tx_N b s)) (fun s1 c1 => px_bd (px b f (10 + l) w s1) (fun s2 c2 => some (.inr (s2, c1 ++ (px_j b l s, 0) :: c2))))) := by
  rw [px, if_neg (by omega), if_neg (by omega), if_neg (by omega), if_pos (by omega), show 10 + l - 10 = l by omega]
theorem px_0 (b : Nat → Int32) (f w s l : Nat) (hl : l < 5) (h2 : l ≠ 2) : px b (f + 1) l w s = px_bd (px b f (l + 1) w s) (fun s1 c1 => px_bd (px b f (10 + l) w s1) (fun s2 c2 => some (.inr (s2, c1 ++ c2)))) := by
  rw [px, if_neg (by omega), if_neg h2, if_neg (by omega), if_neg (by omega), show l + 10 = 10 + l by omega]
theorem px_j_op {b : Nat → Int32} {l s : Nat} (h : px_j b l s ≠ 0) : 4 ≤ px_j b l s ∧ px_j b l s ≤ 11 := by
  simp only [px_j] at h ⊢
  (repeat' split) <;> simp_all
theorem px_j_K {b : Nat → Int32} {l s : Nat} (h : px_j b l s ≠ 0) : tx_K b s ≠ 0 := by
  intro e
  have hw : ¬ tx_w b s < 16 := fun h => by rw [tx_w_K h] at e; cases e
  apply h
  simp only [px_j, e]
  (repeat' split) <;> first | rfl | omega
