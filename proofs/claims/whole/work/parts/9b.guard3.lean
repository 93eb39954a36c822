/-! the lowest of a set -/
theorem vg_low (x : Int32) {w : Nat} (hw : w < 32) : vb_has (x &&& -x) w = true ↔ vb_has x w = true ∧ ∀ j, j < w → vb_has x j = false := by
  rw [vb_has_and, Bool.and_eq_true]
  refine and_congr_right (fun h => ?_)
  simp only [vb_has] at h ⊢
  rw [Int32.toBitVec_neg, BitVec.getLsbD_neg, h, decide_eq_true hw]
  simp
theorem vg_low_ex {x : Int32} {n w : Nat} (hn : n ≤ 32) (hx : vb_has x w = true) (hw : w < n) : ∃ u, u ≤ w ∧ vb_has x u = true ∧ ∀ j, j < u → vb_has x j = false := by
  induction w using Nat.strongRecOn with
  | _ w ih =>
    by_cases h : ∃ j, j < w ∧ vb_has x j = true
    · obtain ⟨j, h1, h2⟩ := h
      obtain ⟨u, q1, q2, q3⟩ := ih j h1 h2 (by omega)
      exact ⟨u, by omega, q2, q3⟩
    · refine ⟨w, Nat.le_refl _, hx, fun j hj => ?_⟩
      cases e : vb_has x j with
      | false => rfl
      | true => exact absurd ⟨j, hj, e⟩ h
theorem vg_low_bit {x : Int32} {u : Nat} (hu : u < 32) (h1 : vb_has x u = true) (h2 : ∀ j, j < u → vb_has x j = false) : x &&& -x = vb_bit u := by
  refine vb_ext (fun w hw => ?_)
  rw [vb_has_bit hu]
  by_cases e : w = u
  · rw [decide_eq_true e, (vg_low x hw).mpr (by rw [e]; exact ⟨h1, h2⟩)]
  · rw [decide_eq_false e]
    cases h : vb_has (x &&& -x) w with
    | false => rfl
    | true =>
      obtain ⟨q1, q2⟩ := (vg_low x hw).mp h
      by_cases h3 : w < u
      · rw [h2 w h3] at q1; cases q1
      · rw [q2 u (by omega)] at h1; cases h1
