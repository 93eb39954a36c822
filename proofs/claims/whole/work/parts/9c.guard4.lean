/-! the lowest ones of a set, one after another -/
def vg_lw (F : Int32) : Nat → Int32
  | 0 => 0
  | k + 1 => vg_lw F k ||| ((F &&& ~~~ vg_lw F k) &&& -(F &&& ~~~ vg_lw F k))
def vg_seg (F g : Int32) : Prop := (∀ w, vb_has g w = true → vb_has F w = true) ∧ ∀ w u, vb_has g w = true → u < w → vb_has F u = true → vb_has g u = true
theorem vg_lw_s {F : Int32} (hF : vb_below 10 F) (k : Nat) (hs : vg_seg F (vg_lw F k)) : (vg_lw F (k + 1) = vg_lw F k ∧ vg_lw F k = F) ∨ ∃ u, u < 10 ∧ vb_has F u = true ∧ vb_has (vg_lw F k) u = false ∧ (∀ j, j < u → vb_has F j = true → vb_has (vg_lw F k) j = true) ∧ vg_lw F (k + 1) = vg_lw F k ||| vb_bit u := by
  have hx : ∀ w, w < 32 → vb_has (F &&& ~~~ vg_lw F k) w = (vb_has F w && !vb_has (vg_lw F k) w) := fun w hw => by rw [vb_has_and, vb_has_not _ hw]
  by_cases h : ∃ w, w < 10 ∧ vb_has (F &&& ~~~ vg_lw F k) w = true
  · obtain ⟨w, hw, h1⟩ := h
    obtain ⟨u, h2, h3, h4⟩ := vg_low_ex (n := 10) (by decide) h1 hw
    have h5 := h3
    rw [hx u (by omega), Bool.and_eq_true, Bool.not_eq_true'] at h5
    refine Or.inr ⟨u, by omega, h5.1, h5.2, fun j hj hf => ?_, ?_⟩
    · have h6 := h4 j hj
      rw [hx j (by omega), hf, Bool.true_and, Bool.not_eq_false'] at h6
      exact h6
    · show vg_lw F k ||| _ = _
      rw [vg_low_bit (by omega) h3 h4]
  · left
    have e : vg_lw F k = F := by
      refine vb_ext (fun w hw => ?_)
      cases h1 : vb_has F w with
      | false =>
        cases h2 : vb_has (vg_lw F k) w with
        | false => rfl
        | true => rw [hs.1 w h2] at h1; cases h1
      | true =>
        cases h2 : vb_has (vg_lw F k) w with
        | true => rfl
        | false => exact absurd ⟨w, hF w h1, by rw [hx w hw, h1, h2]; rfl⟩ h
    refine ⟨?_, e⟩
    show vg_lw F k ||| _ = _
    rw [e]
    refine vb_ext (fun w hw => ?_)
    rw [vb_has_or, vb_has_and, vb_has_and, vb_has_not _ hw]
    cases vb_has F w <;> rfl
theorem vg_lw_seg {F : Int32} (hF : vb_below 10 F) : ∀ k, vg_seg F (vg_lw F k) := by
  intro k
  induction k with
  | zero =>
    have h0 : ∀ w, vb_has (vg_lw F 0) w = true → False := fun w h => by
      rw [show vg_lw F 0 = 0 from rfl, vb_has_0] at h; cases h
    exact ⟨fun w h => (h0 w h).elim, fun w u h _ _ => (h0 w h).elim⟩
  | succ k ih =>
    rcases vg_lw_s hF k ih with ⟨h, _⟩ | ⟨u, h1, h2, h3, h4, h5⟩
    · rw [h]; exact ih
    · rw [h5]
      refine ⟨fun w h => ?_, fun w j h hj hf => ?_⟩
      · rcases vp_bk (by omega) h with h | rfl
        · exact ih.1 w h
        · exact h2
      · rcases vp_bk (by omega) h with h | rfl
        · exact vp_up (by omega) (ih.2 w j h hj hf)
        · exact vp_up (by omega) (h4 j hj hf)
