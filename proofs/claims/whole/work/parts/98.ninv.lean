section NINV
variable {σ : vb_St}
theorem vb_keep_mem {xs : List vb_X} {x y : vb_X} (h : y ∈ vb_keep xs x) : y ∈ xs ∨ y = x := by
  rw [vb_keep] at h
  split at h
  · rw [List.mem_append, List.mem_singleton] at h; exact h
  · rw [List.mem_append, List.mem_singleton] at h
    exact h.imp List.mem_of_mem_tail id
theorem vs_inv.act (hI : vs_inv σ) {y : vb_X} (hy : vx_inv (vs_l σ) y) : vs_inv (vs_act σ y (vb_keep (vs_a σ) (vs_x σ))) := by
  obtain ⟨h1, h2, h3, h4⟩ := hI
  refine ⟨h1, hy, fun z hz => ?_, h4⟩
  rcases vb_keep_mem hz with h | h
  · exact h3 z h
  · rw [h]; exact h2
theorem vs_inv.ref (hI : vs_inv σ) (j : Nat) : vs_inv (vs_ref σ j) := hI
theorem vs_inv.see (hI : vs_inv σ) (ss : List (Nat × Nat)) : vs_inv (vs_see σ ss) := hI
theorem vs_inv.tape (hI : vs_inv σ) (tp : List Int32) : vs_inv (vs_tape σ tp) := hI
theorem i_pass (hI : vs_inv σ) (hn : vb_n (vs_l σ) ≤ 10) : vs_inv (st_pass σ) := by
  rw [st_pass]
  split
  · rename_i he
    obtain ⟨g1, g2, g3⟩ := hI.2.1
    exact hI.act ⟨g1.mv 100, g2.mv hn (Or.inl rfl), by rw [vx_do_e]; omega⟩
  · exact hI.ref 1
theorem i_move (hI : vs_inv σ) (hn : vb_n (vs_l σ) ≤ 10) (a b : Int32) : vs_inv (st_move σ a b) := by
  rw [st_move]
  split
  · exact hI
  · rename_i a' ha
    split
    · exact hI
    · rename_i b' hb
      obtain ⟨lb, _⟩ := vb_idx_some (by omega) hb
      split
      · rename_i he
        split
        · obtain ⟨g1, g2, g3⟩ := hI.2.1
          exact hI.act ⟨g1.mv _, g2.mv hn (Or.inr (by omega)), by rw [vx_do_e]; omega⟩
        · exact hI.ref 1
      · exact hI.ref 1
theorem i_fly (hI : vs_inv σ) (hn : vb_n (vs_l σ) ≤ 10) (a b : Int32) : vs_inv (st_fly σ a b) := by
  rw [st_fly]
  split
  · exact hI
  · rename_i a' ha
    split
    · exact hI
    · rename_i b' hb
      obtain ⟨lb, _⟩ := vb_idx_some (by omega) hb
      split
      · rename_i hf
        rw [q_flyok, Bool.and_eq_true, decide_eq_true_eq] at hf
        have h2 := vx_in2 (vx_s (vs_x σ)) a'
        have h3 := hf.1
        obtain ⟨g1, g2, g3⟩ := hI.2.1
        exact hI.act ⟨g1, g2.bring hn (by omega) lb, g3⟩
      · exact hI.ref 1
theorem i_teach (hI : vs_inv σ) (hn : vb_n (vs_l σ) ≤ 10) (h3 : vb_sc (vs_l σ) ≤ 3) (s y : Int32) : vs_inv (st_teach σ s y) := by
  rw [st_teach]
  split
  · exact hI
  · rename_i s' hs
    split
    · rename_i hk
      obtain ⟨g1, g2, g3⟩ := hI.2.1
      refine hI.act ⟨?_, g2.sf rfl rfl, g3⟩
      intro j hj
      show (if j = s' then y else vx_y (vs_x σ) j) = -1 ∨ ∃ r, r < vb_sc (vs_l σ) ∧ (if j = s' then y else vx_y (vs_x σ) j) = vb_i r
      by_cases e : j = s'
      · rw [if_pos e]
        rw [q_tchok, Bool.or_eq_true, decide_eq_true_eq] at hk
        rcases hk with hk | hk
        · exact Or.inl hk
        · obtain ⟨r, hr⟩ := Option.isSome_iff_exists.mp hk
          obtain ⟨lr, er⟩ := vb_idx_some (by omega) hr
          exact Or.inr ⟨r, lr, er⟩
      · rw [if_neg e]; exact g1 j hj
    · exact hI.ref 1
theorem i_play (hI : vs_inv σ) (hn : vb_n (vs_l σ) ≤ 10) (k : Int32) : vs_inv (st_play σ k) := by
  rw [st_play]
  split
  · exact hI.ref 1
  · rename_i k' hk
    have he : vx_e (vs_x σ) + k' ≤ 999 := by
      rw [q_many] at hk
      split at hk
      · cases hk
      · split at hk
        · cases hk
        · split at hk
          · rename_i h; cases hk; exact h
          · cases hk
    obtain ⟨g1, g2, g3⟩ := hI.2.1
    exact hI.act ⟨g1.seq _, g2.seq hn _, by rw [vx_seq_e]; exact he⟩
theorem i_undo (hI : vs_inv σ) : vs_inv (st_undo σ) := by
  rw [st_undo]
  split
  · exact hI
  · rename_i x hx
    obtain ⟨h1, h2, h3, h4⟩ := hI
    exact ⟨h1, h3 x (List.mem_of_getLast? hx), fun y hy => h3 y (List.dropLast_subset _ hy), h4⟩
theorem i_see (hI : vs_inv σ) (i a b : Int32) : vs_inv (st_see σ i a b) := by
  rw [st_see]
  split
  · exact hI
  · split
    · exact hI
    · split
      · exact hI.ref 2
      · exact hI.see _
theorem i_image (hI : vs_inv σ) : vs_inv (sp_image σ) := by
  obtain ⟨h1, h2, h3, h4⟩ := hI
  refine ⟨h1, h2, h3, fun z hz => ?_⟩
  have hz : some (vs_x σ, vs_a σ, vs_t σ) = some z := hz
  cases hz
  exact ⟨h2, h3⟩
theorem i_restore (hI : vs_inv σ) : vs_inv (st_restore σ) := by
  rw [st_restore]
  split
  · exact hI
  · rename_i z hz
    obtain ⟨h1, h2, h3, h4⟩ := hI
    obtain ⟨q1, q2⟩ := h4 z hz
    exact ⟨h1, q1, q2, h4⟩
theorem i_feed (hI : vs_inv σ) (a b c e f : Int32) : vs_inv (st_feed σ a b c e f) := by
  rw [st_feed]
  split
  · exact hI.tape _
  · exact hI
end NINV
