theorem q_gift0 {ℓ : vb_L} {x : vb_X} {m : Nat} (h : ¬ 0 < lg_cmp (q_ltw ℓ x m - (vx_g ℓ x m).toInt64) 0) : q_gift ℓ x m = 0 := if_neg h
theorem q_gift1 {ℓ : vb_L} {x : vb_X} {m : Nat} (h : 0 < lg_cmp (q_ltw ℓ x m - (vx_g ℓ x m).toInt64) 0) (h2 : ¬ 0 < lg_cmp (q_ltw ℓ x m - (vx_g ℓ x m).toInt64) (9999 : Int32).toInt64) : q_gift ℓ x m = (q_ltw ℓ x m - (vx_g ℓ x m).toInt64).toInt32 := (if_pos h).trans (if_neg h2)
theorem q_gift2 {ℓ : vb_L} {x : vb_X} {m : Nat} (h : 0 < lg_cmp (q_ltw ℓ x m - (vx_g ℓ x m).toInt64) 0) (h2 : 0 < lg_cmp (q_ltw ℓ x m - (vx_g ℓ x m).toInt64) (9999 : Int32).toInt64) : q_gift ℓ x m = -1 := (if_pos h).trans (if_pos h2)
section AHEAD4
variable {G : mm_G} {d : Nat} {I : Nat → Nat → Int32} {P : Nat → Nat → Nat} {J : Nat → Nat → Int64} {S : List (Nat × Nat)} {nc ns : Nat} {μ : mm_M} {σ : vb_St} {L : Nat}
theorem c_bm0 (_ : vb_isV P S L) : mm_Call G d 132 [.ref 0, .int (vb_i 0)] (I, P, J, S, nc, ns) (.inl (some (.int (-1))), (I, P, J, S, nc, ns)) := by
  refine mm_C.call ?_
  show mm_W _ _ 132 (mm_blk 132 0) [.ref 0, .int (vb_i 0), .null, .null, .null, .null, .null, .null] [] _ _
  refine mm_w1 rfl ?_
  refine mm_nifne (by omega) ?_ ?_
  · intro h1
    exact absurd rfl h1
  · intro h1
    refine mm_wv (-1) rfl (by decide) ?_
    refine mm_wr rfl rfl rfl ?_
    exact rfl
theorem v_look (hV : vb_isV P S L) (dV : vb_VD σ L I) (hI : vs_inv σ) (hd : 20 ≤ d) (k w : Int32) : mm_C G d 91 [.ref 0, .int k, .int w] (I, P, J, S, nc, ns) (vb_RV (sp_look σ k w) (fun I' => vb_fr (vb_vs L) I I') P J S nc ns) := by
  have hL := vV_hL hV
  have hX := vV_hX hV
  have hY := vV_hY hV
  have hA := vV_hA hV
  have hT := vV_hT hV
  have hC := vV_hC hV
  have hL17 := vV_L17 hV
  have hF : vb_fr (vb_vs L) I I := vb_fr.rf
  have dL := vd_l dV
  have dX := vd_x dV
  have dA := vd_a dV
  have dT := vd_t dV
  have hn := vl_10 dL
  have he := vx_e2 dX
  have ht := vx_t2 (vs_x σ)
  obtain ⟨hIl, hIx, _⟩ := hI
  obtain ⟨hok, hwf, he9⟩ := hIx
  cases hw : vb_idx 2 w with
  | none =>
    rw [show sp_look σ k w = .inr 0 by simp only [sp_look, hw]]
    show mm_W _ _ 91 (mm_blk 91 0) [.ref 0, .int k, .int w] [] _ _
    refine mm_w1 rfl ?_
    refine mm_wifeq ?_ ?_
    · intro h1
      rw [h1] at hw; exact absurd hw (by decide)
    · intro h1
      refine mm_w1 rfl ?_
      refine mm_wv (vb_i 1) rfl (by decide) ?_
      refine mm_wiceq ?_ ?_
      · intro h6
        rw [h6] at hw; exact absurd hw (by decide)
      · intro h6
        refine mm_wthr rfl rfl rfl rfl ?_
        exact ⟨I, hF, rfl⟩
  | some w_ =>
    obtain ⟨lw, rfl⟩ := vb_idx_some (by decide) hw
    cases hk : vb_idx 4 k with
    | none =>
      rw [show sp_look σ k (vb_i w_) = .inr 1 by simp only [sp_look, hw, hk]]
      show mm_W _ _ 91 (mm_blk 91 0) [.ref 0, .int k, .int (vb_i w_)] [] _ _
      refine mm_w1 rfl ?_
      refine mm_nifeq (by omega) ?_ ?_
      · intro h1
        refine mm_w1 rfl ?_
        refine mm_wiflt ?_ ?_
        · intro h20
          refine mm_wthr rfl rfl rfl rfl ?_
          exact ⟨I, hF, rfl⟩
        · intro h20
          refine mm_w1 rfl ?_
          refine mm_wv (vb_i 3) rfl (by decide) ?_
          refine mm_wicle ?_ ?_
          · intro h25
            exact vb_idx_no hk h20 (vb_lt_le (by decide) h25)
          · intro h25
            refine mm_wthr rfl rfl rfl rfl ?_
            exact ⟨I, hF, rfl⟩
      · intro h1
        refine mm_w1 rfl ?_
        refine mm_wv (vb_i 1) rfl (by decide) ?_
        refine mm_niceq (by omega) (by omega) ?_ ?_
        · intro h6
          refine mm_w1 rfl ?_
          refine mm_wiflt ?_ ?_
          · intro h20
            refine mm_wthr rfl rfl rfl rfl ?_
            exact ⟨I, hF, rfl⟩
          · intro h20
            refine mm_w1 rfl ?_
            refine mm_wv (vb_i 3) rfl (by decide) ?_
            refine mm_wicle ?_ ?_
            · intro h25
              exact vb_idx_no hk h20 (vb_lt_le (by decide) h25)
            · intro h25
              refine mm_wthr rfl rfl rfl rfl ?_
              exact ⟨I, hF, rfl⟩
        · intro h6
          exact absurd h6 (by omega)
    | some k_ =>
      obtain ⟨lk, rfl⟩ := vb_idx_some (by decide) hk
      have hw2 : w_ = 0 ∨ w_ = 1 := by omega
      rcases hw2 with rfl | rfl
      · rw [show sp_look σ (vb_i k_) (vb_i 0) = .inl (q_li (vs_l σ) (vs_x σ) (vx_tn (vs_x σ)) k_) by simp only [sp_look, hw, hk, if_true]]
        show mm_W _ _ 91 (mm_blk 91 0) [.ref 0, .int (vb_i k_), .int (vb_i 0)] [] _ _
        refine mm_w1 rfl ?_
        refine mm_nifeq (by omega) ?_ ?_
        · intro h1
          refine mm_w1 rfl ?_
          refine mm_niflt (by omega) ?_
          refine mm_w1 rfl ?_
          refine mm_wv (vb_i 3) rfl (by decide) ?_
          refine mm_nicle (by omega) (by omega) ?_ ?_
          · intro h25
            refine mm_w1 rfl ?_
            refine mm_nifne (by omega) ?_ ?_
            · intro h39
              exact absurd rfl h39
            · intro h39
              refine mm_w1 rfl ?_
              refine mm_w1 rfl ?_
              refine mm_wgr (vV_S0 hV) (by decide) (by decide) (vV_P0_6 hV) (vX_a0 hX) ?_
              refine mm_cvp (vb_cv (vX_S0 hX) rfl rfl rfl rfl) (by decide) (by omega) (c_turn hX dX) ?_
              refine mm_w1 rfl ?_
              refine mm_cvi (vb_cv (vV_S0 hV) rfl rfl rfl rfl) (by decide) (by omega) (c_li (σ := σ) hV dV (by omega) (by omega) hwf (by omega)) ?_
              intro I1 hf1
              have hF1 : vb_fr (vb_vs L) I I1 := hF.tr (hf1.mono (fun a h => by exact Or.inl (Or.inr h)))
              have dV1 := dV.fr hL17 hF1
              have dL1 := vd_l dV1
              have dX1 := vd_x dV1
              refine mm_wgoto ?_
              refine mm_wr rfl rfl rfl ?_
              exact ⟨_, hF1, rfl⟩
          · intro h25
            exact absurd h25 (by omega)
        · intro h1
          exact absurd rfl h1
      · by_cases h0 : k_ = 0
        · subst h0
          rw [show sp_look σ (vb_i 0) (vb_i 1) = .inl (-1) by simp only [sp_look, hw, hk, if_true, Nat.one_ne_zero, if_false]]
          show mm_W _ _ 91 (mm_blk 91 0) [.ref 0, .int (vb_i 0), .int (vb_i 1)] [] _ _
          refine mm_w1 rfl ?_
          refine mm_nifeq (by omega) ?_ ?_
          · intro h1
            exact absurd h1 (by decide)
          · intro h1
            refine mm_w1 rfl ?_
            refine mm_wv (vb_i 1) rfl (by decide) ?_
            refine mm_niceq (by omega) (by omega) ?_ ?_
            · intro h6
              refine mm_w1 rfl ?_
              refine mm_niflt (by omega) ?_
              refine mm_w1 rfl ?_
              refine mm_wv (vb_i 3) rfl (by decide) ?_
              refine mm_nicle (by omega) (by omega) ?_ ?_
              · intro h25
                refine mm_w1 rfl ?_
                refine mm_nifne (by omega) ?_ ?_
                · intro h39
                  refine mm_w1 rfl ?_
                  refine mm_w1 rfl ?_
                  refine mm_cvp (vb_cv (vV_S0 hV) rfl rfl rfl rfl) (by decide) (by omega) (c_bm0 hV) ?_ 
                  refine mm_wr rfl rfl rfl ?_
                  exact ⟨_, hF, rfl⟩
                · intro h39
                  exact absurd h39 (by decide)
              · intro h25
                exact absurd h25 (by decide)
            · intro h6
              exact absurd rfl h6
        · obtain ⟨q, rfl⟩ : ∃ q, k_ = q + 1 := ⟨k_ - 1, by omega⟩
          rw [show sp_look σ (vb_i (q + 1)) (vb_i 1) = .inl (vb_told (q_bm (vs_l σ) (vs_x σ) q)) by simp only [sp_look, hw, hk, Nat.one_ne_zero, if_false, Nat.add_one_ne_zero, Nat.add_sub_cancel]]
          show mm_W _ _ 91 (mm_blk 91 0) [.ref 0, .int (vb_i (q + 1)), .int (vb_i 1)] [] _ _
          refine mm_w1 rfl ?_
          refine mm_nifeq (by omega) ?_ ?_
          · intro h1
            exact absurd h1 (by decide)
          · intro h1
            refine mm_w1 rfl ?_
            refine mm_wv (vb_i 1) rfl (by decide) ?_
            refine mm_niceq (by omega) (by omega) ?_ ?_
            · intro h6
              refine mm_w1 rfl ?_
              refine mm_niflt (by omega) ?_
              refine mm_w1 rfl ?_
              refine mm_wv (vb_i 3) rfl (by decide) ?_
              refine mm_nicle (by omega) (by omega) ?_ ?_
              · intro h25
                refine mm_w1 rfl ?_
                refine mm_nifne (by omega) ?_ ?_
                · intro h39
                  refine mm_w1 rfl ?_
                  refine mm_w1 rfl ?_
                  refine mm_cvi (vb_cv (vV_S0 hV) rfl rfl rfl rfl) (by decide) (by omega) (c_bm (σ := σ) hV dV (by omega) hwf (by omega)) ?_
                  intro I1 hf1
                  have hF1 : vb_fr (vb_vs L) I I1 := hF.tr (hf1.mono (fun a h => by exact h))
                  have dV1 := dV.fr hL17 hF1
                  have dL1 := vd_l dV1
                  have dX1 := vd_x dV1
                  refine mm_wr rfl rfl rfl ?_
                  exact ⟨_, hF1, rfl⟩
                · intro h39
                  exact absurd h39 (by decide)
              · intro h25
                exact absurd h25 (by omega)
            · intro h6
              exact absurd rfl h6
theorem v_win (hV : vb_isV P S L) (dV : vb_VD σ L I) (hI : vs_inv σ) (hd : 20 ≤ d) : mm_C G d 92 [.ref 0] (I, P, J, S, nc, ns) (vb_RV (sp_win σ) (fun I' => vb_fr (vb_vs L) I I') P J S nc ns) := by
  have hL := vV_hL hV
  have hX := vV_hX hV
  have hY := vV_hY hV
  have hA := vV_hA hV
  have hT := vV_hT hV
  have hC := vV_hC hV
  have hL17 := vV_L17 hV
  have hF : vb_fr (vb_vs L) I I := vb_fr.rf
  have dL := vd_l dV
  have dX := vd_x dV
  have dA := vd_a dV
  have dT := vd_t dV
  have hn := vl_10 dL
  have he := vx_e2 dX
  have ht := vx_t2 (vs_x σ)
  obtain ⟨hIl, hIx, _⟩ := hI
  obtain ⟨hok, hwf, he9⟩ := hIx
  have hbo := (hwf.1 _ ht).1
  have hbf := (hwf.1 (1 - vx_tn (vs_x σ)) (by omega)).1
  have s5 : ∀ I1, vb_fr (vb_vs L) I I1 → ¬ (vx_s (vs_x σ) (1 - vx_tn (vs_x σ))) = 0 → vb_fw (vs_l σ) 1 true (vx_s (vs_x σ) (vx_tn (vs_x σ))) (vx_s (vs_x σ) (1 - vx_tn (vs_x σ))) (vb_i (vx_e (vs_x σ))) = false → vb_fw (vs_l σ) 3 true (vx_s (vs_x σ) (vx_tn (vs_x σ))) (vx_s (vs_x σ) (1 - vx_tn (vs_x σ))) (vb_i (vx_e (vs_x σ))) = false → mm_W G d 92 (mm_blk 92 42) [.ref 0, .int (vx_s (vs_x σ) (vx_tn (vs_x σ))), .int (vx_s (vs_x σ) (1 - vx_tn (vs_x σ))), .int (vb_i (3 + 2))] [] (I1, P, J, S, nc, ns) (vb_RV (sp_win σ) (fun I' => vb_fr (vb_vs L) I I') P J S nc ns) := by
    intro I1 hF1 h0 ha hb
    refine mm_w1 rfl ?_
    refine mm_wv (vb_i 3) rfl (by decide) ?_
    refine mm_nicgt (by omega) (by omega) ?_ ?_
    · intro h44
      refine mm_wv (-1) rfl (by decide) ?_
      refine mm_wr rfl rfl rfl ?_
      refine ⟨_, hF1, ?_⟩
      rw [q_win, if_neg h0, ha, hb]; rfl
    · intro h44
      exact absurd h44 (by decide)
  have s3 : ∀ I1, vb_fr (vb_vs L) I I1 → ¬ (vx_s (vs_x σ) (1 - vx_tn (vs_x σ))) = 0 → vb_fw (vs_l σ) 1 true (vx_s (vs_x σ) (vx_tn (vs_x σ))) (vx_s (vs_x σ) (1 - vx_tn (vs_x σ))) (vb_i (vx_e (vs_x σ))) = false → mm_W G d 92 (mm_blk 92 42) [.ref 0, .int (vx_s (vs_x σ) (vx_tn (vs_x σ))), .int (vx_s (vs_x σ) (1 - vx_tn (vs_x σ))), .int (vb_i (1 + 2))] [] (I1, P, J, S, nc, ns) (vb_RV (sp_win σ) (fun I' => vb_fr (vb_vs L) I I') P J S nc ns) := by
    intro I1 hF1 h0 ha
    have dV1 := dV.fr hL17 hF1
    have dL1 := vd_l dV1
    have dX1 := vd_x dV1
    refine mm_w1 rfl ?_
    refine mm_wv (vb_i 3) rfl (by decide) ?_
    refine mm_nicgt (by omega) (by omega) ?_ ?_
    · intro h44
      exact absurd h44 (by decide)
    · intro h44
      refine mm_w1 rfl ?_
      refine mm_wgr (vV_S0 hV) (by decide) (by decide) (vV_P0_5 hV) (vL_a0 hL) ?_
      refine mm_w1 rfl ?_
      refine mm_w1 rfl ?_
      refine mm_w1 rfl ?_
      refine mm_wgr (vV_S0 hV) (by decide) (by decide) (vV_P0_6 hV) (vX_a0 hX) ?_
      refine mm_wgiv _ (vX_S0 hX) (by decide) (by decide) (vx_he dX1) ?_
      refine mm_w1 rfl ?_
      refine mm_csi rfl (by decide) (by omega) ((c_fw (ℓ := vs_l σ) hL 3 (by decide)).1 (by decide) _ _ _ _ _ (by omega) dL1 hbo hbf) ?_
      intro I2 hf2
      have hF2 : vb_fr (vb_vs L) I I2 := hF1.tr (hf2.mono (fun a h => by exact Or.inl (Or.inr h)))
      have dV2 := dV.fr hL17 hF2
      have dL2 := vd_l dV2
      have dX2 := vd_x dV2
      refine mm_bifeq ?_ ?_
      · intro h64
        refine mm_nincL (ls' := [_, _, _, _]) 2 rfl (by decide) rfl ?_
        refine mm_wgoto ?_
        exact s5 _ hF2 h0 ha h64
      · intro h64
        refine mm_w1 rfl ?_
        refine mm_wr rfl rfl rfl ?_
        refine ⟨_, hF2, ?_⟩
        rw [q_win, if_neg h0, ha, h64]; rfl
  have s1 : ∀ I1, vb_fr (vb_vs L) I I1 → ¬ (vx_s (vs_x σ) (1 - vx_tn (vs_x σ))) = 0 → mm_W G d 92 (mm_blk 92 42) [.ref 0, .int (vx_s (vs_x σ) (vx_tn (vs_x σ))), .int (vx_s (vs_x σ) (1 - vx_tn (vs_x σ))), .int (vb_i 1)] [] (I1, P, J, S, nc, ns) (vb_RV (sp_win σ) (fun I' => vb_fr (vb_vs L) I I') P J S nc ns) := by
    intro I1 hF1 h0
    have dV1 := dV.fr hL17 hF1
    have dL1 := vd_l dV1
    have dX1 := vd_x dV1
    refine mm_w1 rfl ?_
    refine mm_wv (vb_i 3) rfl (by decide) ?_
    refine mm_nicgt (by omega) (by omega) ?_ ?_
    · intro h44
      exact absurd h44 (by decide)
    · intro h44
      refine mm_w1 rfl ?_
      refine mm_wgr (vV_S0 hV) (by decide) (by decide) (vV_P0_5 hV) (vL_a0 hL) ?_
      refine mm_w1 rfl ?_
      refine mm_w1 rfl ?_
      refine mm_w1 rfl ?_
      refine mm_wgr (vV_S0 hV) (by decide) (by decide) (vV_P0_6 hV) (vX_a0 hX) ?_
      refine mm_wgiv _ (vX_S0 hX) (by decide) (by decide) (vx_he dX1) ?_
      refine mm_w1 rfl ?_
      refine mm_csi rfl (by decide) (by omega) ((c_fw (ℓ := vs_l σ) hL 1 (by decide)).1 (by decide) _ _ _ _ _ (by omega) dL1 hbo hbf) ?_
      intro I2 hf2
      have hF2 : vb_fr (vb_vs L) I I2 := hF1.tr (hf2.mono (fun a h => by exact Or.inl (Or.inr h)))
      have dV2 := dV.fr hL17 hF2
      have dL2 := vd_l dV2
      have dX2 := vd_x dV2
      refine mm_bifeq ?_ ?_
      · intro h64
        refine mm_nincL (ls' := [_, _, _, _]) 2 rfl (by decide) rfl ?_
        refine mm_wgoto ?_
        exact s3 _ hF2 h0 h64
      · intro h64
        refine mm_w1 rfl ?_
        refine mm_wr rfl rfl rfl ?_
        refine ⟨_, hF2, ?_⟩
        rw [q_win, if_neg h0, h64]; rfl
  show mm_W _ _ 92 (mm_blk 92 0) [.ref 0, .null, .null, .null] [] _ _
  refine mm_w1 rfl ?_
  refine mm_wgr (vV_S0 hV) (by decide) (by decide) (vV_P0_6 hV) (vX_a0 hX) ?_
  refine mm_wgr (vX_S0 hX) (by decide) (by decide) (vX_P0_0 hX) (vX_a1 hX) ?_
  refine mm_w1 rfl ?_
  refine mm_wgr (vV_S0 hV) (by decide) (by decide) (vV_P0_6 hV) (vX_a0 hX) ?_
  refine mm_cvp (vb_cv (vX_S0 hX) rfl rfl rfl rfl) (by decide) (by omega) (c_turn hX dX) ?_
  refine mm_wiav _ (vX_a1 hX) (vX_S1 hX) (by decide) (by omega) (vx_hs dX (by omega)) ?_
  refine mm_w1 (ls' := [_, _, _, _]) rfl ?_
  refine mm_w1 rfl ?_
  refine mm_wgr (vV_S0 hV) (by decide) (by decide) (vV_P0_6 hV) (vX_a0 hX) ?_
  refine mm_wgr (vX_S0 hX) (by decide) (by decide) (vX_P0_0 hX) (vX_a1 hX) ?_
  refine mm_wv (vb_i 1) rfl (by decide) ?_
  refine mm_w1 rfl ?_
  refine mm_wgr (vV_S0 hV) (by decide) (by decide) (vV_P0_6 hV) (vX_a0 hX) ?_
  refine mm_cvp (vb_cv (vX_S0 hX) rfl rfl rfl rfl) (by decide) (by omega) (c_turn hX dX) ?_
  refine mm_nsub (by omega) ?_
  refine mm_wiav _ (vX_a1 hX) (vX_S1 hX) (by decide) (by omega) (vx_hs dX (by omega)) ?_
  refine mm_w1 (ls' := [_, _, _, _]) rfl ?_
  refine mm_w1 rfl ?_
  refine mm_wifne ?_ ?_
  · intro h35
    refine mm_wv (vb_i 1) rfl (by decide) ?_
    refine mm_w1 (ls' := [_, _, _, _]) rfl ?_
    exact s1 I hF h35
  · intro h35
    refine mm_wv (-1) rfl (by decide) ?_
    refine mm_wr rfl rfl rfl ?_
    refine ⟨_, hF, ?_⟩
    rw [q_win, if_pos h35]
theorem v_journey (hV : vb_isV P S L) (dV : vb_VD σ L I) (hd : 20 ≤ d) (a b : Int32) : mm_C G d 93 [.ref 0, .int a, .int b] (I, P, J, S, nc, ns) (vb_RV (sp_journey σ a b) (fun I' => vb_fr (vb_vs L) I I') P J S nc ns) := by
  have hL := vV_hL hV
  have hX := vV_hX hV
  have hY := vV_hY hV
  have hA := vV_hA hV
  have hT := vV_hT hV
  have hC := vV_hC hV
  have hL17 := vV_L17 hV
  have hF : vb_fr (vb_vs L) I I := vb_fr.rf
  have dL := vd_l dV
  have dX := vd_x dV
  have dA := vd_a dV
  have dT := vd_t dV
  have hn := vl_10 dL
  have he := vx_e2 dX
  have ht := vx_t2 (vs_x σ)
  cases ha : vb_idx (vb_n (vs_l σ)) a with
  | none =>
    rw [show sp_journey σ a b = .inr 0 by simp only [sp_journey, ha]]
    show mm_W _ _ 93 (mm_blk 93 0) [.ref 0, .int a, .int b, .null, .null] [] _ _
    refine mm_w1 rfl ?_
    refine mm_w1 rfl ?_
    refine mm_wcthr (vb_cv (vV_S0 hV) rfl rfl rfl rfl) (by decide) (by omega) (c_needV_no hV dV ha) rfl ?_
    exact ⟨I, hF, rfl⟩ 
  | some a_ =>
    obtain ⟨la, rfl⟩ := vb_idx_some (by omega) ha
    cases hb : vb_idx (vb_n (vs_l σ)) b with
    | none =>
      rw [show sp_journey σ (vb_i a_) b = .inr 0 by simp only [sp_journey, ha, hb]]
      show mm_W _ _ 93 (mm_blk 93 0) [.ref 0, .int (vb_i a_), .int b, .null, .null] [] _ _
      refine mm_w1 rfl ?_
      refine mm_w1 rfl ?_
      refine mm_cvp0 (vb_cv (vV_S0 hV) rfl rfl rfl rfl) (by decide) (by omega) (c_needV hV dV (by omega)) ?_
      refine mm_w1 rfl ?_
      refine mm_w1 rfl ?_
      refine mm_wcthr (vb_cv (vV_S0 hV) rfl rfl rfl rfl) (by decide) (by omega) (c_needV_no hV dV hb) rfl ?_
      exact ⟨I, hF, rfl⟩ 
    | some b_ =>
      obtain ⟨lb, rfl⟩ := vb_idx_some (by omega) hb
      rw [show sp_journey σ (vb_i a_) (vb_i b_) = .inl (if vx_in (vx_s (vs_x σ)) a_ = 2 then -1 else q_jn (vs_l σ) (q_free (vs_l σ) (vs_x σ)) b_ 10 0 (vb_bit a_)) by simp only [sp_journey, ha, hb]]
      have hin := vx_in2 (vx_s (vs_x σ)) a_
      have loop := vb_down (p := fun i => ∀ r : Int32, q_jn (vs_l σ) (q_free (vs_l σ) (vs_x σ)) b_ (10 - i) i r = q_jn (vs_l σ) (q_free (vs_l σ) (vs_x σ)) b_ 10 0 (vb_bit a_) → mm_W G d 93 (mm_blk 93 31) [.ref 0, .int (vb_i a_), .int (vb_i b_), .int r, .int (vb_i i)] [] (I, P, J, S, nc, ns) (vb_RV (.inl (q_jn (vs_l σ) (q_free (vs_l σ) (vs_x σ)) b_ 10 0 (vb_bit a_))) (fun I' => vb_fr (vb_vs L) I I') P J S nc ns)) 10 (by
        intro i hi ih r hr
        refine mm_w1 rfl ?_
        refine mm_wv (vb_i 10) rfl (by decide) ?_
        refine mm_nicge (by omega) (by omega) ?_ ?_
        · intro h35
          refine mm_wv (-1) rfl (by decide) ?_
          refine mm_wr rfl rfl rfl ?_
          refine ⟨_, hF, ?_⟩
          rw [← hr, show 10 - i = 0 by omega]; rfl
        · intro h35
          refine mm_w1 rfl ?_
          refine mm_w1 rfl ?_
          refine mm_csp rfl (by decide) (by omega) (c_has (by omega)) ?_
          refine mm_bifeq ?_ ?_
          · intro h43
            refine mm_w1 rfl ?_
            refine mm_w1 rfl ?_
            refine mm_wgr (vV_S0 hV) (by decide) (by decide) (vV_P0_5 hV) (vL_a0 hL) ?_
            refine mm_w1 rfl ?_
            refine mm_cvp (vb_cv (vL_S0 hL) rfl rfl rfl rfl) (by decide) (by omega) (c_beside hL dL (by omega)) ?_
            refine mm_w1 rfl ?_
            refine mm_wgr (vV_S0 hV) (by decide) (by decide) (vV_P0_5 hV) (vL_a0 hL) ?_
            refine mm_w1 rfl ?_
            refine mm_wgr (vV_S0 hV) (by decide) (by decide) (vV_P0_6 hV) (vX_a0 hX) ?_
            refine mm_cvp (vb_cv (vX_S0 hX) rfl rfl rfl rfl) (by decide) (by omega) (c_all hX dX) ?_
            refine mm_cvp (vb_cv (vL_S0 hL) rfl rfl rfl rfl) (by decide) (by omega) (c_without hL dL) ?_
            refine mm_w1 rfl ?_
            refine mm_w1 rfl ?_
            refine mm_w1 (ls' := [_, _, _, _, _]) rfl ?_
            refine mm_nincL (ls' := [_, _, _, _, _]) 1 rfl (by decide) rfl ?_
            refine mm_wgoto ?_
            refine ih (by omega) _ ?_
            rw [← hr, show 10 - i = (10 - (i + 1)) + 1 by omega, q_jn, h43]; rfl
          · intro h43
            refine mm_w1 rfl ?_
            refine mm_wr rfl rfl rfl ?_
            refine ⟨_, hF, ?_⟩
            rw [← hr, show 10 - i = (10 - (i + 1)) + 1 by omega, q_jn, h43]; rfl
        )
      show mm_W _ _ 93 (mm_blk 93 0) [.ref 0, .int (vb_i a_), .int (vb_i b_), .null, .null] [] _ _
      refine mm_w1 rfl ?_
      refine mm_w1 rfl ?_
      refine mm_cvp0 (vb_cv (vV_S0 hV) rfl rfl rfl rfl) (by decide) (by omega) (c_needV hV dV (by omega)) ?_
      refine mm_w1 rfl ?_
      refine mm_w1 rfl ?_
      refine mm_cvp0 (vb_cv (vV_S0 hV) rfl rfl rfl rfl) (by decide) (by omega) (c_needV hV dV (by omega)) ?_
      refine mm_w1 rfl ?_
      refine mm_wgr (vV_S0 hV) (by decide) (by decide) (vV_P0_6 hV) (vX_a0 hX) ?_
      refine mm_w1 rfl ?_
      refine mm_cvp (vb_cv (vX_S0 hX) rfl rfl rfl rfl) (by decide) (by omega) (c_stoneIn hX dX (by omega) (by omega)) ?_
      refine mm_wv (vb_i 2) rfl (by decide) ?_
      refine mm_nicne (by omega) (by omega) ?_ ?_
      · intro h19
        refine mm_wv (vb_i 1) rfl (by decide) ?_
        refine mm_w1 rfl ?_
        refine mm_nbit (by omega) ?_
        refine mm_w1 (ls' := [_, _, _, _, _]) rfl ?_
        refine mm_wv (vb_i 0) rfl (by decide) ?_
        refine mm_w1 (ls' := [_, _, _, _, _]) rfl ?_
        rw [if_neg h19]
        exact loop 0 (by omega) _ rfl
      · intro h19
        refine mm_wv (-1) rfl (by decide) ?_
        refine mm_wr rfl rfl rfl ?_
        refine ⟨_, hF, ?_⟩
        rw [if_pos h19]
theorem v_played (hV : vb_isV P S L) (dV : vb_VD σ L I) (hI : vs_inv σ) (hd : 20 ≤ d) (i : Int32) : mm_C G d 94 [.ref 0, .int i] (I, P, J, S, nc, ns) (vb_RV (sp_played σ i) (fun I' => vb_fr (vb_vs L) I I') P J S nc ns) := by
  have hL := vV_hL hV
  have hX := vV_hX hV
  have hY := vV_hY hV
  have hA := vV_hA hV
  have hT := vV_hT hV
  have hC := vV_hC hV
  have hL17 := vV_L17 hV
  have hF : vb_fr (vb_vs L) I I := vb_fr.rf
  have dL := vd_l dV
  have dX := vd_x dV
  have dA := vd_a dV
  have dT := vd_t dV
  have hn := vl_10 dL
  have he := vx_e2 dX
  have ht := vx_t2 (vs_x σ)
  obtain ⟨hIl, hIx, _⟩ := hI
  obtain ⟨hok, hwf, he9⟩ := hIx
  cases hi : vb_idx 30 i with
  | none =>
    rw [show sp_played σ i = .inr 0 by simp only [sp_played, hi]]
    show mm_W _ _ 94 (mm_blk 94 0) [.ref 0, .int i, .null, .null] [] _ _
    refine mm_w1 rfl ?_
    refine mm_wiflt ?_ ?_
    · intro h1
      refine mm_wthr rfl rfl rfl rfl ?_
      exact ⟨I, hF, rfl⟩
    · intro h1
      refine mm_w1 rfl ?_
      refine mm_wv (vb_i 30) rfl (by decide) ?_
      refine mm_wiclt ?_ ?_
      · intro h7
        exact vb_idx_no hi h1 h7
      · intro h7
        refine mm_wthr rfl rfl rfl rfl ?_
        exact ⟨I, hF, rfl⟩
  | some i_ =>
    obtain ⟨li, rfl⟩ := vb_idx_some (by decide) hi
    rw [show sp_played σ (vb_i i_) = .inl (vb_told (vx_mvs (vs_l σ) (vs_x σ) i_)) by simp only [sp_played, hi]]
    have loop := vb_down (p := fun j => ∀ (I1 : Nat → Nat → Int32) (z : Int32), vb_fr (vb_vs L) I I1 → vb_XD (vx_seq (vs_l σ) (vs_x σ) j) 35 I1 → (j = i_ + 1 → z = vb_told (vx_mvs (vs_l σ) (vs_x σ) i_)) → mm_W G d 94 (mm_blk 94 36) [.ref 0, .int (vb_i i_), .int z, .int (vb_i j)] [] (I1, P, J, S, nc, ns) (vb_RV (.inl (vb_told (vx_mvs (vs_l σ) (vs_x σ) i_))) (fun I' => vb_fr (vb_vs L) I I') P J S nc ns)) (i_ + 1) (by
      intro j hj ih I1 z hF1 dY1 hz
      have dV1 := dV.fr hL17 hF1
      have dL1 := vd_l dV1
      have dX1 := vd_x dV1
      have hse := vx_seq_e (vs_l σ) (vs_x σ) j
      have hsk := vx_ok.seq hok j
      refine mm_w1 rfl ?_
      refine mm_w1 rfl ?_
      refine mm_nicgt (by omega) (by omega) ?_ ?_
      · intro h38
        refine mm_w1 rfl ?_
        refine mm_wr rfl rfl rfl ?_
        refine ⟨_, hF1, ?_⟩
        rw [hz (by omega)]
      · intro h38
        refine mm_w1 rfl ?_
        refine mm_wgr (vV_S0 hV) (by decide) (by decide) (vV_P0_7 hV) (vX_a0 hY) ?_
        refine mm_w1 rfl ?_
        refine mm_wgr (vV_S0 hV) (by decide) (by decide) (vV_P0_5 hV) (vL_a0 hL) ?_
        refine mm_cvi (vb_cv (vX_S0 hY) rfl rfl rfl rfl) (by decide) (by omega) (c_play (ℓ := vs_l σ) hY hL dY1 dL1 (by omega) (by omega) (by first | assumption | exact vx_ok.seq hok _) (by omega)) ?_
        intro I2 hq2
        obtain ⟨dY2, _, hf2⟩ := hq2
        have hF2 : vb_fr (vb_vs L) I I2 := hF1.tr (hf2.mono (fun a h => by exact h.elim Or.inl (fun h => Or.inr (Or.inl h))))
        have dV2 := dV.fr hL17 hF2
        have dL2 := vd_l dV2
        have dX2 := vd_x dV2
        refine mm_w1 (ls' := [_, _, _, _]) rfl ?_
        refine mm_nincL (ls' := [_, _, _, _]) 1 rfl (by decide) rfl ?_
        refine mm_wgoto ?_
        refine ih (by omega) _ _ hF2 dY2 (fun h => ?_)
        rw [show i_ = j by omega]; rfl
      )
    show mm_W _ _ 94 (mm_blk 94 0) [.ref 0, .int (vb_i i_), .null, .null] [] _ _
    refine mm_w1 rfl ?_
    refine mm_niflt (by omega) ?_
    refine mm_w1 rfl ?_
    refine mm_wv (vb_i 30) rfl (by decide) ?_
    refine mm_niclt (by omega) (by omega) ?_ ?_
    · intro h7
      refine mm_w1 rfl ?_
      refine mm_wgr (vV_S0 hV) (by decide) (by decide) (vV_P0_7 hV) (vX_a0 hY) ?_
      refine mm_w1 rfl ?_
      refine mm_wgr (vV_S0 hV) (by decide) (by decide) (vV_P0_6 hV) (vX_a0 hX) ?_
      refine mm_cvn (vb_cv (vX_S0 hY) rfl rfl rfl rfl) (by decide) (by omega) (c_copyX hY hX dX (by omega)) ?_
      intro I1 hq1
      obtain ⟨dY1, hf1⟩ := hq1
      have hF1 : vb_fr (vb_vs L) I I1 := hF.tr (hf1.mono (fun a h => by exact Or.inr (Or.inl h)))
      have dV1 := dV.fr hL17 hF1
      have dL1 := vd_l dV1
      have dX1 := vd_x dV1
      refine mm_wv (-1) rfl (by decide) ?_
      refine mm_w1 (ls' := [_, _, _, _]) rfl ?_
      refine mm_wv (vb_i 0) rfl (by decide) ?_
      refine mm_w1 (ls' := [_, _, _, _]) rfl ?_
      exact loop 0 (by omega) _ _ hF1 dY1 (fun h => absurd h (by omega))
    · intro h7
      exact absurd li h7
theorem v_turned (hV : vb_isV P S L) (dV : vb_VD σ L I) (hI : vs_inv σ) (hd : 20 ≤ d) (v : Int32) : mm_C G d 95 [.ref 0, .int v] (I, P, J, S, nc, ns) (vb_RV (sp_turned σ v) (fun I' => vb_fr (vb_vs L) I I') P J S nc ns) := by
  have hL := vV_hL hV
  have hX := vV_hX hV
  have hY := vV_hY hV
  have hA := vV_hA hV
  have hT := vV_hT hV
  have hC := vV_hC hV
  have hL17 := vV_L17 hV
  have hF : vb_fr (vb_vs L) I I := vb_fr.rf
  have dL := vd_l dV
  have dX := vd_x dV
  have dA := vd_a dV
  have dT := vd_t dV
  have hn := vl_10 dL
  have he := vx_e2 dX
  have ht := vx_t2 (vs_x σ)
  obtain ⟨hIl, hIx, _⟩ := hI
  obtain ⟨hok, hwf, he9⟩ := hIx
  cases hv : vb_idx (vb_n (vs_l σ)) v with
  | none =>
    rw [show sp_turned σ v = .inr 0 by simp only [sp_turned, hv]]
    show mm_W _ _ 95 (mm_blk 95 0) [.ref 0, .int v, .null, .null] [] _ _
    refine mm_w1 rfl ?_
    refine mm_w1 rfl ?_
    refine mm_wcthr (vb_cv (vV_S0 hV) rfl rfl rfl rfl) (by decide) (by omega) (c_needV_no hV dV hv) rfl ?_
    exact ⟨I, hF, rfl⟩ 
  | some v_ =>
    obtain ⟨lv, rfl⟩ := vb_idx_some (by omega) hv
    rw [show sp_turned σ (vb_i v_) = .inl (q_tr (vs_l σ) (vs_x σ) v_ 30 1) by simp only [sp_turned, hv]]
    have hin := vx_in2 (vx_f (vs_x σ)) v_
    have loop := vb_down (p := fun j => 1 ≤ j → ∀ (I1 : Nat → Nat → Int32), vb_fr (vb_vs L) I I1 → vb_XD (vx_seq (vs_l σ) (vs_x σ) (j - 1)) 35 I1 → q_tr (vs_l σ) (vs_x σ) v_ (31 - j) j = (q_tr (vs_l σ) (vs_x σ) v_ 30 1) → mm_W G d 95 (mm_blk 95 27) [.ref 0, .int (vb_i v_), .int (vb_i (vx_in (vx_f (vs_x σ)) v_)), .int (vb_i j)] [] (I1, P, J, S, nc, ns) (vb_RV (.inl (q_tr (vs_l σ) (vs_x σ) v_ 30 1)) (fun I' => vb_fr (vb_vs L) I I') P J S nc ns)) 31 (by
      intro j hj ih h1j I1 hF1 dY1 hr
      have dV1 := dV.fr hL17 hF1
      have dL1 := vd_l dV1
      have dX1 := vd_x dV1
      have hse := vx_seq_e (vs_l σ) (vs_x σ) (j - 1)
      have hsk := vx_ok.seq hok (j - 1)
      have hin2 := vx_in2 (vx_f (vx_seq (vs_l σ) (vs_x σ) j)) v_
      have hsj : vx_play (vs_l σ) (vx_seq (vs_l σ) (vs_x σ) (j - 1)) = vx_seq (vs_l σ) (vs_x σ) j := by
        obtain ⟨q, rfl⟩ : ∃ q, j = q + 1 := ⟨j - 1, by omega⟩
        rfl
      refine mm_w1 rfl ?_
      refine mm_wv (vb_i 30) rfl (by decide) ?_
      refine mm_nicgt (by omega) (by omega) ?_ ?_
      · intro h30
        refine mm_wv (-1) rfl (by decide) ?_
        refine mm_wr rfl rfl rfl ?_
        refine ⟨_, hF1, ?_⟩
        rw [← hr, show 31 - j = 0 by omega]; rfl
      · intro h30
        refine mm_w1 rfl ?_
        refine mm_wgr (vV_S0 hV) (by decide) (by decide) (vV_P0_7 hV) (vX_a0 hY) ?_
        refine mm_w1 rfl ?_
        refine mm_wgr (vV_S0 hV) (by decide) (by decide) (vV_P0_5 hV) (vL_a0 hL) ?_
        refine mm_cvi (vb_cv (vX_S0 hY) rfl rfl rfl rfl) (by decide) (by omega) (c_play (ℓ := vs_l σ) hY hL dY1 dL1 (by omega) (by omega) hsk (by omega)) ?_
        intro I2 hq2
        obtain ⟨dY2, _, hf2⟩ := hq2
        rw [hsj] at dY2
        have hF2 : vb_fr (vb_vs L) I I2 := hF1.tr (hf2.mono (fun a h => by exact h.elim Or.inl (fun h => Or.inr (Or.inl h))))
        have dV2 := dV.fr hL17 hF2
        have dL2 := vd_l dV2
        have dX2 := vd_x dV2
        refine mm_w1 rfl ?_
        refine mm_w1 rfl ?_
        refine mm_wgr (vV_S0 hV) (by decide) (by decide) (vV_P0_7 hV) (vX_a0 hY) ?_
        refine mm_w1 rfl ?_
        refine mm_cvp (vb_cv (vX_S0 hY) rfl rfl rfl rfl) (by decide) (by omega) (c_flagOf hY dY2 (by omega) (by omega)) ?_
        refine mm_w1 rfl ?_
        refine mm_niceq (by omega) (by omega) ?_ ?_
        · intro h54
          refine mm_nincL (ls' := [_, _, _, _]) 1 rfl (by decide) rfl ?_
          refine mm_wgoto ?_
          refine ih (by omega) (by omega) _ hF2 (by rw [Nat.add_sub_cancel]; exact dY2) ?_
          rw [← hr, show 31 - j = (31 - (j + 1)) + 1 by omega, q_tr, if_pos h54]
        · intro h54
          refine mm_w1 rfl ?_
          refine mm_wr rfl rfl rfl ?_
          refine ⟨_, hF2, ?_⟩
          rw [← hr, show 31 - j = (31 - (j + 1)) + 1 by omega, q_tr, if_neg h54]
      )
    show mm_W _ _ 95 (mm_blk 95 0) [.ref 0, .int (vb_i v_), .null, .null] [] _ _
    refine mm_w1 rfl ?_
    refine mm_w1 rfl ?_
    refine mm_cvp0 (vb_cv (vV_S0 hV) rfl rfl rfl rfl) (by decide) (by omega) (c_needV hV dV (by omega)) ?_
    refine mm_w1 rfl ?_
    refine mm_wgr (vV_S0 hV) (by decide) (by decide) (vV_P0_6 hV) (vX_a0 hX) ?_
    refine mm_w1 rfl ?_
    refine mm_cvp (vb_cv (vX_S0 hX) rfl rfl rfl rfl) (by decide) (by omega) (c_flagOf hX dX (by omega) (by omega)) ?_
    refine mm_w1 (ls' := [_, _, _, _]) rfl ?_
    refine mm_w1 rfl ?_
    refine mm_wgr (vV_S0 hV) (by decide) (by decide) (vV_P0_7 hV) (vX_a0 hY) ?_
    refine mm_w1 rfl ?_
    refine mm_wgr (vV_S0 hV) (by decide) (by decide) (vV_P0_6 hV) (vX_a0 hX) ?_
    refine mm_cvn (vb_cv (vX_S0 hY) rfl rfl rfl rfl) (by decide) (by omega) (c_copyX hY hX dX (by omega)) ?_
    intro I1 hq1
    obtain ⟨dY1, hf1⟩ := hq1
    have hF1 : vb_fr (vb_vs L) I I1 := hF.tr (hf1.mono (fun a h => by exact Or.inr (Or.inl h)))
    have dV1 := dV.fr hL17 hF1
    have dL1 := vd_l dV1
    have dX1 := vd_x dV1
    refine mm_wv (vb_i 1) rfl (by decide) ?_
    refine mm_w1 (ls' := [_, _, _, _]) rfl ?_
    exact loop 1 (by omega) (by omega) _ hF1 dY1 rfl
theorem v_treasury (hV : vb_isV P S L) (dV : vb_VD σ L I) (hI : vs_inv σ) (hd : 20 ≤ d) (s k : Int32) : mm_C G d 96 [.ref 0, .int s, .int k] (I, P, J, S, nc, ns) (vb_RV (sp_treasury σ s k) (fun I' => vb_fr (vb_vs L) I I') P J S nc ns) := by
  have hL := vV_hL hV
  have hX := vV_hX hV
  have hY := vV_hY hV
  have hA := vV_hA hV
  have hT := vV_hT hV
  have hC := vV_hC hV
  have hL17 := vV_L17 hV
  have hF : vb_fr (vb_vs L) I I := vb_fr.rf
  have dL := vd_l dV
  have dX := vd_x dV
  have dA := vd_a dV
  have dT := vd_t dV
  have hn := vl_10 dL
  have he := vx_e2 dX
  have ht := vx_t2 (vs_x σ)
  obtain ⟨hIl, hIx, _⟩ := hI
  obtain ⟨hok, hwf, he9⟩ := hIx
  cases hs : vb_idx 2 s with
  | none =>
    rw [show sp_treasury σ s k = .inr 0 by simp only [sp_treasury, hs]]
    show mm_W _ _ 96 (mm_blk 96 0) [.ref 0, .int s, .int k, .null] [] _ _
    refine mm_w1 rfl ?_
    refine mm_w1 rfl ?_
    refine mm_wcthr (vb_cv (vV_S0 hV) rfl rfl rfl rfl) (by decide) (by omega) (c_needS_no hV hs) rfl ?_
    exact ⟨I, hF, rfl⟩ 
  | some s_ =>
    obtain ⟨ls, rfl⟩ := vb_idx_some (by omega) hs
    cases hk : vb_idx 31 k with
    | none =>
      rw [show sp_treasury σ (vb_i s_) k = .inr 1 by simp only [sp_treasury, hs, hk]]
      show mm_W _ _ 96 (mm_blk 96 0) [.ref 0, .int (vb_i s_), .int k, .null] [] _ _
      refine mm_w1 rfl ?_
      refine mm_w1 rfl ?_
      refine mm_cvp0 (vb_cv (vV_S0 hV) rfl rfl rfl rfl) (by decide) (by omega) (c_needS hV (by omega)) ?_
      refine mm_w1 rfl ?_
      refine mm_wiflt ?_ ?_
      · intro h6
        refine mm_wthr rfl rfl rfl rfl ?_
        exact ⟨I, hF, rfl⟩
      · intro h6
        refine mm_w1 rfl ?_
        refine mm_wv (vb_i 30) rfl (by decide) ?_
        refine mm_wicle ?_ ?_
        · intro h12
          exact vb_idx_no hk h6 (vb_lt_le (by decide) h12)
        · intro h12
          refine mm_wthr rfl rfl rfl rfl ?_
          exact ⟨I, hF, rfl⟩
    | some k_ =>
      obtain ⟨lk, rfl⟩ := vb_idx_some (by decide) hk
      rw [show sp_treasury σ (vb_i s_) (vb_i k_) = .inl (vx_t (vx_seq (vs_l σ) (vs_x σ) k_) s_) by simp only [sp_treasury, hs, hk]]
      have loop := vb_down (p := fun j => ∀ (I1 : Nat → Nat → Int32), vb_fr (vb_vs L) I I1 → vb_XD (vx_seq (vs_l σ) (vs_x σ) j) 35 I1 → mm_W G d 96 (mm_blk 96 39) [.ref 0, .int (vb_i s_), .int (vb_i k_), .int (vb_i j)] [] (I1, P, J, S, nc, ns) (vb_RV (.inl (vx_t (vx_seq (vs_l σ) (vs_x σ) k_) s_)) (fun I' => vb_fr (vb_vs L) I I') P J S nc ns)) k_ (by
        intro j hj ih I1 hF1 dY1
        have dV1 := dV.fr hL17 hF1
        have dL1 := vd_l dV1
        have dX1 := vd_x dV1
        have hse := vx_seq_e (vs_l σ) (vs_x σ) j
        have hsk := vx_ok.seq hok j
        refine mm_w1 rfl ?_
        refine mm_w1 rfl ?_
        refine mm_nicge (by omega) (by omega) ?_ ?_
        · intro h41
          refine mm_w1 rfl ?_
          refine mm_wgr (vV_S0 hV) (by decide) (by decide) (vV_P0_7 hV) (vX_a0 hY) ?_
          refine mm_wgr (vX_S0 hY) (by decide) (by decide) (vX_P0_2 hY) (vX_a3 hY) ?_
          refine mm_w1 rfl ?_
          refine mm_wiav _ (vX_a3 hY) (vX_S3 hY) (by decide) (by omega) (vx_ht dY1 (by omega)) ?_
          refine mm_wr rfl rfl rfl ?_
          refine ⟨_, hF1, ?_⟩
          rw [show k_ = j by omega]
        · intro h41
          refine mm_w1 rfl ?_
          refine mm_wgr (vV_S0 hV) (by decide) (by decide) (vV_P0_7 hV) (vX_a0 hY) ?_
          refine mm_w1 rfl ?_
          refine mm_wgr (vV_S0 hV) (by decide) (by decide) (vV_P0_5 hV) (vL_a0 hL) ?_
          refine mm_cvi (vb_cv (vX_S0 hY) rfl rfl rfl rfl) (by decide) (by omega) (c_play (ℓ := vs_l σ) hY hL dY1 dL1 (by omega) (by omega) (by first | assumption | exact vx_ok.seq hok _) (by omega)) ?_
          intro I2 hq2
          obtain ⟨dY2, _, hf2⟩ := hq2
          have hF2 : vb_fr (vb_vs L) I I2 := hF1.tr (hf2.mono (fun a h => by exact h.elim Or.inl (fun h => Or.inr (Or.inl h))))
          have dV2 := dV.fr hL17 hF2
          have dL2 := vd_l dV2
          have dX2 := vd_x dV2
          refine mm_w1 rfl ?_
          refine mm_nincL (ls' := [_, _, _, _]) 1 rfl (by decide) rfl ?_
          refine mm_wgoto ?_
          exact ih (by omega) _ hF2 dY2
        )
      show mm_W _ _ 96 (mm_blk 96 0) [.ref 0, .int (vb_i s_), .int (vb_i k_), .null] [] _ _
      refine mm_w1 rfl ?_
      refine mm_w1 rfl ?_
      refine mm_cvp0 (vb_cv (vV_S0 hV) rfl rfl rfl rfl) (by decide) (by omega) (c_needS hV (by omega)) ?_
      refine mm_w1 rfl ?_
      refine mm_niflt (by omega) ?_
      refine mm_w1 rfl ?_
      refine mm_wv (vb_i 30) rfl (by decide) ?_
      refine mm_nicle (by omega) (by omega) ?_ ?_
      · intro h12
        refine mm_w1 rfl ?_
        refine mm_wgr (vV_S0 hV) (by decide) (by decide) (vV_P0_7 hV) (vX_a0 hY) ?_
        refine mm_w1 rfl ?_
        refine mm_wgr (vV_S0 hV) (by decide) (by decide) (vV_P0_6 hV) (vX_a0 hX) ?_
        refine mm_cvn (vb_cv (vX_S0 hY) rfl rfl rfl rfl) (by decide) (by omega) (c_copyX hY hX dX (by omega)) ?_
        intro I1 hq1
        obtain ⟨dY1, hf1⟩ := hq1
        have hF1 : vb_fr (vb_vs L) I I1 := hF.tr (hf1.mono (fun a h => by exact Or.inr (Or.inl h)))
        have dV1 := dV.fr hL17 hF1
        have dL1 := vd_l dV1
        have dX1 := vd_x dV1
        refine mm_wv (vb_i 0) rfl (by decide) ?_
        refine mm_w1 (ls' := [_, _, _, _]) rfl ?_
        exact loop 0 (by omega) _ hF1 dY1
      · intro h12
        exact absurd h12 (by omega)
theorem v_gift (hV : vb_isV P S L) (dV : vb_VD σ L I) (hI : vs_inv σ) (hd : 20 ≤ d) (a b : Int32) : mm_C G d 97 [.ref 0, .int a, .int b] (I, P, J, S, nc, ns) (vb_RV (sp_gift σ a b) (fun I' => vb_fr (vb_vs L) I I') P J S nc ns) := by
  have hL := vV_hL hV
  have hX := vV_hX hV
  have hY := vV_hY hV
  have hA := vV_hA hV
  have hT := vV_hT hV
  have hC := vV_hC hV
  have hL17 := vV_L17 hV
  have hF : vb_fr (vb_vs L) I I := vb_fr.rf
  have dL := vd_l dV
  have dX := vd_x dV
  have dA := vd_a dV
  have dT := vd_t dV
  have hn := vl_10 dL
  have he := vx_e2 dX
  have ht := vx_t2 (vs_x σ)
  obtain ⟨hIl, hIx, _⟩ := hI
  obtain ⟨hok, hwf, he9⟩ := hIx
  cases ha : vb_idx (vb_n (vs_l σ)) a with
  | none =>
    rw [show sp_gift σ a b = .inr 0 by simp only [sp_gift, ha]]
    show mm_W _ _ 97 (mm_blk 97 0) [.ref 0, .int a, .int b, .null, .null, .null] [] _ _
    refine mm_w1 rfl ?_
    refine mm_w1 rfl ?_
    refine mm_wcthr (vb_cv (vV_S0 hV) rfl rfl rfl rfl) (by decide) (by omega) (c_needV_no hV dV ha) rfl ?_
    exact ⟨I, hF, rfl⟩ 
  | some a_ =>
    obtain ⟨la, rfl⟩ := vb_idx_some (by omega) ha
    cases hb : vb_idx (vb_n (vs_l σ)) b with
    | none =>
      rw [show sp_gift σ (vb_i a_) b = .inr 0 by simp only [sp_gift, ha, hb]]
      show mm_W _ _ 97 (mm_blk 97 0) [.ref 0, .int (vb_i a_), .int b, .null, .null, .null] [] _ _
      refine mm_w1 rfl ?_
      refine mm_w1 rfl ?_
      refine mm_cvp0 (vb_cv (vV_S0 hV) rfl rfl rfl rfl) (by decide) (by omega) (c_needV hV dV (by omega)) ?_
      refine mm_w1 rfl ?_
      refine mm_w1 rfl ?_
      refine mm_wcthr (vb_cv (vV_S0 hV) rfl rfl rfl rfl) (by decide) (by omega) (c_needV_no hV dV hb) rfl ?_
      exact ⟨I, hF, rfl⟩ 
    | some b_ =>
      obtain ⟨lb, rfl⟩ := vb_idx_some (by omega) hb
      rw [show sp_gift σ (vb_i a_) (vb_i b_) = .inl (if vx_y (vs_x σ) (vx_tn (vs_x σ)) = -1 then -1 else if q_mayT (vs_l σ) (vs_x σ) a_ b_ then q_gift (vs_l σ) (vs_x σ) (10 * a_ + b_) else -1) by simp only [sp_gift, ha, hb]]
      have e1 : (10 * a_ + b_) / 10 = a_ := by omega
      have e2 : (10 * a_ + b_) % 10 = b_ := by omega
      show mm_W _ _ 97 (mm_blk 97 0) [.ref 0, .int (vb_i a_), .int (vb_i b_), .null, .null, .null] [] _ _
      refine mm_w1 rfl ?_
      refine mm_w1 rfl ?_
      refine mm_cvp0 (vb_cv (vV_S0 hV) rfl rfl rfl rfl) (by decide) (by omega) (c_needV hV dV (by omega)) ?_
      refine mm_w1 rfl ?_
      refine mm_w1 rfl ?_
      refine mm_cvp0 (vb_cv (vV_S0 hV) rfl rfl rfl rfl) (by decide) (by omega) (c_needV hV dV (by omega)) ?_
      refine mm_w1 rfl ?_
      refine mm_wgr (vV_S0 hV) (by decide) (by decide) (vV_P0_6 hV) (vX_a0 hX) ?_
      refine mm_wgr (vX_S0 hX) (by decide) (by decide) (vX_P0_3 hX) (vX_a4 hX) ?_
      refine mm_w1 rfl ?_
      refine mm_wgr (vV_S0 hV) (by decide) (by decide) (vV_P0_6 hV) (vX_a0 hX) ?_
      refine mm_cvp (vb_cv (vX_S0 hX) rfl rfl rfl rfl) (by decide) (by omega) (c_turn hX dX) ?_
      refine mm_wiav _ (vX_a4 hX) (vX_S4 hX) (by decide) (by omega) (vx_hy dX (by omega)) ?_
      refine mm_wv (-1) rfl (by decide) ?_
      refine mm_wiceq ?_ ?_
      · intro h26
        refine mm_wv (-1) rfl (by decide) ?_
        refine mm_wr rfl rfl rfl ?_
        refine ⟨_, hF, ?_⟩
        first
          | (rw [if_pos h26]; done)
          | (rw [if_pos h26]; rfl)
          | (rw [if_neg h26, h35]; rfl)
          | (rw [if_neg h26, h35, if_pos rfl, q_gift0 h65]; rfl)
          | (rw [if_neg h26, h35, if_pos rfl, q_gift1 h65 h76])
          | (rw [if_neg h26, h35, if_pos rfl, q_gift2 h65 h76])
      · intro h26
        refine mm_w1 rfl ?_
        refine mm_w1 rfl ?_
        refine mm_w1 rfl ?_
        refine mm_cvi (vb_cv (vV_S0 hV) rfl rfl rfl rfl) (by decide) (by omega) (c_mayT (σ := σ) hV dV (by omega) (by omega) (by omega)) ?_
        intro I1 hf1
        have hF1 : vb_fr (vb_vs L) I I1 := hF.tr (hf1.mono (fun a h => by exact h))
        have dV1 := dV.fr hL17 hF1
        have dL1 := vd_l dV1
        have dX1 := vd_x dV1
        refine mm_bifne ?_ ?_
        · intro h35
          refine mm_wv (vb_i 100) rfl (by decide) ?_
          refine mm_w1 rfl ?_
          refine mm_nmul ?_
          refine mm_w1 rfl ?_
          refine mm_nadd ?_
          rw [show vb_i (100 * a_ + b_) = vb_i (100 * ((10 * a_ + b_) / 10) + (10 * a_ + b_) % 10) by rw [e1, e2]]
          refine mm_w1 (ls' := [_, _, _, _, _, _]) rfl ?_
          have hy := h26 
          refine mm_w1 rfl ?_
          refine mm_w1 rfl ?_
          refine mm_cvi (vb_cv (vV_S0 hV) rfl rfl rfl rfl) (by decide) (by omega) (c_ltw (σ := σ) hV dV1 (by omega) hok hy (by omega)) ?_
          intro I2 hf2
          have hF2 : vb_fr (vb_vs L) I I2 := hF1.tr (hf2.mono (fun a h => by exact h))
          have dV2 := dV.fr hL17 hF2
          have dL2 := vd_l dV2
          have dX2 := vd_x dV2
          refine mm_w1 rfl ?_
          refine mm_w1 rfl ?_
          refine mm_cvi (vb_cv (vV_S0 hV) rfl rfl rfl rfl) (by decide) (by omega) (c_gives (σ := σ) hV dV2 (by omega) (by omega) (by omega) hok hy (by omega)) ?_
          intro I3 hf3
          have hF3 : vb_fr (vb_vs L) I I3 := hF2.tr (hf3.mono (fun a h => by exact Or.inl (Or.inr h)))
          have dV3 := dV.fr hL17 hF3
          have dL3 := vd_l dV3
          have dX3 := vd_x dV3
          refine mm_w1 rfl ?_
          refine mm_w1 rfl ?_
          refine mm_w1 (ls' := [_, _, _, _, _, _]) rfl ?_
          refine mm_w1 rfl ?_
          refine mm_w1 rfl ?_
          refine mm_w1 rfl ?_
          refine mm_wifgt ?_ ?_
          · intro h65
            refine mm_w1 rfl ?_
            refine mm_w1 rfl ?_
            refine mm_w1 rfl ?_
            refine mm_wifle ?_ ?_
            · intro h76
              refine mm_w1 rfl ?_
              refine mm_w1 rfl ?_
              refine mm_wr rfl rfl rfl ?_
              refine ⟨_, hF3, ?_⟩
              first
                | (rw [if_pos h26]; done)
                | (rw [if_pos h26]; rfl)
                | (rw [if_neg h26, h35]; rfl)
                | (rw [if_neg h26, h35, if_pos rfl, q_gift0 h65]; rfl)
                | (rw [if_neg h26, h35, if_pos rfl, q_gift1 h65 h76])
                | (rw [if_neg h26, h35, if_pos rfl, q_gift2 h65 h76])
            · intro h76
              refine mm_wv (-1) rfl (by decide) ?_
              refine mm_wgoto ?_
              refine mm_wr rfl rfl rfl ?_
              refine ⟨_, hF3, ?_⟩
              first
                | (rw [if_pos h26]; done)
                | (rw [if_pos h26]; rfl)
                | (rw [if_neg h26, h35]; rfl)
                | (rw [if_neg h26, h35, if_pos rfl, q_gift0 h65]; rfl)
                | (rw [if_neg h26, h35, if_pos rfl, q_gift1 h65 h76])
                | (rw [if_neg h26, h35, if_pos rfl, q_gift2 h65 h76])
          · intro h65
            refine mm_wv (vb_i 0) rfl (by decide) ?_
            refine mm_wr rfl rfl rfl ?_
            refine ⟨_, hF3, ?_⟩
            first
              | (rw [if_pos h26]; done)
              | (rw [if_pos h26]; rfl)
              | (rw [if_neg h26, h35]; rfl)
              | (rw [if_neg h26, h35, if_pos rfl, q_gift0 h65]; rfl)
              | (rw [if_neg h26, h35, if_pos rfl, q_gift1 h65 h76])
              | (rw [if_neg h26, h35, if_pos rfl, q_gift2 h65 h76])
        · intro h35
          refine mm_wv (-1) rfl (by decide) ?_
          refine mm_wr rfl rfl rfl ?_
          refine ⟨_, hF1, ?_⟩
          first
            | (rw [if_pos h26]; done)
            | (rw [if_pos h26]; rfl)
            | (rw [if_neg h26, h35]; rfl)
            | (rw [if_neg h26, h35, if_pos rfl, q_gift0 h65]; rfl)
            | (rw [if_neg h26, h35, if_pos rfl, q_gift1 h65 h76])
            | (rw [if_neg h26, h35, if_pos rfl, q_gift2 h65 h76])
theorem v_plant (hV : vb_isV P S L) (dV : vb_VD σ L I) (hd : 20 ≤ d) (v w : Int32) : mm_C G d 98 [.ref 0, .int v, .int w] (I, P, J, S, nc, ns) (vb_RV (sp_plant σ v w) (fun I' => vb_fr (vb_vs L) I I') P J S nc ns) := by
  have hL := vV_hL hV
  have hX := vV_hX hV
  have hY := vV_hY hV
  have hA := vV_hA hV
  have hT := vV_hT hV
  have hC := vV_hC hV
  have hL17 := vV_L17 hV
  have hF : vb_fr (vb_vs L) I I := vb_fr.rf
  have dL := vd_l dV
  have dX := vd_x dV
  have dA := vd_a dV
  have dT := vd_t dV
  have hn := vl_10 dL
  have he := vx_e2 dX
  have ht := vx_t2 (vs_x σ)
  cases hv : vb_idx (vb_n (vs_l σ)) v with
  | none =>
    rw [show sp_plant σ v w = .inr 0 by simp only [sp_plant, hv]]
    show mm_W _ _ 98 (mm_blk 98 0) [.ref 0, .int v, .int w, .null, .null, .null, .null, .null] [] _ _
    refine mm_w1 rfl ?_
    refine mm_w1 rfl ?_
    refine mm_wcthr (vb_cv (vV_S0 hV) rfl rfl rfl rfl) (by decide) (by omega) (c_needV_no hV dV hv) rfl ?_
    exact ⟨I, hF, rfl⟩ 
  | some v_ =>
    obtain ⟨lv, rfl⟩ := vb_idx_some (by omega) hv
    cases hw : vb_idx 3 w with
    | none =>
      rw [show sp_plant σ (vb_i v_) w = .inr 0 by simp only [sp_plant, hv, hw]]
      show mm_W _ _ 98 (mm_blk 98 0) [.ref 0, .int (vb_i v_), .int w, .null, .null, .null, .null, .null] [] _ _
      refine mm_w1 rfl ?_
      refine mm_w1 rfl ?_
      refine mm_cvp0 (vb_cv (vV_S0 hV) rfl rfl rfl rfl) (by decide) (by omega) (c_needV hV dV (by omega)) ?_
      refine mm_w1 rfl ?_
      refine mm_wiflt ?_ ?_
      · intro h6
        refine mm_wthr rfl rfl rfl rfl ?_
        exact ⟨I, hF, rfl⟩
      · intro h6
        refine mm_w1 rfl ?_
        refine mm_wv (vb_i 2) rfl (by decide) ?_
        refine mm_wicle ?_ ?_
        · intro h11
          exact vb_idx_no hw h6 (vb_lt_le (by decide) h11)
        · intro h11
          refine mm_wthr rfl rfl rfl rfl ?_
          exact ⟨I, hF, rfl⟩
    | some w_ =>
      obtain ⟨lw, rfl⟩ := vb_idx_some (by decide) hw
      have hin := vx_in2 (vx_s (vs_x σ)) v_
      have hc := vb_cnt_le 10 (vb_has (vb_tk (vs_l σ) (vx_s (vs_x σ) (vx_in (vx_s (vs_x σ)) v_)) (vx_s (vs_x σ) (1 - vx_in (vx_s (vs_x σ)) v_)) v_ (vb_i (vx_e (vs_x σ)))))
      have hlen : (vb_ms (vs_l σ) (vx_s (vs_x σ) (1 - vx_in (vx_s (vs_x σ)) v_)) (vx_s (vs_x σ) (vx_in (vx_s (vs_x σ)) v_)) (vb_i (vx_e (vs_x σ)))).length ≤ 36 := vb_ms_len hn (vl_deg dL)
      rw [show sp_plant σ (vb_i v_) (vb_i w_) = .inl (q_plant (vs_l σ) (vs_x σ) v_ w_) by simp only [sp_plant, hv, hw]]
      show mm_W _ _ 98 (mm_blk 98 0) [.ref 0, .int (vb_i v_), .int (vb_i w_), .null, .null, .null, .null, .null] [] _ _
      refine mm_w1 rfl ?_
      refine mm_w1 rfl ?_
      refine mm_cvp0 (vb_cv (vV_S0 hV) rfl rfl rfl rfl) (by decide) (by omega) (c_needV hV dV (by omega)) ?_
      refine mm_w1 rfl ?_
      refine mm_niflt (by omega) ?_
      refine mm_w1 rfl ?_
      refine mm_wv (vb_i 2) rfl (by decide) ?_
      refine mm_nicle (by omega) (by omega) ?_ ?_
      · intro h11
        refine mm_w1 rfl ?_
        refine mm_wgr (vV_S0 hV) (by decide) (by decide) (vV_P0_6 hV) (vX_a0 hX) ?_
        refine mm_w1 rfl ?_
        refine mm_cvp (vb_cv (vX_S0 hX) rfl rfl rfl rfl) (by decide) (by omega) (c_stoneIn hX dX (by omega) (by omega)) ?_
        refine mm_w1 (ls' := [_, _, _, _, _, _, _, _]) rfl ?_
        refine mm_w1 rfl ?_
        refine mm_wv (vb_i 2) rfl (by decide) ?_
        refine mm_nicne (by omega) (by omega) ?_ ?_
        · intro h36
          refine mm_w1 rfl ?_
          refine mm_wgr (vV_S0 hV) (by decide) (by decide) (vV_P0_6 hV) (vX_a0 hX) ?_
          refine mm_wgr (vX_S0 hX) (by decide) (by decide) (vX_P0_0 hX) (vX_a1 hX) ?_
          refine mm_w1 rfl ?_
          refine mm_wiav _ (vX_a1 hX) (vX_S1 hX) (by decide) (by omega) (vx_hs dX (by omega)) ?_
          refine mm_w1 (ls' := [_, _, _, _, _, _, _, _]) rfl ?_
          refine mm_w1 rfl ?_
          refine mm_wgr (vV_S0 hV) (by decide) (by decide) (vV_P0_6 hV) (vX_a0 hX) ?_
          refine mm_wgr (vX_S0 hX) (by decide) (by decide) (vX_P0_0 hX) (vX_a1 hX) ?_
          refine mm_wv (vb_i 1) rfl (by decide) ?_
          refine mm_w1 rfl ?_
          refine mm_nsub (by omega) ?_
          refine mm_wiav _ (vX_a1 hX) (vX_S1 hX) (by decide) (by omega) (vx_hs dX (by omega)) ?_
          refine mm_w1 (ls' := [_, _, _, _, _, _, _, _]) rfl ?_
          refine mm_w1 rfl ?_
          refine mm_wgr (vV_S0 hV) (by decide) (by decide) (vV_P0_5 hV) (vL_a0 hL) ?_
          refine mm_w1 rfl ?_
          refine mm_w1 rfl ?_
          refine mm_w1 rfl ?_
          refine mm_w1 rfl ?_
          refine mm_wgr (vV_S0 hV) (by decide) (by decide) (vV_P0_6 hV) (vX_a0 hX) ?_
          refine mm_wgiv _ (vX_S0 hX) (by decide) (by decide) (vx_he dX) ?_
          refine mm_cvi (vb_cv (vL_S0 hL) rfl rfl rfl rfl) (by decide) (by omega) (c_takers (ℓ := vs_l σ) hL dL (by omega) (by omega)) ?_
          intro I1 hf1
          have hF1 : vb_fr (vb_vs L) I I1 := hF.tr (hf1.mono (fun a h => by exact Or.inl (Or.inr h)))
          have dV1 := dV.fr hL17 hF1
          have dL1 := vd_l dV1
          have dX1 := vd_x dV1
          refine mm_csp rfl (by decide) (by omega) (c_bc (vb_below_mono (vb_set_below (by omega) _) hn)) ?_
          refine mm_w1 (ls' := [_, _, _, _, _, _, _, _]) rfl ?_
          refine mm_w1 rfl ?_
          refine mm_wgr (vV_S0 hV) (by decide) (by decide) (vV_P0_5 hV) (vL_a0 hL) ?_
          refine mm_w1 rfl ?_
          refine mm_w1 rfl ?_
          refine mm_w1 rfl ?_
          refine mm_wgr (vV_S0 hV) (by decide) (by decide) (vV_P0_6 hV) (vX_a0 hX) ?_
          refine mm_wgiv _ (vX_S0 hX) (by decide) (by decide) (vx_he dX1) ?_
          refine mm_cvi (vb_cv (vL_S0 hL) rfl rfl rfl rfl) (by decide) (by omega) (c_list (ℓ := vs_l σ) hL dL1 (by omega)) ?_
          intro I2 hq2
          obtain ⟨hf2, hm2⟩ := hq2
          have hF2 : vb_fr (vb_vs L) I I2 := hF1.tr (hf2.mono (fun a h => by exact Or.inl h))
          have dV2 := dV.fr hL17 hF2
          have dL2 := vd_l dV2
          have dX2 := vd_x dV2
          refine mm_wv (vb_i 1) rfl (by decide) ?_
          refine mm_nadd ?_
          refine mm_w1 (ls' := [_, _, _, _, _, _, _, _]) rfl ?_
          refine mm_w1 rfl ?_
          refine mm_nifne (by omega) ?_ ?_
          · intro h112
            refine mm_w1 rfl ?_
            refine mm_wv (vb_i 1) rfl (by decide) ?_
            refine mm_nicne (by omega) (by omega) ?_ ?_
            · intro h120
              refine mm_wv (vb_i 6) rfl (by decide) ?_
              refine mm_w1 rfl ?_
              refine mm_w1 rfl ?_
              refine mm_w1 rfl ?_ 
              refine mm_w1 rfl ?_ 
              refine mm_wv (vb_i 2) rfl (by decide) ?_
              refine mm_w1 rfl ?_
              refine mm_w1 rfl ?_ 
              refine mm_wicle ?_ ?_
              · intro h140
                refine mm_wv (vb_i 0) rfl (by decide) ?_
                refine mm_wr rfl rfl rfl ?_
                refine ⟨_, hF2, ?_⟩
                simp only [q_plant]
                first
                  | (rw [if_pos h36]; done)
                  | (rw [if_neg h36, if_pos h112]; done)
                  | (rw [if_neg h36, if_neg h112, if_pos h120]; done)
                  | (rw [if_neg h36, if_neg h112, if_neg h120, if_neg h140]; done)
                  | (rw [if_neg h36, if_neg h112, if_neg h120, if_pos h140]; done)
              · intro h140
                refine mm_wv (vb_i 1) rfl (by decide) ?_
                refine mm_wgoto ?_
                refine mm_wr rfl rfl rfl ?_
                refine ⟨_, hF2, ?_⟩
                simp only [q_plant]
                first
                  | (rw [if_pos h36]; done)
                  | (rw [if_neg h36, if_pos h112]; done)
                  | (rw [if_neg h36, if_neg h112, if_pos h120]; done)
                  | (rw [if_neg h36, if_neg h112, if_neg h120, if_neg h140]; done)
                  | (rw [if_neg h36, if_neg h112, if_neg h120, if_pos h140]; done)
            · intro h120
              refine mm_w1 rfl ?_
              refine mm_wgoto ?_
              refine mm_wr rfl rfl rfl ?_
              refine ⟨_, hF2, ?_⟩
              simp only [q_plant]
              first
                | (rw [if_pos h36]; done)
                | (rw [if_neg h36, if_pos h112]; done)
                | (rw [if_neg h36, if_neg h112, if_pos h120]; done)
                | (rw [if_neg h36, if_neg h112, if_neg h120, if_neg h140]; done)
                | (rw [if_neg h36, if_neg h112, if_neg h120, if_pos h140]; done)
          · intro h112
            refine mm_w1 rfl ?_
            refine mm_wr rfl rfl rfl ?_
            refine ⟨_, hF2, ?_⟩
            simp only [q_plant]
            first
              | (rw [if_pos h36]; done)
              | (rw [if_neg h36, if_pos h112]; done)
              | (rw [if_neg h36, if_neg h112, if_pos h120]; done)
              | (rw [if_neg h36, if_neg h112, if_neg h120, if_neg h140]; done)
              | (rw [if_neg h36, if_neg h112, if_neg h120, if_pos h140]; done)
        · intro h36
          refine mm_wv (-1) rfl (by decide) ?_
          refine mm_wr rfl rfl rfl ?_
          refine ⟨_, hF, ?_⟩
          simp only [q_plant]
          first
            | (rw [if_pos h36]; done)
            | (rw [if_neg h36, if_pos h112]; done)
            | (rw [if_neg h36, if_neg h112, if_pos h120]; done)
            | (rw [if_neg h36, if_neg h112, if_neg h120, if_neg h140]; done)
            | (rw [if_neg h36, if_neg h112, if_neg h120, if_pos h140]; done)
      · intro h11
        exact absurd h11 (by omega)
end AHEAD4
