section GAME
variable {G : mm_G} {d : Nat} {I : Nat → Nat → Int32} {P : Nat → Nat → Nat} {J : Nat → Nat → Int64} {S : List (Nat × Nat)} {nc ns : Nat} {μ : mm_M} {σ : vb_St} {L : Nat}
theorem v_game (hV : vb_isV P S L) (dV : vb_VD σ L I) (hI : vs_inv σ) (hd : 20 ≤ d) (a b w : Int32) : mm_C G d 105 [.ref 0, .int a, .int b, .int w] (I, P, J, S, nc, ns) (vb_RV (sp_game σ a b w) (fun I' => vb_fr (vb_vs L) I I') P J S nc ns) := by
  have hL := vV_hL hV
  have hX := vV_hX hV
  have hY := vV_hY hV
  have hA := vV_hA hV
  have hT := vV_hT hV
  have hC := vV_hC hV
  have hL17 := vV_L17 hV
  have hF : vb_fr (vb_vs L) I I := vb_fr.rf
  have dL := vd_l dV
  have dX := vd_x dV
  have dA := vd_a dV
  have dT := vd_t dV
  have hn := vl_10 dL
  have he := vx_e2 dX
  have ht := vx_t2 (vs_x σ)
  obtain ⟨hIl, hIx, _⟩ := hI
  obtain ⟨hok, hwf, he9⟩ := hIx
  have hs3 := vl_sc3 dL
  cases ha : vb_idx (vb_sc (vs_l σ)) a with
  | none =>
    rw [show sp_game σ a b w = .inr 0 by simp only [sp_game, ha]]
    show mm_W _ _ 105 (mm_blk 105 0) [.ref 0, .int a, .int b, .int w, .null, .null, .null] [] _ _
    refine mm_w1 rfl ?_
    refine mm_w1 rfl ?_
    refine mm_cvp (vb_cv (vV_S0 hV) rfl rfl rfl rfl) (by decide) (by omega) (c_isStyle hV dV) ?_
    refine mm_bifeq ?_ ?_
    · intro h5
      refine mm_wthr rfl rfl rfl rfl ?_
      exact ⟨I, hF, rfl⟩
    · intro h5
      rw [ha] at h5; cases h5
  | some a_ =>
    obtain ⟨la, rfl⟩ := vb_idx_some (by omega) ha
    cases hb : vb_idx (vb_sc (vs_l σ)) b with
    | none =>
      rw [show sp_game σ (vb_i a_) b w = .inr 0 by simp only [sp_game, ha, hb]]
      show mm_W _ _ 105 (mm_blk 105 0) [.ref 0, .int (vb_i a_), .int b, .int w, .null, .null, .null] [] _ _
      refine mm_w1 rfl ?_
      refine mm_w1 rfl ?_
      refine mm_cvp (vb_cv (vV_S0 hV) rfl rfl rfl rfl) (by decide) (by omega) (c_isStyle hV dV) ?_
      refine mm_bifeq ?_ ?_
      · intro h5
        rw [ha] at h5; cases h5
      · intro h5
        refine mm_w1 rfl ?_
        refine mm_w1 rfl ?_
        refine mm_cvp (vb_cv (vV_S0 hV) rfl rfl rfl rfl) (by decide) (by omega) (c_isStyle hV dV) ?_
        refine mm_bifeq ?_ ?_
        · intro h13
          refine mm_wthr rfl rfl rfl rfl ?_
          exact ⟨I, hF, rfl⟩
        · intro h13
          rw [hb] at h13; cases h13
    | some b_ =>
      obtain ⟨lb, rfl⟩ := vb_idx_some (by omega) hb
      cases hw : vb_idx 2 w with
      | none =>
        rw [show sp_game σ (vb_i a_) (vb_i b_) w = .inr 0 by simp only [sp_game, ha, hb, hw]]
        show mm_W _ _ 105 (mm_blk 105 0) [.ref 0, .int (vb_i a_), .int (vb_i b_), .int w, .null, .null, .null] [] _ _
        refine mm_w1 rfl ?_
        refine mm_w1 rfl ?_
        refine mm_cvp (vb_cv (vV_S0 hV) rfl rfl rfl rfl) (by decide) (by omega) (c_isStyle hV dV) ?_
        refine mm_bifeq ?_ ?_
        · intro h5
          rw [ha] at h5; cases h5
        · intro h5
          refine mm_w1 rfl ?_
          refine mm_w1 rfl ?_
          refine mm_cvp (vb_cv (vV_S0 hV) rfl rfl rfl rfl) (by decide) (by omega) (c_isStyle hV dV) ?_
          refine mm_bifeq ?_ ?_
          · intro h13
            rw [hb] at h13; cases h13
          · intro h13
            refine mm_w1 rfl ?_
            refine mm_wiflt ?_ ?_
            · intro h17
              refine mm_wthr rfl rfl rfl rfl ?_
              exact ⟨I, hF, rfl⟩
            · intro h17
              refine mm_w1 rfl ?_
              refine mm_wv (vb_i 1) rfl (by decide) ?_
              refine mm_wicle ?_ ?_
              · intro h22
                exact vb_idx_no hw h17 (vb_lt_le (by decide) h22)
              · intro h22
                refine mm_wthr rfl rfl rfl rfl ?_
                exact ⟨I, hF, rfl⟩
      | some w_ =>
        obtain ⟨lw, rfl⟩ := vb_idx_some (by decide) hw
        by_cases hab : a_ = b_
        · rw [show sp_game σ (vb_i a_) (vb_i b_) (vb_i w_) = .inr 1 by simp only [sp_game, ha, hb, hw, if_pos hab]]
          show mm_W _ _ 105 (mm_blk 105 0) [.ref 0, .int (vb_i a_), .int (vb_i b_), .int (vb_i w_), .null, .null, .null] [] _ _
          refine mm_w1 rfl ?_
          refine mm_w1 rfl ?_
          refine mm_cvp (vb_cv (vV_S0 hV) rfl rfl rfl rfl) (by decide) (by omega) (c_isStyle hV dV) ?_
          refine mm_bifeq ?_ ?_
          · intro h5
            rw [ha] at h5; cases h5
          · intro h5
            refine mm_w1 rfl ?_
            refine mm_w1 rfl ?_
            refine mm_cvp (vb_cv (vV_S0 hV) rfl rfl rfl rfl) (by decide) (by omega) (c_isStyle hV dV) ?_
            refine mm_bifeq ?_ ?_
            · intro h13
              rw [hb] at h13; cases h13
            · intro h13
              refine mm_w1 rfl ?_
              refine mm_niflt (by omega) ?_
              refine mm_w1 rfl ?_
              refine mm_wv (vb_i 1) rfl (by decide) ?_
              refine mm_nicle (by omega) (by omega) ?_ ?_
              · intro h22
                refine mm_w1 rfl ?_
                refine mm_w1 rfl ?_
                refine mm_nicne (by omega) (by omega) ?_ ?_
                · intro h38
                  exact absurd hab h38
                · intro h38
                  refine mm_wthr rfl rfl rfl rfl ?_
                  exact ⟨I, hF, rfl⟩
              · intro h22
                exact absurd h22 (by omega)
        · rw [show sp_game σ (vb_i a_) (vb_i b_) (vb_i w_) = .inl (if w_ = 0 then vb_i (q_game (vs_l σ) (vs_x σ) a_ b_).1 else (q_game (vs_l σ) (vs_x σ) a_ b_).2) by simp only [sp_game, ha, hb, hw, if_neg hab]]
          have rE : ∀ (I1 : Nat → Nat → Int32) (p : Nat × Int32), vb_fr (vb_vs L) I I1 → p = q_game (vs_l σ) (vs_x σ) a_ b_ → mm_W G d 105 (mm_blk 105 114) [.ref 0, .int (vb_i a_), .int (vb_i b_), .int (vb_i w_), .int (vb_i p.1), .int p.2, .int (-1)] [] (I1, P, J, S, nc, ns) (vb_RV (.inl (if w_ = 0 then vb_i (q_game (vs_l σ) (vs_x σ) a_ b_).1 else (q_game (vs_l σ) (vs_x σ) a_ b_).2)) (fun I' => vb_fr (vb_vs L) I I') P J S nc ns) := by
            intro I1 p hF1 hp
            refine mm_w1 rfl ?_
            refine mm_wiflt ?_ ?_
            · intro h116
              refine mm_w1 rfl ?_
              refine mm_nifne (by omega) ?_ ?_
              · intro h152
                refine mm_w1 rfl ?_
                refine mm_wr rfl rfl rfl ?_
                refine ⟨_, hF1, ?_⟩
                rw [← hp]
                first
                  | (rw [if_pos h152]; done)
                  | (rw [if_neg h152]; done)
              · intro h152
                refine mm_w1 rfl ?_
                refine mm_wgoto ?_
                refine mm_wr rfl rfl rfl ?_
                refine ⟨_, hF1, ?_⟩
                rw [← hp]
                first
                  | (rw [if_pos h152]; done)
                  | (rw [if_neg h152]; done)
            · intro h116
              exact absurd h116 (by decide)
          have r0 : ∀ (I1 : Nat → Nat → Int32) (p : Nat × Int32), p.1 ≤ 3 → vb_fr (vb_vs L) I I1 → (∀ c, c < 4 → I1 59 (2 * c) = q_gn (vs_l σ) (vs_x σ) a_ b_ c 0 ∧ I1 59 (2 * c + 1) = q_gn (vs_l σ) (vs_x σ) a_ b_ c 1) → q_g1 (q_rests (vs_l σ) (vs_x σ) a_ b_) p 0 = q_game (vs_l σ) (vs_x σ) a_ b_ → mm_W G d 105 (mm_blk 105 114) [.ref 0, .int (vb_i a_), .int (vb_i b_), .int (vb_i w_), .int (vb_i p.1), .int p.2, .int (vb_i 0)] [] (I1, P, J, S, nc, ns) (vb_RV (.inl (if w_ = 0 then vb_i (q_game (vs_l σ) (vs_x σ) a_ b_).1 else (q_game (vs_l σ) (vs_x σ) a_ b_).2)) (fun I' => vb_fr (vb_vs L) I I') P J S nc ns) := by
            intro I1 p hp1 hF1 hg hp
            refine mm_w1 rfl ?_
            refine mm_niflt (by omega) ?_
            refine mm_w1 rfl ?_
            refine mm_w1 rfl ?_
            refine mm_cvp (vb_cv (vV_S0 hV) rfl rfl rfl rfl) (by decide) (by omega) (c_rests (σ := σ) (a := a_) (b := b_) hV (by decide) hg) ?_
            refine mm_bifeq ?_ ?_
            · intro h125
              refine mm_wincv (ls := _) (-1) rfl (by decide) ?_ 
              refine mm_wgoto ?_
              have hq : q_g1 (q_rests (vs_l σ) (vs_x σ) a_ b_) p 0 = p := by simp only [q_g1, h125, Bool.false_eq_true, if_false]
              rw [hq] at hp
              exact rE I1 p hF1 hp
            · intro h125
              refine mm_nincL (ls' := [_, _, _, _, _, _, _]) 1 rfl (by decide) rfl ?_
              refine mm_wv (vb_i 10) rfl (by decide) ?_
              refine mm_w1 rfl ?_
              refine mm_wv (vb_i 2) rfl (by decide) ?_
              refine mm_ndiv (by omega) (by omega) (by omega) ?_
              refine mm_nmul ?_
              refine mm_w1 rfl ?_
              refine mm_wv (vb_i 2) rfl (by decide) ?_
              refine mm_nrem (by omega) (by omega) (by omega) ?_
              refine mm_nadd ?_
              refine mm_w1 (ls' := [_, _, _, _, _, _, _]) rfl ?_
              refine mm_wincv (ls := _) (-1) rfl (by decide) ?_ 
              refine mm_wgoto ?_
              have hq : q_g1 (q_rests (vs_l σ) (vs_x σ) a_ b_) p 0 = (p.1 + 1, vb_i (10 * (0 / 2) + 0 % 2)) := by simp only [q_g1, h125, if_true]
              rw [hq] at hp
              exact rE I1 (p.1 + 1, vb_i (10 * (0 / 2) + 0 % 2)) hF1 hp 
          have r1 : ∀ (I1 : Nat → Nat → Int32) (p : Nat × Int32), p.1 ≤ 2 → vb_fr (vb_vs L) I I1 → (∀ c, c < 4 → I1 59 (2 * c) = q_gn (vs_l σ) (vs_x σ) a_ b_ c 0 ∧ I1 59 (2 * c + 1) = q_gn (vs_l σ) (vs_x σ) a_ b_ c 1) → q_g1 (q_rests (vs_l σ) (vs_x σ) a_ b_) (q_g1 (q_rests (vs_l σ) (vs_x σ) a_ b_) p 1) 0 = q_game (vs_l σ) (vs_x σ) a_ b_ → mm_W G d 105 (mm_blk 105 114) [.ref 0, .int (vb_i a_), .int (vb_i b_), .int (vb_i w_), .int (vb_i p.1), .int p.2, .int (vb_i 1)] [] (I1, P, J, S, nc, ns) (vb_RV (.inl (if w_ = 0 then vb_i (q_game (vs_l σ) (vs_x σ) a_ b_).1 else (q_game (vs_l σ) (vs_x σ) a_ b_).2)) (fun I' => vb_fr (vb_vs L) I I') P J S nc ns) := by
            intro I1 p hp1 hF1 hg hp
            refine mm_w1 rfl ?_
            refine mm_niflt (by omega) ?_
            refine mm_w1 rfl ?_
            refine mm_w1 rfl ?_
            refine mm_cvp (vb_cv (vV_S0 hV) rfl rfl rfl rfl) (by decide) (by omega) (c_rests (σ := σ) (a := a_) (b := b_) hV (by decide) hg) ?_
            refine mm_bifeq ?_ ?_
            · intro h125
              refine mm_ndecL (ls' := [_, _, _, _, _, _, _]) 1 rfl (by decide) (by decide) rfl ?_ 
              refine mm_wgoto ?_
              have hq : q_g1 (q_rests (vs_l σ) (vs_x σ) a_ b_) p 1 = p := by simp only [q_g1, h125, Bool.false_eq_true, if_false]
              rw [hq] at hp
              exact r0 I1 p (by show p.1 ≤ 3; omega) hF1 hg hp
            · intro h125
              refine mm_nincL (ls' := [_, _, _, _, _, _, _]) 1 rfl (by decide) rfl ?_
              refine mm_wv (vb_i 10) rfl (by decide) ?_
              refine mm_w1 rfl ?_
              refine mm_wv (vb_i 2) rfl (by decide) ?_
              refine mm_ndiv (by omega) (by omega) (by omega) ?_
              refine mm_nmul ?_
              refine mm_w1 rfl ?_
              refine mm_wv (vb_i 2) rfl (by decide) ?_
              refine mm_nrem (by omega) (by omega) (by omega) ?_
              refine mm_nadd ?_
              refine mm_w1 (ls' := [_, _, _, _, _, _, _]) rfl ?_
              refine mm_ndecL (ls' := [_, _, _, _, _, _, _]) 1 rfl (by decide) (by decide) rfl ?_ 
              refine mm_wgoto ?_
              have hq : q_g1 (q_rests (vs_l σ) (vs_x σ) a_ b_) p 1 = (p.1 + 1, vb_i (10 * (1 / 2) + 1 % 2)) := by simp only [q_g1, h125, if_true]
              rw [hq] at hp
              exact r0 I1 (p.1 + 1, vb_i (10 * (1 / 2) + 1 % 2)) (by show p.1 + 1 ≤ 3; omega) hF1 hg hp 
          have r2 : ∀ (I1 : Nat → Nat → Int32) (p : Nat × Int32), p.1 ≤ 1 → vb_fr (vb_vs L) I I1 → (∀ c, c < 4 → I1 59 (2 * c) = q_gn (vs_l σ) (vs_x σ) a_ b_ c 0 ∧ I1 59 (2 * c + 1) = q_gn (vs_l σ) (vs_x σ) a_ b_ c 1) → q_g1 (q_rests (vs_l σ) (vs_x σ) a_ b_) (q_g1 (q_rests (vs_l σ) (vs_x σ) a_ b_) (q_g1 (q_rests (vs_l σ) (vs_x σ) a_ b_) p 2) 1) 0 = q_game (vs_l σ) (vs_x σ) a_ b_ → mm_W G d 105 (mm_blk 105 114) [.ref 0, .int (vb_i a_), .int (vb_i b_), .int (vb_i w_), .int (vb_i p.1), .int p.2, .int (vb_i 2)] [] (I1, P, J, S, nc, ns) (vb_RV (.inl (if w_ = 0 then vb_i (q_game (vs_l σ) (vs_x σ) a_ b_).1 else (q_game (vs_l σ) (vs_x σ) a_ b_).2)) (fun I' => vb_fr (vb_vs L) I I') P J S nc ns) := by
            intro I1 p hp1 hF1 hg hp
            refine mm_w1 rfl ?_
            refine mm_niflt (by omega) ?_
            refine mm_w1 rfl ?_
            refine mm_w1 rfl ?_
            refine mm_cvp (vb_cv (vV_S0 hV) rfl rfl rfl rfl) (by decide) (by omega) (c_rests (σ := σ) (a := a_) (b := b_) hV (by decide) hg) ?_
            refine mm_bifeq ?_ ?_
            · intro h125
              refine mm_ndecL (ls' := [_, _, _, _, _, _, _]) 1 rfl (by decide) (by decide) rfl ?_ 
              refine mm_wgoto ?_
              have hq : q_g1 (q_rests (vs_l σ) (vs_x σ) a_ b_) p 2 = p := by simp only [q_g1, h125, Bool.false_eq_true, if_false]
              rw [hq] at hp
              exact r1 I1 p (by show p.1 ≤ 2; omega) hF1 hg hp
            · intro h125
              refine mm_nincL (ls' := [_, _, _, _, _, _, _]) 1 rfl (by decide) rfl ?_
              refine mm_wv (vb_i 10) rfl (by decide) ?_
              refine mm_w1 rfl ?_
              refine mm_wv (vb_i 2) rfl (by decide) ?_
              refine mm_ndiv (by omega) (by omega) (by omega) ?_
              refine mm_nmul ?_
              refine mm_w1 rfl ?_
              refine mm_wv (vb_i 2) rfl (by decide) ?_
              refine mm_nrem (by omega) (by omega) (by omega) ?_
              refine mm_nadd ?_
              refine mm_w1 (ls' := [_, _, _, _, _, _, _]) rfl ?_
              refine mm_ndecL (ls' := [_, _, _, _, _, _, _]) 1 rfl (by decide) (by decide) rfl ?_ 
              refine mm_wgoto ?_
              have hq : q_g1 (q_rests (vs_l σ) (vs_x σ) a_ b_) p 2 = (p.1 + 1, vb_i (10 * (2 / 2) + 2 % 2)) := by simp only [q_g1, h125, if_true]
              rw [hq] at hp
              exact r1 I1 (p.1 + 1, vb_i (10 * (2 / 2) + 2 % 2)) (by show p.1 + 1 ≤ 2; omega) hF1 hg hp 
          have r3 : ∀ (I1 : Nat → Nat → Int32) (p : Nat × Int32), p.1 ≤ 0 → vb_fr (vb_vs L) I I1 → (∀ c, c < 4 → I1 59 (2 * c) = q_gn (vs_l σ) (vs_x σ) a_ b_ c 0 ∧ I1 59 (2 * c + 1) = q_gn (vs_l σ) (vs_x σ) a_ b_ c 1) → q_g1 (q_rests (vs_l σ) (vs_x σ) a_ b_) (q_g1 (q_rests (vs_l σ) (vs_x σ) a_ b_) (q_g1 (q_rests (vs_l σ) (vs_x σ) a_ b_) (q_g1 (q_rests (vs_l σ) (vs_x σ) a_ b_) p 3) 2) 1) 0 = q_game (vs_l σ) (vs_x σ) a_ b_ → mm_W G d 105 (mm_blk 105 114) [.ref 0, .int (vb_i a_), .int (vb_i b_), .int (vb_i w_), .int (vb_i p.1), .int p.2, .int (vb_i 3)] [] (I1, P, J, S, nc, ns) (vb_RV (.inl (if w_ = 0 then vb_i (q_game (vs_l σ) (vs_x σ) a_ b_).1 else (q_game (vs_l σ) (vs_x σ) a_ b_).2)) (fun I' => vb_fr (vb_vs L) I I') P J S nc ns) := by
            intro I1 p hp1 hF1 hg hp
            refine mm_w1 rfl ?_
            refine mm_niflt (by omega) ?_
            refine mm_w1 rfl ?_
            refine mm_w1 rfl ?_
            refine mm_cvp (vb_cv (vV_S0 hV) rfl rfl rfl rfl) (by decide) (by omega) (c_rests (σ := σ) (a := a_) (b := b_) hV (by decide) hg) ?_
            refine mm_bifeq ?_ ?_
            · intro h125
              refine mm_ndecL (ls' := [_, _, _, _, _, _, _]) 1 rfl (by decide) (by decide) rfl ?_ 
              refine mm_wgoto ?_
              have hq : q_g1 (q_rests (vs_l σ) (vs_x σ) a_ b_) p 3 = p := by simp only [q_g1, h125, Bool.false_eq_true, if_false]
              rw [hq] at hp
              exact r2 I1 p (by show p.1 ≤ 1; omega) hF1 hg hp
            · intro h125
              refine mm_nincL (ls' := [_, _, _, _, _, _, _]) 1 rfl (by decide) rfl ?_
              refine mm_wv (vb_i 10) rfl (by decide) ?_
              refine mm_w1 rfl ?_
              refine mm_wv (vb_i 2) rfl (by decide) ?_
              refine mm_ndiv (by omega) (by omega) (by omega) ?_
              refine mm_nmul ?_
              refine mm_w1 rfl ?_
              refine mm_wv (vb_i 2) rfl (by decide) ?_
              refine mm_nrem (by omega) (by omega) (by omega) ?_
              refine mm_nadd ?_
              refine mm_w1 (ls' := [_, _, _, _, _, _, _]) rfl ?_
              refine mm_ndecL (ls' := [_, _, _, _, _, _, _]) 1 rfl (by decide) (by decide) rfl ?_ 
              refine mm_wgoto ?_
              have hq : q_g1 (q_rests (vs_l σ) (vs_x σ) a_ b_) p 3 = (p.1 + 1, vb_i (10 * (3 / 2) + 3 % 2)) := by simp only [q_g1, h125, if_true]
              rw [hq] at hp
              exact r2 I1 (p.1 + 1, vb_i (10 * (3 / 2) + 3 % 2)) (by show p.1 + 1 ≤ 1; omega) hF1 hg hp 
          have s4 : ∀ (I1 : Nat → Nat → Int32) (y5 y6 : Value), vb_fr (vb_vs L) I I1 → (∀ c, c < 4 → I1 59 (2 * c) = q_gn (vs_l σ) (vs_x σ) a_ b_ c 0 ∧ I1 59 (2 * c + 1) = q_gn (vs_l σ) (vs_x σ) a_ b_ c 1) → mm_W G d 105 (mm_blk 105 55) [.ref 0, .int (vb_i a_), .int (vb_i b_), .int (vb_i w_), .int (vb_i (3 + 1)), y5, y6] [] (I1, P, J, S, nc, ns) (vb_RV (.inl (if w_ = 0 then vb_i (q_game (vs_l σ) (vs_x σ) a_ b_).1 else (q_game (vs_l σ) (vs_x σ) a_ b_).2)) (fun I' => vb_fr (vb_vs L) I I') P J S nc ns) := by
            intro I1 y5 y6 hF1 hg
            refine mm_w1 rfl ?_
            refine mm_wv (vb_i 4) rfl (by decide) ?_
            refine mm_nicge (by omega) (by omega) ?_ ?_
            · intro h58
              refine mm_wv (vb_i 0) rfl (by decide) ?_
              refine mm_w1 (ls' := [_, _, _, _, _, _, _]) rfl ?_
              refine mm_wv (-1) rfl (by decide) ?_
              refine mm_w1 (ls' := [_, _, _, _, _, _, _]) rfl ?_
              refine mm_wv (vb_i 3) rfl (by decide) ?_
              refine mm_w1 (ls' := [_, _, _, _, _, _, _]) rfl ?_
              exact r3 I1 (0, -1) (by decide) hF1 hg rfl
            · intro h58
              exact absurd h58 (by decide)
          have s3 : ∀ (I1 : Nat → Nat → Int32) (y5 y6 : Value), vb_fr (vb_vs L) I I1 → (∀ c, c < 3 → I1 59 (2 * c) = q_gn (vs_l σ) (vs_x σ) a_ b_ c 0 ∧ I1 59 (2 * c + 1) = q_gn (vs_l σ) (vs_x σ) a_ b_ c 1) → mm_W G d 105 (mm_blk 105 55) [.ref 0, .int (vb_i a_), .int (vb_i b_), .int (vb_i w_), .int (vb_i (2 + 1)), y5, y6] [] (I1, P, J, S, nc, ns) (vb_RV (.inl (if w_ = 0 then vb_i (q_game (vs_l σ) (vs_x σ) a_ b_).1 else (q_game (vs_l σ) (vs_x σ) a_ b_).2)) (fun I' => vb_fr (vb_vs L) I I') P J S nc ns) := by
            intro I1 y5 y6 hF1 hg
            have dV1 := dV.fr hL17 hF1
            have dL1 := vd_l dV1
            have dX1 := vd_x dV1
            refine mm_w1 rfl ?_
            refine mm_wv (vb_i 4) rfl (by decide) ?_
            refine mm_nicge (by omega) (by omega) ?_ ?_
            · intro h58
              exact absurd h58 (by decide)
            · intro h58
              refine mm_w1 rfl ?_
              refine mm_wv (vb_i 2) rfl (by decide) ?_
              refine mm_ndiv (by omega) (by omega) (by omega) ?_
              refine mm_nifne (by omega) ?_ ?_
              · intro h65
                refine mm_w1 rfl ?_
                refine mm_w1 (ls' := [_, _, _, _, _, _, _]) rfl ?_ 
                refine mm_w1 rfl ?_
                refine mm_wv (vb_i 2) rfl (by decide) ?_
                refine mm_nrem (by omega) (by omega) (by omega) ?_
                refine mm_nifne (by omega) ?_ ?_
                · intro h79
                  refine mm_w1 rfl ?_
                  refine mm_w1 (ls' := [_, _, _, _, _, _, _]) rfl ?_ 
                  refine mm_w1 rfl ?_
                  refine mm_w1 rfl ?_
                  refine mm_w1 rfl ?_
                  refine mm_w1 rfl ?_
                  refine mm_cvn (vb_cv (vV_S0 hV) rfl rfl rfl rfl) (by decide) (by omega) (c_pg (σ := σ) (c := 3) (a := b_) (b := b_) hV dV1 (by decide) (by omega) (by omega) he9 (by omega)) ?_
                  intro I2 hq2
                  obtain ⟨g1, g2, g3, hf2⟩ := hq2
                  have hF2 := hF1.tr hf2
                  have hg2 : ∀ c, c < 4 → I2 59 (2 * c) = q_gn (vs_l σ) (vs_x σ) a_ b_ c 0 ∧ I2 59 (2 * c + 1) = q_gn (vs_l σ) (vs_x σ) a_ b_ c 1 := by
                    intro q hq
                    by_cases e : q = 3
                    · subst e; exact ⟨g1, g2⟩
                    · obtain ⟨k1, k2⟩ := hg q (by omega)
                      exact ⟨(g3 _ (by omega) (by omega)).trans k1, (g3 _ (by omega) (by omega)).trans k2⟩ 
                  refine mm_nincL (ls' := [_, _, _, _, _, _, _]) 1 rfl (by decide) rfl ?_
                  refine mm_wgoto ?_
                  exact s4 I2 _ _ hF2 hg2
                · intro h79
                  exact absurd h79 (by decide)
              · intro h65
                exact absurd h65 (by decide)
          have s2 : ∀ (I1 : Nat → Nat → Int32) (y5 y6 : Value), vb_fr (vb_vs L) I I1 → (∀ c, c < 2 → I1 59 (2 * c) = q_gn (vs_l σ) (vs_x σ) a_ b_ c 0 ∧ I1 59 (2 * c + 1) = q_gn (vs_l σ) (vs_x σ) a_ b_ c 1) → mm_W G d 105 (mm_blk 105 55) [.ref 0, .int (vb_i a_), .int (vb_i b_), .int (vb_i w_), .int (vb_i (1 + 1)), y5, y6] [] (I1, P, J, S, nc, ns) (vb_RV (.inl (if w_ = 0 then vb_i (q_game (vs_l σ) (vs_x σ) a_ b_).1 else (q_game (vs_l σ) (vs_x σ) a_ b_).2)) (fun I' => vb_fr (vb_vs L) I I') P J S nc ns) := by
            intro I1 y5 y6 hF1 hg
            have dV1 := dV.fr hL17 hF1
            have dL1 := vd_l dV1
            have dX1 := vd_x dV1
            refine mm_w1 rfl ?_
            refine mm_wv (vb_i 4) rfl (by decide) ?_
            refine mm_nicge (by omega) (by omega) ?_ ?_
            · intro h58
              exact absurd h58 (by decide)
            · intro h58
              refine mm_w1 rfl ?_
              refine mm_wv (vb_i 2) rfl (by decide) ?_
              refine mm_ndiv (by omega) (by omega) (by omega) ?_
              refine mm_nifne (by omega) ?_ ?_
              · intro h65
                refine mm_w1 rfl ?_
                refine mm_w1 (ls' := [_, _, _, _, _, _, _]) rfl ?_ 
                refine mm_w1 rfl ?_
                refine mm_wv (vb_i 2) rfl (by decide) ?_
                refine mm_nrem (by omega) (by omega) (by omega) ?_
                refine mm_nifne (by omega) ?_ ?_
                · intro h79
                  exact absurd rfl h79
                · intro h79
                  refine mm_w1 rfl ?_
                  refine mm_wgoto ?_
                  refine mm_w1 (ls' := [_, _, _, _, _, _, _]) rfl ?_ 
                  refine mm_w1 rfl ?_
                  refine mm_w1 rfl ?_
                  refine mm_w1 rfl ?_
                  refine mm_w1 rfl ?_
                  refine mm_cvn (vb_cv (vV_S0 hV) rfl rfl rfl rfl) (by decide) (by omega) (c_pg (σ := σ) (c := 2) (a := b_) (b := a_) hV dV1 (by decide) (by omega) (by omega) he9 (by omega)) ?_
                  intro I2 hq2
                  obtain ⟨g1, g2, g3, hf2⟩ := hq2
                  have hF2 := hF1.tr hf2
                  have hg2 : ∀ c, c < 3 → I2 59 (2 * c) = q_gn (vs_l σ) (vs_x σ) a_ b_ c 0 ∧ I2 59 (2 * c + 1) = q_gn (vs_l σ) (vs_x σ) a_ b_ c 1 := by
                    intro q hq
                    by_cases e : q = 2
                    · subst e; exact ⟨g1, g2⟩
                    · obtain ⟨k1, k2⟩ := hg q (by omega)
                      exact ⟨(g3 _ (by omega) (by omega)).trans k1, (g3 _ (by omega) (by omega)).trans k2⟩ 
                  refine mm_nincL (ls' := [_, _, _, _, _, _, _]) 1 rfl (by decide) rfl ?_
                  refine mm_wgoto ?_
                  exact s3 I2 _ _ hF2 hg2
              · intro h65
                exact absurd h65 (by decide)
          have s1 : ∀ (I1 : Nat → Nat → Int32) (y5 y6 : Value), vb_fr (vb_vs L) I I1 → (∀ c, c < 1 → I1 59 (2 * c) = q_gn (vs_l σ) (vs_x σ) a_ b_ c 0 ∧ I1 59 (2 * c + 1) = q_gn (vs_l σ) (vs_x σ) a_ b_ c 1) → mm_W G d 105 (mm_blk 105 55) [.ref 0, .int (vb_i a_), .int (vb_i b_), .int (vb_i w_), .int (vb_i (0 + 1)), y5, y6] [] (I1, P, J, S, nc, ns) (vb_RV (.inl (if w_ = 0 then vb_i (q_game (vs_l σ) (vs_x σ) a_ b_).1 else (q_game (vs_l σ) (vs_x σ) a_ b_).2)) (fun I' => vb_fr (vb_vs L) I I') P J S nc ns) := by
            intro I1 y5 y6 hF1 hg
            have dV1 := dV.fr hL17 hF1
            have dL1 := vd_l dV1
            have dX1 := vd_x dV1
            refine mm_w1 rfl ?_
            refine mm_wv (vb_i 4) rfl (by decide) ?_
            refine mm_nicge (by omega) (by omega) ?_ ?_
            · intro h58
              exact absurd h58 (by decide)
            · intro h58
              refine mm_w1 rfl ?_
              refine mm_wv (vb_i 2) rfl (by decide) ?_
              refine mm_ndiv (by omega) (by omega) (by omega) ?_
              refine mm_nifne (by omega) ?_ ?_
              · intro h65
                exact absurd rfl h65
              · intro h65
                refine mm_w1 rfl ?_
                refine mm_wgoto ?_
                refine mm_w1 (ls' := [_, _, _, _, _, _, _]) rfl ?_ 
                refine mm_w1 rfl ?_
                refine mm_wv (vb_i 2) rfl (by decide) ?_
                refine mm_nrem (by omega) (by omega) (by omega) ?_
                refine mm_nifne (by omega) ?_ ?_
                · intro h79
                  refine mm_w1 rfl ?_
                  refine mm_w1 (ls' := [_, _, _, _, _, _, _]) rfl ?_ 
                  refine mm_w1 rfl ?_
                  refine mm_w1 rfl ?_
                  refine mm_w1 rfl ?_
                  refine mm_w1 rfl ?_
                  refine mm_cvn (vb_cv (vV_S0 hV) rfl rfl rfl rfl) (by decide) (by omega) (c_pg (σ := σ) (c := 1) (a := a_) (b := b_) hV dV1 (by decide) (by omega) (by omega) he9 (by omega)) ?_
                  intro I2 hq2
                  obtain ⟨g1, g2, g3, hf2⟩ := hq2
                  have hF2 := hF1.tr hf2
                  have hg2 : ∀ c, c < 2 → I2 59 (2 * c) = q_gn (vs_l σ) (vs_x σ) a_ b_ c 0 ∧ I2 59 (2 * c + 1) = q_gn (vs_l σ) (vs_x σ) a_ b_ c 1 := by
                    intro q hq
                    by_cases e : q = 1
                    · subst e; exact ⟨g1, g2⟩
                    · obtain ⟨k1, k2⟩ := hg q (by omega)
                      exact ⟨(g3 _ (by omega) (by omega)).trans k1, (g3 _ (by omega) (by omega)).trans k2⟩ 
                  refine mm_nincL (ls' := [_, _, _, _, _, _, _]) 1 rfl (by decide) rfl ?_
                  refine mm_wgoto ?_
                  exact s2 I2 _ _ hF2 hg2
                · intro h79
                  exact absurd h79 (by decide)
          have s0 : ∀ (I1 : Nat → Nat → Int32) (y5 y6 : Value), vb_fr (vb_vs L) I I1 → (∀ c, c < 0 → I1 59 (2 * c) = q_gn (vs_l σ) (vs_x σ) a_ b_ c 0 ∧ I1 59 (2 * c + 1) = q_gn (vs_l σ) (vs_x σ) a_ b_ c 1) → mm_W G d 105 (mm_blk 105 55) [.ref 0, .int (vb_i a_), .int (vb_i b_), .int (vb_i w_), .int (vb_i 0), y5, y6] [] (I1, P, J, S, nc, ns) (vb_RV (.inl (if w_ = 0 then vb_i (q_game (vs_l σ) (vs_x σ) a_ b_).1 else (q_game (vs_l σ) (vs_x σ) a_ b_).2)) (fun I' => vb_fr (vb_vs L) I I') P J S nc ns) := by
            intro I1 y5 y6 hF1 hg
            have dV1 := dV.fr hL17 hF1
            have dL1 := vd_l dV1
            have dX1 := vd_x dV1
            refine mm_w1 rfl ?_
            refine mm_wv (vb_i 4) rfl (by decide) ?_
            refine mm_nicge (by omega) (by omega) ?_ ?_
            · intro h58
              exact absurd h58 (by decide)
            · intro h58
              refine mm_w1 rfl ?_
              refine mm_wv (vb_i 2) rfl (by decide) ?_
              refine mm_ndiv (by omega) (by omega) (by omega) ?_
              refine mm_nifne (by omega) ?_ ?_
              · intro h65
                exact absurd rfl h65
              · intro h65
                refine mm_w1 rfl ?_
                refine mm_wgoto ?_
                refine mm_w1 (ls' := [_, _, _, _, _, _, _]) rfl ?_ 
                refine mm_w1 rfl ?_
                refine mm_wv (vb_i 2) rfl (by decide) ?_
                refine mm_nrem (by omega) (by omega) (by omega) ?_
                refine mm_nifne (by omega) ?_ ?_
                · intro h79
                  exact absurd rfl h79
                · intro h79
                  refine mm_w1 rfl ?_
                  refine mm_wgoto ?_
                  refine mm_w1 (ls' := [_, _, _, _, _, _, _]) rfl ?_ 
                  refine mm_w1 rfl ?_
                  refine mm_w1 rfl ?_
                  refine mm_w1 rfl ?_
                  refine mm_w1 rfl ?_
                  refine mm_cvn (vb_cv (vV_S0 hV) rfl rfl rfl rfl) (by decide) (by omega) (c_pg (σ := σ) (c := 0) (a := a_) (b := a_) hV dV1 (by decide) (by omega) (by omega) he9 (by omega)) ?_
                  intro I2 hq2
                  obtain ⟨g1, g2, g3, hf2⟩ := hq2
                  have hF2 := hF1.tr hf2
                  have hg2 : ∀ c, c < 1 → I2 59 (2 * c) = q_gn (vs_l σ) (vs_x σ) a_ b_ c 0 ∧ I2 59 (2 * c + 1) = q_gn (vs_l σ) (vs_x σ) a_ b_ c 1 := by
                    intro q hq
                    by_cases e : q = 0
                    · subst e; exact ⟨g1, g2⟩
                    · obtain ⟨k1, k2⟩ := hg q (by omega)
                      exact ⟨(g3 _ (by omega) (by omega)).trans k1, (g3 _ (by omega) (by omega)).trans k2⟩ 
                  refine mm_nincL (ls' := [_, _, _, _, _, _, _]) 1 rfl (by decide) rfl ?_
                  refine mm_wgoto ?_
                  exact s1 I2 _ _ hF2 hg2
          show mm_W _ _ 105 (mm_blk 105 0) [.ref 0, .int (vb_i a_), .int (vb_i b_), .int (vb_i w_), .null, .null, .null] [] _ _
          refine mm_w1 rfl ?_
          refine mm_w1 rfl ?_
          refine mm_cvp (vb_cv (vV_S0 hV) rfl rfl rfl rfl) (by decide) (by omega) (c_isStyle hV dV) ?_
          refine mm_bifeq ?_ ?_
          · intro h5
            rw [ha] at h5; cases h5
          · intro h5
            refine mm_w1 rfl ?_
            refine mm_w1 rfl ?_
            refine mm_cvp (vb_cv (vV_S0 hV) rfl rfl rfl rfl) (by decide) (by omega) (c_isStyle hV dV) ?_
            refine mm_bifeq ?_ ?_
            · intro h13
              rw [hb] at h13; cases h13
            · intro h13
              refine mm_w1 rfl ?_
              refine mm_niflt (by omega) ?_
              refine mm_w1 rfl ?_
              refine mm_wv (vb_i 1) rfl (by decide) ?_
              refine mm_nicle (by omega) (by omega) ?_ ?_
              · intro h22
                refine mm_w1 rfl ?_
                refine mm_w1 rfl ?_
                refine mm_nicne (by omega) (by omega) ?_ ?_
                · intro h38
                  refine mm_wv (vb_i 0) rfl (by decide) ?_
                  refine mm_w1 (ls' := [_, _, _, _, _, _, _]) rfl ?_
                  exact s0 I _ _ hF (fun c h => absurd h (by omega))
                · intro h38
                  exact absurd h38 hab
              · intro h22
                exact absurd h22 (by omega)
end GAME
