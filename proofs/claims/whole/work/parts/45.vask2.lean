section ASK2
variable {G : mm_G} {d : Nat} {I : Nat → Nat → Int32} {P : Nat → Nat → Nat} {J : Nat → Nat → Int64} {S : List (Nat × Nat)} {nc ns : Nat} {μ : mm_M} {σ : vb_St} {L : Nat}
theorem c_pin (hV : vb_isV P S L) (dV : vb_VD σ L I) {s : Nat} (hs : s < 2) (hd : 6 ≤ d) : mm_C G d 129 [.ref 0, .int (vb_i s)] (I, P, J, S, nc, ns) (vb_R (some (.int (q_pin (vs_l σ) (vs_x σ) s))) (fun I' => vb_fr (vb_vs L) I I') P J S nc ns) := by
  have hL := vV_hL hV
  have hX := vV_hX hV
  have hY := vV_hY hV
  have hA := vV_hA hV
  have hT := vV_hT hV
  have hC := vV_hC hV
  have hL17 := vV_L17 hV
  have hF : vb_fr (vb_vs L) I I := vb_fr.rf
  have dL := vd_l dV
  have dX := vd_x dV
  have dA := vd_a dV
  have dT := vd_t dV
  have hn := vl_10 dL
  have he := vx_e2 dX
  have ht := vx_t2 (vs_x σ)
  have loop := vb_down (p := fun i => ∀ (I1 : Nat → Nat → Int32), vb_fr (vb_vs L) I I1 → mm_W G d 129 (mm_blk 129 4) [.ref 0, .int (vb_i s), .int (vb_set i (fun v => vb_has (vx_s (vs_x σ) s) v && !(q_hang (vs_l σ) (vs_x σ) v == 0))), .int (vb_i i)] [] (I1, P, J, S, nc, ns) (vb_R (some (.int (q_pin (vs_l σ) (vs_x σ) s))) (fun I' => vb_fr (vb_vs L) I I') P J S nc ns)) (vb_n (vs_l σ)) (by
    intro i hi ih I1 hF1
    have dV1 := dV.fr hL17 hF1
    have dL1 := vd_l dV1
    have dX1 := vd_x dV1
    refine mm_w1 rfl ?_
    refine mm_w1 rfl ?_
    refine mm_wgr (vV_S0 hV) (by decide) (by decide) (vV_P0_5 hV) (vL_a0 hL) ?_
    refine mm_wgiv _ (vL_S0 hL) (by decide) (by decide) (vl_n dL1) ?_
    refine mm_nicge (by omega) (by omega) ?_ ?_
    · intro h12
      refine mm_w1 rfl ?_
      refine mm_wr rfl rfl rfl ?_
      have e : i = vb_n (vs_l σ) := by omega
      subst e
      exact ⟨I1, hF1, rfl⟩
    · intro h12
      refine mm_w1 rfl ?_
      refine mm_wgr (vV_S0 hV) (by decide) (by decide) (vV_P0_6 hV) (vX_a0 hX) ?_
      refine mm_wgr (vX_S0 hX) (by decide) (by decide) (vX_P0_0 hX) (vX_a1 hX) ?_
      refine mm_w1 rfl ?_
      refine mm_wiav _ (vX_a1 hX) (vX_S1 hX) (by decide) (by omega) (vx_hs dX1 (by omega)) ?_
      refine mm_w1 rfl ?_
      refine mm_csp rfl (by decide) (by omega) (c_has (by omega)) ?_
      refine mm_bifeq ?_ ?_
      · intro h28
        refine mm_nincL (ls' := [_, _, _, _]) 1 rfl (by decide) rfl ?_
        refine mm_wgoto ?_
        have ih := ih (by omega) _ hF1
        simp only [vb_set, h28, Bool.false_and, Bool.true_and, Bool.false_eq_true, if_false] at ih
        first | exact ih | (simp only [vb_eqb h36, Bool.not_true, Bool.false_eq_true, if_false] at ih; exact ih) | (simp only [vb_neb h36, Bool.not_false, if_true] at ih; exact ih)
      · intro h28
        refine mm_w1 rfl ?_
        refine mm_w1 rfl ?_
        refine mm_cvi (vb_cv (vV_S0 hV) rfl rfl rfl rfl) (by decide) (by omega) (c_hang (σ := σ) hV dV1 (by omega) (by omega)) ?_
        intro I2 hf2
        have hF2 : vb_fr (vb_vs L) I I2 := hF1.tr (hf2.mono (fun a h => by exact h))
        have dV2 := dV.fr hL17 hF2
        have dL2 := vd_l dV2
        have dX2 := vd_x dV2
        refine mm_wifeq ?_ ?_
        · intro h36
          refine mm_nincL (ls' := [_, _, _, _]) 1 rfl (by decide) rfl ?_
          refine mm_wgoto ?_
          have ih := ih (by omega) _ hF2
          simp only [vb_set, h28, Bool.false_and, Bool.true_and, Bool.false_eq_true, if_false] at ih
          first | exact ih | (simp only [vb_eqb h36, Bool.not_true, Bool.false_eq_true, if_false] at ih; exact ih) | (simp only [vb_neb h36, Bool.not_false, if_true] at ih; exact ih)
        · intro h36
          refine mm_w1 rfl ?_
          refine mm_wv (vb_i 1) rfl (by decide) ?_
          refine mm_w1 rfl ?_
          refine mm_nbit (by omega) ?_
          refine mm_w1 rfl ?_
          refine mm_w1 (ls' := [_, _, _, _]) rfl ?_
          refine mm_nincL (ls' := [_, _, _, _]) 1 rfl (by decide) rfl ?_
          refine mm_wgoto ?_
          have ih := ih (by omega) _ hF2
          simp only [vb_set, h28, Bool.false_and, Bool.true_and, Bool.false_eq_true, if_false] at ih
          first | exact ih | (simp only [vb_eqb h36, Bool.not_true, Bool.false_eq_true, if_false] at ih; exact ih) | (simp only [vb_neb h36, Bool.not_false, if_true] at ih; exact ih)
    )
  show mm_W _ _ 129 (mm_blk 129 0) [.ref 0, .int (vb_i s), .null, .null] [] _ _
  refine mm_wv (vb_i 0) rfl (by decide) ?_
  refine mm_w1 (ls' := [_, _, _, _]) rfl ?_
  refine mm_wv (vb_i 0) rfl (by decide) ?_
  refine mm_w1 (ls' := [_, _, _, _]) rfl ?_
  exact loop 0 (by omega) I hF
def q_count (σ : vb_St) (k : Nat) : Int32 := match k with
  | 0 => vb_i (vb_n (vs_l σ))
  | 1 => vb_i (vb_rc (vs_l σ))
  | 2 => vb_i (vb_sc (vs_l σ))
  | 3 => vb_i (vx_e (vs_x σ))
  | 4 => vb_i (vx_tn (vs_x σ))
  | 5 => vx_s (vs_x σ) 0
  | 6 => vx_s (vs_x σ) 1
  | 7 => vx_f (vs_x σ) 0
  | 8 => vx_f (vs_x σ) 1
  | 9 => vb_i (vs_a σ).length
  | 10 => vb_i (vs_t σ).length
  | 11 => vb_i (vs_p σ).length
  | 12 => vs_r σ 0
  | 13 => vs_r σ 1
  | _ => vs_r σ 2
def q_village (σ : vb_St) (v k : Nat) : Int32 := match k with
  | 0 => vb_wo (vs_l σ) v
  | 1 => vb_fo (vs_l σ) v
  | 2 => vb_i (vx_in (vx_s (vs_x σ)) v)
  | 3 => vb_i (vx_in (vx_f (vs_x σ)) v)
  | 4 => vb_i (vb_cnt 10 (vb_has (vb_nb (vs_l σ) v)))
  | 5 => vx_b (vs_x σ) v
  | _ => vx_b (vs_x σ) (10 + v)
def q_side (σ : vb_St) (s k : Nat) : Int32 := match k with
  | 0 => vx_t (vs_x σ) s
  | 1 => vx_y (vs_x σ) s
  | 2 => vb_ep (vs_l σ) (vx_s (vs_x σ) s) (vx_s (vs_x σ) (1 - s)) (vb_i (vx_e (vs_x σ)))
  | 3 => q_pin (vs_l σ) (vs_x σ) s
  | 4 => vb_i (vb_ms (vs_l σ) (vx_s (vs_x σ) s) (vx_s (vs_x σ) (1 - s)) (vb_i (vx_e (vs_x σ)))).length
  | _ => vb_worth (vs_l σ) (vx_f (vs_x σ) s)
def sp_fault (σ : vb_St) : Int32 ⊕ Nat := .inl (vs_f σ)
def sp_count (σ : vb_St) (w : Int32) : Int32 ⊕ Nat := match vb_idx 15 w with
  | none => .inr 0
  | some k => .inl (q_count σ k)
def sp_village (σ : vb_St) (v w : Int32) : Int32 ⊕ Nat := match vb_idx (vb_n (vs_l σ)) v with
  | none => .inr 0
  | some v => match vb_idx 7 w with
    | none => .inr 0
    | some k => .inl (q_village σ v k)
def sp_side (σ : vb_St) (s w : Int32) : Int32 ⊕ Nat := match vb_idx 2 s with
  | none => .inr 0
  | some s => match vb_idx 6 w with
    | none => .inr 0
    | some k => .inl (q_side σ s k)
def sp_road (σ : vb_St) (a b : Int32) : Int32 ⊕ Nat := match vb_idx (vb_n (vs_l σ)) a with
  | none => .inr 0
  | some a => match vb_idx (vb_n (vs_l σ)) b with
    | none => .inr 0
    | some b => .inl (vb_b (vb_has (vb_nb (vs_l σ) a) b))
def sp_lawful (σ : vb_St) (a b : Int32) : Int32 ⊕ Nat := match vb_idx (vb_n (vs_l σ)) a with
  | none => .inr 0
  | some a => match vb_idx (vb_n (vs_l σ)) b with
    | none => .inr 0
    | some b => .inl (vb_b (vb_has (q_tgt (vs_l σ) (vs_x σ) a) b))
def sp_hangs (σ : vb_St) (v : Int32) : Int32 ⊕ Nat := match vb_idx (vb_n (vs_l σ)) v with
  | none => .inr 0
  | some v => .inl (q_hang (vs_l σ) (vs_x σ) v)
theorem v_fault (hV : vb_isV P S L) (dV : vb_VD σ L I) (hd : 20 ≤ d) : mm_C G d 78 [.ref 0] (I, P, J, S, nc, ns) (vb_RV (sp_fault σ) (fun I' => vb_fr (vb_vs L) I I') P J S nc ns) := by
  have hL := vV_hL hV
  have hX := vV_hX hV
  have hY := vV_hY hV
  have hA := vV_hA hV
  have hT := vV_hT hV
  have hC := vV_hC hV
  have hL17 := vV_L17 hV
  have hF : vb_fr (vb_vs L) I I := vb_fr.rf
  have dL := vd_l dV
  have dX := vd_x dV
  have dA := vd_a dV
  have dT := vd_t dV
  have hn := vl_10 dL
  have he := vx_e2 dX
  have ht := vx_t2 (vs_x σ)
  show mm_W _ _ 78 (mm_blk 78 0) [.ref 0] [] _ _
  refine mm_w1 rfl ?_
  refine mm_wgiv _ (vV_S0 hV) (by decide) (by decide) (vd_f dV) ?_
  refine mm_wr rfl rfl rfl ?_
  exact ⟨_, hF, rfl⟩
theorem v_count (hV : vb_isV P S L) (dV : vb_VD σ L I) (hd : 20 ≤ d) (w : Int32) : mm_C G d 79 [.ref 0, .int w] (I, P, J, S, nc, ns) (vb_RV (sp_count σ w) (fun I' => vb_fr (vb_vs L) I I') P J S nc ns) := by
  have hL := vV_hL hV
  have hX := vV_hX hV
  have hY := vV_hY hV
  have hA := vV_hA hV
  have hT := vV_hT hV
  have hC := vV_hC hV
  have hL17 := vV_L17 hV
  have hF : vb_fr (vb_vs L) I I := vb_fr.rf
  have dL := vd_l dV
  have dX := vd_x dV
  have dA := vd_a dV
  have dT := vd_t dV
  have hn := vl_10 dL
  have he := vx_e2 dX
  have ht := vx_t2 (vs_x σ)
  cases hw : vb_idx 15 w with
  | none =>
    rw [show sp_count σ w = .inr 0 by simp only [sp_count, hw]]
    show mm_W _ _ 79 (mm_blk 79 0) [.ref 0, .int w] [] _ _
    refine mm_w1 rfl ?_
    refine mm_wts 198 (mm_tgt_d (n := 15) (by decide) hw rfl) ?_ 
    refine mm_wthr rfl rfl rfl rfl ?_
    exact ⟨I, hF, rfl⟩
  | some w_ =>
    obtain ⟨lw, rfl⟩ := vb_idx_some (by decide) hw
    have hk : w_ = 0 ∨ w_ = 1 ∨ w_ = 2 ∨ w_ = 3 ∨ w_ = 4 ∨ w_ = 5 ∨ w_ = 6 ∨ w_ = 7 ∨ w_ = 8 ∨ w_ = 9 ∨ w_ = 10 ∨ w_ = 11 ∨ w_ = 12 ∨ w_ = 13 ∨ w_ = 14 := by omega
    rcases hk with rfl | rfl | rfl | rfl | rfl | rfl | rfl | rfl | rfl | rfl | rfl | rfl | rfl | rfl | rfl
    · rw [show sp_count σ (vb_i 0) = .inl (q_count σ 0) by simp only [sp_count, hw]]
      show mm_W _ _ 79 (mm_blk 79 0) [.ref 0, .int (vb_i 0)] [] _ _
      refine mm_w1 rfl ?_
      refine mm_wts 76 (by decide +kernel) ?_
      refine mm_w1 rfl ?_
      refine mm_wgr (vV_S0 hV) (by decide) (by decide) (vV_P0_5 hV) (vL_a0 hL) ?_
      refine mm_wgiv _ (vL_S0 hL) (by decide) (by decide) (vl_n dL) ?_
      refine mm_wr rfl rfl rfl ?_
      exact ⟨_, hF, rfl⟩
    · rw [show sp_count σ (vb_i 1) = .inl (q_count σ 1) by simp only [sp_count, hw]]
      show mm_W _ _ 79 (mm_blk 79 0) [.ref 0, .int (vb_i 1)] [] _ _
      refine mm_w1 rfl ?_
      refine mm_wts 84 (by decide +kernel) ?_
      refine mm_w1 rfl ?_
      refine mm_wgr (vV_S0 hV) (by decide) (by decide) (vV_P0_5 hV) (vL_a0 hL) ?_
      refine mm_wgiv _ (vL_S0 hL) (by decide) (by decide) (vl_rc dL) ?_
      refine mm_wr rfl rfl rfl ?_
      exact ⟨_, hF, rfl⟩
    · rw [show sp_count σ (vb_i 2) = .inl (q_count σ 2) by simp only [sp_count, hw]]
      show mm_W _ _ 79 (mm_blk 79 0) [.ref 0, .int (vb_i 2)] [] _ _
      refine mm_w1 rfl ?_
      refine mm_wts 92 (by decide +kernel) ?_
      refine mm_w1 rfl ?_
      refine mm_wgr (vV_S0 hV) (by decide) (by decide) (vV_P0_5 hV) (vL_a0 hL) ?_
      refine mm_wgiv _ (vL_S0 hL) (by decide) (by decide) (vl_sc dL) ?_
      refine mm_wr rfl rfl rfl ?_
      exact ⟨_, hF, rfl⟩
    · rw [show sp_count σ (vb_i 3) = .inl (q_count σ 3) by simp only [sp_count, hw]]
      show mm_W _ _ 79 (mm_blk 79 0) [.ref 0, .int (vb_i 3)] [] _ _
      refine mm_w1 rfl ?_
      refine mm_wts 100 (by decide +kernel) ?_
      refine mm_w1 rfl ?_
      refine mm_wgr (vV_S0 hV) (by decide) (by decide) (vV_P0_6 hV) (vX_a0 hX) ?_
      refine mm_wgiv _ (vX_S0 hX) (by decide) (by decide) (vx_he dX) ?_
      refine mm_wr rfl rfl rfl ?_
      exact ⟨_, hF, rfl⟩
    · rw [show sp_count σ (vb_i 4) = .inl (q_count σ 4) by simp only [sp_count, hw]]
      show mm_W _ _ 79 (mm_blk 79 0) [.ref 0, .int (vb_i 4)] [] _ _
      refine mm_w1 rfl ?_
      refine mm_wts 108 (by decide +kernel) ?_
      refine mm_w1 rfl ?_
      refine mm_wgr (vV_S0 hV) (by decide) (by decide) (vV_P0_6 hV) (vX_a0 hX) ?_
      refine mm_cvp (vb_cv (vX_S0 hX) rfl rfl rfl rfl) (by decide) (by omega) (c_turn hX dX) ?_
      refine mm_wr rfl rfl rfl ?_
      exact ⟨_, hF, rfl⟩
    · rw [show sp_count σ (vb_i 5) = .inl (q_count σ 5) by simp only [sp_count, hw]]
      show mm_W _ _ 79 (mm_blk 79 0) [.ref 0, .int (vb_i 5)] [] _ _
      refine mm_w1 rfl ?_
      refine mm_wts 116 (by decide +kernel) ?_
      refine mm_w1 rfl ?_
      refine mm_wgr (vV_S0 hV) (by decide) (by decide) (vV_P0_6 hV) (vX_a0 hX) ?_
      refine mm_wgr (vX_S0 hX) (by decide) (by decide) (vX_P0_0 hX) (vX_a1 hX) ?_
      refine mm_wv (vb_i 0) rfl (by decide) ?_
      refine mm_wiav _ (vX_a1 hX) (vX_S1 hX) (by decide) (by omega) (vx_hs dX (by omega)) ?_
      refine mm_wr rfl rfl rfl ?_
      exact ⟨_, hF, rfl⟩
    · rw [show sp_count σ (vb_i 6) = .inl (q_count σ 6) by simp only [sp_count, hw]]
      show mm_W _ _ 79 (mm_blk 79 0) [.ref 0, .int (vb_i 6)] [] _ _
      refine mm_w1 rfl ?_
      refine mm_wts 126 (by decide +kernel) ?_
      refine mm_w1 rfl ?_
      refine mm_wgr (vV_S0 hV) (by decide) (by decide) (vV_P0_6 hV) (vX_a0 hX) ?_
      refine mm_wgr (vX_S0 hX) (by decide) (by decide) (vX_P0_0 hX) (vX_a1 hX) ?_
      refine mm_wv (vb_i 1) rfl (by decide) ?_
      refine mm_wiav _ (vX_a1 hX) (vX_S1 hX) (by decide) (by omega) (vx_hs dX (by omega)) ?_
      refine mm_wr rfl rfl rfl ?_
      exact ⟨_, hF, rfl⟩
    · rw [show sp_count σ (vb_i 7) = .inl (q_count σ 7) by simp only [sp_count, hw]]
      show mm_W _ _ 79 (mm_blk 79 0) [.ref 0, .int (vb_i 7)] [] _ _
      refine mm_w1 rfl ?_
      refine mm_wts 136 (by decide +kernel) ?_
      refine mm_w1 rfl ?_
      refine mm_wgr (vV_S0 hV) (by decide) (by decide) (vV_P0_6 hV) (vX_a0 hX) ?_
      refine mm_wgr (vX_S0 hX) (by decide) (by decide) (vX_P0_1 hX) (vX_a2 hX) ?_
      refine mm_wv (vb_i 0) rfl (by decide) ?_
      refine mm_wiav _ (vX_a2 hX) (vX_S2 hX) (by decide) (by omega) (vx_hf dX (by omega)) ?_
      refine mm_wr rfl rfl rfl ?_
      exact ⟨_, hF, rfl⟩
    · rw [show sp_count σ (vb_i 8) = .inl (q_count σ 8) by simp only [sp_count, hw]]
      show mm_W _ _ 79 (mm_blk 79 0) [.ref 0, .int (vb_i 8)] [] _ _
      refine mm_w1 rfl ?_
      refine mm_wts 146 (by decide +kernel) ?_
      refine mm_w1 rfl ?_
      refine mm_wgr (vV_S0 hV) (by decide) (by decide) (vV_P0_6 hV) (vX_a0 hX) ?_
      refine mm_wgr (vX_S0 hX) (by decide) (by decide) (vX_P0_1 hX) (vX_a2 hX) ?_
      refine mm_wv (vb_i 1) rfl (by decide) ?_
      refine mm_wiav _ (vX_a2 hX) (vX_S2 hX) (by decide) (by omega) (vx_hf dX (by omega)) ?_
      refine mm_wr rfl rfl rfl ?_
      exact ⟨_, hF, rfl⟩
    · rw [show sp_count σ (vb_i 9) = .inl (q_count σ 9) by simp only [sp_count, hw]]
      show mm_W _ _ 79 (mm_blk 79 0) [.ref 0, .int (vb_i 9)] [] _ _
      refine mm_w1 rfl ?_
      refine mm_wts 156 (by decide +kernel) ?_
      refine mm_w1 rfl ?_
      refine mm_wgr (vV_S0 hV) (by decide) (by decide) (vV_P0_8 hV) (vA_a0 hA) ?_
      refine mm_wgiv _ (vA_S0 hA) (by decide) (by decide) (vb_AD.len dA) ?_
      refine mm_wr rfl rfl rfl ?_
      exact ⟨_, hF, rfl⟩
    · rw [show sp_count σ (vb_i 10) = .inl (q_count σ 10) by simp only [sp_count, hw]]
      show mm_W _ _ 79 (mm_blk 79 0) [.ref 0, .int (vb_i 10)] [] _ _
      refine mm_w1 rfl ?_
      refine mm_wts 164 (by decide +kernel) ?_
      refine mm_w1 rfl ?_
      refine mm_wgr (vV_S0 hV) (by decide) (by decide) (vV_P0_9 hV) (vT_a0 hT) ?_
      refine mm_wgiv _ (vT_S0 hT) (by decide) (by decide) (vb_TD.len dT) ?_
      refine mm_wr rfl rfl rfl ?_
      exact ⟨_, hF, rfl⟩
    · rw [show sp_count σ (vb_i 11) = .inl (q_count σ 11) by simp only [sp_count, hw]]
      show mm_W _ _ 79 (mm_blk 79 0) [.ref 0, .int (vb_i 11)] [] _ _
      refine mm_w1 rfl ?_
      refine mm_wts 172 (by decide +kernel) ?_
      refine mm_w1 rfl ?_
      refine mm_wgiv _ (vV_S0 hV) (by decide) (by decide) (vd_p dV) ?_
      refine mm_wr rfl rfl rfl ?_
      exact ⟨_, hF, rfl⟩
    · rw [show sp_count σ (vb_i 12) = .inl (q_count σ 12) by simp only [sp_count, hw]]
      show mm_W _ _ 79 (mm_blk 79 0) [.ref 0, .int (vb_i 12)] [] _ _
      refine mm_w1 rfl ?_
      refine mm_wts 177 (by decide +kernel) ?_
      refine mm_w1 rfl ?_
      refine mm_wgr (vV_S0 hV) (by decide) (by decide) (vV_P0_3 hV) (vV_a2 hV) ?_
      refine mm_wv (vb_i 0) rfl (by decide) ?_
      refine mm_wiav _ (vV_a2 hV) (vV_S2 hV) (by decide) (by omega) (vd_r dV (by omega)) ?_
      refine mm_wr rfl rfl rfl ?_
      exact ⟨_, hF, rfl⟩
    · rw [show sp_count σ (vb_i 13) = .inl (q_count σ 13) by simp only [sp_count, hw]]
      show mm_W _ _ 79 (mm_blk 79 0) [.ref 0, .int (vb_i 13)] [] _ _
      refine mm_w1 rfl ?_
      refine mm_wts 184 (by decide +kernel) ?_
      refine mm_w1 rfl ?_
      refine mm_wgr (vV_S0 hV) (by decide) (by decide) (vV_P0_3 hV) (vV_a2 hV) ?_
      refine mm_wv (vb_i 1) rfl (by decide) ?_
      refine mm_wiav _ (vV_a2 hV) (vV_S2 hV) (by decide) (by omega) (vd_r dV (by omega)) ?_
      refine mm_wr rfl rfl rfl ?_
      exact ⟨_, hF, rfl⟩
    · rw [show sp_count σ (vb_i 14) = .inl (q_count σ 14) by simp only [sp_count, hw]]
      show mm_W _ _ 79 (mm_blk 79 0) [.ref 0, .int (vb_i 14)] [] _ _
      refine mm_w1 rfl ?_
      refine mm_wts 191 (by decide +kernel) ?_
      refine mm_w1 rfl ?_
      refine mm_wgr (vV_S0 hV) (by decide) (by decide) (vV_P0_3 hV) (vV_a2 hV) ?_
      refine mm_wv (vb_i 2) rfl (by decide) ?_
      refine mm_wiav _ (vV_a2 hV) (vV_S2 hV) (by decide) (by omega) (vd_r dV (by omega)) ?_
      refine mm_wr rfl rfl rfl ?_
      exact ⟨_, hF, rfl⟩
theorem v_village (hV : vb_isV P S L) (dV : vb_VD σ L I) (hd : 20 ≤ d) (v w : Int32) : mm_C G d 80 [.ref 0, .int v, .int w] (I, P, J, S, nc, ns) (vb_RV (sp_village σ v w) (fun I' => vb_fr (vb_vs L) I I') P J S nc ns) := by
  have hL := vV_hL hV
  have hX := vV_hX hV
  have hY := vV_hY hV
  have hA := vV_hA hV
  have hT := vV_hT hV
  have hC := vV_hC hV
  have hL17 := vV_L17 hV
  have hF : vb_fr (vb_vs L) I I := vb_fr.rf
  have dL := vd_l dV
  have dX := vd_x dV
  have dA := vd_a dV
  have dT := vd_t dV
  have hn := vl_10 dL
  have he := vx_e2 dX
  have ht := vx_t2 (vs_x σ)
  cases hv : vb_idx (vb_n (vs_l σ)) v with
  | none =>
    rw [show sp_village σ v w = .inr 0 by simp only [sp_village, hv]]
    show mm_W _ _ 80 (mm_blk 80 0) [.ref 0, .int v, .int w] [] _ _
    refine mm_w1 rfl ?_
    refine mm_w1 rfl ?_
    refine mm_wcthr (vb_cv (vV_S0 hV) rfl rfl rfl rfl) (by decide) (by omega) (c_needV_no hV dV hv) rfl ?_
    exact ⟨I, hF, rfl⟩ 
  | some v_ =>
    obtain ⟨lv, rfl⟩ := vb_idx_some (by omega) hv
    cases hw : vb_idx 7 w with
    | none =>
      rw [show sp_village σ (vb_i v_) w = .inr 0 by simp only [sp_village, hv, hw]]
      show mm_W _ _ 80 (mm_blk 80 0) [.ref 0, .int (vb_i v_), .int w] [] _ _
      refine mm_w1 rfl ?_
      refine mm_w1 rfl ?_
      refine mm_cvp0 (vb_cv (vV_S0 hV) rfl rfl rfl rfl) (by decide) (by omega) (c_needV hV dV (by omega)) ?_
      refine mm_w1 rfl ?_
      refine mm_wts 122 (mm_tgt_d (n := 7) (by decide) hw rfl) ?_ 
      refine mm_wthr rfl rfl rfl rfl ?_
      exact ⟨I, hF, rfl⟩
    | some w_ =>
      obtain ⟨lw, rfl⟩ := vb_idx_some (by decide) hw
      have hk : w_ = 0 ∨ w_ = 1 ∨ w_ = 2 ∨ w_ = 3 ∨ w_ = 4 ∨ w_ = 5 ∨ w_ = 6 := by omega
      rcases hk with rfl | rfl | rfl | rfl | rfl | rfl | rfl
      · rw [show sp_village σ (vb_i v_) (vb_i 0) = .inl (q_village σ v_ 0) by simp only [sp_village, hv, hw]]
        show mm_W _ _ 80 (mm_blk 80 0) [.ref 0, .int (vb_i v_), .int (vb_i 0)] [] _ _
        refine mm_w1 rfl ?_
        refine mm_w1 rfl ?_
        refine mm_cvp0 (vb_cv (vV_S0 hV) rfl rfl rfl rfl) (by decide) (by omega) (c_needV hV dV (by omega)) ?_
        refine mm_w1 rfl ?_
        refine mm_wts 48 (by decide +kernel) ?_
        refine mm_w1 rfl ?_
        refine mm_wgr (vV_S0 hV) (by decide) (by decide) (vV_P0_5 hV) (vL_a0 hL) ?_
        refine mm_wgr (vL_S0 hL) (by decide) (by decide) (vL_P0_4 hL) (vL_a1 hL) ?_
        refine mm_w1 rfl ?_
        refine mm_wiav _ (vL_a1 hL) (vL_S1 hL) (by decide) (by omega) (vl_wo dL (by omega)) ?_
        refine mm_wr rfl rfl rfl ?_
        exact ⟨_, hF, rfl⟩
      · rw [show sp_village σ (vb_i v_) (vb_i 1) = .inl (q_village σ v_ 1) by simp only [sp_village, hv, hw]]
        show mm_W _ _ 80 (mm_blk 80 0) [.ref 0, .int (vb_i v_), .int (vb_i 1)] [] _ _
        refine mm_w1 rfl ?_
        refine mm_w1 rfl ?_
        refine mm_cvp0 (vb_cv (vV_S0 hV) rfl rfl rfl rfl) (by decide) (by omega) (c_needV hV dV (by omega)) ?_
        refine mm_w1 rfl ?_
        refine mm_wts 58 (by decide +kernel) ?_
        refine mm_w1 rfl ?_
        refine mm_wgr (vV_S0 hV) (by decide) (by decide) (vV_P0_5 hV) (vL_a0 hL) ?_
        refine mm_wgr (vL_S0 hL) (by decide) (by decide) (vL_P0_5 hL) (vL_a2 hL) ?_
        refine mm_w1 rfl ?_
        refine mm_wiav _ (vL_a2 hL) (vL_S2 hL) (by decide) (by omega) (vl_fo dL (by omega)) ?_
        refine mm_wr rfl rfl rfl ?_
        exact ⟨_, hF, rfl⟩
      · rw [show sp_village σ (vb_i v_) (vb_i 2) = .inl (q_village σ v_ 2) by simp only [sp_village, hv, hw]]
        show mm_W _ _ 80 (mm_blk 80 0) [.ref 0, .int (vb_i v_), .int (vb_i 2)] [] _ _
        refine mm_w1 rfl ?_
        refine mm_w1 rfl ?_
        refine mm_cvp0 (vb_cv (vV_S0 hV) rfl rfl rfl rfl) (by decide) (by omega) (c_needV hV dV (by omega)) ?_
        refine mm_w1 rfl ?_
        refine mm_wts 68 (by decide +kernel) ?_
        refine mm_w1 rfl ?_
        refine mm_wgr (vV_S0 hV) (by decide) (by decide) (vV_P0_6 hV) (vX_a0 hX) ?_
        refine mm_w1 rfl ?_
        refine mm_cvp (vb_cv (vX_S0 hX) rfl rfl rfl rfl) (by decide) (by omega) (c_stoneIn hX dX (by omega) (by omega)) ?_
        refine mm_wr rfl rfl rfl ?_
        exact ⟨_, hF, rfl⟩
      · rw [show sp_village σ (vb_i v_) (vb_i 3) = .inl (q_village σ v_ 3) by simp only [sp_village, hv, hw]]
        show mm_W _ _ 80 (mm_blk 80 0) [.ref 0, .int (vb_i v_), .int (vb_i 3)] [] _ _
        refine mm_w1 rfl ?_
        refine mm_w1 rfl ?_
        refine mm_cvp0 (vb_cv (vV_S0 hV) rfl rfl rfl rfl) (by decide) (by omega) (c_needV hV dV (by omega)) ?_
        refine mm_w1 rfl ?_
        refine mm_wts 77 (by decide +kernel) ?_
        refine mm_w1 rfl ?_
        refine mm_wgr (vV_S0 hV) (by decide) (by decide) (vV_P0_6 hV) (vX_a0 hX) ?_
        refine mm_w1 rfl ?_
        refine mm_cvp (vb_cv (vX_S0 hX) rfl rfl rfl rfl) (by decide) (by omega) (c_flagOf hX dX (by omega) (by omega)) ?_
        refine mm_wr rfl rfl rfl ?_
        exact ⟨_, hF, rfl⟩
      · rw [show sp_village σ (vb_i v_) (vb_i 4) = .inl (q_village σ v_ 4) by simp only [sp_village, hv, hw]]
        show mm_W _ _ 80 (mm_blk 80 0) [.ref 0, .int (vb_i v_), .int (vb_i 4)] [] _ _
        refine mm_w1 rfl ?_
        refine mm_w1 rfl ?_
        refine mm_cvp0 (vb_cv (vV_S0 hV) rfl rfl rfl rfl) (by decide) (by omega) (c_needV hV dV (by omega)) ?_
        refine mm_w1 rfl ?_
        refine mm_wts 86 (by decide +kernel) ?_
        refine mm_w1 rfl ?_
        refine mm_wgr (vV_S0 hV) (by decide) (by decide) (vV_P0_5 hV) (vL_a0 hL) ?_
        refine mm_wgr (vL_S0 hL) (by decide) (by decide) (vL_P0_6 hL) (vL_a3 hL) ?_
        refine mm_w1 rfl ?_
        refine mm_wiav _ (vL_a3 hL) (vL_S3 hL) (by decide) (by omega) (vl_nb dL (by omega)) ?_
        refine mm_csp rfl (by decide) (by omega) (c_bc (vb_below_mono (vl_nbb dL lv) hn)) ?_
        refine mm_wr rfl rfl rfl ?_
        exact ⟨_, hF, rfl⟩
      · rw [show sp_village σ (vb_i v_) (vb_i 5) = .inl (q_village σ v_ 5) by simp only [sp_village, hv, hw]]
        show mm_W _ _ 80 (mm_blk 80 0) [.ref 0, .int (vb_i v_), .int (vb_i 5)] [] _ _
        refine mm_w1 rfl ?_
        refine mm_w1 rfl ?_
        refine mm_cvp0 (vb_cv (vV_S0 hV) rfl rfl rfl rfl) (by decide) (by omega) (c_needV hV dV (by omega)) ?_
        refine mm_w1 rfl ?_
        refine mm_wts 99 (by decide +kernel) ?_
        refine mm_w1 rfl ?_
        refine mm_wgr (vV_S0 hV) (by decide) (by decide) (vV_P0_6 hV) (vX_a0 hX) ?_
        refine mm_wgr (vX_S0 hX) (by decide) (by decide) (vX_P0_4 hX) (vX_a5 hX) ?_
        refine mm_w1 rfl ?_
        refine mm_wiav _ (vX_a5 hX) (vX_S5 hX) (by decide) (by omega) (vx_hb dX (by omega)) ?_
        refine mm_wr rfl rfl rfl ?_
        exact ⟨_, hF, rfl⟩
      · rw [show sp_village σ (vb_i v_) (vb_i 6) = .inl (q_village σ v_ 6) by simp only [sp_village, hv, hw]]
        show mm_W _ _ 80 (mm_blk 80 0) [.ref 0, .int (vb_i v_), .int (vb_i 6)] [] _ _
        refine mm_w1 rfl ?_
        refine mm_w1 rfl ?_
        refine mm_cvp0 (vb_cv (vV_S0 hV) rfl rfl rfl rfl) (by decide) (by omega) (c_needV hV dV (by omega)) ?_
        refine mm_w1 rfl ?_
        refine mm_wts 109 (by decide +kernel) ?_
        refine mm_w1 rfl ?_
        refine mm_wgr (vV_S0 hV) (by decide) (by decide) (vV_P0_6 hV) (vX_a0 hX) ?_
        refine mm_wgr (vX_S0 hX) (by decide) (by decide) (vX_P0_4 hX) (vX_a5 hX) ?_
        refine mm_wv (vb_i 10) rfl (by decide) ?_
        refine mm_w1 rfl ?_
        refine mm_nadd ?_
        refine mm_wiav _ (vX_a5 hX) (vX_S5 hX) (by decide) (by omega) (vx_hb dX (by omega)) ?_
        refine mm_wr rfl rfl rfl ?_
        exact ⟨_, hF, rfl⟩
theorem v_side (hV : vb_isV P S L) (dV : vb_VD σ L I) (hd : 20 ≤ d) (s w : Int32) : mm_C G d 81 [.ref 0, .int s, .int w] (I, P, J, S, nc, ns) (vb_RV (sp_side σ s w) (fun I' => vb_fr (vb_vs L) I I') P J S nc ns) := by
  have hL := vV_hL hV
  have hX := vV_hX hV
  have hY := vV_hY hV
  have hA := vV_hA hV
  have hT := vV_hT hV
  have hC := vV_hC hV
  have hL17 := vV_L17 hV
  have hF : vb_fr (vb_vs L) I I := vb_fr.rf
  have dL := vd_l dV
  have dX := vd_x dV
  have dA := vd_a dV
  have dT := vd_t dV
  have hn := vl_10 dL
  have he := vx_e2 dX
  have ht := vx_t2 (vs_x σ)
  cases hs : vb_idx 2 s with
  | none =>
    rw [show sp_side σ s w = .inr 0 by simp only [sp_side, hs]]
    show mm_W _ _ 81 (mm_blk 81 0) [.ref 0, .int s, .int w] [] _ _
    refine mm_w1 rfl ?_
    refine mm_w1 rfl ?_
    refine mm_wcthr (vb_cv (vV_S0 hV) rfl rfl rfl rfl) (by decide) (by omega) (c_needS_no hV hs) rfl ?_
    exact ⟨I, hF, rfl⟩ 
  | some s_ =>
    obtain ⟨ls, rfl⟩ := vb_idx_some (by omega) hs
    cases hw : vb_idx 6 w with
    | none =>
      rw [show sp_side σ (vb_i s_) w = .inr 0 by simp only [sp_side, hs, hw]]
      show mm_W _ _ 81 (mm_blk 81 0) [.ref 0, .int (vb_i s_), .int w] [] _ _
      refine mm_w1 rfl ?_
      refine mm_w1 rfl ?_
      refine mm_cvp0 (vb_cv (vV_S0 hV) rfl rfl rfl rfl) (by decide) (by omega) (c_needS hV (by omega)) ?_
      refine mm_w1 rfl ?_
      refine mm_wts 157 (mm_tgt_d (n := 6) (by decide) hw rfl) ?_ 
      refine mm_wthr rfl rfl rfl rfl ?_
      exact ⟨I, hF, rfl⟩
    | some w_ =>
      obtain ⟨lw, rfl⟩ := vb_idx_some (by decide) hw
      have hk : w_ = 0 ∨ w_ = 1 ∨ w_ = 2 ∨ w_ = 3 ∨ w_ = 4 ∨ w_ = 5 := by omega
      rcases hk with rfl | rfl | rfl | rfl | rfl | rfl
      · rw [show sp_side σ (vb_i s_) (vb_i 0) = .inl (q_side σ s_ 0) by simp only [sp_side, hs, hw]]
        show mm_W _ _ 81 (mm_blk 81 0) [.ref 0, .int (vb_i s_), .int (vb_i 0)] [] _ _
        refine mm_w1 rfl ?_
        refine mm_w1 rfl ?_
        refine mm_cvp0 (vb_cv (vV_S0 hV) rfl rfl rfl rfl) (by decide) (by omega) (c_needS hV (by omega)) ?_
        refine mm_w1 rfl ?_
        refine mm_wts 44 (by decide +kernel) ?_
        refine mm_w1 rfl ?_
        refine mm_wgr (vV_S0 hV) (by decide) (by decide) (vV_P0_6 hV) (vX_a0 hX) ?_
        refine mm_wgr (vX_S0 hX) (by decide) (by decide) (vX_P0_2 hX) (vX_a3 hX) ?_
        refine mm_w1 rfl ?_
        refine mm_wiav _ (vX_a3 hX) (vX_S3 hX) (by decide) (by omega) (vx_ht dX (by omega)) ?_
        refine mm_wr rfl rfl rfl ?_
        exact ⟨_, hF, rfl⟩
      · rw [show sp_side σ (vb_i s_) (vb_i 1) = .inl (q_side σ s_ 1) by simp only [sp_side, hs, hw]]
        show mm_W _ _ 81 (mm_blk 81 0) [.ref 0, .int (vb_i s_), .int (vb_i 1)] [] _ _
        refine mm_w1 rfl ?_
        refine mm_w1 rfl ?_
        refine mm_cvp0 (vb_cv (vV_S0 hV) rfl rfl rfl rfl) (by decide) (by omega) (c_needS hV (by omega)) ?_
        refine mm_w1 rfl ?_
        refine mm_wts 54 (by decide +kernel) ?_
        refine mm_w1 rfl ?_
        refine mm_wgr (vV_S0 hV) (by decide) (by decide) (vV_P0_6 hV) (vX_a0 hX) ?_
        refine mm_wgr (vX_S0 hX) (by decide) (by decide) (vX_P0_3 hX) (vX_a4 hX) ?_
        refine mm_w1 rfl ?_
        refine mm_wiav _ (vX_a4 hX) (vX_S4 hX) (by decide) (by omega) (vx_hy dX (by omega)) ?_
        refine mm_wr rfl rfl rfl ?_
        exact ⟨_, hF, rfl⟩
      · rw [show sp_side σ (vb_i s_) (vb_i 2) = .inl (q_side σ s_ 2) by simp only [sp_side, hs, hw]]
        show mm_W _ _ 81 (mm_blk 81 0) [.ref 0, .int (vb_i s_), .int (vb_i 2)] [] _ _
        refine mm_w1 rfl ?_
        refine mm_w1 rfl ?_
        refine mm_cvp0 (vb_cv (vV_S0 hV) rfl rfl rfl rfl) (by decide) (by omega) (c_needS hV (by omega)) ?_
        refine mm_w1 rfl ?_
        refine mm_wts 64 (by decide +kernel) ?_
        refine mm_w1 rfl ?_
        refine mm_wgr (vV_S0 hV) (by decide) (by decide) (vV_P0_5 hV) (vL_a0 hL) ?_
        refine mm_w1 rfl ?_
        refine mm_wgr (vV_S0 hV) (by decide) (by decide) (vV_P0_6 hV) (vX_a0 hX) ?_
        refine mm_wgr (vX_S0 hX) (by decide) (by decide) (vX_P0_0 hX) (vX_a1 hX) ?_
        refine mm_w1 rfl ?_
        refine mm_wiav _ (vX_a1 hX) (vX_S1 hX) (by decide) (by omega) (vx_hs dX (by omega)) ?_
        refine mm_w1 rfl ?_
        refine mm_wgr (vV_S0 hV) (by decide) (by decide) (vV_P0_6 hV) (vX_a0 hX) ?_
        refine mm_wgr (vX_S0 hX) (by decide) (by decide) (vX_P0_0 hX) (vX_a1 hX) ?_
        refine mm_wv (vb_i 1) rfl (by decide) ?_
        refine mm_w1 rfl ?_
        refine mm_nsub (by omega) ?_
        refine mm_wiav _ (vX_a1 hX) (vX_S1 hX) (by decide) (by omega) (vx_hs dX (by omega)) ?_
        refine mm_w1 rfl ?_
        refine mm_wgr (vV_S0 hV) (by decide) (by decide) (vV_P0_6 hV) (vX_a0 hX) ?_
        refine mm_wgiv _ (vX_S0 hX) (by decide) (by decide) (vx_he dX) ?_
        refine mm_cvi (vb_cv (vL_S0 hL) rfl rfl rfl rfl) (by decide) (by omega) (c_enPrise (ℓ := vs_l σ) hL dL (by omega)) ?_
        intro I1 hf1
        have hF1 : vb_fr (vb_vs L) I I1 := hF.tr (hf1.mono (fun a h => by exact Or.inl (Or.inr h)))
        have dV1 := dV.fr hL17 hF1
        have dL1 := vd_l dV1
        have dX1 := vd_x dV1
        refine mm_wr rfl rfl rfl ?_
        exact ⟨_, hF1, rfl⟩
      · rw [show sp_side σ (vb_i s_) (vb_i 3) = .inl (q_side σ s_ 3) by simp only [sp_side, hs, hw]]
        show mm_W _ _ 81 (mm_blk 81 0) [.ref 0, .int (vb_i s_), .int (vb_i 3)] [] _ _
        refine mm_w1 rfl ?_
        refine mm_w1 rfl ?_
        refine mm_cvp0 (vb_cv (vV_S0 hV) rfl rfl rfl rfl) (by decide) (by omega) (c_needS hV (by omega)) ?_
        refine mm_w1 rfl ?_
        refine mm_wts 99 (by decide +kernel) ?_
        refine mm_w1 rfl ?_
        refine mm_w1 rfl ?_
        refine mm_cvi (vb_cv (vV_S0 hV) rfl rfl rfl rfl) (by decide) (by omega) (c_pin (σ := σ) hV dV (by omega) (by omega)) ?_
        intro I1 hf1
        have hF1 : vb_fr (vb_vs L) I I1 := hF.tr (hf1.mono (fun a h => by exact h))
        have dV1 := dV.fr hL17 hF1
        have dL1 := vd_l dV1
        have dX1 := vd_x dV1
        refine mm_wr rfl rfl rfl ?_
        exact ⟨_, hF1, rfl⟩
      · rw [show sp_side σ (vb_i s_) (vb_i 4) = .inl (q_side σ s_ 4) by simp only [sp_side, hs, hw]]
        show mm_W _ _ 81 (mm_blk 81 0) [.ref 0, .int (vb_i s_), .int (vb_i 4)] [] _ _
        refine mm_w1 rfl ?_
        refine mm_w1 rfl ?_
        refine mm_cvp0 (vb_cv (vV_S0 hV) rfl rfl rfl rfl) (by decide) (by omega) (c_needS hV (by omega)) ?_
        refine mm_w1 rfl ?_
        refine mm_wts 105 (by decide +kernel) ?_
        refine mm_w1 rfl ?_
        refine mm_wgr (vV_S0 hV) (by decide) (by decide) (vV_P0_5 hV) (vL_a0 hL) ?_
        refine mm_w1 rfl ?_
        refine mm_wgr (vV_S0 hV) (by decide) (by decide) (vV_P0_6 hV) (vX_a0 hX) ?_
        refine mm_wgr (vX_S0 hX) (by decide) (by decide) (vX_P0_0 hX) (vX_a1 hX) ?_
        refine mm_w1 rfl ?_
        refine mm_wiav _ (vX_a1 hX) (vX_S1 hX) (by decide) (by omega) (vx_hs dX (by omega)) ?_
        refine mm_w1 rfl ?_
        refine mm_wgr (vV_S0 hV) (by decide) (by decide) (vV_P0_6 hV) (vX_a0 hX) ?_
        refine mm_wgr (vX_S0 hX) (by decide) (by decide) (vX_P0_0 hX) (vX_a1 hX) ?_
        refine mm_wv (vb_i 1) rfl (by decide) ?_
        refine mm_w1 rfl ?_
        refine mm_nsub (by omega) ?_
        refine mm_wiav _ (vX_a1 hX) (vX_S1 hX) (by decide) (by omega) (vx_hs dX (by omega)) ?_
        refine mm_w1 rfl ?_
        refine mm_wgr (vV_S0 hV) (by decide) (by decide) (vV_P0_6 hV) (vX_a0 hX) ?_
        refine mm_wgiv _ (vX_S0 hX) (by decide) (by decide) (vx_he dX) ?_
        refine mm_cvi (vb_cv (vL_S0 hL) rfl rfl rfl rfl) (by decide) (by omega) (c_list (ℓ := vs_l σ) hL dL (by omega)) ?_
        intro I1 hq1
        obtain ⟨hf1, hm1⟩ := hq1
        have hF1 : vb_fr (vb_vs L) I I1 := hF.tr (hf1.mono (fun a h => by exact Or.inl h))
        have dV1 := dV.fr hL17 hF1
        have dL1 := vd_l dV1
        have dX1 := vd_x dV1
        refine mm_wr rfl rfl rfl ?_
        exact ⟨_, hF1, rfl⟩
      · rw [show sp_side σ (vb_i s_) (vb_i 5) = .inl (q_side σ s_ 5) by simp only [sp_side, hs, hw]]
        show mm_W _ _ 81 (mm_blk 81 0) [.ref 0, .int (vb_i s_), .int (vb_i 5)] [] _ _
        refine mm_w1 rfl ?_
        refine mm_w1 rfl ?_
        refine mm_cvp0 (vb_cv (vV_S0 hV) rfl rfl rfl rfl) (by decide) (by omega) (c_needS hV (by omega)) ?_
        refine mm_w1 rfl ?_
        refine mm_wts 140 (by decide +kernel) ?_
        refine mm_w1 rfl ?_
        refine mm_wgr (vV_S0 hV) (by decide) (by decide) (vV_P0_5 hV) (vL_a0 hL) ?_
        refine mm_w1 rfl ?_
        refine mm_wgr (vV_S0 hV) (by decide) (by decide) (vV_P0_6 hV) (vX_a0 hX) ?_
        refine mm_wgr (vX_S0 hX) (by decide) (by decide) (vX_P0_1 hX) (vX_a2 hX) ?_
        refine mm_w1 rfl ?_
        refine mm_wiav _ (vX_a2 hX) (vX_S2 hX) (by decide) (by omega) (vx_hf dX (by omega)) ?_
        refine mm_cvp (vb_cv (vL_S0 hL) rfl rfl rfl rfl) (by decide) (by omega) (c_worthOf hL dL (by omega)) ?_
        refine mm_wr rfl rfl rfl ?_
        exact ⟨_, hF, rfl⟩
theorem v_road (hV : vb_isV P S L) (dV : vb_VD σ L I) (hd : 20 ≤ d) (a b : Int32) : mm_C G d 82 [.ref 0, .int a, .int b] (I, P, J, S, nc, ns) (vb_RV (sp_road σ a b) (fun I' => vb_fr (vb_vs L) I I') P J S nc ns) := by
  have hL := vV_hL hV
  have hX := vV_hX hV
  have hY := vV_hY hV
  have hA := vV_hA hV
  have hT := vV_hT hV
  have hC := vV_hC hV
  have hL17 := vV_L17 hV
  have hF : vb_fr (vb_vs L) I I := vb_fr.rf
  have dL := vd_l dV
  have dX := vd_x dV
  have dA := vd_a dV
  have dT := vd_t dV
  have hn := vl_10 dL
  have he := vx_e2 dX
  have ht := vx_t2 (vs_x σ)
  cases ha : vb_idx (vb_n (vs_l σ)) a with
  | none =>
    rw [show sp_road σ a b = .inr 0 by simp only [sp_road, ha]]
    show mm_W _ _ 82 (mm_blk 82 0) [.ref 0, .int a, .int b] [] _ _
    refine mm_w1 rfl ?_
    refine mm_w1 rfl ?_
    refine mm_wcthr (vb_cv (vV_S0 hV) rfl rfl rfl rfl) (by decide) (by omega) (c_needV_no hV dV ha) rfl ?_
    exact ⟨I, hF, rfl⟩ 
  | some a_ =>
    obtain ⟨la, rfl⟩ := vb_idx_some (by omega) ha
    cases hb : vb_idx (vb_n (vs_l σ)) b with
    | none =>
      rw [show sp_road σ (vb_i a_) b = .inr 0 by simp only [sp_road, ha, hb]]
      show mm_W _ _ 82 (mm_blk 82 0) [.ref 0, .int (vb_i a_), .int b] [] _ _
      refine mm_w1 rfl ?_
      refine mm_w1 rfl ?_
      refine mm_cvp0 (vb_cv (vV_S0 hV) rfl rfl rfl rfl) (by decide) (by omega) (c_needV hV dV (by omega)) ?_
      refine mm_w1 rfl ?_
      refine mm_w1 rfl ?_
      refine mm_wcthr (vb_cv (vV_S0 hV) rfl rfl rfl rfl) (by decide) (by omega) (c_needV_no hV dV hb) rfl ?_
      exact ⟨I, hF, rfl⟩ 
    | some b_ =>
      obtain ⟨lb, rfl⟩ := vb_idx_some (by omega) hb
      rw [show sp_road σ (vb_i a_) (vb_i b_) = .inl (vb_b (vb_has (vb_nb (vs_l σ) a_) b_)) by simp only [sp_road, ha, hb]]
      show mm_W _ _ 82 (mm_blk 82 0) [.ref 0, .int (vb_i a_), .int (vb_i b_)] [] _ _
      refine mm_w1 rfl ?_
      refine mm_w1 rfl ?_
      refine mm_cvp0 (vb_cv (vV_S0 hV) rfl rfl rfl rfl) (by decide) (by omega) (c_needV hV dV (by omega)) ?_
      refine mm_w1 rfl ?_
      refine mm_w1 rfl ?_
      refine mm_cvp0 (vb_cv (vV_S0 hV) rfl rfl rfl rfl) (by decide) (by omega) (c_needV hV dV (by omega)) ?_
      refine mm_w1 rfl ?_
      refine mm_wgr (vV_S0 hV) (by decide) (by decide) (vV_P0_5 hV) (vL_a0 hL) ?_
      refine mm_wgr (vL_S0 hL) (by decide) (by decide) (vL_P0_6 hL) (vL_a3 hL) ?_
      refine mm_w1 rfl ?_
      refine mm_wiav _ (vL_a3 hL) (vL_S3 hL) (by decide) (by omega) (vl_nb dL (by omega)) ?_
      refine mm_w1 rfl ?_
      refine mm_csp rfl (by decide) (by omega) (c_has (by omega)) ?_
      refine mm_wrb rfl ?_
      exact ⟨_, hF, rfl⟩
theorem v_lawful (hV : vb_isV P S L) (dV : vb_VD σ L I) (hd : 20 ≤ d) (a b : Int32) : mm_C G d 83 [.ref 0, .int a, .int b] (I, P, J, S, nc, ns) (vb_RV (sp_lawful σ a b) (fun I' => vb_fr (vb_vs L) I I') P J S nc ns) := by
  have hL := vV_hL hV
  have hX := vV_hX hV
  have hY := vV_hY hV
  have hA := vV_hA hV
  have hT := vV_hT hV
  have hC := vV_hC hV
  have hL17 := vV_L17 hV
  have hF : vb_fr (vb_vs L) I I := vb_fr.rf
  have dL := vd_l dV
  have dX := vd_x dV
  have dA := vd_a dV
  have dT := vd_t dV
  have hn := vl_10 dL
  have he := vx_e2 dX
  have ht := vx_t2 (vs_x σ)
  cases ha : vb_idx (vb_n (vs_l σ)) a with
  | none =>
    rw [show sp_lawful σ a b = .inr 0 by simp only [sp_lawful, ha]]
    show mm_W _ _ 83 (mm_blk 83 0) [.ref 0, .int a, .int b] [] _ _
    refine mm_w1 rfl ?_
    refine mm_w1 rfl ?_
    refine mm_wcthr (vb_cv (vV_S0 hV) rfl rfl rfl rfl) (by decide) (by omega) (c_needV_no hV dV ha) rfl ?_
    exact ⟨I, hF, rfl⟩ 
  | some a_ =>
    obtain ⟨la, rfl⟩ := vb_idx_some (by omega) ha
    cases hb : vb_idx (vb_n (vs_l σ)) b with
    | none =>
      rw [show sp_lawful σ (vb_i a_) b = .inr 0 by simp only [sp_lawful, ha, hb]]
      show mm_W _ _ 83 (mm_blk 83 0) [.ref 0, .int (vb_i a_), .int b] [] _ _
      refine mm_w1 rfl ?_
      refine mm_w1 rfl ?_
      refine mm_cvp0 (vb_cv (vV_S0 hV) rfl rfl rfl rfl) (by decide) (by omega) (c_needV hV dV (by omega)) ?_
      refine mm_w1 rfl ?_
      refine mm_w1 rfl ?_
      refine mm_wcthr (vb_cv (vV_S0 hV) rfl rfl rfl rfl) (by decide) (by omega) (c_needV_no hV dV hb) rfl ?_
      exact ⟨I, hF, rfl⟩ 
    | some b_ =>
      obtain ⟨lb, rfl⟩ := vb_idx_some (by omega) hb
      rw [show sp_lawful σ (vb_i a_) (vb_i b_) = .inl (vb_b (vb_has (q_tgt (vs_l σ) (vs_x σ) a_) b_)) by simp only [sp_lawful, ha, hb]]
      show mm_W _ _ 83 (mm_blk 83 0) [.ref 0, .int (vb_i a_), .int (vb_i b_)] [] _ _
      refine mm_w1 rfl ?_
      refine mm_w1 rfl ?_
      refine mm_cvp0 (vb_cv (vV_S0 hV) rfl rfl rfl rfl) (by decide) (by omega) (c_needV hV dV (by omega)) ?_
      refine mm_w1 rfl ?_
      refine mm_w1 rfl ?_
      refine mm_cvp0 (vb_cv (vV_S0 hV) rfl rfl rfl rfl) (by decide) (by omega) (c_needV hV dV (by omega)) ?_
      refine mm_w1 rfl ?_
      refine mm_w1 rfl ?_
      refine mm_cvi (vb_cv (vV_S0 hV) rfl rfl rfl rfl) (by decide) (by omega) (c_tgt (σ := σ) hV dV (by omega) (by omega)) ?_
      intro I1 hf1
      have hF1 : vb_fr (vb_vs L) I I1 := hF.tr (hf1.mono (fun a h => by exact h))
      have dV1 := dV.fr hL17 hF1
      have dL1 := vd_l dV1
      have dX1 := vd_x dV1
      refine mm_w1 rfl ?_
      refine mm_csp rfl (by decide) (by omega) (c_has (by omega)) ?_
      refine mm_wrb rfl ?_
      exact ⟨_, hF1, rfl⟩
theorem v_hangs (hV : vb_isV P S L) (dV : vb_VD σ L I) (hd : 20 ≤ d) (v : Int32) : mm_C G d 90 [.ref 0, .int v] (I, P, J, S, nc, ns) (vb_RV (sp_hangs σ v) (fun I' => vb_fr (vb_vs L) I I') P J S nc ns) := by
  have hL := vV_hL hV
  have hX := vV_hX hV
  have hY := vV_hY hV
  have hA := vV_hA hV
  have hT := vV_hT hV
  have hC := vV_hC hV
  have hL17 := vV_L17 hV
  have hF : vb_fr (vb_vs L) I I := vb_fr.rf
  have dL := vd_l dV
  have dX := vd_x dV
  have dA := vd_a dV
  have dT := vd_t dV
  have hn := vl_10 dL
  have he := vx_e2 dX
  have ht := vx_t2 (vs_x σ)
  cases hv : vb_idx (vb_n (vs_l σ)) v with
  | none =>
    rw [show sp_hangs σ v = .inr 0 by simp only [sp_hangs, hv]]
    show mm_W _ _ 90 (mm_blk 90 0) [.ref 0, .int v] [] _ _
    refine mm_w1 rfl ?_
    refine mm_w1 rfl ?_
    refine mm_wcthr (vb_cv (vV_S0 hV) rfl rfl rfl rfl) (by decide) (by omega) (c_needV_no hV dV hv) rfl ?_
    exact ⟨I, hF, rfl⟩ 
  | some v_ =>
    obtain ⟨lv, rfl⟩ := vb_idx_some (by omega) hv
    rw [show sp_hangs σ (vb_i v_) = .inl (q_hang (vs_l σ) (vs_x σ) v_) by simp only [sp_hangs, hv]]
    show mm_W _ _ 90 (mm_blk 90 0) [.ref 0, .int (vb_i v_)] [] _ _
    refine mm_w1 rfl ?_
    refine mm_w1 rfl ?_
    refine mm_cvp0 (vb_cv (vV_S0 hV) rfl rfl rfl rfl) (by decide) (by omega) (c_needV hV dV (by omega)) ?_
    refine mm_w1 rfl ?_
    refine mm_w1 rfl ?_
    refine mm_cvi (vb_cv (vV_S0 hV) rfl rfl rfl rfl) (by decide) (by omega) (c_hang (σ := σ) hV dV (by omega) (by omega)) ?_
    intro I1 hf1
    have hF1 : vb_fr (vb_vs L) I I1 := hF.tr (hf1.mono (fun a h => by exact h))
    have dV1 := dV.fr hL17 hF1
    have dL1 := vd_l dV1
    have dX1 := vd_x dV1
    refine mm_wr rfl rfl rfl ?_
    exact ⟨_, hF1, rfl⟩
end ASK2
