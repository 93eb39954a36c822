def q_safe (ℓ : vb_L) (x : vb_X) (v : Nat) : Int32 := if vx_in (vx_s x) v = 2 then 0 else vb_set (vb_n ℓ) (fun to => vb_has (q_tgt ℓ x v) to && (vb_tk ℓ (vb_mvd (vx_s x (vx_in (vx_s x) v)) v to) (vx_s x (1 - vx_in (vx_s x) v) &&& ~~~ vb_bit to) to (vb_i (vx_e x + 1)) == 0))
def q_reach (ℓ : vb_L) (x : vb_X) (v : Nat) : Int32 := if vx_in (vx_s x) v = 2 then 0 else vb_grow ℓ (q_free ℓ x) 10 (vb_bit v) &&& ~~~ vb_bit v
def q_gd (ℓ : vb_L) (own foe : Int32) (v : Nat) (ev free : Int32) : Nat → Int32 → Int32
  | 0, _ => -1
  | k + 1, g => if vb_tk ℓ (own ||| g) foe v ev = 0 then g else q_gd ℓ own foe v ev free k (g ||| ((free &&& ~~~ g) &&& -(free &&& ~~~ g)))
def q_guard (ℓ : vb_L) (x : vb_X) (v : Nat) : Int32 := if vx_in (vx_s x) v = 2 then -1 else q_gd ℓ (vx_s x (vx_in (vx_s x) v)) (vx_s x (1 - vx_in (vx_s x) v)) v (vb_i (vx_e x)) (vb_nb ℓ v &&& ~~~ (vx_s x 0 ||| vx_s x 1)) (vb_n ℓ + 1) 0
def q_hc (ℓ : vb_L) (x : vb_X) (s v : Nat) : Nat := if vb_has (vx_s x s) v then vb_cnt 10 (vb_has (q_hang ℓ x v)) else 0
def q_fk (ℓ : vb_L) (x : vb_X) (s m : Nat) : Int32 := vb_i (vb_cnt 10 (vb_has (vb_ep ℓ (vx_s x (1 - s) &&& ~~~ vb_bit (m % 10)) (vb_mvd (vx_s x s) (m / 10) (m % 10)) (vb_i (vx_e x + 1)))))
def q_fork (ℓ : vb_L) (x : vb_X) : Nat := (vx_pick (q_fk ℓ x (vx_tn x)) (vx_ms ℓ x) (100, vb_i 1)).1
def q_whose (x : vb_X) (v : Nat) : Int32 := if vx_b x (10 + v) < vx_b x v then vb_i 0 else if vx_b x v < vx_b x (10 + v) then vb_i 1 else vb_i 2
def sp_safe (σ : vb_St) (v : Int32) : Int32 ⊕ Nat := match vb_idx (vb_n (vs_l σ)) v with
  | none => .inr 0
  | some v => .inl (q_safe (vs_l σ) (vs_x σ) v)
def sp_reach (σ : vb_St) (v : Int32) : Int32 ⊕ Nat := match vb_idx (vb_n (vs_l σ)) v with
  | none => .inr 0
  | some v => .inl (q_reach (vs_l σ) (vs_x σ) v)
def sp_guard (σ : vb_St) (v : Int32) : Int32 ⊕ Nat := match vb_idx (vb_n (vs_l σ)) v with
  | none => .inr 0
  | some v => .inl (q_guard (vs_l σ) (vs_x σ) v)
def sp_key (σ : vb_St) (s : Int32) : Int32 ⊕ Nat := match vb_idx 2 s with
  | none => .inr 0
  | some s => .inl (q_nx (q_hc (vs_l σ) (vs_x σ) s) (vb_n (vs_l σ))).1
def sp_fork (σ : vb_St) : Int32 ⊕ Nat := .inl (vb_told (q_fork (vs_l σ) (vs_x σ)))
def sp_regret (σ : vb_St) (a b : Int32) : Int32 ⊕ Nat := match vb_idx (vb_n (vs_l σ)) a with
  | none => .inr 0
  | some a => match vb_idx (vb_n (vs_l σ)) b with
    | none => .inr 0
    | some b => .inl (if q_mayT (vs_l σ) (vs_x σ) a b then q_li (vs_l σ) (vs_x σ) (vx_tn (vs_x σ)) 2 - q_la (vs_l σ) (vs_x σ) (vx_tn (vs_x σ)) (10 * a + b) 1 else -1)
def sp_whose (σ : vb_St) (v : Int32) : Int32 ⊕ Nat := match vb_idx (vb_n (vs_l σ)) v with
  | none => .inr 0
  | some v => .inl (q_whose (vs_x σ) v)
section MORE2
variable {G : mm_G} {d : Nat} {I : Nat → Nat → Int32} {P : Nat → Nat → Nat} {J : Nat → Nat → Int64} {S : List (Nat × Nat)} {nc ns : Nat} {μ : mm_M} {σ : vb_St} {L : Nat}
theorem vb_below_ep {ℓ : vb_L} {own foe ev : Int32} (hn : vb_n ℓ ≤ 10) : vb_below 10 (vb_ep ℓ own foe ev) := vb_below_mono (vb_set_below (by omega) _) hn
theorem vb_below_hang {ℓ : vb_L} {x : vb_X} {v : Nat} (hn : vb_n ℓ ≤ 10) : vb_below 10 (q_hang ℓ x v) := by
  simp only [q_hang]
  split
  · intro w hw; rw [vb_has_0] at hw; cases hw
  · exact vb_below_and (vb_below_ep hn)
theorem v_safe (hV : vb_isV P S L) (dV : vb_VD σ L I) (hd : 20 ≤ d) (v : Int32) : mm_C G d 112 [.ref 0, .int v] (I, P, J, S, nc, ns) (vb_RV (sp_safe σ v) (fun I' => vb_fr (vb_vs L) I I') P J S nc ns) := by
  have hL := vV_hL hV
  have hX := vV_hX hV
  have hY := vV_hY hV
  have hA := vV_hA hV
  have hT := vV_hT hV
  have hC := vV_hC hV
  have hL17 := vV_L17 hV
  have hF : vb_fr (vb_vs L) I I := vb_fr.rf
  have dL := vd_l dV
  have dX := vd_x dV
  have dA := vd_a dV
  have dT := vd_t dV
  have hn := vl_10 dL
  have he := vx_e2 dX
  have ht := vx_t2 (vs_x σ)
  cases hv : vb_idx (vb_n (vs_l σ)) v with
  | none =>
    rw [show sp_safe σ v = .inr 0 by simp only [sp_safe, hv]]
    show mm_W _ _ 112 (mm_blk 112 0) [.ref 0, .int v, .null, .null, .null, .null, .null, .null] [] _ _
    refine mm_w1 rfl ?_
    refine mm_w1 rfl ?_
    refine mm_wcthr (vb_cv (vV_S0 hV) rfl rfl rfl rfl) (by decide) (by omega) (c_needV_no hV dV hv) rfl ?_
    exact ⟨I, hF, rfl⟩ 
  | some v_ =>
    obtain ⟨lv, rfl⟩ := vb_idx_some (by omega) hv
    rw [show sp_safe σ (vb_i v_) = .inl (q_safe (vs_l σ) (vs_x σ) v_) by simp only [sp_safe, hv]]
    have hin := vx_in2 (vx_s (vs_x σ)) v_
    have loop : ¬ vx_in (vx_s (vs_x σ)) v_ = 2 → ∀ i, i ≤ vb_n (vs_l σ) → ∀ (I1 : Nat → Nat → Int32) (y6 y7 : Value), y6.category = 1 → vb_fr (vb_vs L) I I1 → mm_W G d 112 (mm_blk 112 33) [.ref 0, .int (vb_i v_), .int (vb_i (vx_in (vx_s (vs_x σ)) v_)), .int (q_tgt (vs_l σ) (vs_x σ) v_), .int (vb_set i (fun to => vb_has (q_tgt (vs_l σ) (vs_x σ) v_) to && (vb_tk (vs_l σ) (vb_mvd (vx_s (vs_x σ) (vx_in (vx_s (vs_x σ)) v_)) v_ to) (vx_s (vs_x σ) (1 - vx_in (vx_s (vs_x σ)) v_) &&& ~~~ vb_bit to) to (vb_i (vx_e (vs_x σ) + 1)) == 0))), .int (vb_i i), y6, y7] [] (I1, P, J, S, nc, ns) (vb_RV (.inl (q_safe (vs_l σ) (vs_x σ) v_)) (fun I' => vb_fr (vb_vs L) I I') P J S nc ns) := by
      intro hne
      refine vb_down (vb_n (vs_l σ)) ?_
      intro i hi ih I1 y6 y7 h6 hF1
      have dV1 := dV.fr hL17 hF1
      have dL1 := vd_l dV1
      have dX1 := vd_x dV1
      refine mm_w1 rfl ?_
      refine mm_w1 rfl ?_
      refine mm_wgr (vV_S0 hV) (by decide) (by decide) (vV_P0_5 hV) (vL_a0 hL) ?_
      refine mm_wgiv _ (vL_S0 hL) (by decide) (by decide) (vl_n dL1) ?_
      refine mm_nicge (by omega) (by omega) ?_ ?_
      · intro h42
        refine mm_w1 rfl ?_
        refine mm_wr rfl rfl rfl ?_
        refine ⟨_, hF1, ?_⟩
        rw [q_safe, if_neg hne, show i = vb_n (vs_l σ) by omega]
      · intro h42
        refine mm_w1 rfl ?_
        refine mm_w1 rfl ?_
        refine mm_csp rfl (by decide) (by omega) (c_has (by omega)) ?_
        refine mm_bifeq ?_ ?_
        · intro h51
          refine mm_nincL (ls' := [_, _, _, _, _, _, _, _]) 1 rfl (by decide) rfl ?_
          refine mm_wgoto ?_
          have ih := fun a b c => ih (by omega) _ a b c hF1
          simp only [vb_set, h51, Bool.false_and, Bool.true_and, Bool.false_eq_true, if_false] at ih
          first
            | exact ih _ _ (by first | rfl | exact h6)
            | (simp only [vb_neb h118, Bool.false_eq_true, if_false] at ih; exact ih _ _ rfl)
            | (simp only [vb_eqb h118, if_true] at ih; exact ih _ _ rfl)
        · intro h51
          refine mm_w1 rfl ?_
          refine mm_wgr (vV_S0 hV) (by decide) (by decide) (vV_P0_6 hV) (vX_a0 hX) ?_
          refine mm_wgr (vX_S0 hX) (by decide) (by decide) (vX_P0_0 hX) (vX_a1 hX) ?_
          refine mm_w1 rfl ?_
          refine mm_wiav _ (vX_a1 hX) (vX_S1 hX) (by decide) (by omega) (vx_hs dX1 (by omega)) ?_
          refine mm_wv (vb_i 1) rfl (by decide) ?_
          refine mm_w1 rfl ?_
          refine mm_nbit (by omega) ?_
          refine mm_wv (-1) rfl (by decide) ?_
          refine mm_nnot ?_
          refine mm_w1 rfl ?_
          refine mm_wv (vb_i 1) rfl (by decide) ?_
          refine mm_w1 rfl ?_
          refine mm_nbit (by omega) ?_
          refine mm_w1 rfl ?_
          refine mm_w1 (ls' := [_, _, _, _, _, _, _, _]) rfl ?_
          refine mm_w1 rfl ?_
          refine mm_wgr (vV_S0 hV) (by decide) (by decide) (vV_P0_6 hV) (vX_a0 hX) ?_
          refine mm_wgr (vX_S0 hX) (by decide) (by decide) (vX_P0_0 hX) (vX_a1 hX) ?_
          refine mm_wv (vb_i 1) rfl (by decide) ?_
          refine mm_w1 rfl ?_
          refine mm_nsub (by omega) ?_
          refine mm_wiav _ (vX_a1 hX) (vX_S1 hX) (by decide) (by omega) (vx_hs dX1 (by omega)) ?_
          refine mm_wv (vb_i 1) rfl (by decide) ?_
          refine mm_w1 rfl ?_
          refine mm_nbit (by omega) ?_
          refine mm_wv (-1) rfl (by decide) ?_
          refine mm_nnot ?_
          refine mm_w1 rfl ?_
          refine mm_w1 (ls' := [_, _, _, _, _, _, _, _]) rfl ?_
          refine mm_w1 rfl ?_
          refine mm_wgr (vV_S0 hV) (by decide) (by decide) (vV_P0_5 hV) (vL_a0 hL) ?_
          refine mm_w1 rfl ?_
          refine mm_w1 rfl ?_
          refine mm_w1 rfl ?_
          refine mm_w1 rfl ?_
          refine mm_wgr (vV_S0 hV) (by decide) (by decide) (vV_P0_6 hV) (vX_a0 hX) ?_
          refine mm_wgiv _ (vX_S0 hX) (by decide) (by decide) (vx_he dX1) ?_
          refine mm_wv (vb_i 1) rfl (by decide) ?_
          refine mm_nadd ?_
          refine mm_cvi (vb_cv (vL_S0 hL) rfl rfl rfl rfl) (by decide) (by omega) (c_takers (ℓ := vs_l σ) (own := vb_mvd (vx_s (vs_x σ) (vx_in (vx_s (vs_x σ)) v_)) v_ i) hL dL1 (by omega) (by omega)) ?_
          intro I2 hf2
          have hF2 : vb_fr (vb_vs L) I I2 := hF1.tr (hf2.mono (fun a h => by exact Or.inl (Or.inr h)))
          have dV2 := dV.fr hL17 hF2
          have dL2 := vd_l dV2
          have dX2 := vd_x dV2
          refine mm_wifne ?_ ?_
          · intro h118
            refine mm_nincL (ls' := [_, _, _, _, _, _, _, _]) 1 rfl (by decide) rfl ?_
            refine mm_wgoto ?_
            have ih := fun a b c => ih (by omega) _ a b c hF2
            simp only [vb_set, h51, Bool.false_and, Bool.true_and, Bool.false_eq_true, if_false] at ih
            first
              | exact ih _ _ (by first | rfl | exact h6)
              | (simp only [vb_neb h118, Bool.false_eq_true, if_false] at ih; exact ih _ _ rfl)
              | (simp only [vb_eqb h118, if_true] at ih; exact ih _ _ rfl)
          · intro h118
            refine mm_w1 rfl ?_
            refine mm_wv (vb_i 1) rfl (by decide) ?_
            refine mm_w1 rfl ?_
            refine mm_nbit (by omega) ?_
            refine mm_w1 rfl ?_
            refine mm_w1 (ls' := [_, _, _, _, _, _, _, _]) rfl ?_
            refine mm_nincL (ls' := [_, _, _, _, _, _, _, _]) 1 rfl (by decide) rfl ?_
            refine mm_wgoto ?_
            have ih := fun a b c => ih (by omega) _ a b c hF2
            simp only [vb_set, h51, Bool.false_and, Bool.true_and, Bool.false_eq_true, if_false] at ih
            first
              | exact ih _ _ (by first | rfl | exact h6)
              | (simp only [vb_neb h118, Bool.false_eq_true, if_false] at ih; exact ih _ _ rfl)
              | (simp only [vb_eqb h118, if_true] at ih; exact ih _ _ rfl)
    show mm_W _ _ 112 (mm_blk 112 0) [.ref 0, .int (vb_i v_), .null, .null, .null, .null, .null, .null] [] _ _
    refine mm_w1 rfl ?_
    refine mm_w1 rfl ?_
    refine mm_cvp0 (vb_cv (vV_S0 hV) rfl rfl rfl rfl) (by decide) (by omega) (c_needV hV dV (by omega)) ?_
    refine mm_w1 rfl ?_
    refine mm_wgr (vV_S0 hV) (by decide) (by decide) (vV_P0_6 hV) (vX_a0 hX) ?_
    refine mm_w1 rfl ?_
    refine mm_cvp (vb_cv (vX_S0 hX) rfl rfl rfl rfl) (by decide) (by omega) (c_stoneIn hX dX (by omega) (by omega)) ?_
    refine mm_w1 (ls' := [_, _, _, _, _, _, _, _]) rfl ?_
    refine mm_w1 rfl ?_
    refine mm_wv (vb_i 2) rfl (by decide) ?_
    refine mm_nicne (by omega) (by omega) ?_ ?_
    · intro h16
      refine mm_w1 rfl ?_
      refine mm_w1 rfl ?_
      refine mm_cvi (vb_cv (vV_S0 hV) rfl rfl rfl rfl) (by decide) (by omega) (c_tgt (σ := σ) hV dV (by omega) (by omega)) ?_
      intro I1 hf1
      have hF1 : vb_fr (vb_vs L) I I1 := hF.tr (hf1.mono (fun a h => by exact h))
      have dV1 := dV.fr hL17 hF1
      have dL1 := vd_l dV1
      have dX1 := vd_x dV1
      refine mm_w1 (ls' := [_, _, _, _, _, _, _, _]) rfl ?_
      refine mm_wv (vb_i 0) rfl (by decide) ?_
      refine mm_w1 (ls' := [_, _, _, _, _, _, _, _]) rfl ?_
      refine mm_wv (vb_i 0) rfl (by decide) ?_
      refine mm_w1 (ls' := [_, _, _, _, _, _, _, _]) rfl ?_
      exact loop h16 0 (by omega) _ _ _ rfl hF1
    · intro h16
      refine mm_wv (vb_i 0) rfl (by decide) ?_
      refine mm_wr rfl rfl rfl ?_
      refine ⟨_, hF, ?_⟩
      rw [q_safe, if_pos h16]; rfl
theorem v_reach (hV : vb_isV P S L) (dV : vb_VD σ L I) (hd : 20 ≤ d) (v : Int32) : mm_C G d 113 [.ref 0, .int v] (I, P, J, S, nc, ns) (vb_RV (sp_reach σ v) (fun I' => vb_fr (vb_vs L) I I') P J S nc ns) := by
  have hL := vV_hL hV
  have hX := vV_hX hV
  have hY := vV_hY hV
  have hA := vV_hA hV
  have hT := vV_hT hV
  have hC := vV_hC hV
  have hL17 := vV_L17 hV
  have hF : vb_fr (vb_vs L) I I := vb_fr.rf
  have dL := vd_l dV
  have dX := vd_x dV
  have dA := vd_a dV
  have dT := vd_t dV
  have hn := vl_10 dL
  have he := vx_e2 dX
  have ht := vx_t2 (vs_x σ)
  cases hv : vb_idx (vb_n (vs_l σ)) v with
  | none =>
    rw [show sp_reach σ v = .inr 0 by simp only [sp_reach, hv]]
    show mm_W _ _ 113 (mm_blk 113 0) [.ref 0, .int v] [] _ _
    refine mm_w1 rfl ?_
    refine mm_w1 rfl ?_
    refine mm_wcthr (vb_cv (vV_S0 hV) rfl rfl rfl rfl) (by decide) (by omega) (c_needV_no hV dV hv) rfl ?_
    exact ⟨I, hF, rfl⟩ 
  | some v_ =>
    obtain ⟨lv, rfl⟩ := vb_idx_some (by omega) hv
    rw [show sp_reach σ (vb_i v_) = .inl (q_reach (vs_l σ) (vs_x σ) v_) by simp only [sp_reach, hv]]
    have hin := vx_in2 (vx_s (vs_x σ)) v_
    show mm_W _ _ 113 (mm_blk 113 0) [.ref 0, .int (vb_i v_)] [] _ _
    refine mm_w1 rfl ?_
    refine mm_w1 rfl ?_
    refine mm_cvp0 (vb_cv (vV_S0 hV) rfl rfl rfl rfl) (by decide) (by omega) (c_needV hV dV (by omega)) ?_
    refine mm_w1 rfl ?_
    refine mm_wgr (vV_S0 hV) (by decide) (by decide) (vV_P0_6 hV) (vX_a0 hX) ?_
    refine mm_w1 rfl ?_
    refine mm_cvp (vb_cv (vX_S0 hX) rfl rfl rfl rfl) (by decide) (by omega) (c_stoneIn hX dX (by omega) (by omega)) ?_
    refine mm_wv (vb_i 2) rfl (by decide) ?_
    refine mm_nicne (by omega) (by omega) ?_ ?_
    · intro h14
      refine mm_w1 rfl ?_
      refine mm_wgr (vV_S0 hV) (by decide) (by decide) (vV_P0_5 hV) (vL_a0 hL) ?_
      refine mm_w1 rfl ?_
      refine mm_wgr (vV_S0 hV) (by decide) (by decide) (vV_P0_5 hV) (vL_a0 hL) ?_
      refine mm_w1 rfl ?_
      refine mm_wgr (vV_S0 hV) (by decide) (by decide) (vV_P0_6 hV) (vX_a0 hX) ?_
      refine mm_cvp (vb_cv (vX_S0 hX) rfl rfl rfl rfl) (by decide) (by omega) (c_all hX dX) ?_
      refine mm_cvp (vb_cv (vL_S0 hL) rfl rfl rfl rfl) (by decide) (by omega) (c_without hL dL) ?_
      refine mm_wv (vb_i 1) rfl (by decide) ?_
      refine mm_w1 rfl ?_
      refine mm_nbit (by omega) ?_
      refine mm_cvp (vb_cv (vL_S0 hL) rfl rfl rfl rfl) (by decide) (by omega) (c_reached hL dL (by omega)) ?_
      refine mm_wv (vb_i 1) rfl (by decide) ?_
      refine mm_w1 rfl ?_
      refine mm_nbit (by omega) ?_
      refine mm_wv (-1) rfl (by decide) ?_
      refine mm_nnot ?_
      refine mm_w1 rfl ?_
      refine mm_wr rfl rfl rfl ?_
      refine ⟨_, hF, ?_⟩
      rw [q_reach]
      first
        | (rw [if_pos h14]; rfl)
        | (rw [if_neg h14]; rfl)
    · intro h14
      refine mm_wv (vb_i 0) rfl (by decide) ?_
      refine mm_wr rfl rfl rfl ?_
      refine ⟨_, hF, ?_⟩
      rw [q_reach]
      first
        | (rw [if_pos h14]; rfl)
        | (rw [if_neg h14]; rfl)
theorem v_guard (hV : vb_isV P S L) (dV : vb_VD σ L I) (hd : 20 ≤ d) (v : Int32) : mm_C G d 114 [.ref 0, .int v] (I, P, J, S, nc, ns) (vb_RV (sp_guard σ v) (fun I' => vb_fr (vb_vs L) I I') P J S nc ns) := by
  have hL := vV_hL hV
  have hX := vV_hX hV
  have hY := vV_hY hV
  have hA := vV_hA hV
  have hT := vV_hT hV
  have hC := vV_hC hV
  have hL17 := vV_L17 hV
  have hF : vb_fr (vb_vs L) I I := vb_fr.rf
  have dL := vd_l dV
  have dX := vd_x dV
  have dA := vd_a dV
  have dT := vd_t dV
  have hn := vl_10 dL
  have he := vx_e2 dX
  have ht := vx_t2 (vs_x σ)
  cases hv : vb_idx (vb_n (vs_l σ)) v with
  | none =>
    rw [show sp_guard σ v = .inr 0 by simp only [sp_guard, hv]]
    show mm_W _ _ 114 (mm_blk 114 0) [.ref 0, .int v, .null, .null, .null, .null, .null, .null, .null] [] _ _
    refine mm_w1 rfl ?_
    refine mm_w1 rfl ?_
    refine mm_wcthr (vb_cv (vV_S0 hV) rfl rfl rfl rfl) (by decide) (by omega) (c_needV_no hV dV hv) rfl ?_
    exact ⟨I, hF, rfl⟩ 
  | some v_ =>
    obtain ⟨lv, rfl⟩ := vb_idx_some (by omega) hv
    rw [show sp_guard σ (vb_i v_) = .inl (q_guard (vs_l σ) (vs_x σ) v_) by simp only [sp_guard, hv]]
    have hin := vx_in2 (vx_s (vs_x σ)) v_
    have loop : ¬ vx_in (vx_s (vs_x σ)) v_ = 2 → ∀ i, i ≤ vb_n (vs_l σ) + 1 → ∀ (I1 : Nat → Nat → Int32) (y8 : Value) (g : Int32), vb_fr (vb_vs L) I I1 → q_gd (vs_l σ) (vx_s (vs_x σ) (vx_in (vx_s (vs_x σ)) v_)) (vx_s (vs_x σ) (1 - vx_in (vx_s (vs_x σ)) v_)) v_ (vb_i (vx_e (vs_x σ))) (vb_nb (vs_l σ) v_ &&& ~~~ (vx_s (vs_x σ) 0 ||| vx_s (vs_x σ) 1)) (vb_n (vs_l σ) + 1 - i) g = q_guard (vs_l σ) (vs_x σ) v_ → mm_W G d 114 (mm_blk 114 71) [.ref 0, .int (vb_i v_), .int (vb_i (vx_in (vx_s (vs_x σ)) v_)), .int (vx_s (vs_x σ) (vx_in (vx_s (vs_x σ)) v_)), .int (vx_s (vs_x σ) (1 - vx_in (vx_s (vs_x σ)) v_)), .int (vb_nb (vs_l σ) v_ &&& ~~~ (vx_s (vs_x σ) 0 ||| vx_s (vs_x σ) 1)), .int g, .int (vb_i i), y8] [] (I1, P, J, S, nc, ns) (vb_RV (.inl (q_guard (vs_l σ) (vs_x σ) v_)) (fun I' => vb_fr (vb_vs L) I I') P J S nc ns) := by
      intro hne
      refine vb_down (vb_n (vs_l σ) + 1) ?_
      intro i hi ih I1 y8 g hF1 hg
      have dV1 := dV.fr hL17 hF1
      have dL1 := vd_l dV1
      have dX1 := vd_x dV1
      refine mm_w1 rfl ?_
      refine mm_w1 rfl ?_
      refine mm_wgr (vV_S0 hV) (by decide) (by decide) (vV_P0_5 hV) (vL_a0 hL) ?_
      refine mm_wgiv _ (vL_S0 hL) (by decide) (by decide) (vl_n dL1) ?_
      refine mm_nicgt (by omega) (by omega) ?_ ?_
      · intro h80
        refine mm_wv (-1) rfl (by decide) ?_
        refine mm_wr rfl rfl rfl ?_
        refine ⟨_, hF1, ?_⟩
        rw [← hg, show vb_n (vs_l σ) + 1 - i = 0 by omega]; rfl
      · intro h80
        refine mm_w1 rfl ?_
        refine mm_wgr (vV_S0 hV) (by decide) (by decide) (vV_P0_5 hV) (vL_a0 hL) ?_
        refine mm_w1 rfl ?_
        refine mm_w1 rfl ?_
        refine mm_w1 rfl ?_
        refine mm_w1 rfl ?_
        refine mm_w1 rfl ?_
        refine mm_w1 rfl ?_
        refine mm_wgr (vV_S0 hV) (by decide) (by decide) (vV_P0_6 hV) (vX_a0 hX) ?_
        refine mm_wgiv _ (vX_S0 hX) (by decide) (by decide) (vx_he dX1) ?_
        refine mm_cvi (vb_cv (vL_S0 hL) rfl rfl rfl rfl) (by decide) (by omega) (c_takers (ℓ := vs_l σ) hL dL1 (by omega) (by omega)) ?_
        intro I2 hf2
        have hF2 : vb_fr (vb_vs L) I I2 := hF1.tr (hf2.mono (fun a h => by exact Or.inl (Or.inr h)))
        have dV2 := dV.fr hL17 hF2
        have dL2 := vd_l dV2
        have dX2 := vd_x dV2
        refine mm_wifne ?_ ?_
        · intro h104
          refine mm_w1 rfl ?_
          refine mm_w1 rfl ?_
          refine mm_wv (-1) rfl (by decide) ?_
          refine mm_nnot ?_
          refine mm_w1 rfl ?_
          refine mm_w1 (ls' := [_, _, _, _, _, _, _, _, _]) rfl ?_
          refine mm_w1 rfl ?_
          refine mm_w1 rfl ?_
          refine mm_w1 rfl ?_
          refine mm_w1 rfl ?_
          refine mm_w1 rfl ?_
          refine mm_w1 rfl ?_
          refine mm_w1 (ls' := [_, _, _, _, _, _, _, _, _]) rfl ?_
          refine mm_nincL (ls' := [_, _, _, _, _, _, _, _, _]) 1 rfl (by decide) rfl ?_
          refine mm_wgoto ?_
          refine ih (by omega) _ _ _ hF2 ?_
          rw [← hg, show vb_n (vs_l σ) + 1 - i = (vb_n (vs_l σ) + 1 - (i + 1)) + 1 by omega, q_gd, if_neg h104]
        · intro h104
          refine mm_w1 rfl ?_
          refine mm_wr rfl rfl rfl ?_
          refine ⟨_, hF2, ?_⟩
          rw [← hg, show vb_n (vs_l σ) + 1 - i = (vb_n (vs_l σ) + 1 - (i + 1)) + 1 by omega, q_gd, if_pos h104]
    show mm_W _ _ 114 (mm_blk 114 0) [.ref 0, .int (vb_i v_), .null, .null, .null, .null, .null, .null, .null] [] _ _
    refine mm_w1 rfl ?_
    refine mm_w1 rfl ?_
    refine mm_cvp0 (vb_cv (vV_S0 hV) rfl rfl rfl rfl) (by decide) (by omega) (c_needV hV dV (by omega)) ?_
    refine mm_w1 rfl ?_
    refine mm_wgr (vV_S0 hV) (by decide) (by decide) (vV_P0_6 hV) (vX_a0 hX) ?_
    refine mm_w1 rfl ?_
    refine mm_cvp (vb_cv (vX_S0 hX) rfl rfl rfl rfl) (by decide) (by omega) (c_stoneIn hX dX (by omega) (by omega)) ?_
    refine mm_w1 (ls' := [_, _, _, _, _, _, _, _, _]) rfl ?_
    refine mm_w1 rfl ?_
    refine mm_wv (vb_i 2) rfl (by decide) ?_
    refine mm_nicne (by omega) (by omega) ?_ ?_
    · intro h16
      refine mm_w1 rfl ?_
      refine mm_wgr (vV_S0 hV) (by decide) (by decide) (vV_P0_6 hV) (vX_a0 hX) ?_
      refine mm_wgr (vX_S0 hX) (by decide) (by decide) (vX_P0_0 hX) (vX_a1 hX) ?_
      refine mm_w1 rfl ?_
      refine mm_wiav _ (vX_a1 hX) (vX_S1 hX) (by decide) (by omega) (vx_hs dX (by omega)) ?_
      refine mm_w1 (ls' := [_, _, _, _, _, _, _, _, _]) rfl ?_
      refine mm_w1 rfl ?_
      refine mm_wgr (vV_S0 hV) (by decide) (by decide) (vV_P0_6 hV) (vX_a0 hX) ?_
      refine mm_wgr (vX_S0 hX) (by decide) (by decide) (vX_P0_0 hX) (vX_a1 hX) ?_
      refine mm_wv (vb_i 1) rfl (by decide) ?_
      refine mm_w1 rfl ?_
      refine mm_nsub (by omega) ?_
      refine mm_wiav _ (vX_a1 hX) (vX_S1 hX) (by decide) (by omega) (vx_hs dX (by omega)) ?_
      refine mm_w1 (ls' := [_, _, _, _, _, _, _, _, _]) rfl ?_
      refine mm_w1 rfl ?_
      refine mm_wgr (vV_S0 hV) (by decide) (by decide) (vV_P0_5 hV) (vL_a0 hL) ?_
      refine mm_wgr (vL_S0 hL) (by decide) (by decide) (vL_P0_6 hL) (vL_a3 hL) ?_
      refine mm_w1 rfl ?_
      refine mm_wiav _ (vL_a3 hL) (vL_S3 hL) (by decide) (by omega) (vl_nb dL (by omega)) ?_
      refine mm_w1 rfl ?_
      refine mm_wgr (vV_S0 hV) (by decide) (by decide) (vV_P0_6 hV) (vX_a0 hX) ?_
      refine mm_cvp (vb_cv (vX_S0 hX) rfl rfl rfl rfl) (by decide) (by omega) (c_all hX dX) ?_
      refine mm_wv (-1) rfl (by decide) ?_
      refine mm_nnot ?_
      refine mm_w1 rfl ?_
      refine mm_w1 (ls' := [_, _, _, _, _, _, _, _, _]) rfl ?_
      refine mm_wv (vb_i 0) rfl (by decide) ?_
      refine mm_w1 (ls' := [_, _, _, _, _, _, _, _, _]) rfl ?_
      refine mm_wv (vb_i 0) rfl (by decide) ?_
      refine mm_w1 (ls' := [_, _, _, _, _, _, _, _, _]) rfl ?_
      refine loop h16 0 (by omega) _ _ _ hF ?_
      rw [q_guard, if_neg h16]; rfl
    · intro h16
      refine mm_wv (-1) rfl (by decide) ?_
      refine mm_wr rfl rfl rfl ?_
      refine ⟨_, hF, ?_⟩
      rw [q_guard, if_pos h16]
theorem v_key (hV : vb_isV P S L) (dV : vb_VD σ L I) (hd : 20 ≤ d) (s : Int32) : mm_C G d 115 [.ref 0, .int s] (I, P, J, S, nc, ns) (vb_RV (sp_key σ s) (fun I' => vb_fr (vb_vs L) I I') P J S nc ns) := by
  have hL := vV_hL hV
  have hX := vV_hX hV
  have hY := vV_hY hV
  have hA := vV_hA hV
  have hT := vV_hT hV
  have hC := vV_hC hV
  have hL17 := vV_L17 hV
  have hF : vb_fr (vb_vs L) I I := vb_fr.rf
  have dL := vd_l dV
  have dX := vd_x dV
  have dA := vd_a dV
  have dT := vd_t dV
  have hn := vl_10 dL
  have he := vx_e2 dX
  have ht := vx_t2 (vs_x σ)
  cases hs : vb_idx 2 s with
  | none =>
    rw [show sp_key σ s = .inr 0 by simp only [sp_key, hs]]
    show mm_W _ _ 115 (mm_blk 115 0) [.ref 0, .int s, .null, .null, .null, .null] [] _ _
    refine mm_w1 rfl ?_
    refine mm_w1 rfl ?_
    refine mm_wcthr (vb_cv (vV_S0 hV) rfl rfl rfl rfl) (by decide) (by omega) (c_needS_no hV hs) rfl ?_
    exact ⟨I, hF, rfl⟩ 
  | some s_ =>
    obtain ⟨ls, rfl⟩ := vb_idx_some (by omega) hs
    rw [show sp_key σ (vb_i s_) = .inl (q_nx (q_hc (vs_l σ) (vs_x σ) s_) (vb_n (vs_l σ))).1 by simp only [sp_key, hs]]
    have hu : ∀ k, (q_hc (vs_l σ) (vs_x σ) s_) k ≤ 10 := fun k => by simp only [q_hc]; split; exact vb_cnt_le _ _; omega
    have hm : ∀ k, (q_nx (q_hc (vs_l σ) (vs_x σ) s_) k).2 ≤ 10 := fun k => by
      induction k with
      | zero => exact Nat.zero_le _
      | succ k ih => simp only [q_nx]; split; exact hu k; exact ih
    have loop : ∀ i, i ≤ vb_n (vs_l σ) → ∀ (I1 : Nat → Nat → Int32) (y5 : Value), vb_fr (vb_vs L) I I1 → mm_W G d 115 (mm_blk 115 12) [.ref 0, .int (vb_i s_), .int (q_nx (q_hc (vs_l σ) (vs_x σ) s_) i).1, .int (vb_i (q_nx (q_hc (vs_l σ) (vs_x σ) s_) i).2), .int (vb_i i), y5] [] (I1, P, J, S, nc, ns) (vb_RV (.inl (q_nx (q_hc (vs_l σ) (vs_x σ) s_) (vb_n (vs_l σ))).1) (fun I' => vb_fr (vb_vs L) I I') P J S nc ns) := by
      refine vb_down (vb_n (vs_l σ)) ?_
      intro i hi ih I1 y5 hF1
      have dV1 := dV.fr hL17 hF1
      have dL1 := vd_l dV1
      have dX1 := vd_x dV1
      have hm1 := hm i
      have hu1 := hu i
      have hst : q_nx (q_hc (vs_l σ) (vs_x σ) s_) (i + 1) = if (q_nx (q_hc (vs_l σ) (vs_x σ) s_) i).2 < (q_hc (vs_l σ) (vs_x σ) s_) i then (vb_i i, (q_hc (vs_l σ) (vs_x σ) s_) i) else q_nx (q_hc (vs_l σ) (vs_x σ) s_) i := rfl
      refine mm_w1 rfl ?_
      refine mm_w1 rfl ?_
      refine mm_wgr (vV_S0 hV) (by decide) (by decide) (vV_P0_5 hV) (vL_a0 hL) ?_
      refine mm_wgiv _ (vL_S0 hL) (by decide) (by decide) (vl_n dL1) ?_
      refine mm_nicge (by omega) (by omega) ?_ ?_
      · intro h21
        refine mm_w1 rfl ?_
        refine mm_wr rfl rfl rfl ?_
        refine ⟨_, hF1, ?_⟩
        rw [show i = vb_n (vs_l σ) by omega]
      · intro h21
        refine mm_w1 rfl ?_
        refine mm_wgr (vV_S0 hV) (by decide) (by decide) (vV_P0_6 hV) (vX_a0 hX) ?_
        refine mm_wgr (vX_S0 hX) (by decide) (by decide) (vX_P0_0 hX) (vX_a1 hX) ?_
        refine mm_w1 rfl ?_
        refine mm_wiav _ (vX_a1 hX) (vX_S1 hX) (by decide) (by omega) (vx_hs dX1 (by omega)) ?_
        refine mm_w1 rfl ?_
        refine mm_csp rfl (by decide) (by omega) (c_has (by omega)) ?_
        refine mm_bifeq ?_ ?_
        · intro h38
          refine mm_wv (vb_i 0) rfl (by decide) ?_
          have hv : (q_hc (vs_l σ) (vs_x σ) s_) i = 0 := by rw [q_hc, h38]; rfl
          rw [hv] at hst hu1
          refine mm_w1 (ls' := [_, _, _, _, _, _]) rfl ?_ 
          refine mm_w1 rfl ?_
          refine mm_w1 rfl ?_
          refine mm_nicle (by omega) (by omega) ?_ ?_
          · intro h59
            refine mm_nincL (ls' := [_, _, _, _, _, _]) 1 rfl (by decide) rfl ?_
            refine mm_wgoto ?_
            have ih := fun y => ih (by omega) _ y hF1
            rw [hst] at ih
            first
              | (rw [if_pos h59] at ih; exact ih _)
              | (rw [if_neg h59] at ih; exact ih _)
          · intro h59
            refine mm_w1 rfl ?_
            refine mm_w1 (ls' := [_, _, _, _, _, _]) rfl ?_
            refine mm_w1 rfl ?_
            refine mm_w1 (ls' := [_, _, _, _, _, _]) rfl ?_
            refine mm_nincL (ls' := [_, _, _, _, _, _]) 1 rfl (by decide) rfl ?_
            refine mm_wgoto ?_
            have ih := fun y => ih (by omega) _ y hF1
            rw [hst] at ih
            first
              | (rw [if_pos h59] at ih; exact ih _)
              | (rw [if_neg h59] at ih; exact ih _)
        · intro h38
          refine mm_w1 rfl ?_
          refine mm_w1 rfl ?_
          refine mm_cvi (vb_cv (vV_S0 hV) rfl rfl rfl rfl) (by decide) (by omega) (c_hang (σ := σ) hV dV1 (by omega) (by omega)) ?_
          intro I2 hf2
          have hF2 : vb_fr (vb_vs L) I I2 := hF1.tr (hf2.mono (fun a h => by exact h))
          have dV2 := dV.fr hL17 hF2
          have dL2 := vd_l dV2
          have dX2 := vd_x dV2
          refine mm_csp rfl (by decide) (by omega) (c_bc (vb_below_hang hn)) ?_
          refine mm_wgoto ?_
          have hv : (q_hc (vs_l σ) (vs_x σ) s_) i = vb_cnt 10 (vb_has (q_hang (vs_l σ) (vs_x σ) i)) := by rw [q_hc, h38]; rfl
          rw [hv] at hst hu1
          refine mm_w1 (ls' := [_, _, _, _, _, _]) rfl ?_ 
          refine mm_w1 rfl ?_
          refine mm_w1 rfl ?_
          refine mm_nicle (by omega) (by omega) ?_ ?_
          · intro h59
            refine mm_nincL (ls' := [_, _, _, _, _, _]) 1 rfl (by decide) rfl ?_
            refine mm_wgoto ?_
            have ih := fun y => ih (by omega) _ y hF2
            rw [hst] at ih
            first
              | (rw [if_pos h59] at ih; exact ih _)
              | (rw [if_neg h59] at ih; exact ih _)
          · intro h59
            refine mm_w1 rfl ?_
            refine mm_w1 (ls' := [_, _, _, _, _, _]) rfl ?_
            refine mm_w1 rfl ?_
            refine mm_w1 (ls' := [_, _, _, _, _, _]) rfl ?_
            refine mm_nincL (ls' := [_, _, _, _, _, _]) 1 rfl (by decide) rfl ?_
            refine mm_wgoto ?_
            have ih := fun y => ih (by omega) _ y hF2
            rw [hst] at ih
            first
              | (rw [if_pos h59] at ih; exact ih _)
              | (rw [if_neg h59] at ih; exact ih _)
    show mm_W _ _ 115 (mm_blk 115 0) [.ref 0, .int (vb_i s_), .null, .null, .null, .null] [] _ _
    refine mm_w1 rfl ?_
    refine mm_w1 rfl ?_
    refine mm_cvp0 (vb_cv (vV_S0 hV) rfl rfl rfl rfl) (by decide) (by omega) (c_needS hV (by omega)) ?_
    refine mm_wv (-1) rfl (by decide) ?_
    refine mm_w1 (ls' := [_, _, _, _, _, _]) rfl ?_
    refine mm_wv (vb_i 0) rfl (by decide) ?_
    refine mm_w1 (ls' := [_, _, _, _, _, _]) rfl ?_
    refine mm_wv (vb_i 0) rfl (by decide) ?_
    refine mm_w1 (ls' := [_, _, _, _, _, _]) rfl ?_
    exact loop 0 (by omega) _ _ hF
theorem c_fk (hV : vb_isV P S L) (dV : vb_VD σ L I) {s m : Nat} (hs : s < 2) (hm : m < 100) (hd : 6 ≤ d) : mm_C G d 117 [.ref 0, .int (vb_i s), .int (vb_i (100 * (m / 10) + m % 10))] (I, P, J, S, nc, ns) (vb_R (some (.int (q_fk (vs_l σ) (vs_x σ) s m))) (fun I' => vb_fr (vb_sc2 L) I I') P J S nc ns) := by
  have hL := vV_hL hV
  have hX := vV_hX hV
  have hY := vV_hY hV
  have hA := vV_hA hV
  have hT := vV_hT hV
  have hC := vV_hC hV
  have hL17 := vV_L17 hV
  have hF : vb_fr (vb_vs L) I I := vb_fr.rf
  have dL := vd_l dV
  have dX := vd_x dV
  have dA := vd_a dV
  have dT := vd_t dV
  have hn := vl_10 dL
  have he := vx_e2 dX
  have ht := vx_t2 (vs_x σ)
  obtain ⟨e1, e2⟩ := vb_m100 (a := m / 10) (b := m % 10) (by omega)
  show mm_W _ _ 117 (mm_blk 117 0) [.ref 0, .int (vb_i s), .int (vb_i (100 * (m / 10) + m % 10)), .null, .null, .null] [] _ _
  refine mm_wv (vb_i 1) rfl (by decide) ?_
  refine mm_w1 rfl ?_
  refine mm_wv (vb_i 100) rfl (by decide) ?_
  refine mm_nrem (by omega) (by omega) (by omega) ?_
  rw [e2] 
  refine mm_nbit (by omega) ?_
  refine mm_w1 (ls' := [_, _, _, _, _, _]) rfl ?_
  refine mm_w1 rfl ?_
  refine mm_wgr (vV_S0 hV) (by decide) (by decide) (vV_P0_6 hV) (vX_a0 hX) ?_
  refine mm_wgr (vX_S0 hX) (by decide) (by decide) (vX_P0_0 hX) (vX_a1 hX) ?_
  refine mm_w1 rfl ?_
  refine mm_wiav _ (vX_a1 hX) (vX_S1 hX) (by decide) (by omega) (vx_hs dX (by omega)) ?_
  refine mm_wv (vb_i 1) rfl (by decide) ?_
  refine mm_w1 rfl ?_
  refine mm_wv (vb_i 100) rfl (by decide) ?_
  refine mm_ndiv (by omega) (by omega) (by omega) ?_
  rw [e1] 
  refine mm_nbit (by omega) ?_
  refine mm_wv (-1) rfl (by decide) ?_
  refine mm_nnot ?_
  refine mm_w1 rfl ?_
  refine mm_w1 rfl ?_
  refine mm_w1 rfl ?_
  refine mm_w1 (ls' := [_, _, _, _, _, _]) rfl ?_
  refine mm_w1 rfl ?_
  refine mm_wgr (vV_S0 hV) (by decide) (by decide) (vV_P0_6 hV) (vX_a0 hX) ?_
  refine mm_wgr (vX_S0 hX) (by decide) (by decide) (vX_P0_0 hX) (vX_a1 hX) ?_
  refine mm_wv (vb_i 1) rfl (by decide) ?_
  refine mm_w1 rfl ?_
  refine mm_nsub (by omega) ?_
  refine mm_wiav _ (vX_a1 hX) (vX_S1 hX) (by decide) (by omega) (vx_hs dX (by omega)) ?_
  refine mm_w1 rfl ?_
  refine mm_wv (-1) rfl (by decide) ?_
  refine mm_nnot ?_
  refine mm_w1 rfl ?_
  refine mm_w1 (ls' := [_, _, _, _, _, _]) rfl ?_
  refine mm_w1 rfl ?_
  refine mm_wgr (vV_S0 hV) (by decide) (by decide) (vV_P0_5 hV) (vL_a0 hL) ?_
  refine mm_w1 rfl ?_
  refine mm_w1 rfl ?_
  refine mm_w1 rfl ?_
  refine mm_wgr (vV_S0 hV) (by decide) (by decide) (vV_P0_6 hV) (vX_a0 hX) ?_
  refine mm_wgiv _ (vX_S0 hX) (by decide) (by decide) (vx_he dX) ?_
  refine mm_wv (vb_i 1) rfl (by decide) ?_
  refine mm_nadd ?_
  refine mm_cvi (vb_cv (vL_S0 hL) rfl rfl rfl rfl) (by decide) (by omega) (c_enPrise (ℓ := vs_l σ) (foe := vb_mvd (vx_s (vs_x σ) s) (m / 10) (m % 10)) hL dL (by omega)) ?_
  intro I1 hf1
  have hF1 : vb_fr (vb_vs L) I I1 := hF.tr (hf1.mono (fun a h => by exact Or.inl (Or.inr h)))
  have dV1 := dV.fr hL17 hF1
  have dL1 := vd_l dV1
  have dX1 := vd_x dV1
  refine mm_csp rfl (by decide) (by omega) (c_bc (vb_below_ep hn)) ?_
  refine mm_wr rfl rfl rfl ?_
  exact ⟨_, hf1, rfl⟩
theorem v_fork (hV : vb_isV P S L) (dV : vb_VD σ L I) (hd : 20 ≤ d) : mm_C G d 116 [.ref 0] (I, P, J, S, nc, ns) (vb_RV (sp_fork σ) (fun I' => vb_fr (vb_vs L) I I') P J S nc ns) := by
  have hL := vV_hL hV
  have hX := vV_hX hV
  have hY := vV_hY hV
  have hA := vV_hA hV
  have hT := vV_hT hV
  have hC := vV_hC hV
  have hL17 := vV_L17 hV
  have hF : vb_fr (vb_vs L) I I := vb_fr.rf
  have dL := vd_l dV
  have dX := vd_x dV
  have dA := vd_a dV
  have dT := vd_t dV
  have hn := vl_10 dL
  have he := vx_e2 dX
  have ht := vx_t2 (vs_x σ)
  have hlen : (vx_ms (vs_l σ) (vs_x σ)).length ≤ 36 := vb_ms_len hn (vl_deg dL)
  have loop := vb_down (p := fun i => ∀ (I1 : Nat → Nat → Int32) (y6 : Value) (b : Nat × Int32), vb_fr (vb_vs L) I I1 → (∀ j z, (vx_ms (vs_l σ) (vs_x σ))[j]? = some z → I1 (L + 5) j = vb_i (vb_mv z)) → (vx_pick (q_fk (vs_l σ) (vs_x σ) (vx_tn (vs_x σ))) ((vx_ms (vs_l σ) (vs_x σ)).drop i) b).1 = q_fork (vs_l σ) (vs_x σ) → mm_W G d 116 (mm_blk 116 51) [.ref 0, .int (vb_i (vx_tn (vs_x σ))), .int (vb_told b.1), .int b.2, .int (vb_i (vx_ms (vs_l σ) (vs_x σ)).length), .int (vb_i i), y6] [] (I1, P, J, S, nc, ns) (vb_RV (sp_fork σ) (fun I' => vb_fr (vb_vs L) I I') P J S nc ns)) (vx_ms (vs_l σ) (vs_x σ)).length (by
    intro i hi ih I1 y6 b hF1 hmv heq
    have dV1 := dV.fr hL17 hF1
    have dL1 := vd_l dV1
    have dX1 := vd_x dV1
    refine mm_w1 rfl ?_
    refine mm_w1 rfl ?_
    refine mm_nicge (by omega) (by omega) ?_ ?_
    · intro h55
      refine mm_w1 rfl ?_
      refine mm_wr rfl rfl rfl ?_
      rw [List.drop_eq_nil_of_le (by omega)] at heq
      refine ⟨_, hF1, ?_⟩
      rw [← heq]; rfl
    · intro h55
      have hz : (vx_ms (vs_l σ) (vs_x σ))[i]? = some (vx_ms (vs_l σ) (vs_x σ))[i] := List.getElem?_eq_getElem h55
      obtain ⟨hz1, hz2, hz3⟩ := vb_ms_lt (List.getElem_mem h55)
      have hI5 : I1 (L + 5) i = vb_i (100 * ((vx_ms (vs_l σ) (vs_x σ))[i] / 10) + (vx_ms (vs_l σ) (vs_x σ))[i] % 10) := hmv i _ hz
      rw [List.drop_eq_getElem_cons h55, vx_pick, List.foldl_cons] at heq
      refine mm_w1 rfl ?_
      refine mm_w1 rfl ?_
      refine mm_w1 rfl ?_
      refine mm_wgr (vV_S0 hV) (by decide) (by decide) (vV_P0_5 hV) (vL_a0 hL) ?_
      refine mm_wgr (vL_S0 hL) (by decide) (by decide) (vL_P0_8 hL) (vL_a5 hL) ?_
      refine mm_w1 rfl ?_
      refine mm_wiav (vb_i (100 * ((vx_ms (vs_l σ) (vs_x σ))[i] / 10) + (vx_ms (vs_l σ) (vs_x σ))[i] % 10)) (vL_a5 hL) (vL_S5 hL) (by decide) (by omega) (by first | exact hI5 | (rw [h52]; exact hI5)) ?_
      refine mm_cvi (vb_cv (vV_S0 hV) rfl rfl rfl rfl) (by decide) (by omega) (c_fk (σ := σ) hV dV1 (by omega) hz1 (by omega)) ?_
      intro I2 hf2
      have h52 : I2 (L + 5) = I1 (L + 5) := hf2 _ (by simp only [vb_sc2]; omega)
      have hF2 : vb_fr (vb_vs L) I I2 := hF1.tr (hf2.mono (fun a h => by exact Or.inl (Or.inr h)))
      have dV2 := dV.fr hL17 hF2
      have dL2 := vd_l dV2
      have dX2 := vd_x dV2
      refine mm_w1 (ls' := [_, _, _, _, _, _, _]) rfl ?_
      refine mm_w1 rfl ?_
      refine mm_w1 rfl ?_
      refine mm_wicle ?_ ?_
      · intro h78
        refine mm_nincL (ls' := [_, _, _, _, _, _, _]) 1 rfl (by decide) rfl ?_
        refine mm_wgoto ?_
        have hmv2 : ∀ j z, (vx_ms (vs_l σ) (vs_x σ))[j]? = some z → I2 (L + 5) j = vb_i (vb_mv z) := fun j z hj => by rw [h52]; exact hmv j z hj
        first
          | (rw [if_pos h78] at heq
             have := ih (by omega) I2 (.int ((q_fk (vs_l σ) (vs_x σ) (vx_tn (vs_x σ))) (vx_ms (vs_l σ) (vs_x σ))[i])) ((vx_ms (vs_l σ) (vs_x σ))[i], (q_fk (vs_l σ) (vs_x σ) (vx_tn (vs_x σ))) (vx_ms (vs_l σ) (vs_x σ))[i]) hF2 hmv2 heq
             rw [vb_told_lt hz1] at this
             exact this)
          | (rw [if_neg h78] at heq
             exact ih (by omega) I2 _ b hF2 hmv2 heq)
      · intro h78
        refine mm_w1 rfl ?_
        refine mm_w1 (ls' := [_, _, _, _, _, _, _]) rfl ?_
        refine mm_w1 rfl ?_
        refine mm_wgr (vV_S0 hV) (by decide) (by decide) (vV_P0_5 hV) (vL_a0 hL) ?_
        refine mm_wgr (vL_S0 hL) (by decide) (by decide) (vL_P0_8 hL) (vL_a5 hL) ?_
        refine mm_w1 rfl ?_
        refine mm_wiav (vb_i (100 * ((vx_ms (vs_l σ) (vs_x σ))[i] / 10) + (vx_ms (vs_l σ) (vs_x σ))[i] % 10)) (vL_a5 hL) (vL_S5 hL) (by decide) (by omega) (by first | exact hI5 | (rw [h52]; exact hI5)) ?_
        refine mm_w1 (ls' := [_, _, _, _, _, _, _]) rfl ?_
        refine mm_nincL (ls' := [_, _, _, _, _, _, _]) 1 rfl (by decide) rfl ?_
        refine mm_wgoto ?_
        have hmv2 : ∀ j z, (vx_ms (vs_l σ) (vs_x σ))[j]? = some z → I2 (L + 5) j = vb_i (vb_mv z) := fun j z hj => by rw [h52]; exact hmv j z hj
        first
          | (rw [if_pos h78] at heq
             have := ih (by omega) I2 (.int ((q_fk (vs_l σ) (vs_x σ) (vx_tn (vs_x σ))) (vx_ms (vs_l σ) (vs_x σ))[i])) ((vx_ms (vs_l σ) (vs_x σ))[i], (q_fk (vs_l σ) (vs_x σ) (vx_tn (vs_x σ))) (vx_ms (vs_l σ) (vs_x σ))[i]) hF2 hmv2 heq
             rw [vb_told_lt hz1] at this
             exact this)
          | (rw [if_neg h78] at heq
             exact ih (by omega) I2 _ b hF2 hmv2 heq) 
    )
  show mm_W _ _ 116 (mm_blk 116 0) [.ref 0, .null, .null, .null, .null, .null, .null] [] _ _
  refine mm_w1 rfl ?_
  refine mm_wgr (vV_S0 hV) (by decide) (by decide) (vV_P0_6 hV) (vX_a0 hX) ?_
  refine mm_cvp (vb_cv (vX_S0 hX) rfl rfl rfl rfl) (by decide) (by omega) (c_turn hX dX) ?_
  refine mm_w1 (ls' := [_, _, _, _, _, _, _]) rfl ?_
  refine mm_wv (-1) rfl (by decide) ?_
  refine mm_w1 (ls' := [_, _, _, _, _, _, _]) rfl ?_
  refine mm_wv (vb_i 1) rfl (by decide) ?_
  refine mm_w1 (ls' := [_, _, _, _, _, _, _]) rfl ?_
  refine mm_w1 rfl ?_
  refine mm_wgr (vV_S0 hV) (by decide) (by decide) (vV_P0_5 hV) (vL_a0 hL) ?_
  refine mm_w1 rfl ?_
  refine mm_wgr (vV_S0 hV) (by decide) (by decide) (vV_P0_6 hV) (vX_a0 hX) ?_
  refine mm_wgr (vX_S0 hX) (by decide) (by decide) (vX_P0_0 hX) (vX_a1 hX) ?_
  refine mm_w1 rfl ?_
  refine mm_wiav _ (vX_a1 hX) (vX_S1 hX) (by decide) (by omega) (vx_hs dX (by omega)) ?_
  refine mm_w1 rfl ?_
  refine mm_wgr (vV_S0 hV) (by decide) (by decide) (vV_P0_6 hV) (vX_a0 hX) ?_
  refine mm_wgr (vX_S0 hX) (by decide) (by decide) (vX_P0_0 hX) (vX_a1 hX) ?_
  refine mm_wv (vb_i 1) rfl (by decide) ?_
  refine mm_w1 rfl ?_
  refine mm_nsub (by omega) ?_
  refine mm_wiav _ (vX_a1 hX) (vX_S1 hX) (by decide) (by omega) (vx_hs dX (by omega)) ?_
  refine mm_w1 rfl ?_
  refine mm_wgr (vV_S0 hV) (by decide) (by decide) (vV_P0_6 hV) (vX_a0 hX) ?_
  refine mm_wgiv _ (vX_S0 hX) (by decide) (by decide) (vx_he dX) ?_
  refine mm_cvi (vb_cv (vL_S0 hL) rfl rfl rfl rfl) (by decide) (by omega) (c_list (ℓ := vs_l σ) hL dL (by omega)) ?_
  intro I1 hq1
  obtain ⟨hf1, hm1⟩ := hq1
  have hF1 : vb_fr (vb_vs L) I I1 := hf1.mono (fun a h => Or.inl h) 
  refine mm_w1 (ls' := [_, _, _, _, _, _, _]) rfl ?_
  refine mm_wv (vb_i 0) rfl (by decide) ?_
  refine mm_w1 (ls' := [_, _, _, _, _, _, _]) rfl ?_
  exact loop 0 (by omega) I1 _ (100, vb_i 1) hF1 hm1 rfl
theorem v_regret (hV : vb_isV P S L) (dV : vb_VD σ L I) (hI : vs_inv σ) (hd : 20 ≤ d) (a b : Int32) : mm_C G d 118 [.ref 0, .int a, .int b] (I, P, J, S, nc, ns) (vb_RV (sp_regret σ a b) (fun I' => vb_fr (vb_vs L) I I') P J S nc ns) := by
  have hL := vV_hL hV
  have hX := vV_hX hV
  have hY := vV_hY hV
  have hA := vV_hA hV
  have hT := vV_hT hV
  have hC := vV_hC hV
  have hL17 := vV_L17 hV
  have hF : vb_fr (vb_vs L) I I := vb_fr.rf
  have dL := vd_l dV
  have dX := vd_x dV
  have dA := vd_a dV
  have dT := vd_t dV
  have hn := vl_10 dL
  have he := vx_e2 dX
  have ht := vx_t2 (vs_x σ)
  obtain ⟨hIl, hIx, _⟩ := hI
  obtain ⟨hok, hwf, he9⟩ := hIx
  cases ha : vb_idx (vb_n (vs_l σ)) a with
  | none =>
    rw [show sp_regret σ a b = .inr 0 by simp only [sp_regret, ha]]
    show mm_W _ _ 118 (mm_blk 118 0) [.ref 0, .int a, .int b, .null] [] _ _
    refine mm_w1 rfl ?_
    refine mm_w1 rfl ?_
    refine mm_wcthr (vb_cv (vV_S0 hV) rfl rfl rfl rfl) (by decide) (by omega) (c_needV_no hV dV ha) rfl ?_
    exact ⟨I, hF, rfl⟩ 
  | some a_ =>
    obtain ⟨la, rfl⟩ := vb_idx_some (by omega) ha
    cases hb : vb_idx (vb_n (vs_l σ)) b with
    | none =>
      rw [show sp_regret σ (vb_i a_) b = .inr 0 by simp only [sp_regret, ha, hb]]
      show mm_W _ _ 118 (mm_blk 118 0) [.ref 0, .int (vb_i a_), .int b, .null] [] _ _
      refine mm_w1 rfl ?_
      refine mm_w1 rfl ?_
      refine mm_cvp0 (vb_cv (vV_S0 hV) rfl rfl rfl rfl) (by decide) (by omega) (c_needV hV dV (by omega)) ?_
      refine mm_w1 rfl ?_
      refine mm_w1 rfl ?_
      refine mm_wcthr (vb_cv (vV_S0 hV) rfl rfl rfl rfl) (by decide) (by omega) (c_needV_no hV dV hb) rfl ?_
      exact ⟨I, hF, rfl⟩ 
    | some b_ =>
      obtain ⟨lb, rfl⟩ := vb_idx_some (by omega) hb
      rw [show sp_regret σ (vb_i a_) (vb_i b_) = .inl (if q_mayT (vs_l σ) (vs_x σ) a_ b_ then q_li (vs_l σ) (vs_x σ) (vx_tn (vs_x σ)) 2 - q_la (vs_l σ) (vs_x σ) (vx_tn (vs_x σ)) (10 * a_ + b_) 1 else -1) by simp only [sp_regret, ha, hb]]
      have e1 : (10 * a_ + b_) / 10 = a_ := by omega
      have e2 : (10 * a_ + b_) % 10 = b_ := by omega
      have et : vb_i (100 * a_ + b_) = vb_told (10 * a_ + b_) := by rw [vb_told_lt (by omega), e1, e2]
      show mm_W _ _ 118 (mm_blk 118 0) [.ref 0, .int (vb_i a_), .int (vb_i b_), .null] [] _ _
      refine mm_w1 rfl ?_
      refine mm_w1 rfl ?_
      refine mm_cvp0 (vb_cv (vV_S0 hV) rfl rfl rfl rfl) (by decide) (by omega) (c_needV hV dV (by omega)) ?_
      refine mm_w1 rfl ?_
      refine mm_w1 rfl ?_
      refine mm_cvp0 (vb_cv (vV_S0 hV) rfl rfl rfl rfl) (by decide) (by omega) (c_needV hV dV (by omega)) ?_
      refine mm_w1 rfl ?_
      refine mm_w1 rfl ?_
      refine mm_w1 rfl ?_
      refine mm_cvi (vb_cv (vV_S0 hV) rfl rfl rfl rfl) (by decide) (by omega) (c_mayT (σ := σ) hV dV (by omega) (by omega) (by omega)) ?_
      intro I1 hf1
      have hF1 : vb_fr (vb_vs L) I I1 := hF.tr (hf1.mono (fun a h => by exact h))
      have dV1 := dV.fr hL17 hF1
      have dL1 := vd_l dV1
      have dX1 := vd_x dV1
      refine mm_bifne ?_ ?_
      · intro h16
        refine mm_w1 rfl ?_
        refine mm_wgr (vV_S0 hV) (by decide) (by decide) (vV_P0_6 hV) (vX_a0 hX) ?_
        refine mm_cvp (vb_cv (vX_S0 hX) rfl rfl rfl rfl) (by decide) (by omega) (c_turn hX dX1) ?_
        refine mm_w1 (ls' := [_, _, _, _]) rfl ?_
        refine mm_w1 rfl ?_
        refine mm_w1 rfl ?_
        refine mm_wv (vb_i 2) rfl (by decide) ?_
        refine mm_cvi (vb_cv (vV_S0 hV) rfl rfl rfl rfl) (by decide) (by omega) (c_li (σ := σ) hV dV1 (by omega) (by omega) hwf (by omega)) ?_
        intro I2 hf2
        have hF2 : vb_fr (vb_vs L) I I2 := hF1.tr (hf2.mono (fun a h => by exact Or.inl (Or.inr h)))
        have dV2 := dV.fr hL17 hF2
        have dL2 := vd_l dV2
        have dX2 := vd_x dV2
        refine mm_w1 rfl ?_
        refine mm_w1 rfl ?_
        refine mm_wv (vb_i 100) rfl (by decide) ?_
        refine mm_w1 rfl ?_
        refine mm_nmul ?_
        refine mm_w1 rfl ?_
        refine mm_nadd ?_
        rw [et]
        refine mm_wv (vb_i (1 + 1)) rfl (by decide) ?_ 
        refine mm_cvi (vb_cv (vV_S0 hV) rfl rfl rfl rfl) (by decide) (by omega) (c_la (σ := σ) (m := 10 * a_ + b_) (k := 1) hV dV2 (by omega) (by omega) (by decide) hwf (by omega)) ?_
        intro I3 hf3
        have hF3 : vb_fr (vb_vs L) I I3 := hF2.tr (hf3.mono (fun a h => by exact Or.inl (Or.inr h)))
        have dV3 := dV.fr hL17 hF3
        have dL3 := vd_l dV3
        have dX3 := vd_x dV3
        refine mm_w1 rfl ?_
        refine mm_wr rfl rfl rfl ?_
        refine ⟨_, hF3, ?_⟩
        first
          | (rw [h16]; rfl)
      · intro h16
        refine mm_wv (-1) rfl (by decide) ?_
        refine mm_wr rfl rfl rfl ?_
        refine ⟨_, hF1, ?_⟩
        first
          | (rw [h16]; rfl)
theorem v_whose (hV : vb_isV P S L) (dV : vb_VD σ L I) (hd : 20 ≤ d) (v : Int32) : mm_C G d 119 [.ref 0, .int v] (I, P, J, S, nc, ns) (vb_RV (sp_whose σ v) (fun I' => vb_fr (vb_vs L) I I') P J S nc ns) := by
  have hL := vV_hL hV
  have hX := vV_hX hV
  have hY := vV_hY hV
  have hA := vV_hA hV
  have hT := vV_hT hV
  have hC := vV_hC hV
  have hL17 := vV_L17 hV
  have hF : vb_fr (vb_vs L) I I := vb_fr.rf
  have dL := vd_l dV
  have dX := vd_x dV
  have dA := vd_a dV
  have dT := vd_t dV
  have hn := vl_10 dL
  have he := vx_e2 dX
  have ht := vx_t2 (vs_x σ)
  cases hv : vb_idx (vb_n (vs_l σ)) v with
  | none =>
    rw [show sp_whose σ v = .inr 0 by simp only [sp_whose, hv]]
    show mm_W _ _ 119 (mm_blk 119 0) [.ref 0, .int v, .null, .null] [] _ _
    refine mm_w1 rfl ?_
    refine mm_w1 rfl ?_
    refine mm_wcthr (vb_cv (vV_S0 hV) rfl rfl rfl rfl) (by decide) (by omega) (c_needV_no hV dV hv) rfl ?_
    exact ⟨I, hF, rfl⟩ 
  | some v_ =>
    obtain ⟨lv, rfl⟩ := vb_idx_some (by omega) hv
    rw [show sp_whose σ (vb_i v_) = .inl (q_whose (vs_x σ) v_) by simp only [sp_whose, hv]]
    show mm_W _ _ 119 (mm_blk 119 0) [.ref 0, .int (vb_i v_), .null, .null] [] _ _
    refine mm_w1 rfl ?_
    refine mm_w1 rfl ?_
    refine mm_cvp0 (vb_cv (vV_S0 hV) rfl rfl rfl rfl) (by decide) (by omega) (c_needV hV dV (by omega)) ?_
    refine mm_w1 rfl ?_
    refine mm_wgr (vV_S0 hV) (by decide) (by decide) (vV_P0_6 hV) (vX_a0 hX) ?_
    refine mm_wgr (vX_S0 hX) (by decide) (by decide) (vX_P0_4 hX) (vX_a5 hX) ?_
    refine mm_w1 rfl ?_
    refine mm_wiav _ (vX_a5 hX) (vX_S5 hX) (by decide) (by omega) (vx_hb dX (by omega)) ?_
    refine mm_w1 (ls' := [_, _, _, _]) rfl ?_
    refine mm_w1 rfl ?_
    refine mm_wgr (vV_S0 hV) (by decide) (by decide) (vV_P0_6 hV) (vX_a0 hX) ?_
    refine mm_wgr (vX_S0 hX) (by decide) (by decide) (vX_P0_4 hX) (vX_a5 hX) ?_
    refine mm_wv (vb_i 10) rfl (by decide) ?_
    refine mm_w1 rfl ?_
    refine mm_nadd ?_
    refine mm_wiav _ (vX_a5 hX) (vX_S5 hX) (by decide) (by omega) (vx_hb dX (by omega)) ?_
    refine mm_w1 (ls' := [_, _, _, _]) rfl ?_
    refine mm_w1 rfl ?_
    refine mm_w1 rfl ?_
    refine mm_wicle ?_ ?_
    · intro h30
      refine mm_w1 rfl ?_
      refine mm_w1 rfl ?_
      refine mm_wicle ?_ ?_
      · intro h39
        refine mm_wv (vb_i 2) rfl (by decide) ?_
        refine mm_wr rfl rfl rfl ?_
        refine ⟨_, hF, ?_⟩
        rw [q_whose]
        first
          | (rw [if_pos h30]; done)
          | (rw [if_neg h30, if_pos h39]; done)
          | (rw [if_neg h30, if_neg h39]; done)
      · intro h39
        refine mm_wv (vb_i 1) rfl (by decide) ?_
        refine mm_wgoto ?_
        refine mm_wr rfl rfl rfl ?_
        refine ⟨_, hF, ?_⟩
        rw [q_whose]
        first
          | (rw [if_pos h30]; done)
          | (rw [if_neg h30, if_pos h39]; done)
          | (rw [if_neg h30, if_neg h39]; done)
    · intro h30
      refine mm_wv (vb_i 0) rfl (by decide) ?_
      refine mm_wgoto ?_
      refine mm_wr rfl rfl rfl ?_
      refine ⟨_, hF, ?_⟩
      rw [q_whose]
      first
        | (rw [if_pos h30]; done)
        | (rw [if_neg h30, if_pos h39]; done)
        | (rw [if_neg h30, if_neg h39]; done)
end MORE2
