/-! ACTS OF THE CLASS -/
def vb_ca (L a : Nat) : Prop := vb_xc 29 a ∨ vb_ac 41 a ∨ vb_vs L a
def vs_act (σ : vb_St) (x : vb_X) (xs : List vb_X) : vb_St := (vs_l σ, x, xs, vs_t σ, vs_i σ, vs_p σ, vs_f σ, vs_r σ)
def vs_ref (σ : vb_St) (j : Nat) : vb_St := (vs_l σ, vs_x σ, vs_a σ, vs_t σ, vs_i σ, vs_p σ, vs_f σ, fun i => if i = j then vs_r σ i + vb_i 1 else vs_r σ i)
def vs_see (σ : vb_St) (ss : List (Nat × Nat)) : vb_St := (vs_l σ, vs_x σ, vs_a σ, ss, vs_i σ, vs_p σ, vs_f σ, vs_r σ)
section
variable {σ : vb_St} {L : Nat} {I I' : Nat → Nat → Int32}
theorem vb_VD.act {x : vb_X} {xs : List vb_X} (h : vb_VD σ L I) (hL : L = 5 ∨ L = 17) (hf : vb_fr (vb_ca L) I I') (dX : vb_XD x 29 I') (dA : vb_AD xs 41 I') : vb_VD (vs_act σ x xs) L I' := by
  obtain ⟨h1, h2, h3, h4, h5, h6, h7, h8, h9, h10, h11⟩ := h
  have e : ∀ a, (∀ h : vb_ca L a, False) → I' a = I a := fun a ha => hf a ha
  have e0 := e 0 (fun h => by simp only [vb_ca, vb_ac, vb_vs, vb_scr, vb_xc, vb_cc] at h; omega)
  have e1 := e 1 (fun h => by simp only [vb_ca, vb_ac, vb_vs, vb_scr, vb_xc, vb_cc] at h; omega)
  have e2 := e 2 (fun h => by simp only [vb_ca, vb_ac, vb_vs, vb_scr, vb_xc, vb_cc] at h; omega)
  refine ⟨h1.kp hf (fun j a b => by simp only [vb_ca, vb_ac, vb_vs, vb_scr, vb_xc, vb_cc] at b; omega), dX, dA, h4.fr hf (fun j a b => by simp only [vb_ca, vb_ac, vb_vs, vb_scr, vb_xc, vb_cc] at b; omega), ?_, h6.fr hf (fun a b c d => by simp only [vb_ca, vb_ac, vb_vs, vb_scr, vb_xc, vb_cc] at d; omega), ?_, h8, ?_, ?_, ?_⟩
  · rw [e0]; exact h5
  · rw [e0]; exact h7
  · rw [e1]; exact h9
  · rw [e0]; exact h10
  · rw [e2]; exact h11
theorem vb_VD.ref {j : Nat} (h : vb_VD σ L I) (hL : L = 5 ∨ L = 17) : vb_VD (vs_ref σ j) L (mm_up I 2 j (vs_r σ j + vb_i 1)) := by
  obtain ⟨h1, h2, h3, h4, h5, h6, h7, h8, h9, h10, h11⟩ := h
  have hf : vb_fr (fun a => a = 2) I (mm_up I 2 j (vs_r σ j + vb_i 1)) := fun a ha => vb_up3 _ _ ha
  refine ⟨h1.kp hf (fun j a b => absurd b (by omega)), h2.fr hf (fun j a b => absurd b (by omega)), h3.fr hf (fun j a b => absurd b (by omega)), h4.fr hf (fun j a b => absurd b (by omega)), ?_, h6.fr hf (fun a b c d => absurd d (by omega)), ?_, h8, ?_, ?_, ?_⟩
  · rw [hf 0 (by omega)]; exact h5
  · rw [hf 0 (by omega)]; exact h7
  · rw [hf 1 (by omega)]; exact h9
  · rw [hf 0 (by omega)]; exact h10
  · intro i hi
    show _ = if i = j then _ else _
    by_cases e : i = j
    · subst e; rw [vb_up1, if_pos rfl]
    · rw [vb_up2 _ _ (by omega), if_neg e]; exact h11 i hi
theorem vb_VD.see {ss : List (Nat × Nat)} (h : vb_VD σ L I) (hL : L = 5 ∨ L = 17) (hf : vb_fr (vb_tc 43) I I') (dT : vb_TD ss 43 I') : vb_VD (vs_see σ ss) L I' := by
  obtain ⟨h1, h2, h3, h4, h5, h6, h7, h8, h9, h10, h11⟩ := h
  refine ⟨h1.kp hf (fun j a b => by simp only [vb_tc] at b; omega), h2.fr hf (fun j a b => by simp only [vb_tc] at b; omega), h3.fr hf (fun j a b => by simp only [vb_tc] at b; omega), dT, ?_, h6.fr hf (fun a b c d => by simp only [vb_tc] at d; omega), ?_, h8, ?_, ?_, ?_⟩
  · rw [hf 0 (by simp only [vb_tc]; omega)]; exact h5
  · rw [hf 0 (by simp only [vb_tc]; omega)]; exact h7
  · rw [hf 1 (by simp only [vb_tc]; omega)]; exact h9
  · rw [hf 0 (by simp only [vb_tc]; omega)]; exact h10
  · rw [hf 2 (by simp only [vb_tc]; omega)]; exact h11
end
def sp_move (σ : vb_St) (a b : Int32) : Int32 ⊕ Nat := match vb_idx (vb_n (vs_l σ)) a with
  | none => .inr 0
  | some a => match vb_idx (vb_n (vs_l σ)) b with
    | none => .inr 0
    | some b => .inl (if vx_e (vs_x σ) < 999 then (if q_mayT (vs_l σ) (vs_x σ) a b then vb_b (vb_has (vx_s (vs_x σ) (1 - vx_tn (vs_x σ))) b) else -1) else -1)
def st_move (σ : vb_St) (a b : Int32) : vb_St := match vb_idx (vb_n (vs_l σ)) a with
  | none => σ
  | some a => match vb_idx (vb_n (vs_l σ)) b with
    | none => σ
    | some b => if vx_e (vs_x σ) < 999 then (if q_mayT (vs_l σ) (vs_x σ) a b then vs_act σ (vx_do (vs_l σ) (vs_x σ) (10 * a + b)) (vb_keep (vs_a σ) (vs_x σ)) else vs_ref σ 1) else vs_ref σ 1
def sp_pass (σ : vb_St) : Int32 ⊕ Nat := .inl (if vx_e (vs_x σ) < 999 then vb_i (vx_e (vs_x σ) + 1) else -1)
def st_pass (σ : vb_St) : vb_St := if vx_e (vs_x σ) < 999 then vs_act σ (vx_do (vs_l σ) (vs_x σ) 100) (vb_keep (vs_a σ) (vs_x σ)) else vs_ref σ 1
def q_flyok (x : vb_X) (a b : Nat) : Bool := decide (vx_in (vx_s x) a ≠ 2) && decide (vx_in (vx_s x) b = 2)
def sp_fly (σ : vb_St) (a b : Int32) : Int32 ⊕ Nat := match vb_idx (vb_n (vs_l σ)) a with
  | none => .inr 0
  | some a => match vb_idx (vb_n (vs_l σ)) b with
    | none => .inr 0
    | some b => .inl (if q_flyok (vs_x σ) a b then vb_i 1 else vb_i 0)
def st_fly (σ : vb_St) (a b : Int32) : vb_St := match vb_idx (vb_n (vs_l σ)) a with
  | none => σ
  | some a => match vb_idx (vb_n (vs_l σ)) b with
    | none => σ
    | some b => if q_flyok (vs_x σ) a b then vs_act σ (vx_bring (vs_x σ) (vx_in (vx_s (vs_x σ)) a) a b) (vb_keep (vs_a σ) (vs_x σ)) else vs_ref σ 1
def vx_tch (x : vb_X) (s : Nat) (y : Int32) : vb_X := (vx_s x, vx_f x, vx_t x, fun j => if j = s then y else vx_y x j, vx_b x, vx_e x)
def q_tchok (ℓ : vb_L) (y : Int32) : Bool := decide (y = -1) || (vb_idx (vb_sc ℓ) y).isSome
def sp_teach (σ : vb_St) (s y : Int32) : Int32 ⊕ Nat := match vb_idx 2 s with
  | none => .inr 0
  | some s => .inl (if q_tchok (vs_l σ) y then vx_y (vs_x σ) s else -2)
def st_teach (σ : vb_St) (s y : Int32) : vb_St := match vb_idx 2 s with
  | none => σ
  | some s => if q_tchok (vs_l σ) y then vs_act σ (vx_tch (vs_x σ) s y) (vb_keep (vs_a σ) (vs_x σ)) else vs_ref σ 1
def q_many (x : vb_X) (k : Int32) : Option Nat := match vb_idx 31 k with
  | none => none
  | some k => if k = 0 then none else if vx_e x + k ≤ 999 then some k else none
def sp_play (σ : vb_St) (k : Int32) : Int32 ⊕ Nat := match q_many (vs_x σ) k with
  | none => .inl (-1)
  | some k => .inl (vb_i (vx_e (vs_x σ) + k))
def st_play (σ : vb_St) (k : Int32) : vb_St := match q_many (vs_x σ) k with
  | none => vs_ref σ 1
  | some k => vs_act σ (vx_seq (vs_l σ) (vs_x σ) k) (vb_keep (vs_a σ) (vs_x σ))
def sp_undo (σ : vb_St) : Int32 ⊕ Nat := .inl (if (vs_a σ).length = 0 then -1 else vb_i ((vs_a σ).length - 1))
def st_undo (σ : vb_St) : vb_St := match (vs_a σ).getLast? with
  | none => σ
  | some x => vs_act σ x (vs_a σ).dropLast
def q_seeok (σ : vb_St) (i : Int32) : Option Nat := match vb_idx 30 i with
  | none => none
  | some i => if (vs_t σ).length < 6 then some i else none
def sp_see (σ : vb_St) (i a b : Int32) : Int32 ⊕ Nat := match vb_idx (vb_n (vs_l σ)) a with
  | none => .inr 0
  | some _ => match vb_idx (vb_n (vs_l σ)) b with
    | none => .inr 0
    | some _ => match q_seeok σ i with
      | none => .inl (-1)
      | some _ => .inl (vb_i ((vs_t σ).length + 1))
def st_see (σ : vb_St) (i a b : Int32) : vb_St := match vb_idx (vb_n (vs_l σ)) a with
  | none => σ
  | some a => match vb_idx (vb_n (vs_l σ)) b with
    | none => σ
    | some b => match q_seeok σ i with
      | none => vs_ref σ 2
      | some i => vs_see σ (vs_t σ ++ [(i, if a = b then 100 else 10 * a + b)])
section ACT
variable {G : mm_G} {d : Nat} {I : Nat → Nat → Int32} {P : Nat → Nat → Nat} {J : Nat → Nat → Int64} {S : List (Nat × Nat)} {nc ns : Nat} {μ : mm_M} {σ : vb_St} {L : Nat}
theorem v_move (hV : vb_isV P S L) (dV : vb_VD σ L I) (hI : vs_inv σ) (hd : 20 ≤ d) (a b : Int32) : mm_C G d 84 [.ref 0, .int a, .int b] (I, P, J, S, nc, ns) (vb_RV (sp_move σ a b) (fun I' => vb_VD (st_move σ a b) L I') P J S nc ns) := by
  have hL := vV_hL hV
  have hX := vV_hX hV
  have hY := vV_hY hV
  have hA := vV_hA hV
  have hT := vV_hT hV
  have hC := vV_hC hV
  have hL17 := vV_L17 hV
  have hF : vb_fr (vb_vs L) I I := vb_fr.rf
  have dL := vd_l dV
  have dX := vd_x dV
  have dA := vd_a dV
  have dT := vd_t dV
  have hn := vl_10 dL
  have he := vx_e2 dX
  have ht := vx_t2 (vs_x σ)
  obtain ⟨hIl, hIx, hIa, hIi⟩ := hI
  obtain ⟨hok, hwf, he9⟩ := hIx
  have hs3 := vl_sc3 dL
  have hH : vb_fr (vb_ca L) I I := vb_fr.rf
  cases ha : vb_idx (vb_n (vs_l σ)) a with
  | none =>
    rw [show sp_move σ a b = .inr 0 by simp only [sp_move, ha], show st_move σ a b = σ by simp only [st_move, ha]]
    show mm_W _ _ 84 (mm_blk 84 0) [.ref 0, .int a, .int b, .null, .null] [] _ _
    refine mm_w1 rfl ?_
    refine mm_w1 rfl ?_
    refine mm_wcthr (vb_cv (vV_S0 hV) rfl rfl rfl rfl) (by decide) (by omega) (c_needV_no hV dV ha) rfl ?_
    exact ⟨I, dV, rfl⟩ 
  | some a_ =>
    obtain ⟨la, rfl⟩ := vb_idx_some (by omega) ha
    cases hb : vb_idx (vb_n (vs_l σ)) b with
    | none =>
      rw [show sp_move σ (vb_i a_) b = .inr 0 by simp only [sp_move, ha, hb], show st_move σ (vb_i a_) b = σ by simp only [st_move, ha, hb]]
      show mm_W _ _ 84 (mm_blk 84 0) [.ref 0, .int (vb_i a_), .int b, .null, .null] [] _ _
      refine mm_w1 rfl ?_
      refine mm_w1 rfl ?_
      refine mm_cvp0 (vb_cv (vV_S0 hV) rfl rfl rfl rfl) (by decide) (by omega) (c_needV hV dV (by omega)) ?_
      refine mm_w1 rfl ?_
      refine mm_w1 rfl ?_
      refine mm_wcthr (vb_cv (vV_S0 hV) rfl rfl rfl rfl) (by decide) (by omega) (c_needV_no hV dV hb) rfl ?_
      exact ⟨I, dV, rfl⟩ 
    | some b_ =>
      obtain ⟨lb, rfl⟩ := vb_idx_some (by omega) hb
      rw [show sp_move σ (vb_i a_) (vb_i b_) = .inl (if vx_e (vs_x σ) < 999 then (if q_mayT (vs_l σ) (vs_x σ) a_ b_ then vb_b (vb_has (vx_s (vs_x σ) (1 - vx_tn (vs_x σ))) b_) else -1) else -1) by simp only [sp_move, ha, hb], show st_move σ (vb_i a_) (vb_i b_) = (if vx_e (vs_x σ) < 999 then (if q_mayT (vs_l σ) (vs_x σ) a_ b_ then vs_act σ (vx_do (vs_l σ) (vs_x σ) (10 * a_ + b_)) (vb_keep (vs_a σ) (vs_x σ)) else vs_ref σ 1) else vs_ref σ 1) by simp only [st_move, ha, hb]]
      have e1 : (10 * a_ + b_) / 10 = a_ := by omega
      have e2 : (10 * a_ + b_) % 10 = b_ := by omega
      have hdo : vx_do (vs_l σ) (vs_x σ) (10 * a_ + b_) = vx_end (vs_l σ) (vx_bring (vs_x σ) (vx_tn (vs_x σ)) a_ b_) := by simp only [vx_do]; rw [if_neg (by omega), e1, e2]
      show mm_W _ _ 84 (mm_blk 84 0) [.ref 0, .int (vb_i a_), .int (vb_i b_), .null, .null] [] _ _
      refine mm_w1 rfl ?_
      refine mm_w1 rfl ?_
      refine mm_cvp0 (vb_cv (vV_S0 hV) rfl rfl rfl rfl) (by decide) (by omega) (c_needV hV dV (by omega)) ?_
      refine mm_w1 rfl ?_
      refine mm_w1 rfl ?_
      refine mm_cvp0 (vb_cv (vV_S0 hV) rfl rfl rfl rfl) (by decide) (by omega) (c_needV hV dV (by omega)) ?_
      refine mm_w1 rfl ?_
      refine mm_wgr (vV_S0 hV) (by decide) (by decide) (vV_P0_6 hV) (vX_a0 hX) ?_
      refine mm_cvp (vb_cv (vX_S0 hX) rfl rfl rfl rfl) (by decide) (by omega) (c_turn hX dX) ?_
      refine mm_w1 (ls' := [_, _, _, _, _]) rfl ?_
      refine mm_w1 rfl ?_
      refine mm_wgr (vV_S0 hV) (by decide) (by decide) (vV_P0_6 hV) (vX_a0 hX) ?_
      refine mm_wgiv _ (vX_S0 hX) (by decide) (by decide) (vx_he dX) ?_
      refine mm_wv (vb_i 999) rfl (by decide) ?_
      refine mm_nicge (by omega) (by omega) ?_ ?_
      · intro h28
        refine mm_w1 rfl ?_
        refine mm_wgr (vV_S0 hV) (by decide) (by decide) (vV_P0_3 hV) (vV_a2 hV) ?_
        refine mm_wv (vb_i 1) rfl (by decide) ?_
        refine mm_w1 rfl ?_
        refine mm_wiav (vs_r σ 1) (vV_a2 hV) (vV_S2 hV) (by decide) (by omega) (vd_r dV (by decide)) ?_
        refine mm_wv (vb_i 1) rfl (by decide) ?_
        refine mm_w1 rfl ?_
        refine mm_wis (vV_S2 hV) (by decide) (by omega) ?_
        refine mm_wv (-1) rfl (by decide) ?_
        refine mm_wr rfl rfl rfl ?_
        first
          | (rw [if_neg h28, if_neg h28]; exact ⟨_, dV.ref hL17, rfl⟩)
          | (rw [if_pos h28, if_pos h28, h37, if_neg (by decide), if_neg (by decide)]; exact ⟨_, dV1.ref hL17, rfl⟩)
      · intro h28
        refine mm_w1 rfl ?_
        refine mm_w1 rfl ?_
        refine mm_w1 rfl ?_
        refine mm_cvi (vb_cv (vV_S0 hV) rfl rfl rfl rfl) (by decide) (by omega) (c_mayT (σ := σ) hV dV (by omega) (by omega) (by omega)) ?_
        intro I1 hf1
        have hF1 : vb_fr (vb_vs L) I I1 := hF.tr (hf1.mono (fun a h => by exact h))
        have dV1 := dV.fr hL17 hF1
        have dL1 := vd_l dV1
        have dX1 := vd_x dV1
        have dA1 := vd_a dV1
        have hH1 : vb_fr (vb_ca L) I I1 := hF1.mono (fun a h => Or.inr (Or.inr h))
        refine mm_bifne ?_ ?_
        · intro h37
          refine mm_w1 rfl ?_
          refine mm_wgr (vV_S0 hV) (by decide) (by decide) (vV_P0_6 hV) (vX_a0 hX) ?_
          refine mm_wgr (vX_S0 hX) (by decide) (by decide) (vX_P0_0 hX) (vX_a1 hX) ?_
          refine mm_wv (vb_i 1) rfl (by decide) ?_
          refine mm_w1 rfl ?_
          refine mm_nsub (by omega) ?_
          refine mm_wiav _ (vX_a1 hX) (vX_S1 hX) (by decide) (by omega) (vx_hs dX1 (by omega)) ?_
          refine mm_w1 rfl ?_
          refine mm_csp rfl (by decide) (by omega) (c_has (by omega)) ?_
          refine mm_bifeq ?_ ?_
          · intro h67
            refine mm_wv (vb_i 0) rfl (by decide) ?_
            refine mm_w1 (ls' := [_, _, _, _, _]) rfl ?_
            refine mm_w1 rfl ?_
            refine mm_wgr (vV_S0 hV) (by decide) (by decide) (vV_P0_8 hV) (vA_a0 hA) ?_
            refine mm_w1 rfl ?_
            refine mm_wgr (vV_S0 hV) (by decide) (by decide) (vV_P0_6 hV) (vX_a0 hX) ?_
            refine mm_cvn (vb_cv (vA_S0 hA) rfl rfl rfl rfl) (by decide) (by omega) (c_keep hA hX dA1 dX1 (by omega) (by omega)) ?_
            intro I2 hq2
            obtain ⟨dA2, hf2⟩ := hq2
            have hH2 : vb_fr (vb_ca L) I I2 := hH1.tr (hf2.mono (fun a h => Or.inr (Or.inl h)))
            have dX2 : vb_XD _ 29 I2 := dX1.fr hf2 (fun j h1 h2 => by simp only [vb_ac] at h2; omega)
            have dL2 : vb_LD _ L I2 := dL1.kp hf2 (fun j h1 h2 => by simp only [vb_ac] at h2; omega)
            refine mm_w1 rfl ?_
            refine mm_wgr (vV_S0 hV) (by decide) (by decide) (vV_P0_6 hV) (vX_a0 hX) ?_
            refine mm_w1 rfl ?_
            refine mm_wv (vb_i 100) rfl (by decide) ?_
            refine mm_w1 rfl ?_
            refine mm_nmul ?_
            refine mm_w1 rfl ?_
            refine mm_nadd ?_
            refine mm_cvn (vb_cv (vX_S0 hX) rfl rfl rfl rfl) (by decide) (by omega) (c_bring hX dX2 (by omega) (by omega) (by omega)) ?_
            intro I3 hq3
            obtain ⟨dX3, hf3⟩ := hq3
            have hH3 : vb_fr (vb_ca L) I I3 := hH2.tr (hf3.mono (fun a h => Or.inl h))
            have dA3 : vb_AD _ 41 I3 := dA2.fr hf3 (fun j h1 h2 => by simp only [vb_xc] at h2; omega)
            have dL3 : vb_LD _ L I3 := dL2.kp hf3 (fun j h1 h2 => by simp only [vb_xc] at h2; omega)
            refine mm_w1 rfl ?_
            refine mm_wgr (vV_S0 hV) (by decide) (by decide) (vV_P0_6 hV) (vX_a0 hX) ?_
            refine mm_w1 rfl ?_
            refine mm_wgr (vV_S0 hV) (by decide) (by decide) (vV_P0_5 hV) (vL_a0 hL) ?_
            refine mm_cvn (vb_cv (vX_S0 hX) rfl rfl rfl rfl) (by decide) (by omega) (c_end hX hL dX3 dL3 (by omega) (by omega) (by first | omega | (show vx_e (vs_x σ) < 2000; omega))) ?_
            intro I4 hq4
            obtain ⟨dX4, hf4⟩ := hq4
            have hH4 : vb_fr (vb_ca L) I I4 := hH3.tr (hf4.mono (fun a h => Or.inl h))
            have dA4 : vb_AD _ 41 I4 := dA3.fr hf4 (fun j h1 h2 => by simp only [vb_xc] at h2; omega)
            have dL4 : vb_LD _ L I4 := dL3.kp hf4 (fun j h1 h2 => by simp only [vb_xc] at h2; omega)
            refine mm_w1 rfl ?_
            refine mm_wr rfl rfl rfl ?_
            rw [if_pos h28, if_pos h28, h37, if_pos rfl, if_pos rfl, hdo, h67]
            exact ⟨_, dV.act hL17 hH4 dX4 dA4, rfl⟩
          · intro h67
            refine mm_wv (vb_i 1) rfl (by decide) ?_
            refine mm_wgoto ?_
            refine mm_w1 (ls' := [_, _, _, _, _]) rfl ?_
            refine mm_w1 rfl ?_
            refine mm_wgr (vV_S0 hV) (by decide) (by decide) (vV_P0_8 hV) (vA_a0 hA) ?_
            refine mm_w1 rfl ?_
            refine mm_wgr (vV_S0 hV) (by decide) (by decide) (vV_P0_6 hV) (vX_a0 hX) ?_
            refine mm_cvn (vb_cv (vA_S0 hA) rfl rfl rfl rfl) (by decide) (by omega) (c_keep hA hX dA1 dX1 (by omega) (by omega)) ?_
            intro I2 hq2
            obtain ⟨dA2, hf2⟩ := hq2
            have hH2 : vb_fr (vb_ca L) I I2 := hH1.tr (hf2.mono (fun a h => Or.inr (Or.inl h)))
            have dX2 : vb_XD _ 29 I2 := dX1.fr hf2 (fun j h1 h2 => by simp only [vb_ac] at h2; omega)
            have dL2 : vb_LD _ L I2 := dL1.kp hf2 (fun j h1 h2 => by simp only [vb_ac] at h2; omega)
            refine mm_w1 rfl ?_
            refine mm_wgr (vV_S0 hV) (by decide) (by decide) (vV_P0_6 hV) (vX_a0 hX) ?_
            refine mm_w1 rfl ?_
            refine mm_wv (vb_i 100) rfl (by decide) ?_
            refine mm_w1 rfl ?_
            refine mm_nmul ?_
            refine mm_w1 rfl ?_
            refine mm_nadd ?_
            refine mm_cvn (vb_cv (vX_S0 hX) rfl rfl rfl rfl) (by decide) (by omega) (c_bring hX dX2 (by omega) (by omega) (by omega)) ?_
            intro I3 hq3
            obtain ⟨dX3, hf3⟩ := hq3
            have hH3 : vb_fr (vb_ca L) I I3 := hH2.tr (hf3.mono (fun a h => Or.inl h))
            have dA3 : vb_AD _ 41 I3 := dA2.fr hf3 (fun j h1 h2 => by simp only [vb_xc] at h2; omega)
            have dL3 : vb_LD _ L I3 := dL2.kp hf3 (fun j h1 h2 => by simp only [vb_xc] at h2; omega)
            refine mm_w1 rfl ?_
            refine mm_wgr (vV_S0 hV) (by decide) (by decide) (vV_P0_6 hV) (vX_a0 hX) ?_
            refine mm_w1 rfl ?_
            refine mm_wgr (vV_S0 hV) (by decide) (by decide) (vV_P0_5 hV) (vL_a0 hL) ?_
            refine mm_cvn (vb_cv (vX_S0 hX) rfl rfl rfl rfl) (by decide) (by omega) (c_end hX hL dX3 dL3 (by omega) (by omega) (by first | omega | (show vx_e (vs_x σ) < 2000; omega))) ?_
            intro I4 hq4
            obtain ⟨dX4, hf4⟩ := hq4
            have hH4 : vb_fr (vb_ca L) I I4 := hH3.tr (hf4.mono (fun a h => Or.inl h))
            have dA4 : vb_AD _ 41 I4 := dA3.fr hf4 (fun j h1 h2 => by simp only [vb_xc] at h2; omega)
            have dL4 : vb_LD _ L I4 := dL3.kp hf4 (fun j h1 h2 => by simp only [vb_xc] at h2; omega)
            refine mm_w1 rfl ?_
            refine mm_wr rfl rfl rfl ?_
            rw [if_pos h28, if_pos h28, h37, if_pos rfl, if_pos rfl, hdo, h67]
            exact ⟨_, dV.act hL17 hH4 dX4 dA4, rfl⟩
        · intro h37
          refine mm_w1 rfl ?_
          refine mm_wgr (vV_S0 hV) (by decide) (by decide) (vV_P0_3 hV) (vV_a2 hV) ?_
          refine mm_wv (vb_i 1) rfl (by decide) ?_
          refine mm_w1 rfl ?_
          refine mm_wiav (vs_r σ 1) (vV_a2 hV) (vV_S2 hV) (by decide) (by omega) (vd_r dV1 (by decide)) ?_
          refine mm_wv (vb_i 1) rfl (by decide) ?_
          refine mm_w1 rfl ?_
          refine mm_wis (vV_S2 hV) (by decide) (by omega) ?_
          refine mm_wv (-1) rfl (by decide) ?_
          refine mm_wr rfl rfl rfl ?_
          first
            | (rw [if_neg h28, if_neg h28]; exact ⟨_, dV.ref hL17, rfl⟩)
            | (rw [if_pos h28, if_pos h28, h37, if_neg (by decide), if_neg (by decide)]; exact ⟨_, dV1.ref hL17, rfl⟩)
theorem v_pass (hV : vb_isV P S L) (dV : vb_VD σ L I) (hI : vs_inv σ) (hd : 20 ≤ d) : mm_C G d 85 [.ref 0] (I, P, J, S, nc, ns) (vb_RV (sp_pass σ) (fun I' => vb_VD (st_pass σ) L I') P J S nc ns) := by
  have hL := vV_hL hV
  have hX := vV_hX hV
  have hY := vV_hY hV
  have hA := vV_hA hV
  have hT := vV_hT hV
  have hC := vV_hC hV
  have hL17 := vV_L17 hV
  have hF : vb_fr (vb_vs L) I I := vb_fr.rf
  have dL := vd_l dV
  have dX := vd_x dV
  have dA := vd_a dV
  have dT := vd_t dV
  have hn := vl_10 dL
  have he := vx_e2 dX
  have ht := vx_t2 (vs_x σ)
  obtain ⟨hIl, hIx, hIa, hIi⟩ := hI
  obtain ⟨hok, hwf, he9⟩ := hIx
  have hs3 := vl_sc3 dL
  have hH : vb_fr (vb_ca L) I I := vb_fr.rf
  rw [sp_pass, st_pass]
  have hdo : vx_do (vs_l σ) (vs_x σ) 100 = vx_end (vs_l σ) (vs_x σ) := by rw [vx_do, if_pos rfl]
  show mm_W _ _ 85 (mm_blk 85 0) [.ref 0] [] _ _
  refine mm_w1 rfl ?_
  refine mm_wgr (vV_S0 hV) (by decide) (by decide) (vV_P0_6 hV) (vX_a0 hX) ?_
  refine mm_wgiv _ (vX_S0 hX) (by decide) (by decide) (vx_he dX) ?_
  refine mm_wv (vb_i 999) rfl (by decide) ?_
  refine mm_niclt (by omega) (by omega) ?_ ?_
  · intro h10
    refine mm_w1 rfl ?_
    refine mm_wgr (vV_S0 hV) (by decide) (by decide) (vV_P0_8 hV) (vA_a0 hA) ?_
    refine mm_w1 rfl ?_
    refine mm_wgr (vV_S0 hV) (by decide) (by decide) (vV_P0_6 hV) (vX_a0 hX) ?_
    refine mm_cvn (vb_cv (vA_S0 hA) rfl rfl rfl rfl) (by decide) (by omega) (c_keep hA hX dA dX (by omega) (by omega)) ?_
    intro I1 hq1
    obtain ⟨dA1, hf1⟩ := hq1
    have hH1 : vb_fr (vb_ca L) I I1 := hH.tr (hf1.mono (fun a h => Or.inr (Or.inl h)))
    have dX1 : vb_XD _ 29 I1 := dX.fr hf1 (fun j h1 h2 => by simp only [vb_ac] at h2; omega)
    have dL1 : vb_LD _ L I1 := dL.kp hf1 (fun j h1 h2 => by simp only [vb_ac] at h2; omega)
    refine mm_w1 rfl ?_
    refine mm_wgr (vV_S0 hV) (by decide) (by decide) (vV_P0_6 hV) (vX_a0 hX) ?_
    refine mm_w1 rfl ?_
    refine mm_wgr (vV_S0 hV) (by decide) (by decide) (vV_P0_5 hV) (vL_a0 hL) ?_
    refine mm_cvn (vb_cv (vX_S0 hX) rfl rfl rfl rfl) (by decide) (by omega) (c_end hX hL dX1 dL1 (by omega) (by omega) (by first | omega | (show vx_e (vs_x σ) < 2000; omega))) ?_
    intro I2 hq2
    obtain ⟨dX2, hf2⟩ := hq2
    have hH2 : vb_fr (vb_ca L) I I2 := hH1.tr (hf2.mono (fun a h => Or.inl h))
    have dA2 : vb_AD _ 41 I2 := dA1.fr hf2 (fun j h1 h2 => by simp only [vb_xc] at h2; omega)
    have dL2 : vb_LD _ L I2 := dL1.kp hf2 (fun j h1 h2 => by simp only [vb_xc] at h2; omega)
    refine mm_w1 rfl ?_
    refine mm_wgr (vV_S0 hV) (by decide) (by decide) (vV_P0_6 hV) (vX_a0 hX) ?_
    refine mm_wgiv _ (vX_S0 hX) (by decide) (by decide) (vx_he dX2) ?_
    refine mm_wr rfl rfl rfl ?_
    rw [if_pos h10, if_pos h10, hdo]
    refine ⟨_, dV.act hL17 hH2 dX2 dA2, ?_⟩
    rw [vx_end_e]
  · intro h10
    refine mm_w1 rfl ?_
    refine mm_wgr (vV_S0 hV) (by decide) (by decide) (vV_P0_3 hV) (vV_a2 hV) ?_
    refine mm_wv (vb_i 1) rfl (by decide) ?_
    refine mm_w1 rfl ?_
    refine mm_wiav _ (vV_a2 hV) (vV_S2 hV) (by decide) (by omega) (vd_r dV (by omega)) ?_
    refine mm_wv (vb_i 1) rfl (by decide) ?_
    refine mm_w1 rfl ?_
    refine mm_wis (vV_S2 hV) (by decide) (by omega) ?_
    refine mm_wv (-1) rfl (by decide) ?_
    refine mm_wr rfl rfl rfl ?_
    rw [if_neg h10, if_neg h10]
    exact ⟨_, dV.ref hL17, rfl⟩
theorem v_fly (hV : vb_isV P S L) (dV : vb_VD σ L I) (hI : vs_inv σ) (hd : 20 ≤ d) (a b : Int32) : mm_C G d 86 [.ref 0, .int a, .int b] (I, P, J, S, nc, ns) (vb_RV (sp_fly σ a b) (fun I' => vb_VD (st_fly σ a b) L I') P J S nc ns) := by
  have hL := vV_hL hV
  have hX := vV_hX hV
  have hY := vV_hY hV
  have hA := vV_hA hV
  have hT := vV_hT hV
  have hC := vV_hC hV
  have hL17 := vV_L17 hV
  have hF : vb_fr (vb_vs L) I I := vb_fr.rf
  have dL := vd_l dV
  have dX := vd_x dV
  have dA := vd_a dV
  have dT := vd_t dV
  have hn := vl_10 dL
  have he := vx_e2 dX
  have ht := vx_t2 (vs_x σ)
  obtain ⟨hIl, hIx, hIa, hIi⟩ := hI
  obtain ⟨hok, hwf, he9⟩ := hIx
  have hs3 := vl_sc3 dL
  have hH : vb_fr (vb_ca L) I I := vb_fr.rf
  cases ha : vb_idx (vb_n (vs_l σ)) a with
  | none =>
    rw [show sp_fly σ a b = .inr 0 by simp only [sp_fly, ha], show st_fly σ a b = σ by simp only [st_fly, ha]]
    show mm_W _ _ 86 (mm_blk 86 0) [.ref 0, .int a, .int b, .null] [] _ _
    refine mm_w1 rfl ?_
    refine mm_w1 rfl ?_
    refine mm_wcthr (vb_cv (vV_S0 hV) rfl rfl rfl rfl) (by decide) (by omega) (c_needV_no hV dV ha) rfl ?_
    exact ⟨I, dV, rfl⟩ 
  | some a_ =>
    obtain ⟨la, rfl⟩ := vb_idx_some (by omega) ha
    cases hb : vb_idx (vb_n (vs_l σ)) b with
    | none =>
      rw [show sp_fly σ (vb_i a_) b = .inr 0 by simp only [sp_fly, ha, hb], show st_fly σ (vb_i a_) b = σ by simp only [st_fly, ha, hb]]
      show mm_W _ _ 86 (mm_blk 86 0) [.ref 0, .int (vb_i a_), .int b, .null] [] _ _
      refine mm_w1 rfl ?_
      refine mm_w1 rfl ?_
      refine mm_cvp0 (vb_cv (vV_S0 hV) rfl rfl rfl rfl) (by decide) (by omega) (c_needV hV dV (by omega)) ?_
      refine mm_w1 rfl ?_
      refine mm_w1 rfl ?_
      refine mm_wcthr (vb_cv (vV_S0 hV) rfl rfl rfl rfl) (by decide) (by omega) (c_needV_no hV dV hb) rfl ?_
      exact ⟨I, dV, rfl⟩ 
    | some b_ =>
      obtain ⟨lb, rfl⟩ := vb_idx_some (by omega) hb
      rw [show sp_fly σ (vb_i a_) (vb_i b_) = .inl (if q_flyok (vs_x σ) a_ b_ then vb_i 1 else vb_i 0) by simp only [sp_fly, ha, hb], show st_fly σ (vb_i a_) (vb_i b_) = (if q_flyok (vs_x σ) a_ b_ then vs_act σ (vx_bring (vs_x σ) (vx_in (vx_s (vs_x σ)) a_) a_ b_) (vb_keep (vs_a σ) (vs_x σ)) else vs_ref σ 1) by simp only [st_fly, ha, hb]]
      have hin := vx_in2 (vx_s (vs_x σ)) a_
      have hin2 := vx_in2 (vx_s (vs_x σ)) b_
      show mm_W _ _ 86 (mm_blk 86 0) [.ref 0, .int (vb_i a_), .int (vb_i b_), .null] [] _ _
      refine mm_w1 rfl ?_
      refine mm_w1 rfl ?_
      refine mm_cvp0 (vb_cv (vV_S0 hV) rfl rfl rfl rfl) (by decide) (by omega) (c_needV hV dV (by omega)) ?_
      refine mm_w1 rfl ?_
      refine mm_w1 rfl ?_
      refine mm_cvp0 (vb_cv (vV_S0 hV) rfl rfl rfl rfl) (by decide) (by omega) (c_needV hV dV (by omega)) ?_
      refine mm_w1 rfl ?_
      refine mm_wgr (vV_S0 hV) (by decide) (by decide) (vV_P0_6 hV) (vX_a0 hX) ?_
      refine mm_w1 rfl ?_
      refine mm_cvp (vb_cv (vX_S0 hX) rfl rfl rfl rfl) (by decide) (by omega) (c_stoneIn hX dX (by omega) (by omega)) ?_
      refine mm_w1 (ls' := [_, _, _, _]) rfl ?_
      refine mm_w1 rfl ?_
      refine mm_wv (vb_i 2) rfl (by decide) ?_
      refine mm_niceq (by omega) (by omega) ?_ ?_
      · intro h21
        refine mm_w1 rfl ?_
        refine mm_wgr (vV_S0 hV) (by decide) (by decide) (vV_P0_3 hV) (vV_a2 hV) ?_
        refine mm_wv (vb_i 1) rfl (by decide) ?_
        refine mm_w1 rfl ?_
        refine mm_wiav _ (vV_a2 hV) (vV_S2 hV) (by decide) (by omega) (vd_r dV (by omega)) ?_
        refine mm_wv (vb_i 1) rfl (by decide) ?_
        refine mm_w1 rfl ?_
        refine mm_wis (vV_S2 hV) (by decide) (by omega) ?_
        refine mm_wv (vb_i 0) rfl (by decide) ?_
        refine mm_wr rfl rfl rfl ?_
        have hq : q_flyok (vs_x σ) a_ b_ = false := by
          rw [q_flyok]
          first
            | (rw [decide_eq_false (not_not_intro h21)]; rfl)
            | (rw [decide_eq_false h33, Bool.and_false])
        rw [hq, if_neg (by decide), if_neg (by decide)]
        exact ⟨_, dV.ref hL17, rfl⟩
      · intro h21
        refine mm_w1 rfl ?_
        refine mm_wgr (vV_S0 hV) (by decide) (by decide) (vV_P0_6 hV) (vX_a0 hX) ?_
        refine mm_w1 rfl ?_
        refine mm_cvp (vb_cv (vX_S0 hX) rfl rfl rfl rfl) (by decide) (by omega) (c_stoneIn hX dX (by omega) (by omega)) ?_
        refine mm_wv (vb_i 2) rfl (by decide) ?_
        refine mm_niceq (by omega) (by omega) ?_ ?_
        · intro h33
          refine mm_w1 rfl ?_
          refine mm_wgr (vV_S0 hV) (by decide) (by decide) (vV_P0_8 hV) (vA_a0 hA) ?_
          refine mm_w1 rfl ?_
          refine mm_wgr (vV_S0 hV) (by decide) (by decide) (vV_P0_6 hV) (vX_a0 hX) ?_
          refine mm_cvn (vb_cv (vA_S0 hA) rfl rfl rfl rfl) (by decide) (by omega) (c_keep hA hX dA dX (by omega) (by omega)) ?_
          intro I1 hq1
          obtain ⟨dA1, hf1⟩ := hq1
          have hH1 : vb_fr (vb_ca L) I I1 := hH.tr (hf1.mono (fun a h => Or.inr (Or.inl h)))
          have dX1 : vb_XD _ 29 I1 := dX.fr hf1 (fun j h1 h2 => by simp only [vb_ac] at h2; omega)
          have dL1 : vb_LD _ L I1 := dL.kp hf1 (fun j h1 h2 => by simp only [vb_ac] at h2; omega)
          refine mm_w1 rfl ?_
          refine mm_wgr (vV_S0 hV) (by decide) (by decide) (vV_P0_6 hV) (vX_a0 hX) ?_
          refine mm_w1 rfl ?_
          refine mm_wv (vb_i 100) rfl (by decide) ?_
          refine mm_w1 rfl ?_
          refine mm_nmul ?_
          refine mm_w1 rfl ?_
          refine mm_nadd ?_
          refine mm_cvn (vb_cv (vX_S0 hX) rfl rfl rfl rfl) (by decide) (by omega) (c_bring hX dX1 (by omega) (by omega) (by omega)) ?_
          intro I2 hq2
          obtain ⟨dX2, hf2⟩ := hq2
          have hH2 : vb_fr (vb_ca L) I I2 := hH1.tr (hf2.mono (fun a h => Or.inl h))
          have dA2 : vb_AD _ 41 I2 := dA1.fr hf2 (fun j h1 h2 => by simp only [vb_xc] at h2; omega)
          have dL2 : vb_LD _ L I2 := dL1.kp hf2 (fun j h1 h2 => by simp only [vb_xc] at h2; omega)
          refine mm_wv (vb_i 1) rfl (by decide) ?_
          refine mm_wr rfl rfl rfl ?_
          have hq : q_flyok (vs_x σ) a_ b_ = true := by rw [q_flyok, decide_eq_true h21, decide_eq_true h33]; rfl
          rw [hq, if_pos rfl, if_pos rfl]
          exact ⟨_, dV.act hL17 hH2 dX2 dA2, rfl⟩
        · intro h33
          refine mm_w1 rfl ?_
          refine mm_wgr (vV_S0 hV) (by decide) (by decide) (vV_P0_3 hV) (vV_a2 hV) ?_
          refine mm_wv (vb_i 1) rfl (by decide) ?_
          refine mm_w1 rfl ?_
          refine mm_wiav _ (vV_a2 hV) (vV_S2 hV) (by decide) (by omega) (vd_r dV (by omega)) ?_
          refine mm_wv (vb_i 1) rfl (by decide) ?_
          refine mm_w1 rfl ?_
          refine mm_wis (vV_S2 hV) (by decide) (by omega) ?_
          refine mm_wv (vb_i 0) rfl (by decide) ?_
          refine mm_wr rfl rfl rfl ?_
          have hq : q_flyok (vs_x σ) a_ b_ = false := by
            rw [q_flyok]
            first
              | (rw [decide_eq_false (not_not_intro h21)]; rfl)
              | (rw [decide_eq_false h33, Bool.and_false])
          rw [hq, if_neg (by decide), if_neg (by decide)]
          exact ⟨_, dV.ref hL17, rfl⟩
theorem v_teach (hV : vb_isV P S L) (dV : vb_VD σ L I) (hI : vs_inv σ) (hd : 20 ≤ d) (s y : Int32) : mm_C G d 87 [.ref 0, .int s, .int y] (I, P, J, S, nc, ns) (vb_RV (sp_teach σ s y) (fun I' => vb_VD (st_teach σ s y) L I') P J S nc ns) := by
  have hL := vV_hL hV
  have hX := vV_hX hV
  have hY := vV_hY hV
  have hA := vV_hA hV
  have hT := vV_hT hV
  have hC := vV_hC hV
  have hL17 := vV_L17 hV
  have hF : vb_fr (vb_vs L) I I := vb_fr.rf
  have dL := vd_l dV
  have dX := vd_x dV
  have dA := vd_a dV
  have dT := vd_t dV
  have hn := vl_10 dL
  have he := vx_e2 dX
  have ht := vx_t2 (vs_x σ)
  obtain ⟨hIl, hIx, hIa, hIi⟩ := hI
  obtain ⟨hok, hwf, he9⟩ := hIx
  have hs3 := vl_sc3 dL
  have hH : vb_fr (vb_ca L) I I := vb_fr.rf
  cases hs : vb_idx 2 s with
  | none =>
    rw [show sp_teach σ s y = .inr 0 by simp only [sp_teach, hs], show st_teach σ s y = σ by simp only [st_teach, hs]]
    show mm_W _ _ 87 (mm_blk 87 0) [.ref 0, .int s, .int y, .null] [] _ _
    refine mm_w1 rfl ?_
    refine mm_w1 rfl ?_
    refine mm_wcthr (vb_cv (vV_S0 hV) rfl rfl rfl rfl) (by decide) (by omega) (c_needS_no hV hs) rfl ?_
    exact ⟨I, dV, rfl⟩ 
  | some s_ =>
    obtain ⟨ls, rfl⟩ := vb_idx_some (by omega) hs
    rw [show sp_teach σ (vb_i s_) y = .inl (if q_tchok (vs_l σ) y then vx_y (vs_x σ) s_ else -2) by simp only [sp_teach, hs], show st_teach σ (vb_i s_) y = (if q_tchok (vs_l σ) y then vs_act σ (vx_tch (vs_x σ) s_ y) (vb_keep (vs_a σ) (vs_x σ)) else vs_ref σ 1) by simp only [st_teach, hs]]
    show mm_W _ _ 87 (mm_blk 87 0) [.ref 0, .int (vb_i s_), .int y, .null] [] _ _
    refine mm_w1 rfl ?_
    refine mm_w1 rfl ?_
    refine mm_cvp0 (vb_cv (vV_S0 hV) rfl rfl rfl rfl) (by decide) (by omega) (c_needS hV (by omega)) ?_
    refine mm_w1 rfl ?_
    refine mm_wv (-1) rfl (by decide) ?_
    refine mm_wiceq ?_ ?_
    · intro h7
      refine mm_w1 rfl ?_
      refine mm_wgr (vV_S0 hV) (by decide) (by decide) (vV_P0_6 hV) (vX_a0 hX) ?_
      refine mm_wgr (vX_S0 hX) (by decide) (by decide) (vX_P0_3 hX) (vX_a4 hX) ?_
      refine mm_w1 rfl ?_
      refine mm_wiav _ (vX_a4 hX) (vX_S4 hX) (by decide) (by omega) (vx_hy dX (by omega)) ?_
      refine mm_w1 (ls' := [_, _, _, _]) rfl ?_
      refine mm_w1 rfl ?_
      refine mm_wgr (vV_S0 hV) (by decide) (by decide) (vV_P0_8 hV) (vA_a0 hA) ?_
      refine mm_w1 rfl ?_
      refine mm_wgr (vV_S0 hV) (by decide) (by decide) (vV_P0_6 hV) (vX_a0 hX) ?_
      refine mm_cvn (vb_cv (vA_S0 hA) rfl rfl rfl rfl) (by decide) (by omega) (c_keep hA hX dA dX (by omega) (by omega)) ?_
      intro I1 hq1
      obtain ⟨dA1, hf1⟩ := hq1
      have hH1 : vb_fr (vb_ca L) I I1 := hH.tr (hf1.mono (fun a h => Or.inr (Or.inl h)))
      have dX1 : vb_XD _ 29 I1 := dX.fr hf1 (fun j h1 h2 => by simp only [vb_ac] at h2; omega)
      have dL1 : vb_LD _ L I1 := dL.kp hf1 (fun j h1 h2 => by simp only [vb_ac] at h2; omega)
      refine mm_w1 rfl ?_
      refine mm_wgr (vV_S0 hV) (by decide) (by decide) (vV_P0_6 hV) (vX_a0 hX) ?_
      refine mm_wgr (vX_S0 hX) (by decide) (by decide) (vX_P0_3 hX) (vX_a4 hX) ?_
      refine mm_w1 rfl ?_
      refine mm_w1 rfl ?_
      refine mm_wis (vX_S4 hX) (by decide) (by omega) ?_
      refine mm_w1 rfl ?_
      refine mm_wr rfl rfl rfl ?_
      have hq : q_tchok (vs_l σ) y = true := by
        rw [q_tchok]
        first
          | (rw [decide_eq_true h7]; rfl)
          | (rw [h15, Bool.or_true])
      rw [hq, if_pos rfl, if_pos rfl]
      have hfy : vb_fr (vb_xc 29) I1 (mm_up I1 (29 + 4) s_ y) := vb_fr.rf.up ⟨by omega, by omega⟩
      obtain ⟨a1, a2, a3, a4, a5, a6, a7⟩ := dX1
      refine ⟨_, dV.act hL17 (hH1.tr (hfy.mono (fun a h => Or.inl h))) ?_ (dA1.fr hfy (fun j h1 h2 => by simp only [vb_xc] at h2; omega)), rfl⟩
      refine ⟨?_, ?_, ?_, ?_, ?_, ?_, a7⟩
      · intro j hj; rw [vb_up3 _ _ (by omega)]; exact a1 j hj
      · intro j hj; rw [vb_up3 _ _ (by omega)]; exact a2 j hj
      · intro j hj; rw [vb_up3 _ _ (by omega)]; exact a3 j hj
      · intro j hj
        show _ = if j = s_ then y else _
        by_cases e : j = s_
        · subst e; rw [vb_up1, if_pos rfl]
        · rw [vb_up2 _ _ (by omega), if_neg e]; exact a4 j hj
      · intro j hj; rw [vb_up3 _ _ (by omega)]; exact a5 j hj
      · rw [vb_up3 _ _ (by omega)]; exact a6
    · intro h7
      refine mm_w1 rfl ?_
      refine mm_w1 rfl ?_
      refine mm_cvp (vb_cv (vV_S0 hV) rfl rfl rfl rfl) (by decide) (by omega) (c_isStyle hV dV) ?_
      refine mm_bifne ?_ ?_
      · intro h15
        refine mm_w1 rfl ?_
        refine mm_wgr (vV_S0 hV) (by decide) (by decide) (vV_P0_6 hV) (vX_a0 hX) ?_
        refine mm_wgr (vX_S0 hX) (by decide) (by decide) (vX_P0_3 hX) (vX_a4 hX) ?_
        refine mm_w1 rfl ?_
        refine mm_wiav _ (vX_a4 hX) (vX_S4 hX) (by decide) (by omega) (vx_hy dX (by omega)) ?_
        refine mm_w1 (ls' := [_, _, _, _]) rfl ?_
        refine mm_w1 rfl ?_
        refine mm_wgr (vV_S0 hV) (by decide) (by decide) (vV_P0_8 hV) (vA_a0 hA) ?_
        refine mm_w1 rfl ?_
        refine mm_wgr (vV_S0 hV) (by decide) (by decide) (vV_P0_6 hV) (vX_a0 hX) ?_
        refine mm_cvn (vb_cv (vA_S0 hA) rfl rfl rfl rfl) (by decide) (by omega) (c_keep hA hX dA dX (by omega) (by omega)) ?_
        intro I1 hq1
        obtain ⟨dA1, hf1⟩ := hq1
        have hH1 : vb_fr (vb_ca L) I I1 := hH.tr (hf1.mono (fun a h => Or.inr (Or.inl h)))
        have dX1 : vb_XD _ 29 I1 := dX.fr hf1 (fun j h1 h2 => by simp only [vb_ac] at h2; omega)
        have dL1 : vb_LD _ L I1 := dL.kp hf1 (fun j h1 h2 => by simp only [vb_ac] at h2; omega)
        refine mm_w1 rfl ?_
        refine mm_wgr (vV_S0 hV) (by decide) (by decide) (vV_P0_6 hV) (vX_a0 hX) ?_
        refine mm_wgr (vX_S0 hX) (by decide) (by decide) (vX_P0_3 hX) (vX_a4 hX) ?_
        refine mm_w1 rfl ?_
        refine mm_w1 rfl ?_
        refine mm_wis (vX_S4 hX) (by decide) (by omega) ?_
        refine mm_w1 rfl ?_
        refine mm_wr rfl rfl rfl ?_
        have hq : q_tchok (vs_l σ) y = true := by
          rw [q_tchok]
          first
            | (rw [decide_eq_true h7]; rfl)
            | (rw [h15, Bool.or_true])
        rw [hq, if_pos rfl, if_pos rfl]
        have hfy : vb_fr (vb_xc 29) I1 (mm_up I1 (29 + 4) s_ y) := vb_fr.rf.up ⟨by omega, by omega⟩
        obtain ⟨a1, a2, a3, a4, a5, a6, a7⟩ := dX1
        refine ⟨_, dV.act hL17 (hH1.tr (hfy.mono (fun a h => Or.inl h))) ?_ (dA1.fr hfy (fun j h1 h2 => by simp only [vb_xc] at h2; omega)), rfl⟩
        refine ⟨?_, ?_, ?_, ?_, ?_, ?_, a7⟩
        · intro j hj; rw [vb_up3 _ _ (by omega)]; exact a1 j hj
        · intro j hj; rw [vb_up3 _ _ (by omega)]; exact a2 j hj
        · intro j hj; rw [vb_up3 _ _ (by omega)]; exact a3 j hj
        · intro j hj
          show _ = if j = s_ then y else _
          by_cases e : j = s_
          · subst e; rw [vb_up1, if_pos rfl]
          · rw [vb_up2 _ _ (by omega), if_neg e]; exact a4 j hj
        · intro j hj; rw [vb_up3 _ _ (by omega)]; exact a5 j hj
        · rw [vb_up3 _ _ (by omega)]; exact a6
      · intro h15
        refine mm_w1 rfl ?_
        refine mm_wgr (vV_S0 hV) (by decide) (by decide) (vV_P0_3 hV) (vV_a2 hV) ?_
        refine mm_wv (vb_i 1) rfl (by decide) ?_
        refine mm_w1 rfl ?_
        refine mm_wiav _ (vV_a2 hV) (vV_S2 hV) (by decide) (by omega) (vd_r dV (by omega)) ?_
        refine mm_wv (vb_i 1) rfl (by decide) ?_
        refine mm_w1 rfl ?_
        refine mm_wis (vV_S2 hV) (by decide) (by omega) ?_
        refine mm_wv (-2) rfl (by decide) ?_
        refine mm_wr rfl rfl rfl ?_
        have hq : q_tchok (vs_l σ) y = false := by rw [q_tchok, decide_eq_false h7, h15]; rfl
        rw [hq, if_neg (by decide), if_neg (by decide)]
        exact ⟨_, dV.ref hL17, rfl⟩
end ACT
