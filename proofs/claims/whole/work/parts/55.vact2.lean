def sp_image (σ : vb_St) : vb_St := (vs_l σ, vs_x σ, vs_a σ, vs_t σ, some (vs_x σ, vs_a σ, vs_t σ), vs_p σ, vs_f σ, vs_r σ)
def st_restore (σ : vb_St) : vb_St := match vs_i σ with
  | none => σ
  | some z => (vs_l σ, z.1, z.2.1, z.2.2, vs_i σ, vs_p σ, vs_f σ, vs_r σ)
def sp_restore (σ : vb_St) : Int32 ⊕ Nat := .inl (vb_b (vs_i σ).isSome)
/-! the tape -/
def q_b1 (v : Int32) (k : Nat) : Int32 := (v.toUInt32 >>> ((vb_i k).toUInt32 &&& Int32.toUInt32 31)).toInt32 &&& vb_i 255
def q_bs (v : Int32) : List Int32 := [q_b1 v 24, q_b1 v 16, q_b1 v 8, q_b1 v 0]
def vs_tape (σ : vb_St) (tp : List Int32) : vb_St := (vs_l σ, vs_x σ, vs_a σ, vs_t σ, vs_i σ, tp, vs_f σ, vs_r σ)
def sp_feed (σ : vb_St) (a b c e f : Int32) : Int32 ⊕ Nat := .inl (if (vs_p σ).length + 20 ≤ 700 then vb_i ((vs_p σ).length + 20) else -1)
def st_feed (σ : vb_St) (a b c e f : Int32) : vb_St := if (vs_p σ).length + 20 ≤ 700 then vs_tape σ (vs_p σ ++ q_bs a ++ q_bs b ++ q_bs c ++ q_bs e ++ q_bs f) else σ
section ACT2
variable {G : mm_G} {d : Nat} {I : Nat → Nat → Int32} {P : Nat → Nat → Nat} {J : Nat → Nat → Int64} {S : List (Nat × Nat)} {nc ns : Nat} {μ : mm_M} {σ : vb_St} {L : Nat}
theorem v_play (hV : vb_isV P S L) (dV : vb_VD σ L I) (hI : vs_inv σ) (hd : 20 ≤ d) (k : Int32) : mm_C G d 88 [.ref 0, .int k] (I, P, J, S, nc, ns) (vb_RV (sp_play σ k) (fun I' => vb_VD (st_play σ k) L I') P J S nc ns) := by
  have hL := vV_hL hV
  have hX := vV_hX hV
  have hY := vV_hY hV
  have hA := vV_hA hV
  have hT := vV_hT hV
  have hC := vV_hC hV
  have hL17 := vV_L17 hV
  have hF : vb_fr (vb_vs L) I I := vb_fr.rf
  have dL := vd_l dV
  have dX := vd_x dV
  have dA := vd_a dV
  have dT := vd_t dV
  have hn := vl_10 dL
  have he := vx_e2 dX
  have ht := vx_t2 (vs_x σ)
  obtain ⟨hIl, hIx, hIa, hIi⟩ := hI
  obtain ⟨hok, hwf, he9⟩ := hIx
  have hs3 := vl_sc3 dL
  have hH : vb_fr (vb_ca L) I I := vb_fr.rf
  cases hk : q_many (vs_x σ) k with
  | none =>
    rw [show sp_play σ k = .inl (-1) by simp only [sp_play, hk], show st_play σ k = vs_ref σ 1 by simp only [st_play, hk]]
    have hno : ¬ (¬ k < vb_i 1 ∧ ¬ vb_i 30 < k ∧ ¬ vb_i 999 < vb_i (vx_e (vs_x σ)) + k) := by
      rintro ⟨g1, g2, g3⟩
      have g0 : ¬ k < 0 := by
        rw [Int32.lt_iff_toInt_lt] at g1 ⊢
        have i1 : (vb_i 1).toInt = 1 := rfl
        have i0 : (0 : Int32).toInt = 0 := rfl
        omega
      obtain ⟨j, hj, rfl⟩ := vb_of (n := 31) (by decide) g0 (vb_lt_le (by decide) g2)
      rw [q_many, vb_idx_of (by decide) hj] at hk
      rw [vb_lt (by omega) (by decide)] at g1
      rw [vb_add, vb_lt (by decide) (by omega)] at g3
      simp only at hk
      rw [if_neg (by omega), if_pos (by omega)] at hk
      cases hk
    show mm_W _ _ 88 (mm_blk 88 0) [.ref 0, .int k, .null] [] _ _
    refine mm_w1 rfl ?_
    refine mm_wv (vb_i 1) rfl (by decide) ?_
    refine mm_wiclt ?_ ?_
    · intro h2
      refine mm_w1 rfl ?_
      refine mm_wgr (vV_S0 hV) (by decide) (by decide) (vV_P0_3 hV) (vV_a2 hV) ?_
      refine mm_wv (vb_i 1) rfl (by decide) ?_
      refine mm_w1 rfl ?_
      refine mm_wiav _ (vV_a2 hV) (vV_S2 hV) (by decide) (by omega) (vd_r dV (by omega)) ?_
      refine mm_wv (vb_i 1) rfl (by decide) ?_
      refine mm_w1 rfl ?_
      refine mm_wis (vV_S2 hV) (by decide) (by omega) ?_
      refine mm_wv (-1) rfl (by decide) ?_
      refine mm_wr rfl rfl rfl ?_
      exact ⟨_, dV.ref hL17, rfl⟩
    · intro h2
      refine mm_w1 rfl ?_
      refine mm_wv (vb_i 30) rfl (by decide) ?_
      refine mm_wicgt ?_ ?_
      · intro h8
        refine mm_w1 rfl ?_
        refine mm_wgr (vV_S0 hV) (by decide) (by decide) (vV_P0_3 hV) (vV_a2 hV) ?_
        refine mm_wv (vb_i 1) rfl (by decide) ?_
        refine mm_w1 rfl ?_
        refine mm_wiav _ (vV_a2 hV) (vV_S2 hV) (by decide) (by omega) (vd_r dV (by omega)) ?_
        refine mm_wv (vb_i 1) rfl (by decide) ?_
        refine mm_w1 rfl ?_
        refine mm_wis (vV_S2 hV) (by decide) (by omega) ?_
        refine mm_wv (-1) rfl (by decide) ?_
        refine mm_wr rfl rfl rfl ?_
        exact ⟨_, dV.ref hL17, rfl⟩
      · intro h8
        refine mm_w1 rfl ?_
        refine mm_wgr (vV_S0 hV) (by decide) (by decide) (vV_P0_6 hV) (vX_a0 hX) ?_
        refine mm_wgiv _ (vX_S0 hX) (by decide) (by decide) (vx_he dX) ?_
        refine mm_w1 rfl ?_
        refine mm_w1 rfl ?_ 
        refine mm_wv (vb_i 999) rfl (by decide) ?_
        refine mm_wicle ?_ ?_
        · intro h23
          exact absurd ⟨h2, h8, h23⟩ hno
        · intro h23
          refine mm_w1 rfl ?_
          refine mm_wgr (vV_S0 hV) (by decide) (by decide) (vV_P0_3 hV) (vV_a2 hV) ?_
          refine mm_wv (vb_i 1) rfl (by decide) ?_
          refine mm_w1 rfl ?_
          refine mm_wiav _ (vV_a2 hV) (vV_S2 hV) (by decide) (by omega) (vd_r dV (by omega)) ?_
          refine mm_wv (vb_i 1) rfl (by decide) ?_
          refine mm_w1 rfl ?_
          refine mm_wis (vV_S2 hV) (by decide) (by omega) ?_
          refine mm_wv (-1) rfl (by decide) ?_
          refine mm_wr rfl rfl rfl ?_
          exact ⟨_, dV.ref hL17, rfl⟩
  | some k_ =>
    rw [show sp_play σ k = .inl (vb_i (vx_e (vs_x σ) + k_)) by simp only [sp_play, hk], show st_play σ k = vs_act σ (vx_seq (vs_l σ) (vs_x σ) k_) (vb_keep (vs_a σ) (vs_x σ)) by simp only [st_play, hk]]
    have hkk : 1 ≤ k_ ∧ k_ ≤ 30 ∧ vx_e (vs_x σ) + k_ ≤ 999 ∧ k = vb_i k_ := by
      rw [q_many] at hk
      cases hj : vb_idx 31 k with
      | none => rw [hj] at hk; cases hk
      | some j =>
        obtain ⟨lj, rfl⟩ := vb_idx_some (by decide) hj
        rw [hj] at hk
        simp only at hk
        split at hk
        · cases hk
        · split at hk
          · cases hk; rename_i c1 c2; exact ⟨by omega, by omega, c2, rfl⟩
          · cases hk
    obtain ⟨k1, k2, k3, rfl⟩ := hkk
    have loop := vb_down (p := fun j => ∀ (I1 : Nat → Nat → Int32), vb_fr (vb_ca L) I I1 → vb_XD (vx_seq (vs_l σ) (vs_x σ) j) 29 I1 → vb_AD (vb_keep (vs_a σ) (vs_x σ)) 41 I1 → vb_LD (vs_l σ) L I1 → mm_W G d 88 (mm_blk 88 51) [.ref 0, .int (vb_i k_), .int (vb_i j)] [] (I1, P, J, S, nc, ns) (vb_RV (.inl (vb_i (vx_e (vs_x σ) + k_))) (fun I' => vb_VD (vs_act σ (vx_seq (vs_l σ) (vs_x σ) k_) (vb_keep (vs_a σ) (vs_x σ))) L I') P J S nc ns)) k_ (by
      intro j hj ih I1 hH1 dX1 dA1 dL1
      have hse := vx_seq_e (vs_l σ) (vs_x σ) j
      have hsk := vx_ok.seq hok j
      refine mm_w1 rfl ?_
      refine mm_w1 rfl ?_
      refine mm_nicge (by omega) (by omega) ?_ ?_
      · intro h53
        refine mm_w1 rfl ?_
        refine mm_wgr (vV_S0 hV) (by decide) (by decide) (vV_P0_6 hV) (vX_a0 hX) ?_
        refine mm_wgiv _ (vX_S0 hX) (by decide) (by decide) (vx_he dX1) ?_
        refine mm_wr rfl rfl rfl ?_
        have e : j = k_ := by omega
        subst e
        refine ⟨_, dV.act hL17 hH1 dX1 dA1, ?_⟩
        rw [hse]
      · intro h53
        refine mm_w1 rfl ?_
        refine mm_wgr (vV_S0 hV) (by decide) (by decide) (vV_P0_6 hV) (vX_a0 hX) ?_
        refine mm_w1 rfl ?_
        refine mm_wgr (vV_S0 hV) (by decide) (by decide) (vV_P0_5 hV) (vL_a0 hL) ?_
        refine mm_cvi (vb_cv (vX_S0 hX) rfl rfl rfl rfl) (by decide) (by omega) (c_play (ℓ := vs_l σ) hX hL dX1 dL1 (by omega) (by omega) (by assumption) (by omega)) ?_
        intro I2 hq2
        obtain ⟨dX2, dL2, hf2⟩ := hq2
        have hH2 : vb_fr (vb_ca L) I I2 := hH1.tr (hf2.mono (fun a h => h.elim (fun h => Or.inr (Or.inr (Or.inl h))) Or.inl))
        have dA2 : vb_AD _ 41 I2 := dA1.fr hf2 (fun j h1 h2 => by simp only [vb_pc, vb_scr, vb_xc] at h2; omega)
        refine mm_w1 rfl ?_
        refine mm_nincL (ls' := [_, _, _]) 1 rfl (by decide) rfl ?_
        refine mm_wgoto ?_
        exact ih (by omega) _ hH2 dX2 dA2 dL2
      )
    show mm_W _ _ 88 (mm_blk 88 0) [.ref 0, .int (vb_i k_), .null] [] _ _
    refine mm_w1 rfl ?_
    refine mm_wv (vb_i 1) rfl (by decide) ?_
    refine mm_niclt (by omega) (by omega) ?_ ?_
    · intro h2
      exact absurd h2 (by omega)
    · intro h2
      refine mm_w1 rfl ?_
      refine mm_wv (vb_i 30) rfl (by decide) ?_
      refine mm_nicgt (by omega) (by omega) ?_ ?_
      · intro h8
        exact absurd h8 (by omega)
      · intro h8
        refine mm_w1 rfl ?_
        refine mm_wgr (vV_S0 hV) (by decide) (by decide) (vV_P0_6 hV) (vX_a0 hX) ?_
        refine mm_wgiv _ (vX_S0 hX) (by decide) (by decide) (vx_he dX) ?_
        refine mm_w1 rfl ?_
        refine mm_nadd ?_
        refine mm_wv (vb_i 999) rfl (by decide) ?_
        refine mm_nicle (by omega) (by omega) ?_ ?_
        · intro h23
          refine mm_w1 rfl ?_
          refine mm_wgr (vV_S0 hV) (by decide) (by decide) (vV_P0_8 hV) (vA_a0 hA) ?_
          refine mm_w1 rfl ?_
          refine mm_wgr (vV_S0 hV) (by decide) (by decide) (vV_P0_6 hV) (vX_a0 hX) ?_
          refine mm_cvn (vb_cv (vA_S0 hA) rfl rfl rfl rfl) (by decide) (by omega) (c_keep hA hX dA dX (by omega) (by omega)) ?_
          intro I1 hq1
          obtain ⟨dA1, hf1⟩ := hq1
          have hH1 : vb_fr (vb_ca L) I I1 := hH.tr (hf1.mono (fun a h => Or.inr (Or.inl h)))
          have dX1 : vb_XD _ 29 I1 := dX.fr hf1 (fun j h1 h2 => by simp only [vb_ac] at h2; omega)
          have dL1 : vb_LD _ L I1 := dL.kp hf1 (fun j h1 h2 => by simp only [vb_ac] at h2; omega)
          refine mm_wv (vb_i 0) rfl (by decide) ?_
          refine mm_w1 (ls' := [_, _, _]) rfl ?_
          exact loop 0 (by omega) _ hH1 dX1 dA1 dL1
        · intro h23
          exact absurd h23 (by omega)
theorem v_undo (hV : vb_isV P S L) (dV : vb_VD σ L I) (hI : vs_inv σ) (hd : 20 ≤ d) : mm_C G d 89 [.ref 0] (I, P, J, S, nc, ns) (vb_RV (sp_undo σ) (fun I' => vb_VD (st_undo σ) L I') P J S nc ns) := by
  have hL := vV_hL hV
  have hX := vV_hX hV
  have hY := vV_hY hV
  have hA := vV_hA hV
  have hT := vV_hT hV
  have hC := vV_hC hV
  have hL17 := vV_L17 hV
  have hF : vb_fr (vb_vs L) I I := vb_fr.rf
  have dL := vd_l dV
  have dX := vd_x dV
  have dA := vd_a dV
  have dT := vd_t dV
  have hn := vl_10 dL
  have he := vx_e2 dX
  have ht := vx_t2 (vs_x σ)
  obtain ⟨hIl, hIx, hIa, hIi⟩ := hI
  obtain ⟨hok, hwf, he9⟩ := hIx
  have hs3 := vl_sc3 dL
  have hH : vb_fr (vb_ca L) I I := vb_fr.rf
  rw [sp_undo]
  cases hl : (vs_a σ).getLast? with
  | none =>
    have h0 : vs_a σ = [] := List.getLast?_eq_none_iff.mp hl
    have hz : (vs_a σ).length = 0 := by rw [h0]; rfl
    rw [show st_undo σ = σ by simp only [st_undo, hl], if_pos hz]
    show mm_W _ _ 89 (mm_blk 89 0) [.ref 0] [] _ _
    refine mm_w1 rfl ?_
    refine mm_wgr (vV_S0 hV) (by decide) (by decide) (vV_P0_8 hV) (vA_a0 hA) ?_
    refine mm_wgiv _ (vA_S0 hA) (by decide) (by decide) (vb_AD.len dA) ?_
    have ha40 := dA.le
    refine mm_nifne (by omega) (fun h7 => absurd hz h7) ?_
    intro h7 
    refine mm_wv (-1) rfl (by decide) ?_
    refine mm_wr rfl rfl rfl ?_
    exact ⟨I, dV, rfl⟩
  | some y =>
    have hap : vs_a σ = (vs_a σ).dropLast ++ [y] := by
      have hne : vs_a σ ≠ [] := fun h => by rw [h] at hl; cases hl
      have h2 := List.dropLast_concat_getLast hne
      rw [List.getLast?_eq_some_getLast hne] at hl
      cases hl
      exact h2.symm
    have hlen : (vs_a σ).length = (vs_a σ).dropLast.length + 1 := by rw [hap]; simp
    have ha40 := dA.le
    have hz : ¬ (vs_a σ).length = 0 := by omega
    have dA2 := dA
    rw [hap] at dA2
    rw [show st_undo σ = vs_act σ y (vs_a σ).dropLast by simp only [st_undo, hl], if_neg hz]
    show mm_W _ _ 89 (mm_blk 89 0) [.ref 0] [] _ _
    refine mm_w1 rfl ?_
    refine mm_wgr (vV_S0 hV) (by decide) (by decide) (vV_P0_8 hV) (vA_a0 hA) ?_
    refine mm_wgiv _ (vA_S0 hA) (by decide) (by decide) (vb_AD.len dA) ?_
    refine mm_nifne (by omega) ?_ ?_
    · intro h7
      refine mm_w1 rfl ?_
      refine mm_wgr (vV_S0 hV) (by decide) (by decide) (vV_P0_8 hV) (vA_a0 hA) ?_
      refine mm_w1 rfl ?_
      refine mm_wgr (vV_S0 hV) (by decide) (by decide) (vV_P0_6 hV) (vX_a0 hX) ?_
      refine mm_cvn (vb_cv (vA_S0 hA) rfl rfl rfl rfl) (by decide) (by omega) (c_back (x := y) hA hX dA2 (by omega) (by omega)) ?_
      intro I1 hq1
      obtain ⟨dA1, dX1, hf1⟩ := hq1
      have hH1 : vb_fr (vb_ca L) I I1 := hf1.mono (fun a h => h.elim (fun h => Or.inr (Or.inl h)) Or.inl) 
      refine mm_w1 rfl ?_
      refine mm_wgr (vV_S0 hV) (by decide) (by decide) (vV_P0_8 hV) (vA_a0 hA) ?_
      refine mm_wgiv _ (vA_S0 hA) (by decide) (by decide) (vb_AD.len dA1) ?_
      refine mm_wr rfl rfl rfl ?_
      refine ⟨_, dV.act hL17 hH1 dX1 dA1, ?_⟩
      rw [hlen, Nat.add_sub_cancel]
    · intro h7
      exact absurd h7 hz
theorem v_see (hV : vb_isV P S L) (dV : vb_VD σ L I) (hI : vs_inv σ) (hd : 20 ≤ d) (i a b : Int32) : mm_C G d 99 [.ref 0, .int i, .int a, .int b] (I, P, J, S, nc, ns) (vb_RV (sp_see σ i a b) (fun I' => vb_VD (st_see σ i a b) L I') P J S nc ns) := by
  have hL := vV_hL hV
  have hX := vV_hX hV
  have hY := vV_hY hV
  have hA := vV_hA hV
  have hT := vV_hT hV
  have hC := vV_hC hV
  have hL17 := vV_L17 hV
  have hF : vb_fr (vb_vs L) I I := vb_fr.rf
  have dL := vd_l dV
  have dX := vd_x dV
  have dA := vd_a dV
  have dT := vd_t dV
  have hn := vl_10 dL
  have he := vx_e2 dX
  have ht := vx_t2 (vs_x σ)
  obtain ⟨hIl, hIx, hIa, hIi⟩ := hI
  obtain ⟨hok, hwf, he9⟩ := hIx
  have hs3 := vl_sc3 dL
  have hH : vb_fr (vb_ca L) I I := vb_fr.rf
  cases ha : vb_idx (vb_n (vs_l σ)) a with
  | none =>
    rw [show sp_see σ i a b = .inr 0 by simp only [sp_see, ha], show st_see σ i a b = σ by simp only [st_see, ha]]
    show mm_W _ _ 99 (mm_blk 99 0) [.ref 0, .int i, .int a, .int b] [] _ _
    refine mm_w1 rfl ?_
    refine mm_w1 rfl ?_
    refine mm_wcthr (vb_cv (vV_S0 hV) rfl rfl rfl rfl) (by decide) (by omega) (c_needV_no hV dV ha) rfl ?_
    exact ⟨I, dV, rfl⟩ 
  | some a_ =>
    obtain ⟨la, rfl⟩ := vb_idx_some (by omega) ha
    cases hb : vb_idx (vb_n (vs_l σ)) b with
    | none =>
      rw [show sp_see σ i (vb_i a_) b = .inr 0 by simp only [sp_see, ha, hb], show st_see σ i (vb_i a_) b = σ by simp only [st_see, ha, hb]]
      show mm_W _ _ 99 (mm_blk 99 0) [.ref 0, .int i, .int (vb_i a_), .int b] [] _ _
      refine mm_w1 rfl ?_
      refine mm_w1 rfl ?_
      refine mm_cvp0 (vb_cv (vV_S0 hV) rfl rfl rfl rfl) (by decide) (by omega) (c_needV hV dV (by omega)) ?_
      refine mm_w1 rfl ?_
      refine mm_w1 rfl ?_
      refine mm_wcthr (vb_cv (vV_S0 hV) rfl rfl rfl rfl) (by decide) (by omega) (c_needV_no hV dV hb) rfl ?_
      exact ⟨I, dV, rfl⟩ 
    | some b_ =>
      obtain ⟨lb, rfl⟩ := vb_idx_some (by omega) hb
      have ht6 := dT.le
      cases hk : q_seeok σ i with
      | none =>
        rw [show sp_see σ i (vb_i a_) (vb_i b_) = .inl (-1) by simp only [sp_see, ha, hb, hk], show st_see σ i (vb_i a_) (vb_i b_) = vs_ref σ 2 by simp only [st_see, ha, hb, hk]]
        have hno : ¬ (¬ i < 0 ∧ i < vb_i 30 ∧ (vs_t σ).length < 6) := by
          rintro ⟨g0, g1, g2⟩
          obtain ⟨j, hj, rfl⟩ := vb_of (n := 30) (by decide) g0 g1
          rw [q_seeok, vb_idx_of (by decide) hj] at hk
          simp only at hk
          rw [if_pos g2] at hk; cases hk
        show mm_W _ _ 99 (mm_blk 99 0) [.ref 0, .int i, .int (vb_i a_), .int (vb_i b_)] [] _ _
        refine mm_w1 rfl ?_
        refine mm_w1 rfl ?_
        refine mm_cvp0 (vb_cv (vV_S0 hV) rfl rfl rfl rfl) (by decide) (by omega) (c_needV hV dV (by omega)) ?_
        refine mm_w1 rfl ?_
        refine mm_w1 rfl ?_
        refine mm_cvp0 (vb_cv (vV_S0 hV) rfl rfl rfl rfl) (by decide) (by omega) (c_needV hV dV (by omega)) ?_
        refine mm_w1 rfl ?_
        refine mm_wiflt ?_ ?_
        · intro h11
          refine mm_w1 rfl ?_
          refine mm_wgr (vV_S0 hV) (by decide) (by decide) (vV_P0_3 hV) (vV_a2 hV) ?_
          refine mm_wv (vb_i 2) rfl (by decide) ?_
          refine mm_w1 rfl ?_
          refine mm_wiav _ (vV_a2 hV) (vV_S2 hV) (by decide) (by omega) (vd_r dV (by omega)) ?_
          refine mm_wv (vb_i 1) rfl (by decide) ?_
          refine mm_w1 rfl ?_
          refine mm_wis (vV_S2 hV) (by decide) (by omega) ?_
          refine mm_wv (-1) rfl (by decide) ?_
          refine mm_wr rfl rfl rfl ?_
          exact ⟨_, dV.ref hL17, rfl⟩
        · intro h11
          refine mm_w1 rfl ?_
          refine mm_wv (vb_i 30) rfl (by decide) ?_
          refine mm_wicge ?_ ?_
          · intro h17
            refine mm_w1 rfl ?_
            refine mm_wgr (vV_S0 hV) (by decide) (by decide) (vV_P0_3 hV) (vV_a2 hV) ?_
            refine mm_wv (vb_i 2) rfl (by decide) ?_
            refine mm_w1 rfl ?_
            refine mm_wiav _ (vV_a2 hV) (vV_S2 hV) (by decide) (by omega) (vd_r dV (by omega)) ?_
            refine mm_wv (vb_i 1) rfl (by decide) ?_
            refine mm_w1 rfl ?_
            refine mm_wis (vV_S2 hV) (by decide) (by omega) ?_
            refine mm_wv (-1) rfl (by decide) ?_
            refine mm_wr rfl rfl rfl ?_
            exact ⟨_, dV.ref hL17, rfl⟩
          · intro h17
            refine mm_w1 rfl ?_
            refine mm_wgr (vV_S0 hV) (by decide) (by decide) (vV_P0_9 hV) (vT_a0 hT) ?_
            refine mm_wgiv _ (vT_S0 hT) (by decide) (by decide) (vb_TD.len dT) ?_
            refine mm_wv (vb_i 6) rfl (by decide) ?_
            refine mm_niclt (by omega) (by omega) ?_ ?_
            · intro h29
              exact absurd ⟨h11, h17, h29⟩ hno
            · intro h29
              refine mm_w1 rfl ?_
              refine mm_wgr (vV_S0 hV) (by decide) (by decide) (vV_P0_3 hV) (vV_a2 hV) ?_
              refine mm_wv (vb_i 2) rfl (by decide) ?_
              refine mm_w1 rfl ?_
              refine mm_wiav _ (vV_a2 hV) (vV_S2 hV) (by decide) (by omega) (vd_r dV (by omega)) ?_
              refine mm_wv (vb_i 1) rfl (by decide) ?_
              refine mm_w1 rfl ?_
              refine mm_wis (vV_S2 hV) (by decide) (by omega) ?_
              refine mm_wv (-1) rfl (by decide) ?_
              refine mm_wr rfl rfl rfl ?_
              exact ⟨_, dV.ref hL17, rfl⟩
      | some k_ =>
        have hkk : k_ < 30 ∧ (vs_t σ).length < 6 ∧ i = vb_i k_ := by
          rw [q_seeok] at hk
          cases hj : vb_idx 30 i with
          | none => rw [hj] at hk; cases hk
          | some j =>
            obtain ⟨lj, rfl⟩ := vb_idx_some (by decide) hj
            rw [hj] at hk
            simp only at hk
            split at hk
            · cases hk; rename_i c1; exact ⟨lj, c1, rfl⟩
            · cases hk
        obtain ⟨k1, k2, rfl⟩ := hkk
        rw [show sp_see σ (vb_i k_) (vb_i a_) (vb_i b_) = .inl (vb_i ((vs_t σ).length + 1)) by simp only [sp_see, ha, hb, hk], show st_see σ (vb_i k_) (vb_i a_) (vb_i b_) = vs_see σ (vs_t σ ++ [(k_, if a_ = b_ then 100 else 10 * a_ + b_)]) by simp only [st_see, ha, hb, hk]]
        show mm_W _ _ 99 (mm_blk 99 0) [.ref 0, .int (vb_i k_), .int (vb_i a_), .int (vb_i b_)] [] _ _
        refine mm_w1 rfl ?_
        refine mm_w1 rfl ?_
        refine mm_cvp0 (vb_cv (vV_S0 hV) rfl rfl rfl rfl) (by decide) (by omega) (c_needV hV dV (by omega)) ?_
        refine mm_w1 rfl ?_
        refine mm_w1 rfl ?_
        refine mm_cvp0 (vb_cv (vV_S0 hV) rfl rfl rfl rfl) (by decide) (by omega) (c_needV hV dV (by omega)) ?_
        refine mm_w1 rfl ?_
        refine mm_niflt (by omega) ?_
        refine mm_w1 rfl ?_
        refine mm_wv (vb_i 30) rfl (by decide) ?_
        refine mm_nicge (by omega) (by omega) ?_ ?_
        · intro h17
          exact absurd k1 h17
        · intro h17
          refine mm_w1 rfl ?_
          refine mm_wgr (vV_S0 hV) (by decide) (by decide) (vV_P0_9 hV) (vT_a0 hT) ?_
          refine mm_wgiv _ (vT_S0 hT) (by decide) (by decide) (vb_TD.len dT) ?_
          refine mm_wv (vb_i 6) rfl (by decide) ?_
          refine mm_niclt (by omega) (by omega) ?_ ?_
          · intro h29
            refine mm_w1 rfl ?_
            refine mm_wgr (vV_S0 hV) (by decide) (by decide) (vV_P0_9 hV) (vT_a0 hT) ?_
            refine mm_w1 rfl ?_
            refine mm_w1 rfl ?_
            refine mm_w1 rfl ?_
            refine mm_nicne (by omega) (by omega) ?_ ?_
            · intro h51
              refine mm_wv (vb_i 100) rfl (by decide) ?_
              refine mm_w1 rfl ?_
              refine mm_nmul ?_
              refine mm_w1 rfl ?_
              refine mm_nadd ?_
              have hm : vb_i (100 * a_ + b_) = vb_told (if a_ = b_ then 100 else 10 * a_ + b_) := by rw [if_neg h51, vb_told_lt (by omega), show (10 * a_ + b_) / 10 = a_ by omega, show (10 * a_ + b_) % 10 = b_ by omega]
              rw [hm]
              refine mm_cvn (vb_cv (vT_S0 hT) rfl rfl rfl rfl) (by decide) (by omega) (c_add hT dT k2 k1 (by split <;> omega)) ?_
              intro I1 hq1
              obtain ⟨dT1, hf1⟩ := hq1 
              refine mm_w1 rfl ?_
              refine mm_wgr (vV_S0 hV) (by decide) (by decide) (vV_P0_9 hV) (vT_a0 hT) ?_
              refine mm_wgiv _ (vT_S0 hT) (by decide) (by decide) (vb_TD.len dT1) ?_
              refine mm_wr rfl rfl rfl ?_
              refine ⟨_, dV.see hL17 hf1 dT1, ?_⟩
              rw [List.length_append]; rfl
            · intro h51
              refine mm_wv (-1) rfl (by decide) ?_
              refine mm_wgoto ?_
              have hm : (-1 : Int32) = vb_told (if a_ = b_ then 100 else 10 * a_ + b_) := by rw [if_pos h51]; rfl
              rw [hm]
              refine mm_cvn (vb_cv (vT_S0 hT) rfl rfl rfl rfl) (by decide) (by omega) (c_add hT dT k2 k1 (by split <;> omega)) ?_
              intro I1 hq1
              obtain ⟨dT1, hf1⟩ := hq1 
              refine mm_w1 rfl ?_
              refine mm_wgr (vV_S0 hV) (by decide) (by decide) (vV_P0_9 hV) (vT_a0 hT) ?_
              refine mm_wgiv _ (vT_S0 hT) (by decide) (by decide) (vb_TD.len dT1) ?_
              refine mm_wr rfl rfl rfl ?_
              refine ⟨_, dV.see hL17 hf1 dT1, ?_⟩
              rw [List.length_append]; rfl
          · intro h29
            exact absurd k2 h29
theorem v_forget (hV : vb_isV P S L) (dV : vb_VD σ L I) (hd : 20 ≤ d) : mm_C G d 100 [.ref 0] (I, P, J, S, nc, ns) (vb_R none (fun I' => vb_VD (vs_see σ []) L I') P J S nc ns) := by
  have hL := vV_hL hV
  have hX := vV_hX hV
  have hY := vV_hY hV
  have hA := vV_hA hV
  have hT := vV_hT hV
  have hC := vV_hC hV
  have hL17 := vV_L17 hV
  have hF : vb_fr (vb_vs L) I I := vb_fr.rf
  have dL := vd_l dV
  have dX := vd_x dV
  have dA := vd_a dV
  have dT := vd_t dV
  have hn := vl_10 dL
  have he := vx_e2 dX
  have ht := vx_t2 (vs_x σ)
  show mm_W _ _ 100 (mm_blk 100 0) [.ref 0] [] _ _
  refine mm_w1 rfl ?_
  refine mm_wgr (vV_S0 hV) (by decide) (by decide) (vV_P0_9 hV) (vT_a0 hT) ?_
  refine mm_cvn (vb_cv (vT_S0 hT) rfl rfl rfl rfl) (by decide) (by omega) (c_clrT hT) ?_
  intro I1 hq1
  obtain ⟨dT1, hf1⟩ := hq1
  refine mm_wr rfl rfl rfl ?_
  exact ⟨_, dV.see hL17 hf1 dT1, rfl⟩
theorem v_image (hV : vb_isV P S L) (dV : vb_VD σ L I) (hd : 20 ≤ d) : mm_C G d 120 [.ref 0] (I, P, J, S, nc, ns) (vb_R none (fun I' => vb_VD (sp_image σ) L I') P J S nc ns) := by
  have hL := vV_hL hV
  have hX := vV_hX hV
  have hY := vV_hY hV
  have hA := vV_hA hV
  have hT := vV_hT hV
  have hC := vV_hC hV
  have hL17 := vV_L17 hV
  have hF : vb_fr (vb_vs L) I I := vb_fr.rf
  have dL := vd_l dV
  have dX := vd_x dV
  have dA := vd_a dV
  have dT := vd_t dV
  have hn := vl_10 dL
  have he := vx_e2 dX
  have ht := vx_t2 (vs_x σ)
  have hZ := vV_hZ hV
  have hB := vV_hB hV
  have hU := vV_hU hV
  show mm_W _ _ 120 (mm_blk 120 0) [.ref 0] [] _ _
  refine mm_w1 rfl ?_
  refine mm_wgr (vV_S0 hV) (by decide) (by decide) (vV_P0_11 hV) (vX_a0 hZ) ?_
  refine mm_w1 rfl ?_
  refine mm_wgr (vV_S0 hV) (by decide) (by decide) (vV_P0_6 hV) (vX_a0 hX) ?_
  refine mm_cvn (vb_cv (vX_S0 hZ) rfl rfl rfl rfl) (by decide) (by omega) (c_copyX hZ hX dX (by omega)) ?_
  intro I1 hq1
  obtain ⟨dZ1, hf1⟩ := hq1
  have dA1 : vb_AD (vs_a σ) 41 I1 := dA.fr hf1 (fun j h1 h2 => by simp only [vb_xc] at h2; omega)
  have dT1 : vb_TD (vs_t σ) 43 I1 := dT.fr hf1 (fun j h1 h2 => by simp only [vb_xc] at h2; omega) 
  refine mm_w1 rfl ?_
  refine mm_wgr (vV_S0 hV) (by decide) (by decide) (vV_P0_12 hV) (vA_a0 hB) ?_
  refine mm_w1 rfl ?_
  refine mm_wgr (vV_S0 hV) (by decide) (by decide) (vV_P0_8 hV) (vA_a0 hA) ?_
  refine mm_cvn (vb_cv (vA_S0 hB) rfl rfl rfl rfl) (by decide) (by omega) (c_copyA hB hA dA1 (by omega)) ?_
  intro I2 hq2
  obtain ⟨dB2, hf2⟩ := hq2
  have dZ2 : vb_XD (vs_x σ) 46 I2 := dZ1.fr hf2 (fun j h1 h2 => by simp only [vb_ac] at h2; omega)
  have dT2 : vb_TD (vs_t σ) 43 I2 := dT1.fr hf2 (fun j h1 h2 => by simp only [vb_ac] at h2; omega) 
  refine mm_w1 rfl ?_
  refine mm_wgr (vV_S0 hV) (by decide) (by decide) (vV_P0_13 hV) (vT_a0 hU) ?_
  refine mm_w1 rfl ?_
  refine mm_wgr (vV_S0 hV) (by decide) (by decide) (vV_P0_9 hV) (vT_a0 hT) ?_
  refine mm_cvn (vb_cv (vT_S0 hU) rfl rfl rfl rfl) (by decide) (by omega) (c_copyT hU hT dT2 (by omega)) ?_
  intro I3 hq3
  obtain ⟨dU3, hf3⟩ := hq3
  have dZ3 : vb_XD (vs_x σ) 46 I3 := dZ2.fr hf3 (fun j h1 h2 => by simp only [vb_tc] at h2; omega)
  have dB3 : vb_AD (vs_a σ) 52 I3 := dB2.fr hf3 (fun j h1 h2 => by simp only [vb_tc] at h2; omega) 
  refine mm_w1 rfl ?_
  refine mm_wv (vb_i 1) rfl (by decide) ?_
  refine mm_wpz (vV_S0 hV) (by decide) (by decide) (Or.inr rfl) ?_
  refine mm_wr rfl rfl rfl ?_
  have hk : ∀ a, ¬ (46 ≤ a ∧ a < 57) → I3 a = I a := fun a ha => by
    rw [hf3 a (by simp only [vb_tc]; omega), hf2 a (by simp only [vb_ac]; omega), hf1 a (by simp only [vb_xc]; omega)]
  have hk2 : vb_fr (fun a => a = 0 ∨ (46 ≤ a ∧ a < 57)) I (mm_up I3 0 10 (vb_i 1)) := fun a ha => by
    rw [vb_up3 _ _ (by omega), hk a (by omega)]
  have hk3 : vb_fr (fun a => a = 0) I3 (mm_up I3 0 10 (vb_i 1)) := fun a ha => vb_up3 _ _ ha
  obtain ⟨h1, h2, h3, h4, h5, h6, h7, h8, h9, h10, h11⟩ := dV
  refine ⟨_, ⟨h1.kp hk2 (fun j a b => by omega), h2.fr hk2 (fun j a b => by omega), h3.fr hk2 (fun j a b => by omega), h4.fr hk2 (fun j a b => by omega), by rw [vb_up1]; rfl, ?_, ?_, h8, ?_, ?_, ?_⟩, rfl⟩
  · intro z hz
    cases hz
    exact ⟨dZ3.fr hk3 (fun j a b => by omega), dB3.fr hk3 (fun j a b => by omega), dU3.fr hk3 (fun j a b => by omega)⟩
  · rw [vb_up2 _ _ (by omega), hk 0 (by omega)]; exact h7
  · rw [hk2 1 (by omega)]; exact h9
  · rw [vb_up2 _ _ (by omega), hk 0 (by omega)]; exact h10
  · rw [hk2 2 (by omega)]; exact h11
theorem v_restore (hV : vb_isV P S L) (dV : vb_VD σ L I) (hd : 20 ≤ d) : mm_C G d 121 [.ref 0] (I, P, J, S, nc, ns) (vb_RV (sp_restore σ) (fun I' => vb_VD (st_restore σ) L I') P J S nc ns) := by
  have hL := vV_hL hV
  have hX := vV_hX hV
  have hY := vV_hY hV
  have hA := vV_hA hV
  have hT := vV_hT hV
  have hC := vV_hC hV
  have hL17 := vV_L17 hV
  have hF : vb_fr (vb_vs L) I I := vb_fr.rf
  have dL := vd_l dV
  have dX := vd_x dV
  have dA := vd_a dV
  have dT := vd_t dV
  have hn := vl_10 dL
  have he := vx_e2 dX
  have ht := vx_t2 (vs_x σ)
  have hZ := vV_hZ hV
  have hB := vV_hB hV
  have hU := vV_hU hV
  rw [sp_restore]
  cases hi : vs_i σ with
  | none =>
    rw [show st_restore σ = σ by simp only [st_restore, hi]]
    show mm_W _ _ 121 (mm_blk 121 0) [.ref 0] [] _ _
    refine mm_w1 rfl ?_
    refine mm_wgiv _ (vV_S0 hV) (by decide) (by decide) (vd_im dV) ?_
    refine mm_bifne ?_ ?_
    · intro h4
      rw [hi] at h4; cases h4
    · intro h4
      refine mm_wv (vb_i 0) rfl (by decide) ?_
      refine mm_wr rfl rfl rfl ?_
      exact ⟨I, dV, rfl⟩
  | some z =>
    rw [show st_restore σ = (vs_l σ, z.1, z.2.1, z.2.2, vs_i σ, vs_p σ, vs_f σ, vs_r σ) by simp only [st_restore, hi]]
    obtain ⟨dZ, dB, dU⟩ := vd_id dV z hi
    show mm_W _ _ 121 (mm_blk 121 0) [.ref 0] [] _ _
    refine mm_w1 rfl ?_
    refine mm_wgiv _ (vV_S0 hV) (by decide) (by decide) (vd_im dV) ?_
    refine mm_bifne ?_ ?_
    · intro h4
      refine mm_w1 rfl ?_
      refine mm_wgr (vV_S0 hV) (by decide) (by decide) (vV_P0_6 hV) (vX_a0 hX) ?_
      refine mm_w1 rfl ?_
      refine mm_wgr (vV_S0 hV) (by decide) (by decide) (vV_P0_11 hV) (vX_a0 hZ) ?_
      refine mm_cvn (vb_cv (vX_S0 hX) rfl rfl rfl rfl) (by decide) (by omega) (c_copyX hX hZ dZ (by omega)) ?_
      intro I1 hq1
      obtain ⟨dX1, hf1⟩ := hq1
      have dB1 : vb_AD z.2.1 52 I1 := dB.fr hf1 (fun j h1 h2 => by simp only [vb_xc] at h2; omega)
      have dU1 : vb_TD z.2.2 54 I1 := dU.fr hf1 (fun j h1 h2 => by simp only [vb_xc] at h2; omega) 
      refine mm_w1 rfl ?_
      refine mm_wgr (vV_S0 hV) (by decide) (by decide) (vV_P0_8 hV) (vA_a0 hA) ?_
      refine mm_w1 rfl ?_
      refine mm_wgr (vV_S0 hV) (by decide) (by decide) (vV_P0_12 hV) (vA_a0 hB) ?_
      refine mm_cvn (vb_cv (vA_S0 hA) rfl rfl rfl rfl) (by decide) (by omega) (c_copyA hA hB dB1 (by omega)) ?_
      intro I2 hq2
      obtain ⟨dA2, hf2⟩ := hq2
      have dX2 : vb_XD z.1 29 I2 := dX1.fr hf2 (fun j h1 h2 => by simp only [vb_ac] at h2; omega)
      have dU2 : vb_TD z.2.2 54 I2 := dU1.fr hf2 (fun j h1 h2 => by simp only [vb_ac] at h2; omega) 
      refine mm_w1 rfl ?_
      refine mm_wgr (vV_S0 hV) (by decide) (by decide) (vV_P0_9 hV) (vT_a0 hT) ?_
      refine mm_w1 rfl ?_
      refine mm_wgr (vV_S0 hV) (by decide) (by decide) (vV_P0_13 hV) (vT_a0 hU) ?_
      refine mm_cvn (vb_cv (vT_S0 hT) rfl rfl rfl rfl) (by decide) (by omega) (c_copyT hT hU dU2 (by omega)) ?_
      intro I3 hq3
      obtain ⟨dT3, hf3⟩ := hq3
      have dX3 : vb_XD z.1 29 I3 := dX2.fr hf3 (fun j h1 h2 => by simp only [vb_tc] at h2; omega)
      have dA3 : vb_AD z.2.1 41 I3 := dA2.fr hf3 (fun j h1 h2 => by simp only [vb_tc] at h2; omega) 
      refine mm_wv (vb_i 1) rfl (by decide) ?_
      refine mm_wr rfl rfl rfl ?_
      have hk : vb_fr (fun a => (29 ≤ a ∧ a < 35) ∨ (41 ≤ a ∧ a < 46)) I I3 := fun a ha => by
        rw [hf3 a (by simp only [vb_tc]; omega), hf2 a (by simp only [vb_ac]; omega), hf1 a (by simp only [vb_xc]; omega)]
      obtain ⟨h1, h2, h3, h4, h5, h6, h7, h8, h9, h10, h11⟩ := dV
      refine ⟨_, ⟨h1.kp hk (fun j a b => by omega), dX3, dA3, dT3, ?_, h6.fr hk (fun a b c d => by omega), ?_, h8, ?_, ?_, ?_⟩, rfl⟩
      · rw [hk 0 (by omega)]; exact h5
      · rw [hk 0 (by omega)]; exact h7
      · rw [hk 1 (by omega)]; exact h9
      · rw [hk 0 (by omega)]; exact h10
      · rw [hk 2 (by omega)]; exact h11
    · intro h4
      rw [hi] at h4; cases h4
end ACT2
