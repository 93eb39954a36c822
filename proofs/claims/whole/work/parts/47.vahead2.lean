theorem vb_tk1 {l l' : List Nat} {m i z : Nat} (h : l' = m :: l) (hz : l'[i + 1]? = some z) : l.take (i + 1) = l.take i ++ [z] := by
  subst h
  rw [List.getElem?_cons_succ] at hz
  rw [List.take_add_one, hz]; rfl
section AHEAD2
variable {G : mm_G} {d : Nat} {I : Nat → Nat → Int32} {P : Nat → Nat → Nat} {J : Nat → Nat → Int64} {S : List (Nat × Nat)} {nc ns : Nat} {μ : mm_M} {σ : vb_St} {L : Nat}
theorem c_bm (hV : vb_isV P S L) (dV : vb_VD σ L I) {k : Nat} (hk : k ≤ 2) (hwf : vx_wf (vs_l σ) (vs_x σ)) (hd : 11 ≤ d) : mm_C G d 132 [.ref 0, .int (vb_i (k + 1))] (I, P, J, S, nc, ns) (vb_R (some (.int (vb_told (q_bm (vs_l σ) (vs_x σ) k)))) (fun I' => vb_fr (vb_vs L) I I') P J S nc ns) := by
  have hL := vV_hL hV
  have hX := vV_hX hV
  have hY := vV_hY hV
  have hA := vV_hA hV
  have hT := vV_hT hV
  have hC := vV_hC hV
  have hL17 := vV_L17 hV
  have hF : vb_fr (vb_vs L) I I := vb_fr.rf
  have dL := vd_l dV
  have dX := vd_x dV
  have dA := vd_a dV
  have dT := vd_t dV
  have hn := vl_10 dL
  have he := vx_e2 dX
  have ht := vx_t2 (vs_x σ)
  have hlen : (vx_ms (vs_l σ) (vs_x σ)).length ≤ 36 := vb_ms_len hn (vl_deg dL)
  have fin : ∀ (I1 : Nat → Nat → Int32) (y6 y7 : Value) (b : Nat × Int32), vb_fr (vb_vs L) I I1 → b.1 ≤ 100 → ((vx_ms (vs_l σ) (vs_x σ)) = [] → vb_told b.1 = -1) → (∀ m l, (vx_ms (vs_l σ) (vs_x σ)) = m :: l → b = vx_pick (fun m => q_la (vs_l σ) (vs_x σ) (vx_tn (vs_x σ)) m k) l (m, (fun m => q_la (vs_l σ) (vs_x σ) (vx_tn (vs_x σ)) m k) m)) → mm_W G d 132 (mm_blk 132 116) [.ref 0, .int (vb_i (k + 1)), .int (vb_i (vx_tn (vs_x σ))), .int (vb_told b.1), .int b.2, .int (vb_i (vx_ms (vs_l σ) (vs_x σ)).length), y6, y7] [] (I1, P, J, S, nc, ns) (vb_R (some (.int (vb_told (q_bm (vs_l σ) (vs_x σ) k)))) (fun I' => vb_fr (vb_vs L) I I') P J S nc ns) := by
    intro I1 y6 y7 b hF1 hb0 hb1 hb2
    have dV1 := dV.fr hL17 hF1
    have dL1 := vd_l dV1
    have dX1 := vd_x dV1
    refine mm_w1 rfl ?_
    refine mm_nifle (by omega) ?_ ?_
    · intro h118
      refine mm_w1 rfl ?_
      refine mm_wr rfl rfl rfl ?_
      refine ⟨_, hF1, ?_⟩
      have e0 := List.length_eq_zero_iff.mp h118
      rw [hb1 e0, q_bm, e0]; rfl
    · intro h118
      obtain ⟨m, l, hml⟩ : ∃ m l, (vx_ms (vs_l σ) (vs_x σ)) = m :: l := by
        cases h : (vx_ms (vs_l σ) (vs_x σ)) with
        | nil => rw [h] at h118; exact absurd h118 (by decide)
        | cons m l => exact ⟨m, l, rfl⟩
      have hb := hb2 m l hml
      refine mm_w1 rfl ?_
      refine mm_w1 rfl ?_
      refine mm_wv (-1) rfl (by decide) ?_
      refine mm_w1 rfl ?_
      refine mm_cvi (vb_cv (vV_S0 hV) rfl rfl rfl rfl) (by decide) (by omega) (c_la (σ := σ) (m := 100) hV dV1 (by omega) (by omega) hk hwf (by omega)) ?_
      intro I2 hf2
      have hF2 : vb_fr (vb_vs L) I I2 := hF1.tr (hf2.mono (fun a h => Or.inl (Or.inr h))) 
      refine mm_w1 rfl ?_
      refine mm_wicle ?_ ?_
      · intro h130
        refine mm_w1 rfl ?_
        refine mm_wr rfl rfl rfl ?_
        refine ⟨_, hF2, ?_⟩
        rw [q_bm, hml]
        simp only
        rw [← hb]
        first
          | rw [if_neg h130]
          | (rw [if_pos h130]; rfl)
      · intro h130
        refine mm_wv (-1) rfl (by decide) ?_
        refine mm_wgoto ?_
        refine mm_wr rfl rfl rfl ?_
        refine ⟨_, hF2, ?_⟩
        rw [q_bm, hml]
        simp only
        rw [← hb]
        first
          | rw [if_neg h130]
          | (rw [if_pos h130]; rfl) 
  have loop : ∀ i, i ≤ (vx_ms (vs_l σ) (vs_x σ)).length → ∀ (I1 : Nat → Nat → Int32) (y7 : Value) (b : Nat × Int32), y7.category = 1 → vb_fr (vb_vs L) I I1 → (∀ j z, (vx_ms (vs_l σ) (vs_x σ))[j]? = some z → I1 (L + 5) j = vb_i (vb_mv z)) → b.1 ≤ 100 → (i = 0 → vb_told b.1 = -1) → (∀ m l, (vx_ms (vs_l σ) (vs_x σ)) = m :: l → i ≠ 0 → b = vx_pick (fun m => q_la (vs_l σ) (vs_x σ) (vx_tn (vs_x σ)) m k) (l.take (i - 1)) (m, (fun m => q_la (vs_l σ) (vs_x σ) (vx_tn (vs_x σ)) m k) m)) → mm_W G d 132 (mm_blk 132 58) [.ref 0, .int (vb_i (k + 1)), .int (vb_i (vx_tn (vs_x σ))), .int (vb_told b.1), .int b.2, .int (vb_i (vx_ms (vs_l σ) (vs_x σ)).length), .int (vb_i i), y7] [] (I1, P, J, S, nc, ns) (vb_R (some (.int (vb_told (q_bm (vs_l σ) (vs_x σ) k)))) (fun I' => vb_fr (vb_vs L) I I') P J S nc ns) := by
    refine vb_down (vx_ms (vs_l σ) (vs_x σ)).length ?_
    intro i hi ih I1 y7 b h7 hF1 hmv hb0 hb1 hb2
    have dV1 := dV.fr hL17 hF1
    have dL1 := vd_l dV1
    have dX1 := vd_x dV1
    refine mm_w1 rfl ?_
    refine mm_w1 rfl ?_
    refine mm_nicge (by omega) (by omega) ?_ ?_
    · intro h62
      have ei : i = (vx_ms (vs_l σ) (vs_x σ)).length := by omega
      exact fin I1 _ _ b hF1 hb0 (fun h => hb1 (by rw [ei, h]; rfl)) (fun m l hml => by
        have := hb2 m l hml (by rw [ei, hml]; simp)
        rw [this, ei, hml, List.length_cons, Nat.add_sub_cancel, List.take_length])
    · intro h62
      have hz : (vx_ms (vs_l σ) (vs_x σ))[i]? = some (vx_ms (vs_l σ) (vs_x σ))[i] := List.getElem?_eq_getElem h62
      obtain ⟨hz1, hz2, hz3⟩ := vb_ms_lt (List.getElem_mem h62)
      have hI5 := hmv i _ hz
      have htz : vb_i (vb_mv (vx_ms (vs_l σ) (vs_x σ))[i]) = vb_told (vx_ms (vs_l σ) (vs_x σ))[i] := (vb_told_lt hz1).symm
      refine mm_w1 rfl ?_
      refine mm_w1 rfl ?_
      refine mm_w1 rfl ?_
      refine mm_wgr (vV_S0 hV) (by decide) (by decide) (vV_P0_5 hV) (vL_a0 hL) ?_
      refine mm_wgr (vL_S0 hL) (by decide) (by decide) (vL_P0_8 hL) (vL_a5 hL) ?_
      refine mm_w1 rfl ?_
      refine mm_wiav (vb_told (vx_ms (vs_l σ) (vs_x σ))[i]) (vL_a5 hL) (vL_S5 hL) (by decide) (by omega) (by first | (rw [hI5]; exact htz) | (rw [hI52]; exact htz)) ?_
      refine mm_w1 rfl ?_
      refine mm_cvi (vb_cv (vV_S0 hV) rfl rfl rfl rfl) (by decide) (by omega) (c_la (σ := σ) hV dV1 (by omega) (by omega) hk hwf (by omega)) ?_
      intro I2 hf2
      have hF2 : vb_fr (vb_vs L) I I2 := hF1.tr (hf2.mono (fun a h => Or.inl (Or.inr h)))
      have dV2 := dV.fr hL17 hF2
      have h5 : I2 (L + 5) = I1 (L + 5) := hf2 _ (by simp only [vb_sc2]; omega)
      have hmv2 : ∀ j z, (vx_ms (vs_l σ) (vs_x σ))[j]? = some z → I2 (L + 5) j = vb_i (vb_mv z) := fun j z hj => by rw [h5]; exact hmv j z hj
      have hI52 := hmv2 i _ hz 
      refine mm_w1 (ls' := [_, _, _, _, _, _, _, _]) rfl ?_
      refine mm_w1 rfl ?_
      refine mm_nifeq (by omega) ?_ ?_
      · intro h85
        refine mm_w1 rfl ?_
        refine mm_w1 (ls' := [_, _, _, _, _, _, _, _]) rfl ?_
        refine mm_w1 rfl ?_
        refine mm_wgr (vV_S0 hV) (by decide) (by decide) (vV_P0_5 hV) (vL_a0 hL) ?_
        refine mm_wgr (vL_S0 hL) (by decide) (by decide) (vL_P0_8 hL) (vL_a5 hL) ?_
        refine mm_w1 rfl ?_
        refine mm_wiav (vb_told (vx_ms (vs_l σ) (vs_x σ))[i]) (vL_a5 hL) (vL_S5 hL) (by decide) (by omega) (by rw [hI52]; exact htz) ?_
        refine mm_w1 (ls' := [_, _, _, _, _, _, _, _]) rfl ?_
        refine mm_nincL (ls' := [_, _, _, _, _, _, _, _]) 1 rfl (by decide) rfl ?_
        refine mm_wgoto ?_
        refine ih (by omega) I2 _ ((vx_ms (vs_l σ) (vs_x σ))[i], (fun m => q_la (vs_l σ) (vs_x σ) (vx_tn (vs_x σ)) m k) (vx_ms (vs_l σ) (vs_x σ))[i]) rfl hF2 hmv2 (by show (vx_ms (vs_l σ) (vs_x σ))[i] ≤ 100; omega) (fun h => absurd h (by omega)) (fun m l hml _ => ?_)
        subst h85
        have e0 : (vx_ms (vs_l σ) (vs_x σ))[0] = m := by simp only [hml, List.getElem_cons_zero]
        rw [e0]; rfl
      · intro h85
        have hstep : ∀ m l, (vx_ms (vs_l σ) (vs_x σ)) = m :: l → l.take i = l.take (i - 1) ++ [(vx_ms (vs_l σ) (vs_x σ))[i]] := by
          intro m l hml
          obtain ⟨j, rfl⟩ : ∃ j, i = j + 1 := ⟨i - 1, by omega⟩
          rw [Nat.add_sub_cancel]; exact vb_tk1 hml hz
        refine mm_w1 rfl ?_
        refine mm_w1 rfl ?_
        refine mm_wicle ?_ ?_
        · intro h92
          refine mm_nincL (ls' := [_, _, _, _, _, _, _, _]) 1 rfl (by decide) rfl ?_
          refine mm_wgoto ?_
          refine ih (by omega) I2 _ b rfl hF2 hmv2 hb0 (fun h => absurd h (by omega)) (fun m l hml _ => ?_)
          rw [Nat.add_sub_cancel, hstep m l hml, vx_pick, List.foldl_append]
          have := hb2 m l hml h85
          rw [vx_pick] at this
          rw [← this]
          simp only [List.foldl_cons, List.foldl_nil]
          exact (if_neg h92).symm
        · intro h92
          refine mm_w1 rfl ?_
          refine mm_w1 (ls' := [_, _, _, _, _, _, _, _]) rfl ?_
          refine mm_w1 rfl ?_
          refine mm_wgr (vV_S0 hV) (by decide) (by decide) (vV_P0_5 hV) (vL_a0 hL) ?_
          refine mm_wgr (vL_S0 hL) (by decide) (by decide) (vL_P0_8 hL) (vL_a5 hL) ?_
          refine mm_w1 rfl ?_
          refine mm_wiav (vb_told (vx_ms (vs_l σ) (vs_x σ))[i]) (vL_a5 hL) (vL_S5 hL) (by decide) (by omega) (by rw [hI52]; exact htz) ?_
          refine mm_w1 (ls' := [_, _, _, _, _, _, _, _]) rfl ?_
          refine mm_nincL (ls' := [_, _, _, _, _, _, _, _]) 1 rfl (by decide) rfl ?_
          refine mm_wgoto ?_
          refine ih (by omega) I2 _ ((vx_ms (vs_l σ) (vs_x σ))[i], (fun m => q_la (vs_l σ) (vs_x σ) (vx_tn (vs_x σ)) m k) (vx_ms (vs_l σ) (vs_x σ))[i]) rfl hF2 hmv2 (by show (vx_ms (vs_l σ) (vs_x σ))[i] ≤ 100; omega) (fun h => absurd h (by omega)) (fun m l hml _ => ?_)
          rw [Nat.add_sub_cancel, hstep m l hml, vx_pick, List.foldl_append]
          have := hb2 m l hml h85
          rw [vx_pick] at this
          rw [← this]
          simp only [List.foldl_cons, List.foldl_nil]
          exact (if_pos h92).symm   
  show mm_W _ _ 132 (mm_blk 132 0) [.ref 0, .int (vb_i (k + 1)), .null, .null, .null, .null, .null, .null] [] _ _
  refine mm_w1 rfl ?_
  refine mm_nifne (by omega) ?_ ?_
  · intro h1
    refine mm_w1 rfl ?_
    refine mm_wgr (vV_S0 hV) (by decide) (by decide) (vV_P0_6 hV) (vX_a0 hX) ?_
    refine mm_cvp (vb_cv (vX_S0 hX) rfl rfl rfl rfl) (by decide) (by omega) (c_turn hX dX) ?_
    refine mm_w1 (ls' := [_, _, _, _, _, _, _, _]) rfl ?_
    refine mm_wv (-1) rfl (by decide) ?_
    refine mm_w1 (ls' := [_, _, _, _, _, _, _, _]) rfl ?_
    refine mm_wv (vb_i 0) rfl (by decide) ?_
    refine mm_w1 (ls' := [_, _, _, _, _, _, _, _]) rfl ?_
    refine mm_w1 rfl ?_
    refine mm_wgr (vV_S0 hV) (by decide) (by decide) (vV_P0_5 hV) (vL_a0 hL) ?_
    refine mm_w1 rfl ?_
    refine mm_wgr (vV_S0 hV) (by decide) (by decide) (vV_P0_6 hV) (vX_a0 hX) ?_
    refine mm_wgr (vX_S0 hX) (by decide) (by decide) (vX_P0_0 hX) (vX_a1 hX) ?_
    refine mm_w1 rfl ?_
    refine mm_wiav _ (vX_a1 hX) (vX_S1 hX) (by decide) (by omega) (vx_hs dX (by omega)) ?_
    refine mm_w1 rfl ?_
    refine mm_wgr (vV_S0 hV) (by decide) (by decide) (vV_P0_6 hV) (vX_a0 hX) ?_
    refine mm_wgr (vX_S0 hX) (by decide) (by decide) (vX_P0_0 hX) (vX_a1 hX) ?_
    refine mm_wv (vb_i 1) rfl (by decide) ?_
    refine mm_w1 rfl ?_
    refine mm_nsub (by omega) ?_
    refine mm_wiav _ (vX_a1 hX) (vX_S1 hX) (by decide) (by omega) (vx_hs dX (by omega)) ?_
    refine mm_w1 rfl ?_
    refine mm_wgr (vV_S0 hV) (by decide) (by decide) (vV_P0_6 hV) (vX_a0 hX) ?_
    refine mm_wgiv _ (vX_S0 hX) (by decide) (by decide) (vx_he dX) ?_
    refine mm_cvi (vb_cv (vL_S0 hL) rfl rfl rfl rfl) (by decide) (by omega) (c_list (ℓ := vs_l σ) hL dL (by omega)) ?_
    intro I1 hq1
    obtain ⟨hf1, hm1⟩ := hq1
    have hF1 : vb_fr (vb_vs L) I I1 := hf1.mono (fun a h => Or.inl h) 
    refine mm_w1 (ls' := [_, _, _, _, _, _, _, _]) rfl ?_
    refine mm_wv (vb_i 0) rfl (by decide) ?_
    refine mm_w1 (ls' := [_, _, _, _, _, _, _, _]) rfl ?_
    exact loop 0 (by omega) I1 _ (100, vb_i 0) rfl hF1 hm1 (by decide) (fun _ => rfl) (fun m l _ h => absurd rfl h)
  · intro h1
    exact absurd h1 (by omega)
theorem c_gives (hV : vb_isV P S L) (dV : vb_VD σ L I) {m : Nat} (hm : m < 100) (h1 : m / 10 < vb_n (vs_l σ)) (h2 : m % 10 < vb_n (vs_l σ)) (hok : vx_ok (vs_l σ) (vs_x σ)) (hy : ¬ vx_y (vs_x σ) (vx_tn (vs_x σ)) = -1) (hd : 3 ≤ d) : mm_C G d 133 [.ref 0, .int (vb_i (100 * (m / 10) + m % 10))] (I, P, J, S, nc, ns) (vb_R (some (.int (vx_g (vs_l σ) (vs_x σ) m))) (fun I' => vb_fr (vb_sc2 L) I I') P J S nc ns) := by
  have hL := vV_hL hV
  have hX := vV_hX hV
  have hY := vV_hY hV
  have hA := vV_hA hV
  have hT := vV_hT hV
  have hC := vV_hC hV
  have hL17 := vV_L17 hV
  have hF : vb_fr (vb_vs L) I I := vb_fr.rf
  have dL := vd_l dV
  have dX := vd_x dV
  have dA := vd_a dV
  have dT := vd_t dV
  have hn := vl_10 dL
  have he := vx_e2 dX
  have ht := vx_t2 (vs_x σ)
  have hs3 := vl_sc3 dL
  rcases hok _ ht with h | ⟨r, hr, hyr⟩
  · exact absurd h hy
  · have hyn : (vx_y (vs_x σ) (vx_tn (vs_x σ))).toNatClampNeg = r := by rw [hyr, vb_nat (by omega)]
    show mm_W _ _ 133 (mm_blk 133 0) [.ref 0, .int (vb_i (100 * (m / 10) + m % 10)), .null] [] _ _
    refine mm_w1 rfl ?_
    refine mm_wgr (vV_S0 hV) (by decide) (by decide) (vV_P0_6 hV) (vX_a0 hX) ?_
    refine mm_cvp (vb_cv (vX_S0 hX) rfl rfl rfl rfl) (by decide) (by omega) (c_turn hX dX) ?_
    refine mm_w1 (ls' := [_, _, _]) rfl ?_
    refine mm_w1 rfl ?_
    refine mm_wgr (vV_S0 hV) (by decide) (by decide) (vV_P0_5 hV) (vL_a0 hL) ?_
    refine mm_w1 rfl ?_
    refine mm_wgr (vV_S0 hV) (by decide) (by decide) (vV_P0_6 hV) (vX_a0 hX) ?_
    refine mm_wgr (vX_S0 hX) (by decide) (by decide) (vX_P0_0 hX) (vX_a1 hX) ?_
    refine mm_w1 rfl ?_
    refine mm_wiav _ (vX_a1 hX) (vX_S1 hX) (by decide) (by omega) (vx_hs dX (by omega)) ?_
    refine mm_w1 rfl ?_
    refine mm_wgr (vV_S0 hV) (by decide) (by decide) (vV_P0_6 hV) (vX_a0 hX) ?_
    refine mm_wgr (vX_S0 hX) (by decide) (by decide) (vX_P0_0 hX) (vX_a1 hX) ?_
    refine mm_wv (vb_i 1) rfl (by decide) ?_
    refine mm_w1 rfl ?_
    refine mm_nsub (by omega) ?_
    refine mm_wiav _ (vX_a1 hX) (vX_S1 hX) (by decide) (by omega) (vx_hs dX (by omega)) ?_
    refine mm_w1 rfl ?_
    refine mm_wgr (vV_S0 hV) (by decide) (by decide) (vV_P0_6 hV) (vX_a0 hX) ?_
    refine mm_wgr (vX_S0 hX) (by decide) (by decide) (vX_P0_1 hX) (vX_a2 hX) ?_
    refine mm_w1 rfl ?_
    refine mm_wiav _ (vX_a2 hX) (vX_S2 hX) (by decide) (by omega) (vx_hf dX (by omega)) ?_
    refine mm_w1 rfl ?_
    refine mm_w1 rfl ?_
    refine mm_wgr (vV_S0 hV) (by decide) (by decide) (vV_P0_6 hV) (vX_a0 hX) ?_
    refine mm_wgiv _ (vX_S0 hX) (by decide) (by decide) (vx_he dX) ?_
    refine mm_cvn (vb_cv (vL_S0 hL) rfl rfl rfl rfl) (by decide) (by omega) (c_setv (ℓ := vs_l σ) hL dL (by omega) h1 h2) ?_
    intro I1 hq1
    obtain ⟨hv1, hf1⟩ := hq1
    have hs1 := vb_sc2_of hf1 v2_10
    have hF1 : vb_fr (vb_vs L) I I1 := hs1.mono (fun a h => Or.inl (Or.inr h))
    have dV1 := dV.fr hL17 hF1
    have dL1 := vd_l dV1
    have dX1 := vd_x dV1 
    refine mm_w1 rfl ?_
    refine mm_wgr (vV_S0 hV) (by decide) (by decide) (vV_P0_5 hV) (vL_a0 hL) ?_
    refine mm_wgr (vL_S0 hL) (by decide) (by decide) (vL_P0_9 hL) (vL_a6 hL) ?_
    refine mm_w1 rfl ?_
    refine mm_wgr (vV_S0 hV) (by decide) (by decide) (vV_P0_6 hV) (vX_a0 hX) ?_
    refine mm_wgr (vX_S0 hX) (by decide) (by decide) (vX_P0_3 hX) (vX_a4 hX) ?_
    refine mm_w1 rfl ?_
    refine mm_wiav (vb_i r) (vX_a4 hX) (vX_S4 hX) (by decide) (by omega) ((vx_hy (dX1) (by omega)).trans hyr) ?_ 
    refine mm_cvi (vb_cv (vL_S6 hL) rfl rfl rfl rfl) (by decide) (by omega) (c_give (by omega) hL (vl_style dL1 hr)) ?_
    intro I2 hf2
    rw [(vl_style dL1 hr).cg _ _ hv1] 
    refine mm_wr rfl rfl rfl ?_
    refine ⟨_, hs1.tr (vb_sc2_of hf2 v2_11), ?_⟩
    simp only [vx_g, hyn]
end AHEAD2
