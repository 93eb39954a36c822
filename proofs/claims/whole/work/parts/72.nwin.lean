section NWIN
variable {G : mm_G} {d : Nat} {I : Nat → Nat → Int32} {P : Nat → Nat → Nat} {J : Nat → Nat → Int64} {S : List (Nat × Nat)} {nc ns : Nat} {μ : mm_M} {σ : vb_St}
theorem n_win (hM : vm_isM P S) (dN : vm_MD σ I) (hI : vs_inv σ) (hlb : vl_bel (vs_l σ)) (hd : 20 ≤ d) : mm_C G d 217 [.ref 60] (I, P, J, S, nc, ns) (vm_RV (sp_win σ) (fun I' => vm_qf I I') P J S nc ns) := by
  obtain ⟨hli, hIx, hIa, hIi⟩ := hI
  obtain ⟨hok, hwf, he9⟩ := hIx
  have hsj := hwf.sj
  have hfj := hwf.fj
  have hst := hwf.ws
  have dM := vmd_l dN
  have hR := vmd_x dN
  have hn := vm_10 dM
  have ht := vx_t2 (vs_x σ)
  have hs3 := vm_sc3 dM
  have hsj2 := hsj
  have hst2 : vb_set (vb_n (vs_l σ)) (fun v => decide (vx_in (vx_s (vs_x σ)) v = 1 - vx_tn (vs_x σ))) = vx_s (vs_x σ) (1 - vx_tn (vs_x σ)) := vm_st_eq hn hsj (by omega) (hwf.1 _ (by omega)).1
  have loop : ¬ vx_s (vs_x σ) (1 - vx_tn (vs_x σ)) = 0 → vm_w1 (vs_l σ) (vs_x σ) (vx_tn (vs_x σ)) = false → ∀ i, i ≤ 101 → ∀ (I1 : Nat → Nat → Int32), vm_qf I I1 → I1 60 0 = vb_i 0 → (vm_al (vs_l σ) (vs_x σ) (vx_tn (vs_x σ)) i).any (fun m => vm_w2 (vs_l σ) (vx_doT (vs_l σ) (vs_x σ) (vx_tn (vs_x σ)) m) (1 - vx_tn (vs_x σ))) = vm_w3 (vs_l σ) (vs_x σ) (vx_tn (vs_x σ)) → mm_W G d 217 (mm_blk 217 38) [.ref 60, .int (vb_i (vx_tn (vs_x σ))), .int (vb_i i)] [] (I1, P, J, S, nc, ns) (vm_RV (sp_win σ) (fun I' => vm_qf I I') P J S nc ns) := by
    intro h0 hw1
    have hres : sp_win σ = .inl (if vm_w3 (vs_l σ) (vs_x σ) (vx_tn (vs_x σ)) then vb_i 3 else -1) := by
      rw [sp_win, q_win, if_neg h0, vm_W1 ht h0, hw1, if_neg (by decide), vm_W3 hn ht h0 hw1]
    rw [hres]
    refine vb_down 101 ?_
    intro i hi ih I1 hq1 thr1 heq
    have dN1 := dN.qf hq1
    have dM1 := vmd_l dN1
    have hR1 := vmd_x dN1
    refine mm_w1 rfl ?_
    refine mm_wv (vb_i 100) rfl (by decide) ?_
    refine mm_nicgt (by omega) (by omega) ?_ ?_
    · intro h41
      refine mm_wv (-1) rfl (by decide) ?_
      refine mm_wr rfl rfl rfl ?_
      refine ⟨_, _, rfl, hq1, ?_, thr1⟩
      rw [vm_al_end (by omega)] at heq
      rw [← heq]; rfl
    · intro h41
      refine mm_w1 rfl ?_
      refine mm_wv (vb_i 0) rfl (by decide) ?_
      refine mm_w1 rfl ?_
      refine mm_w1 rfl ?_
      refine mm_cvi (vb_cv (vM_S60 hM) rfl rfl rfl rfl) (by decide) (by omega) (m_mayDo hM dM1 hR1 (by decide) hli hlb hsj hfj hst (by omega) (by omega) (by omega)) ?_
      intro I2 hf2
      have hq2 := hq1.tr (vm_qf.of8 hf2)
      have dN2 := dN.qf hq2
      have dM2 := vmd_l dN2
      have hR2 := vmd_x dN2
      have thr2 : I2 60 0 = vb_i 0 := by rw [hf2 60 (by simp only [vm_s8]; decide)]; exact thr1
      rw [vm_al_cons (by omega)] at heq
      refine mm_bifne ?_ ?_
      · intro h51
        rw [h51, if_pos rfl, List.any_cons] at heq
        have hm1 := vm_may_ok1 hn hli hsj ht (by omega) h51
        have hwf2 := hwf.mvT hn ht hm1.mod
        refine mm_w1 rfl ?_
        refine mm_wv (vb_i 0) rfl (by decide) ?_
        refine mm_wv (vb_i 46) rfl (by decide) ?_
        refine mm_cvn (vb_cv (vM_S60 hM) rfl rfl rfl rfl) (by decide) (by omega) (m_lays0 hM (by decide) (by decide) (by decide)) ?_
        intro I3 hq03
        obtain ⟨hc3, ho3, hf3⟩ := hq03
        have hq3 := hq2.tr (vm_qf.of76 hf3 (fun j hj => ho3 j (by omega)))
        have dN3 := dN.qf hq3
        have dM3 := vmd_l dN3
        have hR3 := vmd_x dN3
        have thr3 : I3 60 0 = vb_i 0 := by rw [hf3 60 (by decide)]; exact thr2
        have hS3 : vm_row (vs_l σ) (I3 76) 46 (vs_x σ) (vx_tn (vs_x σ)) := hR2.mv hn hc3
        refine mm_w1 rfl ?_
        refine mm_wv (vb_i 46) rfl (by decide) ?_
        refine mm_w1 rfl ?_
        refine mm_cvn (vb_cv (vM_S60 hM) rfl rfl rfl rfl) (by decide) (by omega) (m_does hM dM3 hS3 (by decide) hsj2 (by omega) hm1 (by omega)) ?_
        intro I4 hq04
        obtain ⟨hS4, ho4, hf4⟩ := hq04
        have hq4 := hq3.tr (vm_qf.of76 hf4 (fun j hj => ho4 j (by omega)))
        have dN4 := dN.qf hq4
        have dM4 := vmd_l dN4
        have hR4 := vmd_x dN4
        have thr4 : I4 60 0 = vb_i 0 := by rw [hf4 60 (by decide)]; exact thr3
        refine mm_w1 rfl ?_
        refine mm_wv (vb_i 46) rfl (by decide) ?_
        refine mm_cvi (vb_cv (vM_S60 hM) rfl rfl rfl rfl) (by decide) (by omega) (m_w2 hM dM4 hS4 (by decide) hli hlb hwf2 (by rw [vm_af_e]; omega) (by omega)) ?_
        intro I5 hl5
        have hq5 := hq4.tr hl5.qf
        have dN5 := dN.qf hq5
        have dM5 := vmd_l dN5
        have hR5 := vmd_x dN5
        have thr5 : I5 60 0 = vb_i 0 := by rw [hl5.2.1 0 (by decide)]; exact thr4
        refine mm_bifeq ?_ ?_
        · intro h77
          refine mm_nincL (ls' := [_, _, _]) 1 rfl (by decide) rfl ?_
          refine mm_wgoto ?_
          rw [h77, Bool.false_or] at heq
          exact ih (by omega) _ hq5 thr5 heq
        · intro h77
          refine mm_wv (vb_i 3) rfl (by decide) ?_
          refine mm_wr rfl rfl rfl ?_
          refine ⟨_, _, rfl, hq5, ?_, thr5⟩
          rw [← heq, h77]; rfl
      · intro h51
        rw [h51, if_neg (by decide)] at heq
        refine mm_wgoto ?_
        refine mm_nincL (ls' := [_, _, _]) 1 rfl (by decide) rfl ?_
        refine mm_wgoto ?_
        exact ih (by omega) _ hq2 thr2 heq 
  show mm_W _ _ 217 (mm_blk 217 0) [.ref 60, .null, .null] [] _ _
  refine mm_w1 rfl ?_
  refine mm_wv (vb_i 0) rfl (by decide) ?_
  refine mm_wpiN (vM_S60 hM) (by decide) (by decide) ?_
  intro I1 hI1
  have hq1 : vm_qf I I1 := by rw [hI1]; exact vm_qf.thr _
  have dN1 := dN.qf hq1
  have dM1 := vmd_l dN1
  have hR1 := vmd_x dN1
  have thr1 : I1 60 0 = vb_i 0 := by rw [hI1, vb_up1]
  refine mm_w1 rfl ?_
  refine mm_wgr (vM_S60 hM) (by decide) (by decide) (vM_P60_38 hM) (vM_a76 hM) ?_
  refine mm_wv (vb_i 43) rfl (by decide) ?_
  refine mm_wiav (vb_i (vx_tn (vs_x σ))) (vM_a76 hM) (vM_S76 hM) (by decide) (by omega) (vm_ru hR1) ?_
  refine mm_w1 (ls' := [_, _, _]) rfl ?_
  refine mm_w1 rfl ?_
  refine mm_wv (vb_i 0) rfl (by decide) ?_
  refine mm_wv (vb_i 1) rfl (by decide) ?_
  refine mm_w1 rfl ?_
  refine mm_nsub (by omega) ?_
  refine mm_cvp (vb_cv (vM_S60 hM) rfl rfl rfl rfl) (by decide) (by omega) (m_stones (sd := 1 - vx_tn (vs_x σ)) hM dM1 hR1 (by decide) (by omega)) ?_
  rw [hst2]
  refine mm_wifne ?_ ?_
  · intro h21
    refine mm_w1 rfl ?_
    refine mm_wv (vb_i 0) rfl (by decide) ?_
    refine mm_cvi (vb_cv (vM_S60 hM) rfl rfl rfl rfl) (by decide) (by omega) (m_w1 hM dM1 hR1 (by decide) hli hlb hwf (by omega) (by omega)) ?_
    intro I2 hl2
    have hq2 := hq1.tr hl2.qf
    have dN2 := dN.qf hq2
    have dM2 := vmd_l dN2
    have hR2 := vmd_x dN2
    have thr2 : I2 60 0 = vb_i 0 := by rw [hl2.2.1 0 (by decide)]; exact thr1
    refine mm_bifeq ?_ ?_
    · intro h31
      refine mm_wv (vb_i 0) rfl (by decide) ?_
      refine mm_w1 (ls' := [_, _, _]) rfl ?_
      exact loop h21 h31 0 (by omega) _ hq2 thr2 rfl
    · intro h31
      refine mm_wv (vb_i 1) rfl (by decide) ?_
      refine mm_wr rfl rfl rfl ?_
      refine ⟨_, _, rfl, hq2, ?_, thr2⟩
      rw [q_win, if_neg h21, vm_W1 ht h21, h31]; rfl
  · intro h21
    refine mm_wv (-1) rfl (by decide) ?_
    refine mm_wr rfl rfl rfl ?_
    refine ⟨_, _, rfl, hq1, ?_, thr1⟩
    rw [q_win, if_pos h21]
end NWIN
