section NTREATY
variable {G : mm_G} {d : Nat} {I : Nat → Nat → Int32} {P : Nat → Nat → Nat} {J : Nat → Nat → Int64} {S : List (Nat × Nat)} {nc ns : Nat} {μ : mm_M} {σ : vb_St}
theorem vm_row.tn {ℓ : vb_L} {b t s : Nat} {x : vb_X} {I : Nat → Nat → Int32} (h : vm_row ℓ (I 76) b x t) (hn : vb_n ℓ ≤ 10) (hs : s < 2) : vm_row ℓ (mm_up I 76 (b + 43) (vb_i s) 76) b x s := by
  obtain ⟨h1, h2, h3, h4, h5, h6, h7, h8, h9⟩ := h
  refine ⟨?_, ?_, ?_, ?_, ?_, ?_, ?_, hs, h9⟩
  · intro v hv; rw [vb_up2 _ _ (by omega)]; exact h1 v hv
  · intro v hv; rw [vb_up2 _ _ (by omega)]; exact h2 v hv
  · intro v hv; rw [vb_up2 _ _ (by omega)]; exact h3 v hv
  · intro v hv; rw [vb_up2 _ _ (by omega)]; exact h4 v hv
  · rw [vb_up2 _ _ (by omega)]; exact h5
  · exact vb_up1 _ _ _ _
  · intro v hv; rw [vb_up2 _ _ (by omega)]; exact h7 v hv
theorem n_treaty (hM : vm_isM P S) (dN : vm_MD σ I) (hI : vs_inv σ) (hlb : vl_bel (vs_l σ)) (hd : 20 ≤ d) : mm_C G d 232 [.ref 60] (I, P, J, S, nc, ns) (vm_RV (sp_treaty σ) (fun I' => vm_qf I I') P J S nc ns) := by
  obtain ⟨hli, hIx, hIa, hIi⟩ := hI
  obtain ⟨hok, hwf, he9⟩ := hIx
  have hsj := hwf.sj
  have hfj := hwf.fj
  have hst := hwf.ws
  have dM := vmd_l dN
  have hR := vmd_x dN
  have hn := vm_10 dM
  have ht := vx_t2 (vs_x σ)
  have hs3 := vm_sc3 dM
  have outer := vb_down (p := fun s => ∀ (I1 : Nat → Nat → Int32) (y2 y3 : Value), y2.category = 1 → y3.category = 1 → vm_qf I I1 → I1 60 0 = vb_i 0 → (∀ s', s' < s → q_keeps (vs_l σ) (vs_x σ) s' = true) → mm_W G d 232 (mm_blk 232 7) [.ref 60, .int (vb_i s), y2, y3] [] (I1, P, J, S, nc, ns) (vm_RV (sp_treaty σ) (fun I' => vm_qf I I') P J S nc ns)) 2 (by
    intro s hs ihO I1 y2 y3 hy2 hy3 hq1 thr1 hk
    have dN1 := dN.qf hq1
    have dM1 := vmd_l dN1
    have hR1 := vmd_x dN1
    have inner : s < 2 → ∀ i, i ≤ 100 → ∀ (I1 : Nat → Nat → Int32), vm_qf I I1 → I1 60 0 = vb_i 0 → vm_row (vs_l σ) (I1 76) 46 (vs_x σ) s → (vb_rs (vb_q (vs_l σ) (vx_s (vs_x σ) s) (vx_s (vs_x σ) (1 - s)) (vb_i (vx_e (vs_x σ)))) i).all (fun m => !decide (q_la (vs_l σ) (vs_x σ) s 100 1 < q_la (vs_l σ) (vs_x σ) s m 1)) = q_keeps (vs_l σ) (vs_x σ) s → mm_W G d 232 (mm_blk 232 38) [.ref 60, .int (vb_i s), .int (vm_af (vs_l σ) (vs_x σ) s 100 1), .int (vb_i i)] [] (I1, P, J, S, nc, ns) (vm_RV (sp_treaty σ) (fun I' => vm_qf I I') P J S nc ns) := by
      intro hs2
      refine vb_down 100 ?_
      intro i hi ih I1 hq1 thr1 hS1 heq
      have dN1 := dN.qf hq1
      have dM1 := vmd_l dN1
      have hR1 := vmd_x dN1
      refine mm_w1 rfl ?_
      refine mm_wv (vb_i 100) rfl (by decide) ?_
      refine mm_nicge (by omega) (by omega) ?_ ?_
      · intro h41
        refine mm_nincL (ls' := [_, _, _, _]) 1 rfl (by decide) rfl ?_
        refine mm_wgoto ?_
        rw [vb_rs_end (by omega)] at heq
        refine ihO (by omega) _ _ _ rfl rfl hq1 thr1 (fun s' hs' => ?_)
        by_cases e : s' = s
        · rw [e, ← heq]; rfl
        · exact hk s' (by omega)
      · intro h41
        refine mm_w1 rfl ?_
        refine mm_wv (vb_i 46) rfl (by decide) ?_
        refine mm_w1 rfl ?_
        refine mm_w1 rfl ?_
        refine mm_cvi (vb_cv (vM_S60 hM) rfl rfl rfl rfl) (by decide) (by omega) (m_mayDo (sd := s) hM dM1 hS1 (by decide) hli hlb hsj hfj hst (by omega) (by omega) hs2) ?_
        intro I2 hf2
        have hq2 := hq1.tr (vm_qf.of8 hf2)
        have dN2 := dN.qf hq2
        have dM2 := vmd_l dN2
        have hR2 := vmd_x dN2
        have thr2 : I2 60 0 = vb_i 0 := by rw [hf2 60 (by simp only [vm_s8]; decide)]; exact thr1
        have hS2 : vm_row (vs_l σ) (I2 76) 46 (vs_x σ) s := by rw [hf2 76 (by simp only [vm_s8]; decide)]; exact hS1
        have hmay : vm_may (vs_l σ) (vs_x σ) s i = (vb_q (vs_l σ) (vx_s (vs_x σ) s) (vx_s (vs_x σ) (1 - s)) (vb_i (vx_e (vs_x σ)))) i := by rw [vm_may, decide_eq_false (by omega), Bool.false_or]
        rw [vb_rs_cons (by omega), ← hmay] at heq
        refine mm_bifeq ?_ ?_
        · intro h52
          rw [h52, if_neg (by decide)] at heq
          refine mm_nincL (ls' := [_, _, _, _]) 1 rfl (by decide) rfl ?_
          refine mm_wgoto ?_
          exact ih (by omega) _ hq2 thr2 hS2 heq
        · intro h52
          rw [h52, if_pos rfl, List.all_cons] at heq
          have hm1 := vm_may_ok1 hn hli hsj hs2 (by omega) h52
          refine mm_w1 rfl ?_
          refine mm_wv (vb_i 46) rfl (by decide) ?_
          refine mm_w1 rfl ?_
          refine mm_cvi (vb_cv (vM_S60 hM) rfl rfl rfl rfl) (by decide) (by omega) (m_ans hM dM2 hS2 (by decide) hli hlb hwf hm1 (by omega) (by omega)) ?_
          intro I3 hl3
          have hq3 := hq2.tr hl3.qf
          have dN3 := dN.qf hq3
          have dM3 := vmd_l dN3
          have hR3 := vmd_x dN3
          have thr3 : I3 60 0 = vb_i 0 := by rw [hl3.2.1 0 (by decide)]; exact thr2
          have hS3 : vm_row (vs_l σ) (I3 76) 46 (vs_x σ) s := hS2.lf hn hl3
          refine mm_w1 rfl ?_
          refine mm_wicle ?_ ?_
          · intro h63
            refine mm_nincL (ls' := [_, _, _, _]) 1 rfl (by decide) rfl ?_
            refine mm_wgoto ?_
            rw [show (!decide (q_la (vs_l σ) (vs_x σ) s 100 1 < q_la (vs_l σ) (vs_x σ) s i 1)) = true by rw [vm_af_eq hs2, vm_af_eq hs2, decide_eq_false h63]; rfl, Bool.true_and] at heq
            exact ih (by omega) _ hq3 thr3 hS3 heq
          · intro h63
            refine mm_wv (vb_i 0) rfl (by decide) ?_
            refine mm_wr rfl rfl rfl ?_
            rw [show (!decide (q_la (vs_l σ) (vs_x σ) s 100 1 < q_la (vs_l σ) (vs_x σ) s i 1)) = false by rw [vm_af_eq hs2, vm_af_eq hs2, decide_eq_true h63]; rfl, Bool.false_and] at heq
            refine ⟨_, _, rfl, hq3, ?_, thr3⟩
            have e2 : s = 0 ∨ s = 1 := by omega
            rcases e2 with rfl | rfl
            · rw [← heq]; rfl
            · rw [← heq, Bool.and_false]; rfl 
    refine mm_w1 rfl ?_
    refine mm_wv (vb_i 2) rfl (by decide) ?_
    refine mm_nicge (by omega) (by omega) ?_ ?_
    · intro h9
      refine mm_wv (vb_i 1) rfl (by decide) ?_
      refine mm_wr rfl rfl rfl ?_
      refine ⟨_, _, rfl, hq1, ?_, thr1⟩
      rw [hk 0 (by omega), hk 1 (by omega)]; rfl
    · intro h9
      refine mm_w1 rfl ?_
      refine mm_wv (vb_i 0) rfl (by decide) ?_
      refine mm_wv (vb_i 46) rfl (by decide) ?_
      refine mm_cvn (vb_cv (vM_S60 hM) rfl rfl rfl rfl) (by decide) (by omega) (m_lays0 hM (by decide) (by decide) (by decide)) ?_
      intro I2 hq02
      obtain ⟨hc2, ho2, hf2⟩ := hq02
      have hq2 := hq1.tr (vm_qf.of76 hf2 (fun j hj => ho2 j (by omega)))
      have dN2 := dN.qf hq2
      have dM2 := vmd_l dN2
      have hR2 := vmd_x dN2
      have thr2 : I2 60 0 = vb_i 0 := by rw [hf2 60 (by decide)]; exact thr1
      have hS2 : vm_row (vs_l σ) (I2 76) 46 (vs_x σ) (vx_tn (vs_x σ)) := hR1.mv hn hc2
      refine mm_w1 rfl ?_
      refine mm_wgr (vM_S60 hM) (by decide) (by decide) (vM_P60_38 hM) (vM_a76 hM) ?_
      refine mm_wv (vb_i 89) rfl (by decide) ?_
      refine mm_w1 rfl ?_
      refine mm_wisN (vM_S76 hM) (by decide) (by omega) ?_
      intro I3 hI3
      have hq3 : vm_qf I I3 := hq2.tr (vm_qf.of76 (by rw [hI3]; exact vb_fr.rf.up1) (fun j hj => by rw [hI3, vb_up2 _ _ (by omega)]))
      have dN3 := dN.qf hq3
      have dM3 := vmd_l dN3
      have hR3 := vmd_x dN3
      have thr3 : I3 60 0 = vb_i 0 := by rw [hI3, vb_up3 _ _ (by decide)]; exact thr2
      have hS3 : vm_row (vs_l σ) (I3 76) 46 (vs_x σ) s := by rw [hI3]; exact hS2.tn hn (by omega)
      refine mm_w1 rfl ?_
      refine mm_wv (vb_i 46) rfl (by decide) ?_
      refine mm_wv (vb_i 100) rfl (by decide) ?_
      refine mm_cvi (vb_cv (vM_S60 hM) rfl rfl rfl rfl) (by decide) (by omega) (m_ans hM dM3 hS3 (by decide) hli hlb hwf (Or.inl rfl) (by omega) (by omega)) ?_
      intro I4 hl4
      have hq4 := hq3.tr hl4.qf
      have dN4 := dN.qf hq4
      have dM4 := vmd_l dN4
      have hR4 := vmd_x dN4
      have thr4 : I4 60 0 = vb_i 0 := by rw [hl4.2.1 0 (by decide)]; exact thr3
      have hS4 : vm_row (vs_l σ) (I4 76) 46 (vs_x σ) s := hS3.lf hn hl4
      refine mm_w1 (ls' := [_, _, _, _]) rfl ?_
      refine mm_wv (vb_i 0) rfl (by decide) ?_
      refine mm_w1 (ls' := [_, _, _, _]) rfl ?_
      exact inner (by omega) 0 (by omega) _ hq4 thr4 hS4 rfl
    )
  show mm_W _ _ 232 (mm_blk 232 0) [.ref 60, .null, .null, .null] [] _ _
  refine mm_w1 rfl ?_
  refine mm_wv (vb_i 0) rfl (by decide) ?_
  refine mm_wpiN (vM_S60 hM) (by decide) (by decide) ?_
  intro I1 hI1
  have hq1 : vm_qf I I1 := by rw [hI1]; exact vm_qf.thr _
  have dN1 := dN.qf hq1
  have dM1 := vmd_l dN1
  have hR1 := vmd_x dN1
  have thr1 : I1 60 0 = vb_i 0 := by rw [hI1, vb_up1]
  refine mm_wv (vb_i 0) rfl (by decide) ?_
  refine mm_w1 (ls' := [_, _, _, _]) rfl ?_
  exact outer 0 (by omega) _ _ _ rfl rfl hq1 thr1 (fun s h => absurd h (by omega))
end NTREATY
