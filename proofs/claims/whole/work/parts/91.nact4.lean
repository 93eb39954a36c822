section NACT4
variable {G : mm_G} {d : Nat} {I : Nat → Nat → Int32} {P : Nat → Nat → Nat} {J : Nat → Nat → Int64} {S : List (Nat × Nat)} {nc ns : Nat} {μ : mm_M} {σ : vb_St}
theorem n_see (hM : vm_isM P S) (dN : vm_MD σ I) (hI : vs_inv σ) (hlb : vl_bel (vs_l σ)) (hd : 20 ≤ d) (i a b : Int32) : mm_C G d 226 [.ref 60, .int i, .int a, .int b] (I, P, J, S, nc, ns) (vm_RV (sp_see σ i a b) (fun I' => vm_MD (st_see σ i a b) I') P J S nc ns) := by
  obtain ⟨hli, hIx, hIa, hIi⟩ := hI
  obtain ⟨hok, hwf, he9⟩ := hIx
  have hsj := hwf.sj
  have hfj := hwf.fj
  have hst := hwf.ws
  have dM := vmd_l dN
  have hR := vmd_x dN
  have hn := vm_10 dM
  have ht := vx_t2 (vs_x σ)
  have hs3 := vm_sc3 dM
  cases ha : vb_idx (vb_n (vs_l σ)) a with
  | none =>
    rw [show sp_see σ i a b = .inr 0 by simp only [sp_see, ha], show st_see σ i a b = σ by simp only [st_see, ha]]
    show mm_W _ _ 226 (mm_blk 226 0) [.ref 60, .int i, .int a, .int b] [] _ _
    refine mm_w1 rfl ?_
    refine mm_wv (vb_i 0) rfl (by decide) ?_
    refine mm_wpiN (vM_S60 hM) (by decide) (by decide) ?_
    intro I1 hI1
    have hq1 : vm_qf I I1 := by rw [hI1]; exact vm_qf.thr _
    have dN1 := dN.qf hq1
    have dM1 := vmd_l dN1
    have hR1 := vmd_x dN1
    have thr1 : I1 60 0 = vb_i 0 := by rw [hI1, vb_up1]
    refine mm_w1 rfl ?_
    refine mm_w1 rfl ?_
    refine mm_cvi (vb_cv (vM_S60 hM) rfl rfl rfl rfl) (by decide) (by omega) (m_isV_f hM dM1 thr1 ha (by omega)) ?_
    intro I2 hI2 
    refine mm_nifeq (by decide) (fun _ => ?_) (fun h => absurd rfl h)
    refine mm_wv (vb_i 0) rfl (by decide) ?_
    refine mm_wr rfl rfl rfl ?_
    exact ⟨_, _, rfl, dN.qf (hq1.tr (by rw [hI2]; exact vm_qf.thr _)), by rw [hI2, vb_up1]⟩
  | some a_ =>
    obtain ⟨la, rfl⟩ := vb_idx_some (by omega) ha
    cases hb : vb_idx (vb_n (vs_l σ)) b with
    | none =>
      rw [show sp_see σ i (vb_i a_) b = .inr 0 by simp only [sp_see, ha, hb], show st_see σ i (vb_i a_) b = σ by simp only [st_see, ha, hb]]
      show mm_W _ _ 226 (mm_blk 226 0) [.ref 60, .int i, .int (vb_i a_), .int b] [] _ _
      refine mm_w1 rfl ?_
      refine mm_wv (vb_i 0) rfl (by decide) ?_
      refine mm_wpiN (vM_S60 hM) (by decide) (by decide) ?_
      intro I1 hI1
      have hq1 : vm_qf I I1 := by rw [hI1]; exact vm_qf.thr _
      have dN1 := dN.qf hq1
      have dM1 := vmd_l dN1
      have hR1 := vmd_x dN1
      have thr1 : I1 60 0 = vb_i 0 := by rw [hI1, vb_up1]
      refine mm_w1 rfl ?_
      refine mm_w1 rfl ?_
      refine mm_cvp (vb_cv (vM_S60 hM) rfl rfl rfl rfl) (by decide) (by omega) (m_isV_t hM dM1 thr1 (by omega) (by omega)) ?_
      refine mm_nifeq (by decide) (fun h => absurd h (by decide)) (fun _ => ?_)
      refine mm_w1 rfl ?_
      refine mm_w1 rfl ?_
      refine mm_cvi (vb_cv (vM_S60 hM) rfl rfl rfl rfl) (by decide) (by omega) (m_isV_f hM dM1 thr1 hb (by omega)) ?_
      intro I2 hI2 
      refine mm_nifne (by decide) (fun h => absurd rfl h) (fun _ => ?_)
      refine mm_wv (vb_i 0) rfl (by decide) ?_
      refine mm_wr rfl rfl rfl ?_
      exact ⟨_, _, rfl, dN.qf (hq1.tr (by rw [hI2]; exact vm_qf.thr _)), by rw [hI2, vb_up1]⟩
    | some b_ =>
      obtain ⟨lb, rfl⟩ := vb_idx_some (by omega) hb
      have hT := vmd_t dN
      have hT6 := hT.1
      cases hi : vb_idx 30 i with
      | none =>
        rw [show sp_see σ i (vb_i a_) (vb_i b_) = .inl (-1) by simp only [sp_see, ha, hb, q_seeok, hi], show st_see σ i (vb_i a_) (vb_i b_) = vs_ref σ 2 by simp only [st_see, ha, hb, q_seeok, hi]]
        show mm_W _ _ 226 (mm_blk 226 0) [.ref 60, .int i, .int (vb_i a_), .int (vb_i b_)] [] _ _
        refine mm_w1 rfl ?_
        refine mm_wv (vb_i 0) rfl (by decide) ?_
        refine mm_wpiN (vM_S60 hM) (by decide) (by decide) ?_
        intro I1 hI1
        have hq1 : vm_qf I I1 := by rw [hI1]; exact vm_qf.thr _
        have dN1 := dN.qf hq1
        have dM1 := vmd_l dN1
        have hR1 := vmd_x dN1
        have thr1 : I1 60 0 = vb_i 0 := by rw [hI1, vb_up1]
        refine mm_w1 rfl ?_
        refine mm_w1 rfl ?_
        refine mm_cvp (vb_cv (vM_S60 hM) rfl rfl rfl rfl) (by decide) (by omega) (m_isV_t hM dM1 thr1 (by omega) (by omega)) ?_
        refine mm_nifeq (by decide) (fun h => absurd h (by decide)) (fun _ => ?_)
        refine mm_w1 rfl ?_
        refine mm_w1 rfl ?_
        refine mm_cvp (vb_cv (vM_S60 hM) rfl rfl rfl rfl) (by decide) (by omega) (m_isV_t hM dM1 thr1 (by omega) (by omega)) ?_
        refine mm_nifne (by decide) (fun _ => ?_) (fun h => absurd h (by decide))
        refine mm_w1 rfl ?_
        refine mm_wgiv _ (vM_S60 hM) (by decide) (by decide) (vmd_tn dN1) ?_
        refine mm_wv (vb_i 6) rfl (by decide) ?_
        refine mm_niceq (by omega) (by omega) ?_ ?_
        · intro h29
          refine mm_w1 rfl ?_
          refine mm_wv (vb_i 2) rfl (by decide) ?_
          refine mm_cvi (vb_cv (vM_S60 hM) rfl rfl rfl rfl) (by decide) (by omega) (m_refuses (w := 2) hM dN1 (by decide)) ?_
          intro I2 hq02
          obtain ⟨dN2, ht2⟩ := hq02
          have thr2 : I2 60 0 = vb_i 0 := ht2.trans thr1
          refine mm_wr rfl rfl rfl ?_
          exact ⟨_, _, rfl, dN2, rfl, thr2⟩
        · intro h29
          refine mm_w1 rfl ?_
          refine mm_wv (vb_i 0) rfl (by decide) ?_
          refine mm_wv (vb_i 29) rfl (by decide) ?_
          refine mm_csp rfl (by decide) (by omega) (m_within_f (by decide) hi) ?_
          refine mm_nifne (by decide) (fun h => absurd rfl h) (fun _ => ?_)
          refine mm_w1 rfl ?_
          refine mm_wv (vb_i 2) rfl (by decide) ?_
          refine mm_cvi (vb_cv (vM_S60 hM) rfl rfl rfl rfl) (by decide) (by omega) (m_refuses (w := 2) hM dN1 (by decide)) ?_
          intro I2 hq02
          obtain ⟨dN2, ht2⟩ := hq02
          have thr2 : I2 60 0 = vb_i 0 := ht2.trans thr1
          refine mm_wr rfl rfl rfl ?_
          exact ⟨_, _, rfl, dN2, rfl, thr2⟩
      | some i_ =>
        obtain ⟨li, rfl⟩ := vb_idx_some (by decide) hi
        by_cases hl : (vs_t σ).length < 6
        · rw [show sp_see σ (vb_i i_) (vb_i a_) (vb_i b_) = .inl (vb_i ((vs_t σ).length + 1)) by simp only [sp_see, ha, hb, q_seeok, hi, if_pos hl], show st_see σ (vb_i i_) (vb_i a_) (vb_i b_) = vs_see σ (vs_t σ ++ [(i_, (if a_ = b_ then 100 else 10 * a_ + b_))]) by simp only [st_see, ha, hb, q_seeok, hi, if_pos hl]]
          show mm_W _ _ 226 (mm_blk 226 0) [.ref 60, .int (vb_i i_), .int (vb_i a_), .int (vb_i b_)] [] _ _
          refine mm_w1 rfl ?_
          refine mm_wv (vb_i 0) rfl (by decide) ?_
          refine mm_wpiN (vM_S60 hM) (by decide) (by decide) ?_
          intro I1 hI1
          have hq1 : vm_qf I I1 := by rw [hI1]; exact vm_qf.thr _
          have dN1 := dN.qf hq1
          have dM1 := vmd_l dN1
          have hR1 := vmd_x dN1
          have thr1 : I1 60 0 = vb_i 0 := by rw [hI1, vb_up1]
          refine mm_w1 rfl ?_
          refine mm_w1 rfl ?_
          refine mm_cvp (vb_cv (vM_S60 hM) rfl rfl rfl rfl) (by decide) (by omega) (m_isV_t hM dM1 thr1 (by omega) (by omega)) ?_
          refine mm_nifeq (by decide) (fun h => absurd h (by decide)) (fun _ => ?_)
          refine mm_w1 rfl ?_
          refine mm_w1 rfl ?_
          refine mm_cvp (vb_cv (vM_S60 hM) rfl rfl rfl rfl) (by decide) (by omega) (m_isV_t hM dM1 thr1 (by omega) (by omega)) ?_
          refine mm_nifne (by decide) (fun _ => ?_) (fun h => absurd h (by decide))
          refine mm_w1 rfl ?_
          refine mm_wgiv (vb_i (vs_t σ).length) (vM_S60 hM) (by decide) (by decide) (vmd_tn dN1) ?_
          refine mm_wv (vb_i 6) rfl (by decide) ?_
          refine mm_niceq (by omega) (by omega) ?_ ?_
          · intro h29
            omega
          · intro h29
            refine mm_w1 rfl ?_
            refine mm_wv (vb_i 0) rfl (by decide) ?_
            refine mm_wv (vb_i 29) rfl (by decide) ?_
            refine mm_csp rfl (by decide) (by omega) (m_within_t (by decide) (by rw [hi]; rfl)) ?_
            refine mm_nifne (by decide) (fun _ => ?_) (fun h => absurd h (by decide))
            refine mm_w1 rfl ?_
            refine mm_wgr (vM_S60 hM) (by decide) (by decide) (vM_P60_46 hM) (vM_a81 hM) ?_
            refine mm_wv (vb_i 2) rfl (by decide) ?_
            refine mm_w1 rfl ?_
            refine mm_wgiv (vb_i (vs_t σ).length) (vM_S60 hM) (by decide) (by decide) (vmd_tn dN1) ?_
            refine mm_nmul ?_
            refine mm_w1 rfl ?_
            refine mm_wisN (vM_S81 hM) (by decide) (by omega) ?_
            intro I2 hI2
            have t2 : I2 60 45 = vb_i (vs_t σ).length := by rw [hI2, vb_up3 _ _ (by decide)]; exact vmd_tn dN1
            refine mm_w1 rfl ?_
            refine mm_wgr (vM_S60 hM) (by decide) (by decide) (vM_P60_46 hM) (vM_a81 hM) ?_
            refine mm_wv (vb_i 2) rfl (by decide) ?_
            refine mm_w1 rfl ?_
            refine mm_wgiv (vb_i (vs_t σ).length) (vM_S60 hM) (by decide) (by decide) t2 ?_
            refine mm_nmul ?_
            refine mm_wv (vb_i 1) rfl (by decide) ?_
            refine mm_nadd ?_
            refine mm_w1 rfl ?_
            refine mm_w1 rfl ?_
            refine mm_nicne (by omega) (by omega) ?_ ?_
            · intro h74
              refine mm_wv (vb_i 10) rfl (by decide) ?_
              refine mm_w1 rfl ?_
              refine mm_nmul ?_
              refine mm_w1 rfl ?_
              refine mm_nadd ?_
              refine mm_wisN (vM_S81 hM) (by decide) (by omega) ?_
              intro I3 hI3
              have t3 : I3 60 45 = vb_i (vs_t σ).length := by rw [hI3, vb_up3 _ _ (by decide)]; exact t2
              refine mm_w1 rfl ?_
              refine mm_w1 rfl ?_
              refine mm_wgiv (vb_i (vs_t σ).length) (vM_S60 hM) (by decide) (by decide) t3 ?_
              refine mm_wv (vb_i 1) rfl (by decide) ?_
              refine mm_nadd ?_
              refine mm_wpiN (vM_S60 hM) (by decide) (by decide) ?_
              intro I4 hI4
              have t4 : I4 60 45 = vb_i ((vs_t σ).length + 1) := by rw [hI4, vb_up1]
              refine mm_w1 rfl ?_
              refine mm_wgiv (vb_i ((vs_t σ).length + 1)) (vM_S60 hM) (by decide) (by decide) t4 ?_
              refine mm_wr rfl rfl rfl ?_
              refine ⟨_, _, rfl, vm_MD.see dN1 (fun a h1 h2 => ?_) (fun s h1 h2 => ?_) (by rw [t4, List.length_append]; rfl) ?_, rfl, ?_⟩
              · rw [hI4, vb_up3 _ _ h1, hI3, vb_up3 _ _ h2, hI2, vb_up3 _ _ h2]
              · rw [hI4, vb_up2 _ _ (by omega), hI3, vb_up3 _ _ (by decide), hI2, vb_up3 _ _ (by decide)]
              · have e4 : I4 81 = I3 81 := by rw [hI4, vb_up3 _ _ (by decide)]
                have hT1 := vmd_t dN1
                rw [e4]
                refine vm_sees.snoc hT1 hl (fun j hj => ?_) ?_ ?_ li ?_
                · rw [hI3, vb_up2 _ _ (by omega), hI2, vb_up2 _ _ (by omega)]
                · rw [hI3, vb_up2 _ _ (by omega), hI2, vb_up1]
                · rw [hI3, vb_up1]
                  first
                    | rw [if_pos h74]
                    | rw [if_neg h74]
                · show (if a_ = b_ then 100 else 10 * a_ + b_) ≤ 100
                  split <;> omega
              · rw [hI4, vb_up2 _ _ (by omega), hI3, vb_up3 _ _ (by decide), hI2, vb_up3 _ _ (by decide)]; exact thr1
            · intro h74
              refine mm_wv (vb_i 100) rfl (by decide) ?_
              refine mm_wgoto ?_
              refine mm_wisN (vM_S81 hM) (by decide) (by omega) ?_
              intro I3 hI3
              have t3 : I3 60 45 = vb_i (vs_t σ).length := by rw [hI3, vb_up3 _ _ (by decide)]; exact t2
              refine mm_w1 rfl ?_
              refine mm_w1 rfl ?_
              refine mm_wgiv (vb_i (vs_t σ).length) (vM_S60 hM) (by decide) (by decide) t3 ?_
              refine mm_wv (vb_i 1) rfl (by decide) ?_
              refine mm_nadd ?_
              refine mm_wpiN (vM_S60 hM) (by decide) (by decide) ?_
              intro I4 hI4
              have t4 : I4 60 45 = vb_i ((vs_t σ).length + 1) := by rw [hI4, vb_up1]
              refine mm_w1 rfl ?_
              refine mm_wgiv (vb_i ((vs_t σ).length + 1)) (vM_S60 hM) (by decide) (by decide) t4 ?_
              refine mm_wr rfl rfl rfl ?_
              refine ⟨_, _, rfl, vm_MD.see dN1 (fun a h1 h2 => ?_) (fun s h1 h2 => ?_) (by rw [t4, List.length_append]; rfl) ?_, rfl, ?_⟩
              · rw [hI4, vb_up3 _ _ h1, hI3, vb_up3 _ _ h2, hI2, vb_up3 _ _ h2]
              · rw [hI4, vb_up2 _ _ (by omega), hI3, vb_up3 _ _ (by decide), hI2, vb_up3 _ _ (by decide)]
              · have e4 : I4 81 = I3 81 := by rw [hI4, vb_up3 _ _ (by decide)]
                have hT1 := vmd_t dN1
                rw [e4]
                refine vm_sees.snoc hT1 hl (fun j hj => ?_) ?_ ?_ li ?_
                · rw [hI3, vb_up2 _ _ (by omega), hI2, vb_up2 _ _ (by omega)]
                · rw [hI3, vb_up2 _ _ (by omega), hI2, vb_up1]
                · rw [hI3, vb_up1]
                  first
                    | rw [if_pos h74]
                    | rw [if_neg h74]
                · show (if a_ = b_ then 100 else 10 * a_ + b_) ≤ 100
                  split <;> omega
              · rw [hI4, vb_up2 _ _ (by omega), hI3, vb_up3 _ _ (by decide), hI2, vb_up3 _ _ (by decide)]; exact thr1
        · rw [show sp_see σ (vb_i i_) (vb_i a_) (vb_i b_) = .inl (-1) by simp only [sp_see, ha, hb, q_seeok, hi, if_neg hl], show st_see σ (vb_i i_) (vb_i a_) (vb_i b_) = vs_ref σ 2 by simp only [st_see, ha, hb, q_seeok, hi, if_neg hl]]
          show mm_W _ _ 226 (mm_blk 226 0) [.ref 60, .int (vb_i i_), .int (vb_i a_), .int (vb_i b_)] [] _ _
          refine mm_w1 rfl ?_
          refine mm_wv (vb_i 0) rfl (by decide) ?_
          refine mm_wpiN (vM_S60 hM) (by decide) (by decide) ?_
          intro I1 hI1
          have hq1 : vm_qf I I1 := by rw [hI1]; exact vm_qf.thr _
          have dN1 := dN.qf hq1
          have dM1 := vmd_l dN1
          have hR1 := vmd_x dN1
          have thr1 : I1 60 0 = vb_i 0 := by rw [hI1, vb_up1]
          refine mm_w1 rfl ?_
          refine mm_w1 rfl ?_
          refine mm_cvp (vb_cv (vM_S60 hM) rfl rfl rfl rfl) (by decide) (by omega) (m_isV_t hM dM1 thr1 (by omega) (by omega)) ?_
          refine mm_nifeq (by decide) (fun h => absurd h (by decide)) (fun _ => ?_)
          refine mm_w1 rfl ?_
          refine mm_w1 rfl ?_
          refine mm_cvp (vb_cv (vM_S60 hM) rfl rfl rfl rfl) (by decide) (by omega) (m_isV_t hM dM1 thr1 (by omega) (by omega)) ?_
          refine mm_nifne (by decide) (fun _ => ?_) (fun h => absurd h (by decide))
          refine mm_w1 rfl ?_
          refine mm_wgiv _ (vM_S60 hM) (by decide) (by decide) (vmd_tn dN1) ?_
          refine mm_wv (vb_i 6) rfl (by decide) ?_
          refine mm_niceq (by omega) (by omega) ?_ ?_
          · intro h29
            refine mm_w1 rfl ?_
            refine mm_wv (vb_i 2) rfl (by decide) ?_
            refine mm_cvi (vb_cv (vM_S60 hM) rfl rfl rfl rfl) (by decide) (by omega) (m_refuses (w := 2) hM dN1 (by decide)) ?_
            intro I2 hq02
            obtain ⟨dN2, ht2⟩ := hq02
            have thr2 : I2 60 0 = vb_i 0 := ht2.trans thr1
            refine mm_wr rfl rfl rfl ?_
            exact ⟨_, _, rfl, dN2, rfl, thr2⟩
          · intro h29
            omega
end NACT4
