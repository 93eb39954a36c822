section NACT2
variable {G : mm_G} {d : Nat} {I : Nat → Nat → Int32} {P : Nat → Nat → Nat} {J : Nat → Nat → Int64} {S : List (Nat × Nat)} {nc ns : Nat} {μ : mm_M} {σ : vb_St}
theorem vm_tchk {ℓ : vb_L} {y : Int32} (h3 : vb_sc ℓ ≤ 3) : q_tchok ℓ y = (!decide (y < -1) && decide (y < vb_i (vb_sc ℓ))) := by
  rw [q_tchok, vb_idx]
  have e1 : (-1 : Int32).toInt = -1 := rfl
  have e0 : (0 : Int32).toInt = 0 := rfl
  have es := vb_toInt (n := vb_sc ℓ) (by omega)
  by_cases h1 : y = -1
  · subst h1
    rw [decide_eq_true rfl, Bool.true_or, decide_eq_false (by decide), decide_eq_true (by rw [Int32.lt_iff_toInt_lt, es, e1]; omega)]; rfl
  · have h1' : y.toInt ≠ -1 := fun e => h1 (Int32.toInt_inj.mp (e.trans e1.symm))
    rw [decide_eq_false h1, Bool.false_or]
    by_cases h2 : y < 0
    · rw [if_pos h2, decide_eq_true (p := y < -1)]
      · rfl
      · rw [Int32.lt_iff_toInt_lt, e0] at h2
        rw [Int32.lt_iff_toInt_lt, e1]; omega
    · rw [if_neg h2, decide_eq_false (p := y < -1)]
      · by_cases h4 : y < vb_i (vb_sc ℓ)
        · rw [if_pos h4, decide_eq_true h4]; rfl
        · rw [if_neg h4, decide_eq_false h4]; rfl
      · rw [Int32.lt_iff_toInt_lt, e0] at h2
        rw [Int32.lt_iff_toInt_lt, e1]; omega
theorem vm_row.tch {ℓ : vb_L} {I : Nat → Nat → Int32} {x : vb_X} {t s : Nat} {y : Int32} (hn : vb_n ℓ ≤ 10) (hs : s < 2) (h : vm_row ℓ (I 76) 0 x t) : vm_row ℓ (mm_up I 76 (44 + s) y 76) 0 (vx_tch x s y) t := by
  obtain ⟨h1, h2, h3, h4, h5, h6, h7, h8, h9⟩ := h
  refine ⟨?_, ?_, ?_, ?_, ?_, ?_, ?_, h8, h9⟩
  · intro v hv; rw [vb_up2 _ _ (by omega)]; exact h1 v hv
  · intro v hv; rw [vb_up2 _ _ (by omega)]; exact h2 v hv
  · intro v hv; rw [vb_up2 _ _ (by omega)]; exact h3 v hv
  · intro v hv; rw [vb_up2 _ _ (by omega)]; exact h4 v hv
  · rw [vb_up2 _ _ (by omega)]; exact h5
  · rw [vb_up2 _ _ (by omega)]; exact h6
  · intro j hj
    show mm_up I 76 (44 + s) y 76 (0 + 44 + j) = if j = s then y else vx_y x j
    by_cases e : j = s
    · rw [e, if_pos rfl, show 0 + 44 + s = 44 + s by omega, vb_up1]
    · rw [if_neg e, vb_up2 _ _ (by omega)]; exact h7 j hj
theorem n_fly (hM : vm_isM P S) (dN : vm_MD σ I) (hI : vs_inv σ) (hlb : vl_bel (vs_l σ)) (hd : 20 ≤ d) (a b : Int32) : mm_C G d 205 [.ref 60, .int a, .int b] (I, P, J, S, nc, ns) (vm_RV (sp_fly σ a b) (fun I' => vm_MD (st_fly σ a b) I') P J S nc ns) := by
  obtain ⟨hli, hIx, hIa, hIi⟩ := hI
  obtain ⟨hok, hwf, he9⟩ := hIx
  have hsj := hwf.sj
  have hfj := hwf.fj
  have hst := hwf.ws
  have dM := vmd_l dN
  have hR := vmd_x dN
  have hn := vm_10 dM
  have ht := vx_t2 (vs_x σ)
  have hs3 := vm_sc3 dM
  cases ha : vb_idx (vb_n (vs_l σ)) a with
  | none =>
    rw [show sp_fly σ a b = .inr 0 by simp only [sp_fly, ha], show st_fly σ a b = σ by simp only [st_fly, ha]]
    show mm_W _ _ 205 (mm_blk 205 0) [.ref 60, .int a, .int b] [] _ _
    refine mm_w1 rfl ?_
    refine mm_wv (vb_i 0) rfl (by decide) ?_
    refine mm_wpiN (vM_S60 hM) (by decide) (by decide) ?_
    intro I1 hI1
    have hq1 : vm_qf I I1 := by rw [hI1]; exact vm_qf.thr _
    have dN1 := dN.qf hq1
    have dM1 := vmd_l dN1
    have hR1 := vmd_x dN1
    have thr1 : I1 60 0 = vb_i 0 := by rw [hI1, vb_up1]
    refine mm_w1 rfl ?_
    refine mm_w1 rfl ?_
    refine mm_cvi (vb_cv (vM_S60 hM) rfl rfl rfl rfl) (by decide) (by omega) (m_isV_f hM dM1 thr1 ha (by omega)) ?_
    intro I2 hI2 
    refine mm_nifeq (by decide) (fun _ => ?_) (fun h => absurd rfl h)
    refine mm_wv (vb_i 0) rfl (by decide) ?_
    refine mm_wr rfl rfl rfl ?_
    exact ⟨_, _, rfl, dN.qf (hq1.tr (by rw [hI2]; exact vm_qf.thr _)), by rw [hI2, vb_up1]⟩
  | some a_ =>
    obtain ⟨la, rfl⟩ := vb_idx_some (by omega) ha
    cases hb : vb_idx (vb_n (vs_l σ)) b with
    | none =>
      rw [show sp_fly σ (vb_i a_) b = .inr 0 by simp only [sp_fly, ha, hb], show st_fly σ (vb_i a_) b = σ by simp only [st_fly, ha, hb]]
      show mm_W _ _ 205 (mm_blk 205 0) [.ref 60, .int (vb_i a_), .int b] [] _ _
      refine mm_w1 rfl ?_
      refine mm_wv (vb_i 0) rfl (by decide) ?_
      refine mm_wpiN (vM_S60 hM) (by decide) (by decide) ?_
      intro I1 hI1
      have hq1 : vm_qf I I1 := by rw [hI1]; exact vm_qf.thr _
      have dN1 := dN.qf hq1
      have dM1 := vmd_l dN1
      have hR1 := vmd_x dN1
      have thr1 : I1 60 0 = vb_i 0 := by rw [hI1, vb_up1]
      refine mm_w1 rfl ?_
      refine mm_w1 rfl ?_
      refine mm_cvp (vb_cv (vM_S60 hM) rfl rfl rfl rfl) (by decide) (by omega) (m_isV_t hM dM1 thr1 (by omega) (by omega)) ?_
      refine mm_nifeq (by decide) (fun h => absurd h (by decide)) (fun _ => ?_)
      refine mm_w1 rfl ?_
      refine mm_w1 rfl ?_
      refine mm_cvi (vb_cv (vM_S60 hM) rfl rfl rfl rfl) (by decide) (by omega) (m_isV_f hM dM1 thr1 hb (by omega)) ?_
      intro I2 hI2 
      refine mm_nifne (by decide) (fun h => absurd rfl h) (fun _ => ?_)
      refine mm_wv (vb_i 0) rfl (by decide) ?_
      refine mm_wr rfl rfl rfl ?_
      exact ⟨_, _, rfl, dN.qf (hq1.tr (by rw [hI2]; exact vm_qf.thr _)), by rw [hI2, vb_up1]⟩
    | some b_ =>
      obtain ⟨lb, rfl⟩ := vb_idx_some (by omega) hb
      have hina := vx_in2 (vx_s (vs_x σ)) a_
      have hinb := vx_in2 (vx_s (vs_x σ)) b_
      cases hfo : q_flyok (vs_x σ) a_ b_ with
      | false =>
        rw [show sp_fly σ (vb_i a_) (vb_i b_) = .inl (vb_i 0) by simp only [sp_fly, ha, hb, hfo, Bool.false_eq_true, if_false], show st_fly σ (vb_i a_) (vb_i b_) = vs_ref σ 1 by simp only [st_fly, ha, hb, hfo, Bool.false_eq_true, if_false]]
        show mm_W _ _ 205 (mm_blk 205 0) [.ref 60, .int (vb_i a_), .int (vb_i b_)] [] _ _
        refine mm_w1 rfl ?_
        refine mm_wv (vb_i 0) rfl (by decide) ?_
        refine mm_wpiN (vM_S60 hM) (by decide) (by decide) ?_
        intro I1 hI1
        have hq1 : vm_qf I I1 := by rw [hI1]; exact vm_qf.thr _
        have dN1 := dN.qf hq1
        have dM1 := vmd_l dN1
        have hR1 := vmd_x dN1
        have thr1 : I1 60 0 = vb_i 0 := by rw [hI1, vb_up1]
        refine mm_w1 rfl ?_
        refine mm_w1 rfl ?_
        refine mm_cvp (vb_cv (vM_S60 hM) rfl rfl rfl rfl) (by decide) (by omega) (m_isV_t hM dM1 thr1 (by omega) (by omega)) ?_
        refine mm_nifeq (by decide) (fun h => absurd h (by decide)) (fun _ => ?_)
        refine mm_w1 rfl ?_
        refine mm_w1 rfl ?_
        refine mm_cvp (vb_cv (vM_S60 hM) rfl rfl rfl rfl) (by decide) (by omega) (m_isV_t hM dM1 thr1 (by omega) (by omega)) ?_
        refine mm_nifne (by decide) (fun _ => ?_) (fun h => absurd h (by decide))
        refine mm_w1 rfl ?_
        refine mm_wgr (vM_S60 hM) (by decide) (by decide) (vM_P60_38 hM) (vM_a76 hM) ?_
        refine mm_wv (vb_i 0) rfl (by decide) ?_
        refine mm_w1 rfl ?_
        refine mm_nadd ?_
        refine mm_wiav (vb_i (vx_in (vx_s (vs_x σ)) a_)) (vM_a76 hM) (vM_S76 hM) (by decide) (by omega) (vm_rs hR1 la) ?_
        refine mm_wv (vb_i 2) rfl (by decide) ?_
        refine mm_niceq (by omega) (by omega) ?_ ?_
        · intro h32
          refine mm_w1 rfl ?_
          refine mm_wv (vb_i 1) rfl (by decide) ?_
          refine mm_cvi (vb_cv (vM_S60 hM) rfl rfl rfl rfl) (by decide) (by omega) (m_refuses (w := 1) hM dN1 (by decide)) ?_
          intro I2 hq02
          obtain ⟨dN2, ht2⟩ := hq02
          have thr2 : I2 60 0 = vb_i 0 := ht2.trans thr1
          refine mm_wifle ?_ ?_
          · intro h52
            refine mm_wv (vb_i 0) rfl (by decide) ?_
            refine mm_wr rfl rfl rfl ?_
            exact ⟨_, _, rfl, dN2, rfl, thr2⟩
          · intro h52
            exact absurd h52 (by decide)
        · intro h32
          refine mm_w1 rfl ?_
          refine mm_wgr (vM_S60 hM) (by decide) (by decide) (vM_P60_38 hM) (vM_a76 hM) ?_
          refine mm_wv (vb_i 0) rfl (by decide) ?_
          refine mm_w1 rfl ?_
          refine mm_nadd ?_
          refine mm_wiav (vb_i (vx_in (vx_s (vs_x σ)) b_)) (vM_a76 hM) (vM_S76 hM) (by decide) (by omega) (vm_rs hR1 lb) ?_
          refine mm_wv (vb_i 2) rfl (by decide) ?_
          refine mm_niceq (by omega) (by omega) ?_ ?_
          · intro h44
            rw [q_flyok, decide_eq_true h32, decide_eq_true h44] at hfo; cases hfo
          · intro h44
            refine mm_w1 rfl ?_
            refine mm_wv (vb_i 1) rfl (by decide) ?_
            refine mm_cvi (vb_cv (vM_S60 hM) rfl rfl rfl rfl) (by decide) (by omega) (m_refuses (w := 1) hM dN1 (by decide)) ?_
            intro I2 hq02
            obtain ⟨dN2, ht2⟩ := hq02
            have thr2 : I2 60 0 = vb_i 0 := ht2.trans thr1
            refine mm_wifle ?_ ?_
            · intro h52
              refine mm_wv (vb_i 0) rfl (by decide) ?_
              refine mm_wr rfl rfl rfl ?_
              exact ⟨_, _, rfl, dN2, rfl, thr2⟩
            · intro h52
              exact absurd h52 (by decide)
      | true =>
        have hfo2 := hfo
        rw [q_flyok, Bool.and_eq_true, decide_eq_true_eq, decide_eq_true_eq] at hfo2
        have hsa : vx_in (vx_s (vs_x σ)) a_ < 2 := by have := hfo2.1; omega
        have hne : a_ ≠ b_ := fun e => hfo2.1 (by rw [e]; exact hfo2.2)
        rw [show sp_fly σ (vb_i a_) (vb_i b_) = .inl (vb_i 1) by simp only [sp_fly, ha, hb, hfo, if_true], show st_fly σ (vb_i a_) (vb_i b_) = vs_act σ (vx_bring (vs_x σ) (vx_in (vx_s (vs_x σ)) a_) a_ b_) (vb_keep (vs_a σ) (vs_x σ)) by simp only [st_fly, ha, hb, hfo, if_true]]
        show mm_W _ _ 205 (mm_blk 205 0) [.ref 60, .int (vb_i a_), .int (vb_i b_)] [] _ _
        refine mm_w1 rfl ?_
        refine mm_wv (vb_i 0) rfl (by decide) ?_
        refine mm_wpiN (vM_S60 hM) (by decide) (by decide) ?_
        intro I1 hI1
        have hq1 : vm_qf I I1 := by rw [hI1]; exact vm_qf.thr _
        have dN1 := dN.qf hq1
        have dM1 := vmd_l dN1
        have hR1 := vmd_x dN1
        have thr1 : I1 60 0 = vb_i 0 := by rw [hI1, vb_up1]
        refine mm_w1 rfl ?_
        refine mm_w1 rfl ?_
        refine mm_cvp (vb_cv (vM_S60 hM) rfl rfl rfl rfl) (by decide) (by omega) (m_isV_t hM dM1 thr1 (by omega) (by omega)) ?_
        refine mm_nifeq (by decide) (fun h => absurd h (by decide)) (fun _ => ?_)
        refine mm_w1 rfl ?_
        refine mm_w1 rfl ?_
        refine mm_cvp (vb_cv (vM_S60 hM) rfl rfl rfl rfl) (by decide) (by omega) (m_isV_t hM dM1 thr1 (by omega) (by omega)) ?_
        refine mm_nifne (by decide) (fun _ => ?_) (fun h => absurd h (by decide))
        refine mm_w1 rfl ?_
        refine mm_wgr (vM_S60 hM) (by decide) (by decide) (vM_P60_38 hM) (vM_a76 hM) ?_
        refine mm_wv (vb_i 0) rfl (by decide) ?_
        refine mm_w1 rfl ?_
        refine mm_nadd ?_
        refine mm_wiav (vb_i (vx_in (vx_s (vs_x σ)) a_)) (vM_a76 hM) (vM_S76 hM) (by decide) (by omega) (vm_rs hR1 la) ?_
        refine mm_wv (vb_i 2) rfl (by decide) ?_
        refine mm_niceq (by omega) (by omega) ?_ ?_
        · intro h32
          exact absurd h32 hfo2.1
        · intro h32
          refine mm_w1 rfl ?_
          refine mm_wgr (vM_S60 hM) (by decide) (by decide) (vM_P60_38 hM) (vM_a76 hM) ?_
          refine mm_wv (vb_i 0) rfl (by decide) ?_
          refine mm_w1 rfl ?_
          refine mm_nadd ?_
          refine mm_wiav (vb_i (vx_in (vx_s (vs_x σ)) b_)) (vM_a76 hM) (vM_S76 hM) (by decide) (by omega) (vm_rs hR1 lb) ?_
          refine mm_wv (vb_i 2) rfl (by decide) ?_
          refine mm_niceq (by omega) (by omega) ?_ ?_
          · intro h44
            refine mm_w1 rfl ?_
            refine mm_cvn (vb_cv (vM_S60 hM) rfl rfl rfl rfl) (by decide) (by omega) (m_keeps hM dN1) ?_
            intro I2 hq02
            obtain ⟨dN2, ht2⟩ := hq02
            have dM2 : vm_LD (vs_l σ) I2 := dN2.1
            have hR2 : vm_row (vs_l σ) (I2 76) 0 (vs_x σ) (vx_tn (vs_x σ)) := dN2.2.1
            have thr2 : I2 60 0 = vb_i 0 := ht2.trans thr1
            refine mm_w1 rfl ?_
            refine mm_wv (vb_i 0) rfl (by decide) ?_
            refine mm_w1 rfl ?_
            refine mm_w1 rfl ?_
            refine mm_cvn (vb_cv (vM_S60 hM) rfl rfl rfl rfl) (by decide) (by omega) (m_brings (sd := vx_in (vx_s (vs_x σ)) a_) hM dM2 hR2 (by decide) hsj la lb hsa rfl hne) ?_
            intro I3 hq03
            obtain ⟨hr3, ho3, hf3⟩ := hq03
            have dN3 : vm_MD (vs_act σ (vx_bring (vs_x σ) (vx_in (vx_s (vs_x σ)) a_) a_ b_) (vb_keep (vs_a σ) (vs_x σ))) I3 := vm_MD.row dN2 hf3 hr3
            have thr3 : I3 60 0 = vb_i 0 := by rw [hf3 60 (by decide)]; exact thr2
            refine mm_wv (vb_i 1) rfl (by decide) ?_
            refine mm_wr rfl rfl rfl ?_
            exact ⟨_, _, rfl, dN3, rfl, thr3⟩
          · intro h44
            exact absurd hfo2.2 h44
theorem n_teach (hM : vm_isM P S) (dN : vm_MD σ I) (hI : vs_inv σ) (hlb : vl_bel (vs_l σ)) (hd : 20 ≤ d) (s y : Int32) : mm_C G d 206 [.ref 60, .int s, .int y] (I, P, J, S, nc, ns) (vm_RV (sp_teach σ s y) (fun I' => vm_MD (st_teach σ s y) I') P J S nc ns) := by
  obtain ⟨hli, hIx, hIa, hIi⟩ := hI
  obtain ⟨hok, hwf, he9⟩ := hIx
  have hsj := hwf.sj
  have hfj := hwf.fj
  have hst := hwf.ws
  have dM := vmd_l dN
  have hR := vmd_x dN
  have hn := vm_10 dM
  have ht := vx_t2 (vs_x σ)
  have hs3 := vm_sc3 dM
  cases hs : vb_idx 2 s with
  | none =>
    rw [show sp_teach σ s y = .inr 0 by simp only [sp_teach, hs], show st_teach σ s y = σ by simp only [st_teach, hs]]
    show mm_W _ _ 206 (mm_blk 206 0) [.ref 60, .int s, .int y, .null] [] _ _
    refine mm_w1 rfl ?_
    refine mm_wv (vb_i 0) rfl (by decide) ?_
    refine mm_wpiN (vM_S60 hM) (by decide) (by decide) ?_
    intro I1 hI1
    have hq1 : vm_qf I I1 := by rw [hI1]; exact vm_qf.thr _
    have dN1 := dN.qf hq1
    have dM1 := vmd_l dN1
    have hR1 := vmd_x dN1
    have thr1 : I1 60 0 = vb_i 0 := by rw [hI1, vb_up1]
    refine mm_w1 rfl ?_
    refine mm_w1 rfl ?_
    refine mm_cvi (vb_cv (vM_S60 hM) rfl rfl rfl rfl) (by decide) (by omega) (m_isS_f hM thr1 hs (by omega)) ?_
    intro I2 hI2 
    refine mm_nifne (by decide) (fun h => absurd rfl h) (fun _ => ?_)
    refine mm_wv (vb_i 0) rfl (by decide) ?_
    refine mm_wr rfl rfl rfl ?_
    exact ⟨_, _, rfl, dN.qf (hq1.tr (by rw [hI2]; exact vm_qf.thr _)), by rw [hI2, vb_up1]⟩
  | some s_ =>
    obtain ⟨ls, rfl⟩ := vb_idx_some (by omega) hs
    have htk := vm_tchk (ℓ := vs_l σ) (y := y) hs3
    cases hto : q_tchok (vs_l σ) y with
    | false =>
      rw [show sp_teach σ (vb_i s_) y = .inl (-2) by simp only [sp_teach, hs, hto, Bool.false_eq_true, if_false], show st_teach σ (vb_i s_) y = vs_ref σ 1 by simp only [st_teach, hs, hto, Bool.false_eq_true, if_false]]
      show mm_W _ _ 206 (mm_blk 206 0) [.ref 60, .int (vb_i s_), .int y, .null] [] _ _
      refine mm_w1 rfl ?_
      refine mm_wv (vb_i 0) rfl (by decide) ?_
      refine mm_wpiN (vM_S60 hM) (by decide) (by decide) ?_
      intro I1 hI1
      have hq1 : vm_qf I I1 := by rw [hI1]; exact vm_qf.thr _
      have dN1 := dN.qf hq1
      have dM1 := vmd_l dN1
      have hR1 := vmd_x dN1
      have thr1 : I1 60 0 = vb_i 0 := by rw [hI1, vb_up1]
      refine mm_w1 rfl ?_
      refine mm_w1 rfl ?_
      refine mm_cvp (vb_cv (vM_S60 hM) rfl rfl rfl rfl) (by decide) (by omega) (m_isS_t hM thr1 (by rw [hs]; rfl) (by omega)) ?_
      refine mm_nifne (by decide) (fun _ => ?_) (fun h => absurd h (by decide))
      refine mm_w1 rfl ?_
      refine mm_wv (-1) rfl (by decide) ?_
      refine mm_wiclt ?_ ?_
      · intro h17
        refine mm_w1 rfl ?_
        refine mm_wv (vb_i 1) rfl (by decide) ?_
        refine mm_cvi (vb_cv (vM_S60 hM) rfl rfl rfl rfl) (by decide) (by omega) (m_refuses (w := 1) hM dN1 (by decide)) ?_
        intro I2 hq02
        obtain ⟨dN2, ht2⟩ := hq02
        have thr2 : I2 60 0 = vb_i 0 := ht2.trans thr1
        refine mm_wv (vb_i 1) rfl (by decide) ?_
        refine mm_w1 rfl ?_
        refine mm_wr rfl rfl rfl ?_
        exact ⟨_, _, rfl, dN2, rfl, thr2⟩
      · intro h17
        refine mm_w1 rfl ?_
        refine mm_w1 rfl ?_
        refine mm_wgiv _ (vM_S60 hM) (by decide) (by decide) (vm_sc dM1) ?_
        refine mm_wiclt ?_ ?_
        · intro h25
          rw [hto, decide_eq_false h17, decide_eq_true h25] at htk; cases htk
        · intro h25
          refine mm_w1 rfl ?_
          refine mm_wv (vb_i 1) rfl (by decide) ?_
          refine mm_cvi (vb_cv (vM_S60 hM) rfl rfl rfl rfl) (by decide) (by omega) (m_refuses (w := 1) hM dN1 (by decide)) ?_
          intro I2 hq02
          obtain ⟨dN2, ht2⟩ := hq02
          have thr2 : I2 60 0 = vb_i 0 := ht2.trans thr1
          refine mm_wv (vb_i 1) rfl (by decide) ?_
          refine mm_w1 rfl ?_
          refine mm_wr rfl rfl rfl ?_
          exact ⟨_, _, rfl, dN2, rfl, thr2⟩
    | true =>
      rw [show sp_teach σ (vb_i s_) y = .inl (vx_y (vs_x σ) s_) by simp only [sp_teach, hs, hto, if_true], show st_teach σ (vb_i s_) y = vs_act σ (vx_tch (vs_x σ) s_ y) (vb_keep (vs_a σ) (vs_x σ)) by simp only [st_teach, hs, hto, if_true]]
      show mm_W _ _ 206 (mm_blk 206 0) [.ref 60, .int (vb_i s_), .int y, .null] [] _ _
      refine mm_w1 rfl ?_
      refine mm_wv (vb_i 0) rfl (by decide) ?_
      refine mm_wpiN (vM_S60 hM) (by decide) (by decide) ?_
      intro I1 hI1
      have hq1 : vm_qf I I1 := by rw [hI1]; exact vm_qf.thr _
      have dN1 := dN.qf hq1
      have dM1 := vmd_l dN1
      have hR1 := vmd_x dN1
      have thr1 : I1 60 0 = vb_i 0 := by rw [hI1, vb_up1]
      refine mm_w1 rfl ?_
      refine mm_w1 rfl ?_
      refine mm_cvp (vb_cv (vM_S60 hM) rfl rfl rfl rfl) (by decide) (by omega) (m_isS_t hM thr1 (by rw [hs]; rfl) (by omega)) ?_
      refine mm_nifne (by decide) (fun _ => ?_) (fun h => absurd h (by decide))
      refine mm_w1 rfl ?_
      refine mm_wv (-1) rfl (by decide) ?_
      refine mm_wiclt ?_ ?_
      · intro h17
        rw [hto, decide_eq_true h17] at htk; cases htk
      · intro h17
        refine mm_w1 rfl ?_
        refine mm_w1 rfl ?_
        refine mm_wgiv _ (vM_S60 hM) (by decide) (by decide) (vm_sc dM1) ?_
        refine mm_wiclt ?_ ?_
        · intro h25
          refine mm_w1 rfl ?_
          refine mm_cvn (vb_cv (vM_S60 hM) rfl rfl rfl rfl) (by decide) (by omega) (m_keeps hM dN1) ?_
          intro I2 hq02
          obtain ⟨dN2, ht2⟩ := hq02
          have dM2 : vm_LD (vs_l σ) I2 := dN2.1
          have hR2 : vm_row (vs_l σ) (I2 76) 0 (vs_x σ) (vx_tn (vs_x σ)) := dN2.2.1
          have thr2 : I2 60 0 = vb_i 0 := ht2.trans thr1
          refine mm_w1 rfl ?_
          refine mm_wgr (vM_S60 hM) (by decide) (by decide) (vM_P60_38 hM) (vM_a76 hM) ?_
          refine mm_wv (vb_i 44) rfl (by decide) ?_
          refine mm_w1 rfl ?_
          refine mm_nadd ?_
          refine mm_wiav (vx_y (vs_x σ) s_) (vM_a76 hM) (vM_S76 hM) (by decide) (by omega) (vm_ry hR2 ls) ?_
          refine mm_w1 (ls' := [_, _, _, _]) rfl ?_
          refine mm_w1 rfl ?_
          refine mm_wgr (vM_S60 hM) (by decide) (by decide) (vM_P60_38 hM) (vM_a76 hM) ?_
          refine mm_wv (vb_i 44) rfl (by decide) ?_
          refine mm_w1 rfl ?_
          refine mm_nadd ?_
          refine mm_w1 rfl ?_
          refine mm_wisN (vM_S76 hM) (by decide) (by omega) ?_
          intro I3 hI3
          have dN3 : vm_MD (vs_act σ (vx_tch (vs_x σ) s_ y) (vb_keep (vs_a σ) (vs_x σ))) I3 := vm_MD.row (I := I2) dN2 (by rw [hI3]; exact vb_fr.rf.up1) (by rw [hI3]; exact hR2.tch hn ls)
          have thr3 : I3 60 0 = vb_i 0 := by rw [hI3, vb_up3 _ _ (by decide)]; exact thr2
          refine mm_w1 rfl ?_
          refine mm_wr rfl rfl rfl ?_
          exact ⟨_, _, rfl, dN3, rfl, thr3⟩
        · intro h25
          rw [hto, decide_eq_false h25, Bool.and_false] at htk; cases htk
end NACT2
