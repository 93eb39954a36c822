section NASK
variable {G : mm_G} {d : Nat} {I : Nat → Nat → Int32} {P : Nat → Nat → Nat} {J : Nat → Nat → Int64} {S : List (Nat × Nat)} {nc ns : Nat} {μ : mm_M} {σ : vb_St}
theorem vm_st_eq {ℓ : vb_L} {f : Nat → Int32} (hn : vb_n ℓ ≤ 10) (hj : vx_dj f) {sd : Nat} (hs : sd < 2) (hb : vb_below (vb_n ℓ) (f sd)) : vb_set (vb_n ℓ) (fun v => decide (vx_in f v = sd)) = f sd := by
  refine (vb_eq_set (by omega) hb (fun v _ => ?_)).symm
  exact (vx_in_dec hj hs).symm
theorem n_fault (hM : vm_isM P S) (dN : vm_MD σ I) (hI : vs_inv σ) (hlb : vl_bel (vs_l σ)) (hd : 20 ≤ d) : mm_C G d 171 [.ref 60] (I, P, J, S, nc, ns) (vm_RV (sp_fault σ) (fun I' => vm_qf I I') P J S nc ns) := by
  obtain ⟨hli, hIx, hIa, hIi⟩ := hI
  obtain ⟨hok, hwf, he9⟩ := hIx
  have hsj := hwf.sj
  have hfj := hwf.fj
  have hst := hwf.ws
  have dM := vmd_l dN
  have hR := vmd_x dN
  have hn := vm_10 dM
  have ht := vx_t2 (vs_x σ)
  have hs3 := vm_sc3 dM
  show mm_W _ _ 171 (mm_blk 171 0) [.ref 60] [] _ _
  refine mm_w1 rfl ?_
  refine mm_wv (vb_i 0) rfl (by decide) ?_
  refine mm_wpiN (vM_S60 hM) (by decide) (by decide) ?_
  intro I1 hI1
  have hq1 : vm_qf I I1 := by rw [hI1]; exact vm_qf.thr _
  have dN1 := dN.qf hq1
  have dM1 := vmd_l dN1
  have hR1 := vmd_x dN1
  have thr1 : I1 60 0 = vb_i 0 := by rw [hI1, vb_up1]
  refine mm_w1 rfl ?_
  refine mm_wgiv _ (vM_S60 hM) (by decide) (by decide) (vmd_f dN1) ?_
  refine mm_wr rfl rfl rfl ?_
  exact ⟨_, _, rfl, hq1, rfl, thr1⟩
theorem n_count (hM : vm_isM P S) (dN : vm_MD σ I) (hI : vs_inv σ) (hlb : vl_bel (vs_l σ)) (hd : 20 ≤ d) (w : Int32) : mm_C G d 193 [.ref 60, .int w] (I, P, J, S, nc, ns) (vm_RV (sp_count σ w) (fun I' => vm_qf I I') P J S nc ns) := by
  obtain ⟨hli, hIx, hIa, hIi⟩ := hI
  obtain ⟨hok, hwf, he9⟩ := hIx
  have hsj := hwf.sj
  have hfj := hwf.fj
  have hst := hwf.ws
  have dM := vmd_l dN
  have hR := vmd_x dN
  have hn := vm_10 dM
  have ht := vx_t2 (vs_x σ)
  have hs3 := vm_sc3 dM
  cases hw : vb_idx 15 w with
  | none =>
    rw [show sp_count σ w = .inr 0 by simp only [sp_count, hw]]
    show mm_W _ _ 193 (mm_blk 193 0) [.ref 60, .int w] [] _ _
    refine mm_w1 rfl ?_
    refine mm_wv (vb_i 0) rfl (by decide) ?_
    refine mm_wpiN (vM_S60 hM) (by decide) (by decide) ?_
    intro I1 hI1
    have hq1 : vm_qf I I1 := by rw [hI1]; exact vm_qf.thr _
    have dN1 := dN.qf hq1
    have dM1 := vmd_l dN1
    have hR1 := vmd_x dN1
    have thr1 : I1 60 0 = vb_i 0 := by rw [hI1, vb_up1]
    refine mm_w1 rfl ?_
    refine mm_w1 rfl ?_
    refine mm_wv (vb_i 0) rfl (by decide) ?_
    refine mm_wv (vb_i 14) rfl (by decide) ?_
    refine mm_csp rfl (by decide) (by omega) (m_within_f (by decide) hw) ?_
    refine mm_wv (vb_i 1) rfl (by decide) ?_
    refine mm_cvi (vb_cv (vM_S60 hM) rfl rfl rfl rfl) (by decide) (by omega) (m_right_f (w := 1) hM thr1 (by decide) (by decide)) ?_
    intro I2 hI2
    refine mm_nifne (by decide) (fun h => absurd rfl h) (fun _ => ?_)
    refine mm_wv (vb_i 0) rfl (by decide) ?_
    refine mm_wr rfl rfl rfl ?_
    exact ⟨_, _, rfl, hq1.tr (by rw [hI2]; exact vm_qf.thr _), by rw [hI2, vb_up1]⟩
  | some w_ =>
    obtain ⟨lw, rfl⟩ := vb_idx_some (by decide) hw
    have hk : w_ = 0 ∨ w_ = 1 ∨ w_ = 2 ∨ w_ = 3 ∨ w_ = 4 ∨ w_ = 5 ∨ w_ = 6 ∨ w_ = 7 ∨ w_ = 8 ∨ w_ = 9 ∨ w_ = 10 ∨ w_ = 11 ∨ w_ = 12 ∨ w_ = 13 ∨ w_ = 14 := by omega
    rcases hk with rfl | rfl | rfl | rfl | rfl | rfl | rfl | rfl | rfl | rfl | rfl | rfl | rfl | rfl | rfl
    · rw [show sp_count σ (vb_i 0) = .inl (q_count σ 0) by simp only [sp_count, hw]]
      show mm_W _ _ 193 (mm_blk 193 0) [.ref 60, .int (vb_i 0)] [] _ _
      refine mm_w1 rfl ?_
      refine mm_wv (vb_i 0) rfl (by decide) ?_
      refine mm_wpiN (vM_S60 hM) (by decide) (by decide) ?_
      intro I1 hI1
      have hq1 : vm_qf I I1 := by rw [hI1]; exact vm_qf.thr _
      have dN1 := dN.qf hq1
      have dM1 := vmd_l dN1
      have hR1 := vmd_x dN1
      have thr1 : I1 60 0 = vb_i 0 := by rw [hI1, vb_up1]
      refine mm_w1 rfl ?_
      refine mm_w1 rfl ?_
      refine mm_wv (vb_i 0) rfl (by decide) ?_
      refine mm_wv (vb_i 14) rfl (by decide) ?_
      refine mm_csp rfl (by decide) (by omega) (m_within_t (by decide) (by rw [hw]; rfl)) ?_
      refine mm_wv (vb_i 1) rfl (by decide) ?_
      refine mm_cvp (vb_cv (vM_S60 hM) rfl rfl rfl rfl) (by decide) (by omega) (m_right_t hM thr1) ?_
      refine mm_nifne (by decide) (fun _ => ?_) (fun h => absurd h (by decide))
      refine mm_w1 rfl ?_
      refine mm_wts 84 (by decide +kernel) ?_
      refine mm_w1 rfl ?_
      refine mm_wgiv _ (vM_S60 hM) (by decide) (by decide) (vm_n dM1) ?_
      refine mm_wr rfl rfl rfl ?_
      exact ⟨_, _, rfl, hq1, rfl, thr1⟩
    · rw [show sp_count σ (vb_i 1) = .inl (q_count σ 1) by simp only [sp_count, hw]]
      show mm_W _ _ 193 (mm_blk 193 0) [.ref 60, .int (vb_i 1)] [] _ _
      refine mm_w1 rfl ?_
      refine mm_wv (vb_i 0) rfl (by decide) ?_
      refine mm_wpiN (vM_S60 hM) (by decide) (by decide) ?_
      intro I1 hI1
      have hq1 : vm_qf I I1 := by rw [hI1]; exact vm_qf.thr _
      have dN1 := dN.qf hq1
      have dM1 := vmd_l dN1
      have hR1 := vmd_x dN1
      have thr1 : I1 60 0 = vb_i 0 := by rw [hI1, vb_up1]
      refine mm_w1 rfl ?_
      refine mm_w1 rfl ?_
      refine mm_wv (vb_i 0) rfl (by decide) ?_
      refine mm_wv (vb_i 14) rfl (by decide) ?_
      refine mm_csp rfl (by decide) (by omega) (m_within_t (by decide) (by rw [hw]; rfl)) ?_
      refine mm_wv (vb_i 1) rfl (by decide) ?_
      refine mm_cvp (vb_cv (vM_S60 hM) rfl rfl rfl rfl) (by decide) (by omega) (m_right_t hM thr1) ?_
      refine mm_nifne (by decide) (fun _ => ?_) (fun h => absurd h (by decide))
      refine mm_w1 rfl ?_
      refine mm_wts 89 (by decide +kernel) ?_
      refine mm_w1 rfl ?_
      refine mm_wgiv _ (vM_S60 hM) (by decide) (by decide) (vm_rc dM1) ?_
      refine mm_wr rfl rfl rfl ?_
      exact ⟨_, _, rfl, hq1, rfl, thr1⟩
    · rw [show sp_count σ (vb_i 2) = .inl (q_count σ 2) by simp only [sp_count, hw]]
      show mm_W _ _ 193 (mm_blk 193 0) [.ref 60, .int (vb_i 2)] [] _ _
      refine mm_w1 rfl ?_
      refine mm_wv (vb_i 0) rfl (by decide) ?_
      refine mm_wpiN (vM_S60 hM) (by decide) (by decide) ?_
      intro I1 hI1
      have hq1 : vm_qf I I1 := by rw [hI1]; exact vm_qf.thr _
      have dN1 := dN.qf hq1
      have dM1 := vmd_l dN1
      have hR1 := vmd_x dN1
      have thr1 : I1 60 0 = vb_i 0 := by rw [hI1, vb_up1]
      refine mm_w1 rfl ?_
      refine mm_w1 rfl ?_
      refine mm_wv (vb_i 0) rfl (by decide) ?_
      refine mm_wv (vb_i 14) rfl (by decide) ?_
      refine mm_csp rfl (by decide) (by omega) (m_within_t (by decide) (by rw [hw]; rfl)) ?_
      refine mm_wv (vb_i 1) rfl (by decide) ?_
      refine mm_cvp (vb_cv (vM_S60 hM) rfl rfl rfl rfl) (by decide) (by omega) (m_right_t hM thr1) ?_
      refine mm_nifne (by decide) (fun _ => ?_) (fun h => absurd h (by decide))
      refine mm_w1 rfl ?_
      refine mm_wts 94 (by decide +kernel) ?_
      refine mm_w1 rfl ?_
      refine mm_wgiv _ (vM_S60 hM) (by decide) (by decide) (vm_sc dM1) ?_
      refine mm_wr rfl rfl rfl ?_
      exact ⟨_, _, rfl, hq1, rfl, thr1⟩
    · rw [show sp_count σ (vb_i 3) = .inl (q_count σ 3) by simp only [sp_count, hw]]
      show mm_W _ _ 193 (mm_blk 193 0) [.ref 60, .int (vb_i 3)] [] _ _
      refine mm_w1 rfl ?_
      refine mm_wv (vb_i 0) rfl (by decide) ?_
      refine mm_wpiN (vM_S60 hM) (by decide) (by decide) ?_
      intro I1 hI1
      have hq1 : vm_qf I I1 := by rw [hI1]; exact vm_qf.thr _
      have dN1 := dN.qf hq1
      have dM1 := vmd_l dN1
      have hR1 := vmd_x dN1
      have thr1 : I1 60 0 = vb_i 0 := by rw [hI1, vb_up1]
      refine mm_w1 rfl ?_
      refine mm_w1 rfl ?_
      refine mm_wv (vb_i 0) rfl (by decide) ?_
      refine mm_wv (vb_i 14) rfl (by decide) ?_
      refine mm_csp rfl (by decide) (by omega) (m_within_t (by decide) (by rw [hw]; rfl)) ?_
      refine mm_wv (vb_i 1) rfl (by decide) ?_
      refine mm_cvp (vb_cv (vM_S60 hM) rfl rfl rfl rfl) (by decide) (by omega) (m_right_t hM thr1) ?_
      refine mm_nifne (by decide) (fun _ => ?_) (fun h => absurd h (by decide))
      refine mm_w1 rfl ?_
      refine mm_wts 99 (by decide +kernel) ?_
      refine mm_w1 rfl ?_
      refine mm_wgr (vM_S60 hM) (by decide) (by decide) (vM_P60_38 hM) (vM_a76 hM) ?_
      refine mm_wv (vb_i 42) rfl (by decide) ?_
      refine mm_wiav (vb_i (vx_e (vs_x σ))) (vM_a76 hM) (vM_S76 hM) (by decide) (by omega) (vm_re hR1) ?_
      refine mm_wr rfl rfl rfl ?_
      exact ⟨_, _, rfl, hq1, rfl, thr1⟩
    · rw [show sp_count σ (vb_i 4) = .inl (q_count σ 4) by simp only [sp_count, hw]]
      show mm_W _ _ 193 (mm_blk 193 0) [.ref 60, .int (vb_i 4)] [] _ _
      refine mm_w1 rfl ?_
      refine mm_wv (vb_i 0) rfl (by decide) ?_
      refine mm_wpiN (vM_S60 hM) (by decide) (by decide) ?_
      intro I1 hI1
      have hq1 : vm_qf I I1 := by rw [hI1]; exact vm_qf.thr _
      have dN1 := dN.qf hq1
      have dM1 := vmd_l dN1
      have hR1 := vmd_x dN1
      have thr1 : I1 60 0 = vb_i 0 := by rw [hI1, vb_up1]
      refine mm_w1 rfl ?_
      refine mm_w1 rfl ?_
      refine mm_wv (vb_i 0) rfl (by decide) ?_
      refine mm_wv (vb_i 14) rfl (by decide) ?_
      refine mm_csp rfl (by decide) (by omega) (m_within_t (by decide) (by rw [hw]; rfl)) ?_
      refine mm_wv (vb_i 1) rfl (by decide) ?_
      refine mm_cvp (vb_cv (vM_S60 hM) rfl rfl rfl rfl) (by decide) (by omega) (m_right_t hM thr1) ?_
      refine mm_nifne (by decide) (fun _ => ?_) (fun h => absurd h (by decide))
      refine mm_w1 rfl ?_
      refine mm_wts 107 (by decide +kernel) ?_
      refine mm_w1 rfl ?_
      refine mm_wgr (vM_S60 hM) (by decide) (by decide) (vM_P60_38 hM) (vM_a76 hM) ?_
      refine mm_wv (vb_i 43) rfl (by decide) ?_
      refine mm_wiav (vb_i (vx_tn (vs_x σ))) (vM_a76 hM) (vM_S76 hM) (by decide) (by omega) (vm_ru hR1) ?_
      refine mm_wr rfl rfl rfl ?_
      exact ⟨_, _, rfl, hq1, rfl, thr1⟩
    · rw [show sp_count σ (vb_i 5) = .inl (q_count σ 5) by simp only [sp_count, hw]]
      show mm_W _ _ 193 (mm_blk 193 0) [.ref 60, .int (vb_i 5)] [] _ _
      refine mm_w1 rfl ?_
      refine mm_wv (vb_i 0) rfl (by decide) ?_
      refine mm_wpiN (vM_S60 hM) (by decide) (by decide) ?_
      intro I1 hI1
      have hq1 : vm_qf I I1 := by rw [hI1]; exact vm_qf.thr _
      have dN1 := dN.qf hq1
      have dM1 := vmd_l dN1
      have hR1 := vmd_x dN1
      have thr1 : I1 60 0 = vb_i 0 := by rw [hI1, vb_up1]
      refine mm_w1 rfl ?_
      refine mm_w1 rfl ?_
      refine mm_wv (vb_i 0) rfl (by decide) ?_
      refine mm_wv (vb_i 14) rfl (by decide) ?_
      refine mm_csp rfl (by decide) (by omega) (m_within_t (by decide) (by rw [hw]; rfl)) ?_
      refine mm_wv (vb_i 1) rfl (by decide) ?_
      refine mm_cvp (vb_cv (vM_S60 hM) rfl rfl rfl rfl) (by decide) (by omega) (m_right_t hM thr1) ?_
      refine mm_nifne (by decide) (fun _ => ?_) (fun h => absurd h (by decide))
      refine mm_w1 rfl ?_
      refine mm_wts 115 (by decide +kernel) ?_
      refine mm_w1 rfl ?_
      refine mm_wv (vb_i 0) rfl (by decide) ?_
      refine mm_wv (vb_i 0) rfl (by decide) ?_
      refine mm_cvp (vb_cv (vM_S60 hM) rfl rfl rfl rfl) (by decide) (by omega) (m_stones hM dM1 hR1 (by decide) (by omega)) ?_
      rw [vm_st_eq hn hsj (by decide) (hwf.1 _ (by decide)).1]
      refine mm_wr rfl rfl rfl ?_
      exact ⟨_, _, rfl, hq1, rfl, thr1⟩
    · rw [show sp_count σ (vb_i 6) = .inl (q_count σ 6) by simp only [sp_count, hw]]
      show mm_W _ _ 193 (mm_blk 193 0) [.ref 60, .int (vb_i 6)] [] _ _
      refine mm_w1 rfl ?_
      refine mm_wv (vb_i 0) rfl (by decide) ?_
      refine mm_wpiN (vM_S60 hM) (by decide) (by decide) ?_
      intro I1 hI1
      have hq1 : vm_qf I I1 := by rw [hI1]; exact vm_qf.thr _
      have dN1 := dN.qf hq1
      have dM1 := vmd_l dN1
      have hR1 := vmd_x dN1
      have thr1 : I1 60 0 = vb_i 0 := by rw [hI1, vb_up1]
      refine mm_w1 rfl ?_
      refine mm_w1 rfl ?_
      refine mm_wv (vb_i 0) rfl (by decide) ?_
      refine mm_wv (vb_i 14) rfl (by decide) ?_
      refine mm_csp rfl (by decide) (by omega) (m_within_t (by decide) (by rw [hw]; rfl)) ?_
      refine mm_wv (vb_i 1) rfl (by decide) ?_
      refine mm_cvp (vb_cv (vM_S60 hM) rfl rfl rfl rfl) (by decide) (by omega) (m_right_t hM thr1) ?_
      refine mm_nifne (by decide) (fun _ => ?_) (fun h => absurd h (by decide))
      refine mm_w1 rfl ?_
      refine mm_wts 122 (by decide +kernel) ?_
      refine mm_w1 rfl ?_
      refine mm_wv (vb_i 0) rfl (by decide) ?_
      refine mm_wv (vb_i 1) rfl (by decide) ?_
      refine mm_cvp (vb_cv (vM_S60 hM) rfl rfl rfl rfl) (by decide) (by omega) (m_stones hM dM1 hR1 (by decide) (by omega)) ?_
      rw [vm_st_eq hn hsj (by decide) (hwf.1 _ (by decide)).1]
      refine mm_wr rfl rfl rfl ?_
      exact ⟨_, _, rfl, hq1, rfl, thr1⟩
    · rw [show sp_count σ (vb_i 7) = .inl (q_count σ 7) by simp only [sp_count, hw]]
      show mm_W _ _ 193 (mm_blk 193 0) [.ref 60, .int (vb_i 7)] [] _ _
      refine mm_w1 rfl ?_
      refine mm_wv (vb_i 0) rfl (by decide) ?_
      refine mm_wpiN (vM_S60 hM) (by decide) (by decide) ?_
      intro I1 hI1
      have hq1 : vm_qf I I1 := by rw [hI1]; exact vm_qf.thr _
      have dN1 := dN.qf hq1
      have dM1 := vmd_l dN1
      have hR1 := vmd_x dN1
      have thr1 : I1 60 0 = vb_i 0 := by rw [hI1, vb_up1]
      refine mm_w1 rfl ?_
      refine mm_w1 rfl ?_
      refine mm_wv (vb_i 0) rfl (by decide) ?_
      refine mm_wv (vb_i 14) rfl (by decide) ?_
      refine mm_csp rfl (by decide) (by omega) (m_within_t (by decide) (by rw [hw]; rfl)) ?_
      refine mm_wv (vb_i 1) rfl (by decide) ?_
      refine mm_cvp (vb_cv (vM_S60 hM) rfl rfl rfl rfl) (by decide) (by omega) (m_right_t hM thr1) ?_
      refine mm_nifne (by decide) (fun _ => ?_) (fun h => absurd h (by decide))
      refine mm_w1 rfl ?_
      refine mm_wts 129 (by decide +kernel) ?_
      refine mm_w1 rfl ?_
      refine mm_wv (vb_i 0) rfl (by decide) ?_
      refine mm_wv (vb_i 0) rfl (by decide) ?_
      refine mm_cvp (vb_cv (vM_S60 hM) rfl rfl rfl rfl) (by decide) (by omega) (m_flags hM dM1 hR1 (by decide) (by omega)) ?_
      rw [vm_st_eq hn hfj (by decide) (hwf.1 _ (by decide)).2]
      refine mm_wr rfl rfl rfl ?_
      exact ⟨_, _, rfl, hq1, rfl, thr1⟩
    · rw [show sp_count σ (vb_i 8) = .inl (q_count σ 8) by simp only [sp_count, hw]]
      show mm_W _ _ 193 (mm_blk 193 0) [.ref 60, .int (vb_i 8)] [] _ _
      refine mm_w1 rfl ?_
      refine mm_wv (vb_i 0) rfl (by decide) ?_
      refine mm_wpiN (vM_S60 hM) (by decide) (by decide) ?_
      intro I1 hI1
      have hq1 : vm_qf I I1 := by rw [hI1]; exact vm_qf.thr _
      have dN1 := dN.qf hq1
      have dM1 := vmd_l dN1
      have hR1 := vmd_x dN1
      have thr1 : I1 60 0 = vb_i 0 := by rw [hI1, vb_up1]
      refine mm_w1 rfl ?_
      refine mm_w1 rfl ?_
      refine mm_wv (vb_i 0) rfl (by decide) ?_
      refine mm_wv (vb_i 14) rfl (by decide) ?_
      refine mm_csp rfl (by decide) (by omega) (m_within_t (by decide) (by rw [hw]; rfl)) ?_
      refine mm_wv (vb_i 1) rfl (by decide) ?_
      refine mm_cvp (vb_cv (vM_S60 hM) rfl rfl rfl rfl) (by decide) (by omega) (m_right_t hM thr1) ?_
      refine mm_nifne (by decide) (fun _ => ?_) (fun h => absurd h (by decide))
      refine mm_w1 rfl ?_
      refine mm_wts 136 (by decide +kernel) ?_
      refine mm_w1 rfl ?_
      refine mm_wv (vb_i 0) rfl (by decide) ?_
      refine mm_wv (vb_i 1) rfl (by decide) ?_
      refine mm_cvp (vb_cv (vM_S60 hM) rfl rfl rfl rfl) (by decide) (by omega) (m_flags hM dM1 hR1 (by decide) (by omega)) ?_
      rw [vm_st_eq hn hfj (by decide) (hwf.1 _ (by decide)).2]
      refine mm_wr rfl rfl rfl ?_
      exact ⟨_, _, rfl, hq1, rfl, thr1⟩
    · rw [show sp_count σ (vb_i 9) = .inl (q_count σ 9) by simp only [sp_count, hw]]
      show mm_W _ _ 193 (mm_blk 193 0) [.ref 60, .int (vb_i 9)] [] _ _
      refine mm_w1 rfl ?_
      refine mm_wv (vb_i 0) rfl (by decide) ?_
      refine mm_wpiN (vM_S60 hM) (by decide) (by decide) ?_
      intro I1 hI1
      have hq1 : vm_qf I I1 := by rw [hI1]; exact vm_qf.thr _
      have dN1 := dN.qf hq1
      have dM1 := vmd_l dN1
      have hR1 := vmd_x dN1
      have thr1 : I1 60 0 = vb_i 0 := by rw [hI1, vb_up1]
      refine mm_w1 rfl ?_
      refine mm_w1 rfl ?_
      refine mm_wv (vb_i 0) rfl (by decide) ?_
      refine mm_wv (vb_i 14) rfl (by decide) ?_
      refine mm_csp rfl (by decide) (by omega) (m_within_t (by decide) (by rw [hw]; rfl)) ?_
      refine mm_wv (vb_i 1) rfl (by decide) ?_
      refine mm_cvp (vb_cv (vM_S60 hM) rfl rfl rfl rfl) (by decide) (by omega) (m_right_t hM thr1) ?_
      refine mm_nifne (by decide) (fun _ => ?_) (fun h => absurd h (by decide))
      refine mm_w1 rfl ?_
      refine mm_wts 143 (by decide +kernel) ?_
      refine mm_w1 rfl ?_
      refine mm_wgiv _ (vM_S60 hM) (by decide) (by decide) (vmd_an dN1) ?_
      refine mm_wr rfl rfl rfl ?_
      exact ⟨_, _, rfl, hq1, rfl, thr1⟩
    · rw [show sp_count σ (vb_i 10) = .inl (q_count σ 10) by simp only [sp_count, hw]]
      show mm_W _ _ 193 (mm_blk 193 0) [.ref 60, .int (vb_i 10)] [] _ _
      refine mm_w1 rfl ?_
      refine mm_wv (vb_i 0) rfl (by decide) ?_
      refine mm_wpiN (vM_S60 hM) (by decide) (by decide) ?_
      intro I1 hI1
      have hq1 : vm_qf I I1 := by rw [hI1]; exact vm_qf.thr _
      have dN1 := dN.qf hq1
      have dM1 := vmd_l dN1
      have hR1 := vmd_x dN1
      have thr1 : I1 60 0 = vb_i 0 := by rw [hI1, vb_up1]
      refine mm_w1 rfl ?_
      refine mm_w1 rfl ?_
      refine mm_wv (vb_i 0) rfl (by decide) ?_
      refine mm_wv (vb_i 14) rfl (by decide) ?_
      refine mm_csp rfl (by decide) (by omega) (m_within_t (by decide) (by rw [hw]; rfl)) ?_
      refine mm_wv (vb_i 1) rfl (by decide) ?_
      refine mm_cvp (vb_cv (vM_S60 hM) rfl rfl rfl rfl) (by decide) (by omega) (m_right_t hM thr1) ?_
      refine mm_nifne (by decide) (fun _ => ?_) (fun h => absurd h (by decide))
      refine mm_w1 rfl ?_
      refine mm_wts 148 (by decide +kernel) ?_
      refine mm_w1 rfl ?_
      refine mm_wgiv _ (vM_S60 hM) (by decide) (by decide) (vmd_tn dN1) ?_
      refine mm_wr rfl rfl rfl ?_
      exact ⟨_, _, rfl, hq1, rfl, thr1⟩
    · rw [show sp_count σ (vb_i 11) = .inl (q_count σ 11) by simp only [sp_count, hw]]
      show mm_W _ _ 193 (mm_blk 193 0) [.ref 60, .int (vb_i 11)] [] _ _
      refine mm_w1 rfl ?_
      refine mm_wv (vb_i 0) rfl (by decide) ?_
      refine mm_wpiN (vM_S60 hM) (by decide) (by decide) ?_
      intro I1 hI1
      have hq1 : vm_qf I I1 := by rw [hI1]; exact vm_qf.thr _
      have dN1 := dN.qf hq1
      have dM1 := vmd_l dN1
      have hR1 := vmd_x dN1
      have thr1 : I1 60 0 = vb_i 0 := by rw [hI1, vb_up1]
      refine mm_w1 rfl ?_
      refine mm_w1 rfl ?_
      refine mm_wv (vb_i 0) rfl (by decide) ?_
      refine mm_wv (vb_i 14) rfl (by decide) ?_
      refine mm_csp rfl (by decide) (by omega) (m_within_t (by decide) (by rw [hw]; rfl)) ?_
      refine mm_wv (vb_i 1) rfl (by decide) ?_
      refine mm_cvp (vb_cv (vM_S60 hM) rfl rfl rfl rfl) (by decide) (by omega) (m_right_t hM thr1) ?_
      refine mm_nifne (by decide) (fun _ => ?_) (fun h => absurd h (by decide))
      refine mm_w1 rfl ?_
      refine mm_wts 153 (by decide +kernel) ?_
      refine mm_w1 rfl ?_
      refine mm_wgiv _ (vM_S60 hM) (by decide) (by decide) (vmd_pn dN1) ?_
      refine mm_wr rfl rfl rfl ?_
      exact ⟨_, _, rfl, hq1, rfl, thr1⟩
    · rw [show sp_count σ (vb_i 12) = .inl (q_count σ 12) by simp only [sp_count, hw]]
      show mm_W _ _ 193 (mm_blk 193 0) [.ref 60, .int (vb_i 12)] [] _ _
      refine mm_w1 rfl ?_
      refine mm_wv (vb_i 0) rfl (by decide) ?_
      refine mm_wpiN (vM_S60 hM) (by decide) (by decide) ?_
      intro I1 hI1
      have hq1 : vm_qf I I1 := by rw [hI1]; exact vm_qf.thr _
      have dN1 := dN.qf hq1
      have dM1 := vmd_l dN1
      have hR1 := vmd_x dN1
      have thr1 : I1 60 0 = vb_i 0 := by rw [hI1, vb_up1]
      refine mm_w1 rfl ?_
      refine mm_w1 rfl ?_
      refine mm_wv (vb_i 0) rfl (by decide) ?_
      refine mm_wv (vb_i 14) rfl (by decide) ?_
      refine mm_csp rfl (by decide) (by omega) (m_within_t (by decide) (by rw [hw]; rfl)) ?_
      refine mm_wv (vb_i 1) rfl (by decide) ?_
      refine mm_cvp (vb_cv (vM_S60 hM) rfl rfl rfl rfl) (by decide) (by omega) (m_right_t hM thr1) ?_
      refine mm_nifne (by decide) (fun _ => ?_) (fun h => absurd h (by decide))
      refine mm_w1 rfl ?_
      refine mm_wts 158 (by decide +kernel) ?_
      refine mm_w1 rfl ?_
      refine mm_wgr (vM_S60 hM) (by decide) (by decide) (vM_P60_14 hM) (vM_a67 hM) ?_
      refine mm_w1 rfl ?_
      refine mm_wv (vb_i 12) rfl (by decide) ?_
      refine mm_nsub (by omega) ?_
      refine mm_wiav _ (vM_a67 hM) (vM_S67 hM) (by decide) (by omega) (vmd_r dN1 (by omega)) ?_
      refine mm_wr rfl rfl rfl ?_
      exact ⟨_, _, rfl, hq1, rfl, thr1⟩
    · rw [show sp_count σ (vb_i 13) = .inl (q_count σ 13) by simp only [sp_count, hw]]
      show mm_W _ _ 193 (mm_blk 193 0) [.ref 60, .int (vb_i 13)] [] _ _
      refine mm_w1 rfl ?_
      refine mm_wv (vb_i 0) rfl (by decide) ?_
      refine mm_wpiN (vM_S60 hM) (by decide) (by decide) ?_
      intro I1 hI1
      have hq1 : vm_qf I I1 := by rw [hI1]; exact vm_qf.thr _
      have dN1 := dN.qf hq1
      have dM1 := vmd_l dN1
      have hR1 := vmd_x dN1
      have thr1 : I1 60 0 = vb_i 0 := by rw [hI1, vb_up1]
      refine mm_w1 rfl ?_
      refine mm_w1 rfl ?_
      refine mm_wv (vb_i 0) rfl (by decide) ?_
      refine mm_wv (vb_i 14) rfl (by decide) ?_
      refine mm_csp rfl (by decide) (by omega) (m_within_t (by decide) (by rw [hw]; rfl)) ?_
      refine mm_wv (vb_i 1) rfl (by decide) ?_
      refine mm_cvp (vb_cv (vM_S60 hM) rfl rfl rfl rfl) (by decide) (by omega) (m_right_t hM thr1) ?_
      refine mm_nifne (by decide) (fun _ => ?_) (fun h => absurd h (by decide))
      refine mm_w1 rfl ?_
      refine mm_wts 158 (by decide +kernel) ?_
      refine mm_w1 rfl ?_
      refine mm_wgr (vM_S60 hM) (by decide) (by decide) (vM_P60_14 hM) (vM_a67 hM) ?_
      refine mm_w1 rfl ?_
      refine mm_wv (vb_i 12) rfl (by decide) ?_
      refine mm_nsub (by omega) ?_
      refine mm_wiav _ (vM_a67 hM) (vM_S67 hM) (by decide) (by omega) (vmd_r dN1 (by omega)) ?_
      refine mm_wr rfl rfl rfl ?_
      exact ⟨_, _, rfl, hq1, rfl, thr1⟩
    · rw [show sp_count σ (vb_i 14) = .inl (q_count σ 14) by simp only [sp_count, hw]]
      show mm_W _ _ 193 (mm_blk 193 0) [.ref 60, .int (vb_i 14)] [] _ _
      refine mm_w1 rfl ?_
      refine mm_wv (vb_i 0) rfl (by decide) ?_
      refine mm_wpiN (vM_S60 hM) (by decide) (by decide) ?_
      intro I1 hI1
      have hq1 : vm_qf I I1 := by rw [hI1]; exact vm_qf.thr _
      have dN1 := dN.qf hq1
      have dM1 := vmd_l dN1
      have hR1 := vmd_x dN1
      have thr1 : I1 60 0 = vb_i 0 := by rw [hI1, vb_up1]
      refine mm_w1 rfl ?_
      refine mm_w1 rfl ?_
      refine mm_wv (vb_i 0) rfl (by decide) ?_
      refine mm_wv (vb_i 14) rfl (by decide) ?_
      refine mm_csp rfl (by decide) (by omega) (m_within_t (by decide) (by rw [hw]; rfl)) ?_
      refine mm_wv (vb_i 1) rfl (by decide) ?_
      refine mm_cvp (vb_cv (vM_S60 hM) rfl rfl rfl rfl) (by decide) (by omega) (m_right_t hM thr1) ?_
      refine mm_nifne (by decide) (fun _ => ?_) (fun h => absurd h (by decide))
      refine mm_w1 rfl ?_
      refine mm_wts 158 (by decide +kernel) ?_
      refine mm_w1 rfl ?_
      refine mm_wgr (vM_S60 hM) (by decide) (by decide) (vM_P60_14 hM) (vM_a67 hM) ?_
      refine mm_w1 rfl ?_
      refine mm_wv (vb_i 12) rfl (by decide) ?_
      refine mm_nsub (by omega) ?_
      refine mm_wiav _ (vM_a67 hM) (vM_S67 hM) (by decide) (by omega) (vmd_r dN1 (by omega)) ?_
      refine mm_wr rfl rfl rfl ?_
      exact ⟨_, _, rfl, hq1, rfl, thr1⟩
theorem n_village (hM : vm_isM P S) (dN : vm_MD σ I) (hI : vs_inv σ) (hlb : vl_bel (vs_l σ)) (hd : 20 ≤ d) (v w : Int32) : mm_C G d 198 [.ref 60, .int v, .int w] (I, P, J, S, nc, ns) (vm_RV (sp_village σ v w) (fun I' => vm_qf I I') P J S nc ns) := by
  obtain ⟨hli, hIx, hIa, hIi⟩ := hI
  obtain ⟨hok, hwf, he9⟩ := hIx
  have hsj := hwf.sj
  have hfj := hwf.fj
  have hst := hwf.ws
  have dM := vmd_l dN
  have hR := vmd_x dN
  have hn := vm_10 dM
  have ht := vx_t2 (vs_x σ)
  have hs3 := vm_sc3 dM
  cases hv : vb_idx (vb_n (vs_l σ)) v with
  | none =>
    rw [show sp_village σ v w = .inr 0 by simp only [sp_village, hv]]
    show mm_W _ _ 198 (mm_blk 198 0) [.ref 60, .int v, .int w] [] _ _
    refine mm_w1 rfl ?_
    refine mm_wv (vb_i 0) rfl (by decide) ?_
    refine mm_wpiN (vM_S60 hM) (by decide) (by decide) ?_
    intro I1 hI1
    have hq1 : vm_qf I I1 := by rw [hI1]; exact vm_qf.thr _
    have dN1 := dN.qf hq1
    have dM1 := vmd_l dN1
    have hR1 := vmd_x dN1
    have thr1 : I1 60 0 = vb_i 0 := by rw [hI1, vb_up1]
    refine mm_w1 rfl ?_
    refine mm_w1 rfl ?_
    refine mm_cvi (vb_cv (vM_S60 hM) rfl rfl rfl rfl) (by decide) (by omega) (m_isV_f hM dM1 thr1 hv (by omega)) ?_
    intro I2 hI2 
    refine mm_nifeq (by decide) (fun _ => ?_) (fun h => absurd rfl h)
    refine mm_wv (vb_i 0) rfl (by decide) ?_
    refine mm_wr rfl rfl rfl ?_
    exact ⟨_, _, rfl, hq1.tr (by rw [hI2]; exact vm_qf.thr _), by rw [hI2, vb_up1]⟩
  | some v_ =>
    obtain ⟨lv, rfl⟩ := vb_idx_some (by omega) hv
    cases hw : vb_idx 7 w with
    | none =>
      rw [show sp_village σ (vb_i v_) w = .inr 0 by simp only [sp_village, hv, hw]]
      show mm_W _ _ 198 (mm_blk 198 0) [.ref 60, .int (vb_i v_), .int w] [] _ _
      refine mm_w1 rfl ?_
      refine mm_wv (vb_i 0) rfl (by decide) ?_
      refine mm_wpiN (vM_S60 hM) (by decide) (by decide) ?_
      intro I1 hI1
      have hq1 : vm_qf I I1 := by rw [hI1]; exact vm_qf.thr _
      have dN1 := dN.qf hq1
      have dM1 := vmd_l dN1
      have hR1 := vmd_x dN1
      have thr1 : I1 60 0 = vb_i 0 := by rw [hI1, vb_up1]
      refine mm_w1 rfl ?_
      refine mm_w1 rfl ?_
      refine mm_cvp (vb_cv (vM_S60 hM) rfl rfl rfl rfl) (by decide) (by omega) (m_isV_t hM dM1 thr1 (by omega) (by omega)) ?_
      refine mm_nifeq (by decide) (fun h => absurd h (by decide)) (fun _ => ?_)
      refine mm_w1 rfl ?_
      refine mm_w1 rfl ?_
      refine mm_wv (vb_i 6) rfl (by decide) ?_
      refine mm_cvi (vb_cv (vM_S60 hM) rfl rfl rfl rfl) (by decide) (by omega) (m_isW_f hM thr1 hw (by omega) (by omega)) ?_
      intro I2 hI2 
      refine mm_nifne (by decide) (fun h => absurd rfl h) (fun _ => ?_)
      refine mm_wv (vb_i 0) rfl (by decide) ?_
      refine mm_wr rfl rfl rfl ?_
      exact ⟨_, _, rfl, hq1.tr (by rw [hI2]; exact vm_qf.thr _), by rw [hI2, vb_up1]⟩
    | some w_ =>
      obtain ⟨lw, rfl⟩ := vb_idx_some (by decide) hw
      have hk : w_ = 0 ∨ w_ = 1 ∨ w_ = 2 ∨ w_ = 3 ∨ w_ = 4 ∨ w_ = 5 ∨ w_ = 6 := by omega
      rcases hk with rfl | rfl | rfl | rfl | rfl | rfl | rfl
      · rw [show sp_village σ (vb_i v_) (vb_i 0) = .inl (q_village σ v_ 0) by simp only [sp_village, hv, hw]]
        show mm_W _ _ 198 (mm_blk 198 0) [.ref 60, .int (vb_i v_), .int (vb_i 0)] [] _ _
        refine mm_w1 rfl ?_
        refine mm_wv (vb_i 0) rfl (by decide) ?_
        refine mm_wpiN (vM_S60 hM) (by decide) (by decide) ?_
        intro I1 hI1
        have hq1 : vm_qf I I1 := by rw [hI1]; exact vm_qf.thr _
        have dN1 := dN.qf hq1
        have dM1 := vmd_l dN1
        have hR1 := vmd_x dN1
        have thr1 : I1 60 0 = vb_i 0 := by rw [hI1, vb_up1]
        refine mm_w1 rfl ?_
        refine mm_w1 rfl ?_
        refine mm_cvp (vb_cv (vM_S60 hM) rfl rfl rfl rfl) (by decide) (by omega) (m_isV_t hM dM1 thr1 (by omega) (by omega)) ?_
        refine mm_nifeq (by decide) (fun h => absurd h (by decide)) (fun _ => ?_)
        refine mm_w1 rfl ?_
        refine mm_w1 rfl ?_
        refine mm_wv (vb_i 6) rfl (by decide) ?_
        refine mm_cvp (vb_cv (vM_S60 hM) rfl rfl rfl rfl) (by decide) (by omega) (m_isW_t hM thr1 (by rw [hw]; rfl) (by decide) (by omega)) ?_
        refine mm_nifne (by decide) (fun _ => ?_) (fun h => absurd h (by decide))
        refine mm_w1 rfl ?_
        refine mm_wts 60 (by decide +kernel) ?_
        refine mm_w1 rfl ?_
        refine mm_wgr (vM_S60 hM) (by decide) (by decide) (vM_P60_5 hM) (vM_a61 hM) ?_
        refine mm_w1 rfl ?_
        refine mm_wiav _ (vM_a61 hM) (vM_S61 hM) (by decide) (by omega) (vm_wo dM1 (by omega)) ?_
        refine mm_wr rfl rfl rfl ?_
        exact ⟨_, _, rfl, hq1, rfl, thr1⟩
      · rw [show sp_village σ (vb_i v_) (vb_i 1) = .inl (q_village σ v_ 1) by simp only [sp_village, hv, hw]]
        show mm_W _ _ 198 (mm_blk 198 0) [.ref 60, .int (vb_i v_), .int (vb_i 1)] [] _ _
        refine mm_w1 rfl ?_
        refine mm_wv (vb_i 0) rfl (by decide) ?_
        refine mm_wpiN (vM_S60 hM) (by decide) (by decide) ?_
        intro I1 hI1
        have hq1 : vm_qf I I1 := by rw [hI1]; exact vm_qf.thr _
        have dN1 := dN.qf hq1
        have dM1 := vmd_l dN1
        have hR1 := vmd_x dN1
        have thr1 : I1 60 0 = vb_i 0 := by rw [hI1, vb_up1]
        refine mm_w1 rfl ?_
        refine mm_w1 rfl ?_
        refine mm_cvp (vb_cv (vM_S60 hM) rfl rfl rfl rfl) (by decide) (by omega) (m_isV_t hM dM1 thr1 (by omega) (by omega)) ?_
        refine mm_nifeq (by decide) (fun h => absurd h (by decide)) (fun _ => ?_)
        refine mm_w1 rfl ?_
        refine mm_w1 rfl ?_
        refine mm_wv (vb_i 6) rfl (by decide) ?_
        refine mm_cvp (vb_cv (vM_S60 hM) rfl rfl rfl rfl) (by decide) (by omega) (m_isW_t hM thr1 (by rw [hw]; rfl) (by decide) (by omega)) ?_
        refine mm_nifne (by decide) (fun _ => ?_) (fun h => absurd h (by decide))
        refine mm_w1 rfl ?_
        refine mm_wts 67 (by decide +kernel) ?_
        refine mm_w1 rfl ?_
        refine mm_wgr (vM_S60 hM) (by decide) (by decide) (vM_P60_6 hM) (vM_a62 hM) ?_
        refine mm_w1 rfl ?_
        refine mm_wiav _ (vM_a62 hM) (vM_S62 hM) (by decide) (by omega) (vm_fo dM1 (by omega)) ?_
        refine mm_wr rfl rfl rfl ?_
        exact ⟨_, _, rfl, hq1, rfl, thr1⟩
      · rw [show sp_village σ (vb_i v_) (vb_i 2) = .inl (q_village σ v_ 2) by simp only [sp_village, hv, hw]]
        show mm_W _ _ 198 (mm_blk 198 0) [.ref 60, .int (vb_i v_), .int (vb_i 2)] [] _ _
        refine mm_w1 rfl ?_
        refine mm_wv (vb_i 0) rfl (by decide) ?_
        refine mm_wpiN (vM_S60 hM) (by decide) (by decide) ?_
        intro I1 hI1
        have hq1 : vm_qf I I1 := by rw [hI1]; exact vm_qf.thr _
        have dN1 := dN.qf hq1
        have dM1 := vmd_l dN1
        have hR1 := vmd_x dN1
        have thr1 : I1 60 0 = vb_i 0 := by rw [hI1, vb_up1]
        refine mm_w1 rfl ?_
        refine mm_w1 rfl ?_
        refine mm_cvp (vb_cv (vM_S60 hM) rfl rfl rfl rfl) (by decide) (by omega) (m_isV_t hM dM1 thr1 (by omega) (by omega)) ?_
        refine mm_nifeq (by decide) (fun h => absurd h (by decide)) (fun _ => ?_)
        refine mm_w1 rfl ?_
        refine mm_w1 rfl ?_
        refine mm_wv (vb_i 6) rfl (by decide) ?_
        refine mm_cvp (vb_cv (vM_S60 hM) rfl rfl rfl rfl) (by decide) (by omega) (m_isW_t hM thr1 (by rw [hw]; rfl) (by decide) (by omega)) ?_
        refine mm_nifne (by decide) (fun _ => ?_) (fun h => absurd h (by decide))
        refine mm_w1 rfl ?_
        refine mm_wts 74 (by decide +kernel) ?_
        refine mm_w1 rfl ?_
        refine mm_wgr (vM_S60 hM) (by decide) (by decide) (vM_P60_38 hM) (vM_a76 hM) ?_
        refine mm_wv (vb_i 0) rfl (by decide) ?_
        refine mm_w1 rfl ?_
        refine mm_nadd ?_
        refine mm_wiav (vb_i (vx_in (vx_s (vs_x σ)) v_)) (vM_a76 hM) (vM_S76 hM) (by decide) (by omega) (vm_rs hR1 lv) ?_
        refine mm_wr rfl rfl rfl ?_
        exact ⟨_, _, rfl, hq1, rfl, thr1⟩
      · rw [show sp_village σ (vb_i v_) (vb_i 3) = .inl (q_village σ v_ 3) by simp only [sp_village, hv, hw]]
        show mm_W _ _ 198 (mm_blk 198 0) [.ref 60, .int (vb_i v_), .int (vb_i 3)] [] _ _
        refine mm_w1 rfl ?_
        refine mm_wv (vb_i 0) rfl (by decide) ?_
        refine mm_wpiN (vM_S60 hM) (by decide) (by decide) ?_
        intro I1 hI1
        have hq1 : vm_qf I I1 := by rw [hI1]; exact vm_qf.thr _
        have dN1 := dN.qf hq1
        have dM1 := vmd_l dN1
        have hR1 := vmd_x dN1
        have thr1 : I1 60 0 = vb_i 0 := by rw [hI1, vb_up1]
        refine mm_w1 rfl ?_
        refine mm_w1 rfl ?_
        refine mm_cvp (vb_cv (vM_S60 hM) rfl rfl rfl rfl) (by decide) (by omega) (m_isV_t hM dM1 thr1 (by omega) (by omega)) ?_
        refine mm_nifeq (by decide) (fun h => absurd h (by decide)) (fun _ => ?_)
        refine mm_w1 rfl ?_
        refine mm_w1 rfl ?_
        refine mm_wv (vb_i 6) rfl (by decide) ?_
        refine mm_cvp (vb_cv (vM_S60 hM) rfl rfl rfl rfl) (by decide) (by omega) (m_isW_t hM thr1 (by rw [hw]; rfl) (by decide) (by omega)) ?_
        refine mm_nifne (by decide) (fun _ => ?_) (fun h => absurd h (by decide))
        refine mm_w1 rfl ?_
        refine mm_wts 83 (by decide +kernel) ?_
        refine mm_w1 rfl ?_
        refine mm_wgr (vM_S60 hM) (by decide) (by decide) (vM_P60_38 hM) (vM_a76 hM) ?_
        refine mm_wv (vb_i 10) rfl (by decide) ?_
        refine mm_w1 rfl ?_
        refine mm_nadd ?_
        refine mm_wiav (vb_i (vx_in (vx_f (vs_x σ)) v_)) (vM_a76 hM) (vM_S76 hM) (by decide) (by omega) (vm_rf hR1 lv) ?_
        refine mm_wr rfl rfl rfl ?_
        exact ⟨_, _, rfl, hq1, rfl, thr1⟩
      · rw [show sp_village σ (vb_i v_) (vb_i 4) = .inl (q_village σ v_ 4) by simp only [sp_village, hv, hw]]
        show mm_W _ _ 198 (mm_blk 198 0) [.ref 60, .int (vb_i v_), .int (vb_i 4)] [] _ _
        refine mm_w1 rfl ?_
        refine mm_wv (vb_i 0) rfl (by decide) ?_
        refine mm_wpiN (vM_S60 hM) (by decide) (by decide) ?_
        intro I1 hI1
        have hq1 : vm_qf I I1 := by rw [hI1]; exact vm_qf.thr _
        have dN1 := dN.qf hq1
        have dM1 := vmd_l dN1
        have hR1 := vmd_x dN1
        have thr1 : I1 60 0 = vb_i 0 := by rw [hI1, vb_up1]
        refine mm_w1 rfl ?_
        refine mm_w1 rfl ?_
        refine mm_cvp (vb_cv (vM_S60 hM) rfl rfl rfl rfl) (by decide) (by omega) (m_isV_t hM dM1 thr1 (by omega) (by omega)) ?_
        refine mm_nifeq (by decide) (fun h => absurd h (by decide)) (fun _ => ?_)
        refine mm_w1 rfl ?_
        refine mm_w1 rfl ?_
        refine mm_wv (vb_i 6) rfl (by decide) ?_
        refine mm_cvp (vb_cv (vM_S60 hM) rfl rfl rfl rfl) (by decide) (by omega) (m_isW_t hM thr1 (by rw [hw]; rfl) (by decide) (by omega)) ?_
        refine mm_nifne (by decide) (fun _ => ?_) (fun h => absurd h (by decide))
        refine mm_w1 rfl ?_
        refine mm_wts 93 (by decide +kernel) ?_
        refine mm_w1 rfl ?_
        refine mm_w1 rfl ?_
        refine mm_cvp (vb_cv (vM_S60 hM) rfl rfl rfl rfl) (by decide) (by omega) (m_roads hM dM1 (by omega)) ?_
        rw [← vb_cnt_up (m := 10) hn (fun w hw => vb_has_below (hlb v_ lv) hw)]
        refine mm_wr rfl rfl rfl ?_
        exact ⟨_, _, rfl, hq1, rfl, thr1⟩
      · rw [show sp_village σ (vb_i v_) (vb_i 5) = .inl (q_village σ v_ 5) by simp only [sp_village, hv, hw]]
        show mm_W _ _ 198 (mm_blk 198 0) [.ref 60, .int (vb_i v_), .int (vb_i 5)] [] _ _
        refine mm_w1 rfl ?_
        refine mm_wv (vb_i 0) rfl (by decide) ?_
        refine mm_wpiN (vM_S60 hM) (by decide) (by decide) ?_
        intro I1 hI1
        have hq1 : vm_qf I I1 := by rw [hI1]; exact vm_qf.thr _
        have dN1 := dN.qf hq1
        have dM1 := vmd_l dN1
        have hR1 := vmd_x dN1
        have thr1 : I1 60 0 = vb_i 0 := by rw [hI1, vb_up1]
        refine mm_w1 rfl ?_
        refine mm_w1 rfl ?_
        refine mm_cvp (vb_cv (vM_S60 hM) rfl rfl rfl rfl) (by decide) (by omega) (m_isV_t hM dM1 thr1 (by omega) (by omega)) ?_
        refine mm_nifeq (by decide) (fun h => absurd h (by decide)) (fun _ => ?_)
        refine mm_w1 rfl ?_
        refine mm_w1 rfl ?_
        refine mm_wv (vb_i 6) rfl (by decide) ?_
        refine mm_cvp (vb_cv (vM_S60 hM) rfl rfl rfl rfl) (by decide) (by omega) (m_isW_t hM thr1 (by rw [hw]; rfl) (by decide) (by omega)) ?_
        refine mm_nifne (by decide) (fun _ => ?_) (fun h => absurd h (by decide))
        refine mm_w1 rfl ?_
        refine mm_wts 99 (by decide +kernel) ?_
        refine mm_w1 rfl ?_
        refine mm_wgr (vM_S60 hM) (by decide) (by decide) (vM_P60_38 hM) (vM_a76 hM) ?_
        refine mm_wv (vb_i 20) rfl (by decide) ?_
        refine mm_wv (vb_i 10) rfl (by decide) ?_
        refine mm_w1 rfl ?_
        refine mm_wv (vb_i 5) rfl (by decide) ?_
        refine mm_nsub (by omega) ?_
        refine mm_nmul ?_
        refine mm_nadd ?_
        refine mm_w1 rfl ?_
        refine mm_nadd ?_
        refine mm_wiav (vx_b (vs_x σ) (v_)) (vM_a76 hM) (vM_S76 hM) (by decide) (by omega) (by rw [show 20 + 10 * (5 - 5) + v_ = 0 + 20 + (v_) by omega]; exact vm_rb hR1 (by omega)) ?_
        refine mm_wr rfl rfl rfl ?_
        exact ⟨_, _, rfl, hq1, rfl, thr1⟩
      · rw [show sp_village σ (vb_i v_) (vb_i 6) = .inl (q_village σ v_ 6) by simp only [sp_village, hv, hw]]
        show mm_W _ _ 198 (mm_blk 198 0) [.ref 60, .int (vb_i v_), .int (vb_i 6)] [] _ _
        refine mm_w1 rfl ?_
        refine mm_wv (vb_i 0) rfl (by decide) ?_
        refine mm_wpiN (vM_S60 hM) (by decide) (by decide) ?_
        intro I1 hI1
        have hq1 : vm_qf I I1 := by rw [hI1]; exact vm_qf.thr _
        have dN1 := dN.qf hq1
        have dM1 := vmd_l dN1
        have hR1 := vmd_x dN1
        have thr1 : I1 60 0 = vb_i 0 := by rw [hI1, vb_up1]
        refine mm_w1 rfl ?_
        refine mm_w1 rfl ?_
        refine mm_cvp (vb_cv (vM_S60 hM) rfl rfl rfl rfl) (by decide) (by omega) (m_isV_t hM dM1 thr1 (by omega) (by omega)) ?_
        refine mm_nifeq (by decide) (fun h => absurd h (by decide)) (fun _ => ?_)
        refine mm_w1 rfl ?_
        refine mm_w1 rfl ?_
        refine mm_wv (vb_i 6) rfl (by decide) ?_
        refine mm_cvp (vb_cv (vM_S60 hM) rfl rfl rfl rfl) (by decide) (by omega) (m_isW_t hM thr1 (by rw [hw]; rfl) (by decide) (by omega)) ?_
        refine mm_nifne (by decide) (fun _ => ?_) (fun h => absurd h (by decide))
        refine mm_w1 rfl ?_
        refine mm_wts 99 (by decide +kernel) ?_
        refine mm_w1 rfl ?_
        refine mm_wgr (vM_S60 hM) (by decide) (by decide) (vM_P60_38 hM) (vM_a76 hM) ?_
        refine mm_wv (vb_i 20) rfl (by decide) ?_
        refine mm_wv (vb_i 10) rfl (by decide) ?_
        refine mm_w1 rfl ?_
        refine mm_wv (vb_i 5) rfl (by decide) ?_
        refine mm_nsub (by omega) ?_
        refine mm_nmul ?_
        refine mm_nadd ?_
        refine mm_w1 rfl ?_
        refine mm_nadd ?_
        refine mm_wiav (vx_b (vs_x σ) (10 + v_)) (vM_a76 hM) (vM_S76 hM) (by decide) (by omega) (by rw [show 20 + 10 * (6 - 5) + v_ = 0 + 20 + (10 + v_) by omega]; exact vm_rb hR1 (by omega)) ?_
        refine mm_wr rfl rfl rfl ?_
        exact ⟨_, _, rfl, hq1, rfl, thr1⟩
theorem n_side (hM : vm_isM P S) (dN : vm_MD σ I) (hI : vs_inv σ) (hlb : vl_bel (vs_l σ)) (hd : 20 ≤ d) (s w : Int32) : mm_C G d 200 [.ref 60, .int s, .int w] (I, P, J, S, nc, ns) (vm_RV (sp_side σ s w) (fun I' => vm_qf I I') P J S nc ns) := by
  obtain ⟨hli, hIx, hIa, hIi⟩ := hI
  obtain ⟨hok, hwf, he9⟩ := hIx
  have hsj := hwf.sj
  have hfj := hwf.fj
  have hst := hwf.ws
  have dM := vmd_l dN
  have hR := vmd_x dN
  have hn := vm_10 dM
  have ht := vx_t2 (vs_x σ)
  have hs3 := vm_sc3 dM
  cases hs : vb_idx 2 s with
  | none =>
    rw [show sp_side σ s w = .inr 0 by simp only [sp_side, hs]]
    show mm_W _ _ 200 (mm_blk 200 0) [.ref 60, .int s, .int w] [] _ _
    refine mm_w1 rfl ?_
    refine mm_wv (vb_i 0) rfl (by decide) ?_
    refine mm_wpiN (vM_S60 hM) (by decide) (by decide) ?_
    intro I1 hI1
    have hq1 : vm_qf I I1 := by rw [hI1]; exact vm_qf.thr _
    have dN1 := dN.qf hq1
    have dM1 := vmd_l dN1
    have hR1 := vmd_x dN1
    have thr1 : I1 60 0 = vb_i 0 := by rw [hI1, vb_up1]
    refine mm_w1 rfl ?_
    refine mm_w1 rfl ?_
    refine mm_cvi (vb_cv (vM_S60 hM) rfl rfl rfl rfl) (by decide) (by omega) (m_isS_f hM thr1 hs (by omega)) ?_
    intro I2 hI2 
    refine mm_nifeq (by decide) (fun _ => ?_) (fun h => absurd rfl h)
    refine mm_wv (vb_i 0) rfl (by decide) ?_
    refine mm_wr rfl rfl rfl ?_
    exact ⟨_, _, rfl, hq1.tr (by rw [hI2]; exact vm_qf.thr _), by rw [hI2, vb_up1]⟩
  | some s_ =>
    obtain ⟨ls, rfl⟩ := vb_idx_some (by omega) hs
    cases hw : vb_idx 6 w with
    | none =>
      rw [show sp_side σ (vb_i s_) w = .inr 0 by simp only [sp_side, hs, hw]]
      show mm_W _ _ 200 (mm_blk 200 0) [.ref 60, .int (vb_i s_), .int w] [] _ _
      refine mm_w1 rfl ?_
      refine mm_wv (vb_i 0) rfl (by decide) ?_
      refine mm_wpiN (vM_S60 hM) (by decide) (by decide) ?_
      intro I1 hI1
      have hq1 : vm_qf I I1 := by rw [hI1]; exact vm_qf.thr _
      have dN1 := dN.qf hq1
      have dM1 := vmd_l dN1
      have hR1 := vmd_x dN1
      have thr1 : I1 60 0 = vb_i 0 := by rw [hI1, vb_up1]
      refine mm_w1 rfl ?_
      refine mm_w1 rfl ?_
      refine mm_cvp (vb_cv (vM_S60 hM) rfl rfl rfl rfl) (by decide) (by omega) (m_isS_t hM thr1 (by rw [hs]; rfl) (by omega)) ?_
      refine mm_nifeq (by decide) (fun h => absurd h (by decide)) (fun _ => ?_)
      refine mm_w1 rfl ?_
      refine mm_w1 rfl ?_
      refine mm_wv (vb_i 5) rfl (by decide) ?_
      refine mm_cvi (vb_cv (vM_S60 hM) rfl rfl rfl rfl) (by decide) (by omega) (m_isW_f hM thr1 hw (by omega) (by omega)) ?_
      intro I2 hI2 
      refine mm_nifne (by decide) (fun h => absurd rfl h) (fun _ => ?_)
      refine mm_wv (vb_i 0) rfl (by decide) ?_
      refine mm_wr rfl rfl rfl ?_
      exact ⟨_, _, rfl, hq1.tr (by rw [hI2]; exact vm_qf.thr _), by rw [hI2, vb_up1]⟩
    | some w_ =>
      obtain ⟨lw, rfl⟩ := vb_idx_some (by decide) hw
      have hk : w_ = 0 ∨ w_ = 1 ∨ w_ = 2 ∨ w_ = 3 ∨ w_ = 4 ∨ w_ = 5 := by omega
      rcases hk with rfl | rfl | rfl | rfl | rfl | rfl
      · rw [show sp_side σ (vb_i s_) (vb_i 0) = .inl (q_side σ s_ 0) by simp only [sp_side, hs, hw]]
        show mm_W _ _ 200 (mm_blk 200 0) [.ref 60, .int (vb_i s_), .int (vb_i 0)] [] _ _
        refine mm_w1 rfl ?_
        refine mm_wv (vb_i 0) rfl (by decide) ?_
        refine mm_wpiN (vM_S60 hM) (by decide) (by decide) ?_
        intro I1 hI1
        have hq1 : vm_qf I I1 := by rw [hI1]; exact vm_qf.thr _
        have dN1 := dN.qf hq1
        have dM1 := vmd_l dN1
        have hR1 := vmd_x dN1
        have thr1 : I1 60 0 = vb_i 0 := by rw [hI1, vb_up1]
        refine mm_w1 rfl ?_
        refine mm_w1 rfl ?_
        refine mm_cvp (vb_cv (vM_S60 hM) rfl rfl rfl rfl) (by decide) (by omega) (m_isS_t hM thr1 (by rw [hs]; rfl) (by omega)) ?_
        refine mm_nifeq (by decide) (fun h => absurd h (by decide)) (fun _ => ?_)
        refine mm_w1 rfl ?_
        refine mm_w1 rfl ?_
        refine mm_wv (vb_i 5) rfl (by decide) ?_
        refine mm_cvp (vb_cv (vM_S60 hM) rfl rfl rfl rfl) (by decide) (by omega) (m_isW_t hM thr1 (by rw [hw]; rfl) (by decide) (by omega)) ?_
        refine mm_nifne (by decide) (fun _ => ?_) (fun h => absurd h (by decide))
        refine mm_w1 rfl ?_
        refine mm_wts 60 (by decide +kernel) ?_
        refine mm_w1 rfl ?_
        refine mm_wgr (vM_S60 hM) (by decide) (by decide) (vM_P60_38 hM) (vM_a76 hM) ?_
        refine mm_wv (vb_i 40) rfl (by decide) ?_
        refine mm_w1 rfl ?_
        refine mm_nadd ?_
        refine mm_wiav (vx_t (vs_x σ) s_) (vM_a76 hM) (vM_S76 hM) (by decide) (by omega) (vm_rt hR1 ls) ?_
        refine mm_wr rfl rfl rfl ?_
        exact ⟨_, _, rfl, hq1, rfl, thr1⟩
      · rw [show sp_side σ (vb_i s_) (vb_i 1) = .inl (q_side σ s_ 1) by simp only [sp_side, hs, hw]]
        show mm_W _ _ 200 (mm_blk 200 0) [.ref 60, .int (vb_i s_), .int (vb_i 1)] [] _ _
        refine mm_w1 rfl ?_
        refine mm_wv (vb_i 0) rfl (by decide) ?_
        refine mm_wpiN (vM_S60 hM) (by decide) (by decide) ?_
        intro I1 hI1
        have hq1 : vm_qf I I1 := by rw [hI1]; exact vm_qf.thr _
        have dN1 := dN.qf hq1
        have dM1 := vmd_l dN1
        have hR1 := vmd_x dN1
        have thr1 : I1 60 0 = vb_i 0 := by rw [hI1, vb_up1]
        refine mm_w1 rfl ?_
        refine mm_w1 rfl ?_
        refine mm_cvp (vb_cv (vM_S60 hM) rfl rfl rfl rfl) (by decide) (by omega) (m_isS_t hM thr1 (by rw [hs]; rfl) (by omega)) ?_
        refine mm_nifeq (by decide) (fun h => absurd h (by decide)) (fun _ => ?_)
        refine mm_w1 rfl ?_
        refine mm_w1 rfl ?_
        refine mm_wv (vb_i 5) rfl (by decide) ?_
        refine mm_cvp (vb_cv (vM_S60 hM) rfl rfl rfl rfl) (by decide) (by omega) (m_isW_t hM thr1 (by rw [hw]; rfl) (by decide) (by omega)) ?_
        refine mm_nifne (by decide) (fun _ => ?_) (fun h => absurd h (by decide))
        refine mm_w1 rfl ?_
        refine mm_wts 70 (by decide +kernel) ?_
        refine mm_w1 rfl ?_
        refine mm_wgr (vM_S60 hM) (by decide) (by decide) (vM_P60_38 hM) (vM_a76 hM) ?_
        refine mm_wv (vb_i 44) rfl (by decide) ?_
        refine mm_w1 rfl ?_
        refine mm_nadd ?_
        refine mm_wiav (vx_y (vs_x σ) s_) (vM_a76 hM) (vM_S76 hM) (by decide) (by omega) (vm_ry hR1 ls) ?_
        refine mm_wr rfl rfl rfl ?_
        exact ⟨_, _, rfl, hq1, rfl, thr1⟩
      · rw [show sp_side σ (vb_i s_) (vb_i 2) = .inl (q_side σ s_ 2) by simp only [sp_side, hs, hw]]
        show mm_W _ _ 200 (mm_blk 200 0) [.ref 60, .int (vb_i s_), .int (vb_i 2)] [] _ _
        refine mm_w1 rfl ?_
        refine mm_wv (vb_i 0) rfl (by decide) ?_
        refine mm_wpiN (vM_S60 hM) (by decide) (by decide) ?_
        intro I1 hI1
        have hq1 : vm_qf I I1 := by rw [hI1]; exact vm_qf.thr _
        have dN1 := dN.qf hq1
        have dM1 := vmd_l dN1
        have hR1 := vmd_x dN1
        have thr1 : I1 60 0 = vb_i 0 := by rw [hI1, vb_up1]
        refine mm_w1 rfl ?_
        refine mm_w1 rfl ?_
        refine mm_cvp (vb_cv (vM_S60 hM) rfl rfl rfl rfl) (by decide) (by omega) (m_isS_t hM thr1 (by rw [hs]; rfl) (by omega)) ?_
        refine mm_nifeq (by decide) (fun h => absurd h (by decide)) (fun _ => ?_)
        refine mm_w1 rfl ?_
        refine mm_w1 rfl ?_
        refine mm_wv (vb_i 5) rfl (by decide) ?_
        refine mm_cvp (vb_cv (vM_S60 hM) rfl rfl rfl rfl) (by decide) (by omega) (m_isW_t hM thr1 (by rw [hw]; rfl) (by decide) (by omega)) ?_
        refine mm_nifne (by decide) (fun _ => ?_) (fun h => absurd h (by decide))
        refine mm_w1 rfl ?_
        refine mm_wts 80 (by decide +kernel) ?_
        refine mm_w1 rfl ?_
        refine mm_wv (vb_i 0) rfl (by decide) ?_
        refine mm_w1 rfl ?_
        refine mm_cvi (vb_cv (vM_S60 hM) rfl rfl rfl rfl) (by decide) (by omega) (m_prised hM dM1 hR1 (by decide) hli hlb hsj hfj hst (by omega) (by omega)) ?_
        intro I2 hf2
        have hq2 := hq1.tr (vm_qf.of8 hf2)
        have dN2 := dN.qf hq2
        have dM2 := vmd_l dN2
        have hR2 := vmd_x dN2
        have thr2 : I2 60 0 = vb_i 0 := by rw [hf2 60 (by simp only [vm_s8]; decide)]; exact thr1
        refine mm_wr rfl rfl rfl ?_
        exact ⟨_, _, rfl, hq2, rfl, thr2⟩
      · rw [show sp_side σ (vb_i s_) (vb_i 3) = .inl (q_side σ s_ 3) by simp only [sp_side, hs, hw]]
        show mm_W _ _ 200 (mm_blk 200 0) [.ref 60, .int (vb_i s_), .int (vb_i 3)] [] _ _
        refine mm_w1 rfl ?_
        refine mm_wv (vb_i 0) rfl (by decide) ?_
        refine mm_wpiN (vM_S60 hM) (by decide) (by decide) ?_
        intro I1 hI1
        have hq1 : vm_qf I I1 := by rw [hI1]; exact vm_qf.thr _
        have dN1 := dN.qf hq1
        have dM1 := vmd_l dN1
        have hR1 := vmd_x dN1
        have thr1 : I1 60 0 = vb_i 0 := by rw [hI1, vb_up1]
        refine mm_w1 rfl ?_
        refine mm_w1 rfl ?_
        refine mm_cvp (vb_cv (vM_S60 hM) rfl rfl rfl rfl) (by decide) (by omega) (m_isS_t hM thr1 (by rw [hs]; rfl) (by omega)) ?_
        refine mm_nifeq (by decide) (fun h => absurd h (by decide)) (fun _ => ?_)
        refine mm_w1 rfl ?_
        refine mm_w1 rfl ?_
        refine mm_wv (vb_i 5) rfl (by decide) ?_
        refine mm_cvp (vb_cv (vM_S60 hM) rfl rfl rfl rfl) (by decide) (by omega) (m_isW_t hM thr1 (by rw [hw]; rfl) (by decide) (by omega)) ?_
        refine mm_nifne (by decide) (fun _ => ?_) (fun h => absurd h (by decide))
        refine mm_w1 rfl ?_
        refine mm_wts 87 (by decide +kernel) ?_
        refine mm_w1 rfl ?_
        refine mm_w1 rfl ?_
        refine mm_cvi (vb_cv (vM_S60 hM) rfl rfl rfl rfl) (by decide) (by omega) (m_pin hM dM1 hR1 hli hlb hsj hfj hst (by omega) (by omega)) ?_
        intro I2 hf2
        have hq2 := hq1.tr (vm_qf.of8 hf2)
        have dN2 := dN.qf hq2
        have dM2 := vmd_l dN2
        have hR2 := vmd_x dN2
        have thr2 : I2 60 0 = vb_i 0 := by rw [hf2 60 (by simp only [vm_s8]; decide)]; exact thr1
        refine mm_wr rfl rfl rfl ?_
        exact ⟨_, _, rfl, hq2, rfl, thr2⟩
      · rw [show sp_side σ (vb_i s_) (vb_i 4) = .inl (q_side σ s_ 4) by simp only [sp_side, hs, hw]]
        show mm_W _ _ 200 (mm_blk 200 0) [.ref 60, .int (vb_i s_), .int (vb_i 4)] [] _ _
        refine mm_w1 rfl ?_
        refine mm_wv (vb_i 0) rfl (by decide) ?_
        refine mm_wpiN (vM_S60 hM) (by decide) (by decide) ?_
        intro I1 hI1
        have hq1 : vm_qf I I1 := by rw [hI1]; exact vm_qf.thr _
        have dN1 := dN.qf hq1
        have dM1 := vmd_l dN1
        have hR1 := vmd_x dN1
        have thr1 : I1 60 0 = vb_i 0 := by rw [hI1, vb_up1]
        refine mm_w1 rfl ?_
        refine mm_w1 rfl ?_
        refine mm_cvp (vb_cv (vM_S60 hM) rfl rfl rfl rfl) (by decide) (by omega) (m_isS_t hM thr1 (by rw [hs]; rfl) (by omega)) ?_
        refine mm_nifeq (by decide) (fun h => absurd h (by decide)) (fun _ => ?_)
        refine mm_w1 rfl ?_
        refine mm_w1 rfl ?_
        refine mm_wv (vb_i 5) rfl (by decide) ?_
        refine mm_cvp (vb_cv (vM_S60 hM) rfl rfl rfl rfl) (by decide) (by omega) (m_isW_t hM thr1 (by rw [hw]; rfl) (by decide) (by omega)) ?_
        refine mm_nifne (by decide) (fun _ => ?_) (fun h => absurd h (by decide))
        refine mm_w1 rfl ?_
        refine mm_wts 93 (by decide +kernel) ?_
        refine mm_w1 rfl ?_
        refine mm_wv (vb_i 0) rfl (by decide) ?_
        refine mm_w1 rfl ?_
        refine mm_cvi (vb_cv (vM_S60 hM) rfl rfl rfl rfl) (by decide) (by omega) (m_moves hM dM1 hR1 (by decide) hli hlb hsj hfj hst (by omega) (by omega)) ?_
        intro I2 hf2
        have hq2 := hq1.tr (vm_qf.of8 hf2)
        have dN2 := dN.qf hq2
        have dM2 := vmd_l dN2
        have hR2 := vmd_x dN2
        have thr2 : I2 60 0 = vb_i 0 := by rw [hf2 60 (by simp only [vm_s8]; decide)]; exact thr1
        refine mm_wr rfl rfl rfl ?_
        exact ⟨_, _, rfl, hq2, rfl, thr2⟩
      · rw [show sp_side σ (vb_i s_) (vb_i 5) = .inl (q_side σ s_ 5) by simp only [sp_side, hs, hw]]
        show mm_W _ _ 200 (mm_blk 200 0) [.ref 60, .int (vb_i s_), .int (vb_i 5)] [] _ _
        refine mm_w1 rfl ?_
        refine mm_wv (vb_i 0) rfl (by decide) ?_
        refine mm_wpiN (vM_S60 hM) (by decide) (by decide) ?_
        intro I1 hI1
        have hq1 : vm_qf I I1 := by rw [hI1]; exact vm_qf.thr _
        have dN1 := dN.qf hq1
        have dM1 := vmd_l dN1
        have hR1 := vmd_x dN1
        have thr1 : I1 60 0 = vb_i 0 := by rw [hI1, vb_up1]
        refine mm_w1 rfl ?_
        refine mm_w1 rfl ?_
        refine mm_cvp (vb_cv (vM_S60 hM) rfl rfl rfl rfl) (by decide) (by omega) (m_isS_t hM thr1 (by rw [hs]; rfl) (by omega)) ?_
        refine mm_nifeq (by decide) (fun h => absurd h (by decide)) (fun _ => ?_)
        refine mm_w1 rfl ?_
        refine mm_w1 rfl ?_
        refine mm_wv (vb_i 5) rfl (by decide) ?_
        refine mm_cvp (vb_cv (vM_S60 hM) rfl rfl rfl rfl) (by decide) (by omega) (m_isW_t hM thr1 (by rw [hw]; rfl) (by decide) (by omega)) ?_
        refine mm_nifne (by decide) (fun _ => ?_) (fun h => absurd h (by decide))
        refine mm_w1 rfl ?_
        refine mm_wts 100 (by decide +kernel) ?_
        refine mm_w1 rfl ?_
        refine mm_wv (vb_i 0) rfl (by decide) ?_
        refine mm_w1 rfl ?_
        refine mm_cvp (vb_cv (vM_S60 hM) rfl rfl rfl rfl) (by decide) (by omega) (m_worth hM dM1 hR1 (by decide) hfj (by omega)) ?_
        refine mm_wr rfl rfl rfl ?_
        exact ⟨_, _, rfl, hq1, rfl, thr1⟩
theorem n_road (hM : vm_isM P S) (dN : vm_MD σ I) (hI : vs_inv σ) (hlb : vl_bel (vs_l σ)) (hd : 20 ≤ d) (a b : Int32) : mm_C G d 201 [.ref 60, .int a, .int b] (I, P, J, S, nc, ns) (vm_RV (sp_road σ a b) (fun I' => vm_qf I I') P J S nc ns) := by
  obtain ⟨hli, hIx, hIa, hIi⟩ := hI
  obtain ⟨hok, hwf, he9⟩ := hIx
  have hsj := hwf.sj
  have hfj := hwf.fj
  have hst := hwf.ws
  have dM := vmd_l dN
  have hR := vmd_x dN
  have hn := vm_10 dM
  have ht := vx_t2 (vs_x σ)
  have hs3 := vm_sc3 dM
  cases ha : vb_idx (vb_n (vs_l σ)) a with
  | none =>
    rw [show sp_road σ a b = .inr 0 by simp only [sp_road, ha]]
    show mm_W _ _ 201 (mm_blk 201 0) [.ref 60, .int a, .int b] [] _ _
    refine mm_w1 rfl ?_
    refine mm_wv (vb_i 0) rfl (by decide) ?_
    refine mm_wpiN (vM_S60 hM) (by decide) (by decide) ?_
    intro I1 hI1
    have hq1 : vm_qf I I1 := by rw [hI1]; exact vm_qf.thr _
    have dN1 := dN.qf hq1
    have dM1 := vmd_l dN1
    have hR1 := vmd_x dN1
    have thr1 : I1 60 0 = vb_i 0 := by rw [hI1, vb_up1]
    refine mm_w1 rfl ?_
    refine mm_w1 rfl ?_
    refine mm_cvi (vb_cv (vM_S60 hM) rfl rfl rfl rfl) (by decide) (by omega) (m_isV_f hM dM1 thr1 ha (by omega)) ?_
    intro I2 hI2 
    refine mm_nifeq (by decide) (fun _ => ?_) (fun h => absurd rfl h)
    refine mm_wv (vb_i 0) rfl (by decide) ?_
    refine mm_wr rfl rfl rfl ?_
    exact ⟨_, _, rfl, hq1.tr (by rw [hI2]; exact vm_qf.thr _), by rw [hI2, vb_up1]⟩
  | some a_ =>
    obtain ⟨la, rfl⟩ := vb_idx_some (by omega) ha
    cases hb : vb_idx (vb_n (vs_l σ)) b with
    | none =>
      rw [show sp_road σ (vb_i a_) b = .inr 0 by simp only [sp_road, ha, hb]]
      show mm_W _ _ 201 (mm_blk 201 0) [.ref 60, .int (vb_i a_), .int b] [] _ _
      refine mm_w1 rfl ?_
      refine mm_wv (vb_i 0) rfl (by decide) ?_
      refine mm_wpiN (vM_S60 hM) (by decide) (by decide) ?_
      intro I1 hI1
      have hq1 : vm_qf I I1 := by rw [hI1]; exact vm_qf.thr _
      have dN1 := dN.qf hq1
      have dM1 := vmd_l dN1
      have hR1 := vmd_x dN1
      have thr1 : I1 60 0 = vb_i 0 := by rw [hI1, vb_up1]
      refine mm_w1 rfl ?_
      refine mm_w1 rfl ?_
      refine mm_cvp (vb_cv (vM_S60 hM) rfl rfl rfl rfl) (by decide) (by omega) (m_isV_t hM dM1 thr1 (by omega) (by omega)) ?_
      refine mm_nifeq (by decide) (fun h => absurd h (by decide)) (fun _ => ?_)
      refine mm_w1 rfl ?_
      refine mm_w1 rfl ?_
      refine mm_cvi (vb_cv (vM_S60 hM) rfl rfl rfl rfl) (by decide) (by omega) (m_isV_f hM dM1 thr1 hb (by omega)) ?_
      intro I2 hI2 
      refine mm_nifeq (by decide) (fun _ => ?_) (fun h => absurd rfl h)
      refine mm_wv (vb_i 0) rfl (by decide) ?_
      refine mm_wr rfl rfl rfl ?_
      exact ⟨_, _, rfl, hq1.tr (by rw [hI2]; exact vm_qf.thr _), by rw [hI2, vb_up1]⟩
    | some b_ =>
      obtain ⟨lb, rfl⟩ := vb_idx_some (by omega) hb
      rw [show sp_road σ (vb_i a_) (vb_i b_) = .inl (vb_b (vb_has (vb_nb (vs_l σ) a_) b_)) by simp only [sp_road, ha, hb]]
      show mm_W _ _ 201 (mm_blk 201 0) [.ref 60, .int (vb_i a_), .int (vb_i b_)] [] _ _
      refine mm_w1 rfl ?_
      refine mm_wv (vb_i 0) rfl (by decide) ?_
      refine mm_wpiN (vM_S60 hM) (by decide) (by decide) ?_
      intro I1 hI1
      have hq1 : vm_qf I I1 := by rw [hI1]; exact vm_qf.thr _
      have dN1 := dN.qf hq1
      have dM1 := vmd_l dN1
      have hR1 := vmd_x dN1
      have thr1 : I1 60 0 = vb_i 0 := by rw [hI1, vb_up1]
      refine mm_w1 rfl ?_
      refine mm_w1 rfl ?_
      refine mm_cvp (vb_cv (vM_S60 hM) rfl rfl rfl rfl) (by decide) (by omega) (m_isV_t hM dM1 thr1 (by omega) (by omega)) ?_
      refine mm_nifeq (by decide) (fun h => absurd h (by decide)) (fun _ => ?_)
      refine mm_w1 rfl ?_
      refine mm_w1 rfl ?_
      refine mm_cvp (vb_cv (vM_S60 hM) rfl rfl rfl rfl) (by decide) (by omega) (m_isV_t hM dM1 thr1 (by omega) (by omega)) ?_
      refine mm_nifeq (by decide) (fun h => absurd h (by decide)) (fun _ => ?_)
      refine mm_w1 rfl ?_
      refine mm_wgr (vM_S60 hM) (by decide) (by decide) (vM_P60_9 hM) (vM_a65 hM) ?_
      refine mm_wv (vb_i 10) rfl (by decide) ?_
      refine mm_w1 rfl ?_
      refine mm_nmul ?_
      refine mm_w1 rfl ?_
      refine mm_nadd ?_
      refine mm_wzav _ (vM_S65 hM) (by decide) (by omega) (vm_rd dM1 (by omega) (by omega)) ?_
      refine mm_bifeq ?_ ?_
      · intro h32
        refine mm_wv (vb_i 0) rfl (by decide) ?_
        refine mm_wr rfl rfl rfl ?_
        refine ⟨_, _, rfl, hq1, ?_, thr1⟩
        rw [h32]; rfl
      · intro h32
        refine mm_wv (vb_i 1) rfl (by decide) ?_
        refine mm_wgoto ?_
        refine mm_wr rfl rfl rfl ?_
        refine ⟨_, _, rfl, hq1, ?_, thr1⟩
        rw [h32]; rfl
theorem n_lawful (hM : vm_isM P S) (dN : vm_MD σ I) (hI : vs_inv σ) (hlb : vl_bel (vs_l σ)) (hd : 20 ≤ d) (a b : Int32) : mm_C G d 202 [.ref 60, .int a, .int b] (I, P, J, S, nc, ns) (vm_RV (sp_lawful σ a b) (fun I' => vm_qf I I') P J S nc ns) := by
  obtain ⟨hli, hIx, hIa, hIi⟩ := hI
  obtain ⟨hok, hwf, he9⟩ := hIx
  have hsj := hwf.sj
  have hfj := hwf.fj
  have hst := hwf.ws
  have dM := vmd_l dN
  have hR := vmd_x dN
  have hn := vm_10 dM
  have ht := vx_t2 (vs_x σ)
  have hs3 := vm_sc3 dM
  cases ha : vb_idx (vb_n (vs_l σ)) a with
  | none =>
    rw [show sp_lawful σ a b = .inr 0 by simp only [sp_lawful, ha]]
    show mm_W _ _ 202 (mm_blk 202 0) [.ref 60, .int a, .int b] [] _ _
    refine mm_w1 rfl ?_
    refine mm_wv (vb_i 0) rfl (by decide) ?_
    refine mm_wpiN (vM_S60 hM) (by decide) (by decide) ?_
    intro I1 hI1
    have hq1 : vm_qf I I1 := by rw [hI1]; exact vm_qf.thr _
    have dN1 := dN.qf hq1
    have dM1 := vmd_l dN1
    have hR1 := vmd_x dN1
    have thr1 : I1 60 0 = vb_i 0 := by rw [hI1, vb_up1]
    refine mm_w1 rfl ?_
    refine mm_w1 rfl ?_
    refine mm_cvi (vb_cv (vM_S60 hM) rfl rfl rfl rfl) (by decide) (by omega) (m_isV_f hM dM1 thr1 ha (by omega)) ?_
    intro I2 hI2 
    refine mm_nifeq (by decide) (fun _ => ?_) (fun h => absurd rfl h)
    refine mm_wv (vb_i 0) rfl (by decide) ?_
    refine mm_wr rfl rfl rfl ?_
    exact ⟨_, _, rfl, hq1.tr (by rw [hI2]; exact vm_qf.thr _), by rw [hI2, vb_up1]⟩
  | some a_ =>
    obtain ⟨la, rfl⟩ := vb_idx_some (by omega) ha
    cases hb : vb_idx (vb_n (vs_l σ)) b with
    | none =>
      rw [show sp_lawful σ (vb_i a_) b = .inr 0 by simp only [sp_lawful, ha, hb]]
      show mm_W _ _ 202 (mm_blk 202 0) [.ref 60, .int (vb_i a_), .int b] [] _ _
      refine mm_w1 rfl ?_
      refine mm_wv (vb_i 0) rfl (by decide) ?_
      refine mm_wpiN (vM_S60 hM) (by decide) (by decide) ?_
      intro I1 hI1
      have hq1 : vm_qf I I1 := by rw [hI1]; exact vm_qf.thr _
      have dN1 := dN.qf hq1
      have dM1 := vmd_l dN1
      have hR1 := vmd_x dN1
      have thr1 : I1 60 0 = vb_i 0 := by rw [hI1, vb_up1]
      refine mm_w1 rfl ?_
      refine mm_w1 rfl ?_
      refine mm_cvp (vb_cv (vM_S60 hM) rfl rfl rfl rfl) (by decide) (by omega) (m_isV_t hM dM1 thr1 (by omega) (by omega)) ?_
      refine mm_nifeq (by decide) (fun h => absurd h (by decide)) (fun _ => ?_)
      refine mm_w1 rfl ?_
      refine mm_w1 rfl ?_
      refine mm_cvi (vb_cv (vM_S60 hM) rfl rfl rfl rfl) (by decide) (by omega) (m_isV_f hM dM1 thr1 hb (by omega)) ?_
      intro I2 hI2 
      refine mm_nifeq (by decide) (fun _ => ?_) (fun h => absurd rfl h)
      refine mm_wv (vb_i 0) rfl (by decide) ?_
      refine mm_wr rfl rfl rfl ?_
      exact ⟨_, _, rfl, hq1.tr (by rw [hI2]; exact vm_qf.thr _), by rw [hI2, vb_up1]⟩
    | some b_ =>
      obtain ⟨lb, rfl⟩ := vb_idx_some (by omega) hb
      rw [show sp_lawful σ (vb_i a_) (vb_i b_) = .inl (vb_b (vb_has (q_tgt (vs_l σ) (vs_x σ) a_) b_)) by simp only [sp_lawful, ha, hb]]
      show mm_W _ _ 202 (mm_blk 202 0) [.ref 60, .int (vb_i a_), .int (vb_i b_)] [] _ _
      refine mm_w1 rfl ?_
      refine mm_wv (vb_i 0) rfl (by decide) ?_
      refine mm_wpiN (vM_S60 hM) (by decide) (by decide) ?_
      intro I1 hI1
      have hq1 : vm_qf I I1 := by rw [hI1]; exact vm_qf.thr _
      have dN1 := dN.qf hq1
      have dM1 := vmd_l dN1
      have hR1 := vmd_x dN1
      have thr1 : I1 60 0 = vb_i 0 := by rw [hI1, vb_up1]
      refine mm_w1 rfl ?_
      refine mm_w1 rfl ?_
      refine mm_cvp (vb_cv (vM_S60 hM) rfl rfl rfl rfl) (by decide) (by omega) (m_isV_t hM dM1 thr1 (by omega) (by omega)) ?_
      refine mm_nifeq (by decide) (fun h => absurd h (by decide)) (fun _ => ?_)
      refine mm_w1 rfl ?_
      refine mm_w1 rfl ?_
      refine mm_cvp (vb_cv (vM_S60 hM) rfl rfl rfl rfl) (by decide) (by omega) (m_isV_t hM dM1 thr1 (by omega) (by omega)) ?_
      refine mm_nifeq (by decide) (fun h => absurd h (by decide)) (fun _ => ?_)
      refine mm_w1 rfl ?_
      refine mm_wv (vb_i 0) rfl (by decide) ?_
      refine mm_w1 rfl ?_
      refine mm_w1 rfl ?_
      refine mm_cvi (vb_cv (vM_S60 hM) rfl rfl rfl rfl) (by decide) (by omega) (m_mayGo hM dM1 hR1 (by decide) hli hlb hsj hfj (fun s hs h => hst s hs _ h) (by omega) (by omega) (by omega)) ?_
      intro I2 hf2
      have hq2 := hq1.tr (vm_qf.of8 hf2)
      have dN2 := dN.qf hq2
      have dM2 := vmd_l dN2
      have hR2 := vmd_x dN2
      have thr2 : I2 60 0 = vb_i 0 := by rw [hf2 60 (by simp only [vm_s8]; decide)]; exact thr1
      refine mm_bifeq ?_ ?_
      · intro h28
        refine mm_wv (vb_i 0) rfl (by decide) ?_
        refine mm_wr rfl rfl rfl ?_
        refine ⟨_, _, rfl, hq2, ?_, thr2⟩
        rw [h28]; rfl
      · intro h28
        refine mm_wv (vb_i 1) rfl (by decide) ?_
        refine mm_wgoto ?_
        refine mm_wr rfl rfl rfl ?_
        refine ⟨_, _, rfl, hq2, ?_, thr2⟩
        rw [h28]; rfl
theorem n_hangs (hM : vm_isM P S) (dN : vm_MD σ I) (hI : vs_inv σ) (hlb : vl_bel (vs_l σ)) (hd : 20 ≤ d) (v : Int32) : mm_C G d 208 [.ref 60, .int v] (I, P, J, S, nc, ns) (vm_RV (sp_hangs σ v) (fun I' => vm_qf I I') P J S nc ns) := by
  obtain ⟨hli, hIx, hIa, hIi⟩ := hI
  obtain ⟨hok, hwf, he9⟩ := hIx
  have hsj := hwf.sj
  have hfj := hwf.fj
  have hst := hwf.ws
  have dM := vmd_l dN
  have hR := vmd_x dN
  have hn := vm_10 dM
  have ht := vx_t2 (vs_x σ)
  have hs3 := vm_sc3 dM
  cases hv : vb_idx (vb_n (vs_l σ)) v with
  | none =>
    rw [show sp_hangs σ v = .inr 0 by simp only [sp_hangs, hv]]
    show mm_W _ _ 208 (mm_blk 208 0) [.ref 60, .int v] [] _ _
    refine mm_w1 rfl ?_
    refine mm_wv (vb_i 0) rfl (by decide) ?_
    refine mm_wpiN (vM_S60 hM) (by decide) (by decide) ?_
    intro I1 hI1
    have hq1 : vm_qf I I1 := by rw [hI1]; exact vm_qf.thr _
    have dN1 := dN.qf hq1
    have dM1 := vmd_l dN1
    have hR1 := vmd_x dN1
    have thr1 : I1 60 0 = vb_i 0 := by rw [hI1, vb_up1]
    refine mm_w1 rfl ?_
    refine mm_w1 rfl ?_
    refine mm_cvi (vb_cv (vM_S60 hM) rfl rfl rfl rfl) (by decide) (by omega) (m_isV_f hM dM1 thr1 hv (by omega)) ?_
    intro I2 hI2 
    refine mm_nifeq (by decide) (fun _ => ?_) (fun h => absurd rfl h)
    refine mm_wv (vb_i 0) rfl (by decide) ?_
    refine mm_wr rfl rfl rfl ?_
    exact ⟨_, _, rfl, hq1.tr (by rw [hI2]; exact vm_qf.thr _), by rw [hI2, vb_up1]⟩
  | some v_ =>
    obtain ⟨lv, rfl⟩ := vb_idx_some (by omega) hv
    rw [show sp_hangs σ (vb_i v_) = .inl (q_hang (vs_l σ) (vs_x σ) v_) by simp only [sp_hangs, hv]]
    show mm_W _ _ 208 (mm_blk 208 0) [.ref 60, .int (vb_i v_)] [] _ _
    refine mm_w1 rfl ?_
    refine mm_wv (vb_i 0) rfl (by decide) ?_
    refine mm_wpiN (vM_S60 hM) (by decide) (by decide) ?_
    intro I1 hI1
    have hq1 : vm_qf I I1 := by rw [hI1]; exact vm_qf.thr _
    have dN1 := dN.qf hq1
    have dM1 := vmd_l dN1
    have hR1 := vmd_x dN1
    have thr1 : I1 60 0 = vb_i 0 := by rw [hI1, vb_up1]
    refine mm_w1 rfl ?_
    refine mm_w1 rfl ?_
    refine mm_cvp (vb_cv (vM_S60 hM) rfl rfl rfl rfl) (by decide) (by omega) (m_isV_t hM dM1 thr1 (by omega) (by omega)) ?_
    refine mm_nifeq (by decide) (fun h => absurd h (by decide)) (fun _ => ?_)
    refine mm_w1 rfl ?_
    refine mm_w1 rfl ?_
    refine mm_cvi (vb_cv (vM_S60 hM) rfl rfl rfl rfl) (by decide) (by omega) (m_hang hM dM1 hR1 hli hlb hsj hfj hst (by omega) (by omega)) ?_
    intro I2 hf2
    have hq2 := hq1.tr (vm_qf.of8 hf2)
    have dN2 := dN.qf hq2
    have dM2 := vmd_l dN2
    have hR2 := vmd_x dN2
    have thr2 : I2 60 0 = vb_i 0 := by rw [hf2 60 (by simp only [vm_s8]; decide)]; exact thr1
    refine mm_wgoto ?_
    refine mm_wr rfl rfl rfl ?_
    exact ⟨_, _, rfl, hq2, rfl, thr2⟩
end NASK
