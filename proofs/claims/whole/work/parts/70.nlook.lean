section NLOOK
variable {G : mm_G} {d : Nat} {I : Nat → Nat → Int32} {P : Nat → Nat → Nat} {J : Nat → Nat → Int64} {S : List (Nat × Nat)} {nc ns : Nat} {μ : mm_M} {σ : vb_St}
theorem vm_PK_le {ℓ : vb_L} {x : vb_X} {t k : Nat} : (vm_PK ℓ x t k).1 ≤ 100 := by
  have hall : ∀ m, m ∈ vm_al ℓ x t 0 → m ≤ 100 := by
    intro m hm
    rw [vm_al, List.mem_filter, List.mem_range'] at hm
    obtain ⟨⟨i, h1, h2⟩, _⟩ := hm; omega
  rw [vm_PK]
  cases h : vm_al ℓ x t 0 with
  | nil => exact Nat.le_refl _
  | cons m l =>
    show (vx_pick _ l _).1 ≤ 100
    rcases vx_pick_mem (fun m => vm_af ℓ x t m k) l (m, vm_af ℓ x t m k) with e | e
    · rw [e]; exact hall m (by rw [h]; exact List.mem_cons_self)
    · exact hall _ (by rw [h]; exact List.mem_cons_of_mem _ e)
theorem n_look (hM : vm_isM P S) (dN : vm_MD σ I) (hI : vs_inv σ) (hlb : vl_bel (vs_l σ)) (hd : 20 ≤ d) (k w : Int32) : mm_C G d 214 [.ref 60, .int k, .int w] (I, P, J, S, nc, ns) (vm_RV (sp_look σ k w) (fun I' => vm_qf I I') P J S nc ns) := by
  obtain ⟨hli, hIx, hIa, hIi⟩ := hI
  obtain ⟨hok, hwf, he9⟩ := hIx
  have hsj := hwf.sj
  have hfj := hwf.fj
  have hst := hwf.ws
  have dM := vmd_l dN
  have hR := vmd_x dN
  have hn := vm_10 dM
  have ht := vx_t2 (vs_x σ)
  have hs3 := vm_sc3 dM
  cases hw : vb_idx 2 w with
  | none =>
    rw [show sp_look σ k w = .inr 0 by simp only [sp_look, hw]]
    show mm_W _ _ 214 (mm_blk 214 0) [.ref 60, .int k, .int w, .null] [] _ _
    refine mm_w1 rfl ?_
    refine mm_wv (vb_i 0) rfl (by decide) ?_
    refine mm_wpiN (vM_S60 hM) (by decide) (by decide) ?_
    intro I1 hI1
    have hq1 : vm_qf I I1 := by rw [hI1]; exact vm_qf.thr _
    have dN1 := dN.qf hq1
    have dM1 := vmd_l dN1
    have hR1 := vmd_x dN1
    have thr1 : I1 60 0 = vb_i 0 := by rw [hI1, vb_up1]
    refine mm_w1 rfl ?_
    refine mm_w1 rfl ?_
    refine mm_wv (vb_i 1) rfl (by decide) ?_
    refine mm_cvi (vb_cv (vM_S60 hM) rfl rfl rfl rfl) (by decide) (by omega) (m_isW_f hM thr1 hw (by omega) (by omega)) ?_
    intro I2 hI2 
    refine mm_nifeq (by decide) (fun _ => ?_) (fun h => absurd rfl h)
    refine mm_wv (vb_i 0) rfl (by decide) ?_
    refine mm_wr rfl rfl rfl ?_
    exact ⟨_, _, rfl, hq1.tr (by rw [hI2]; exact vm_qf.thr _), by rw [hI2, vb_up1]⟩
  | some w_ =>
    obtain ⟨lw, rfl⟩ := vb_idx_some (by decide) hw
    cases hk : vb_idx 4 k with
    | none =>
      rw [show sp_look σ k (vb_i w_) = .inr 1 by simp only [sp_look, hw, hk]]
      show mm_W _ _ 214 (mm_blk 214 0) [.ref 60, .int k, .int (vb_i w_), .null] [] _ _
      refine mm_w1 rfl ?_
      refine mm_wv (vb_i 0) rfl (by decide) ?_
      refine mm_wpiN (vM_S60 hM) (by decide) (by decide) ?_
      intro I1 hI1
      have hq1 : vm_qf I I1 := by rw [hI1]; exact vm_qf.thr _
      have dN1 := dN.qf hq1
      have dM1 := vmd_l dN1
      have hR1 := vmd_x dN1
      have thr1 : I1 60 0 = vb_i 0 := by rw [hI1, vb_up1]
      refine mm_w1 rfl ?_
      refine mm_w1 rfl ?_
      refine mm_wv (vb_i 1) rfl (by decide) ?_
      refine mm_cvp (vb_cv (vM_S60 hM) rfl rfl rfl rfl) (by decide) (by omega) (m_isW_t hM thr1 (by rw [hw]; rfl) (by decide) (by omega)) ?_
      refine mm_nifeq (by decide) (fun h => absurd h (by decide)) (fun _ => ?_)
      refine mm_w1 rfl ?_
      refine mm_w1 rfl ?_
      refine mm_wv (vb_i 0) rfl (by decide) ?_
      refine mm_wv (vb_i 3) rfl (by decide) ?_
      refine mm_csp rfl (by decide) (by omega) (m_within_f (by decide) hk) ?_
      refine mm_wv (vb_i 2) rfl (by decide) ?_
      refine mm_cvi (vb_cv (vM_S60 hM) rfl rfl rfl rfl) (by decide) (by omega) (m_right_f (w := 2) hM thr1 (by decide) (by decide)) ?_
      intro I2 hI2
      refine mm_nifne (by decide) (fun h => absurd rfl h) (fun _ => ?_)
      refine mm_wv (vb_i 0) rfl (by decide) ?_
      refine mm_wr rfl rfl rfl ?_
      exact ⟨_, _, rfl, hq1.tr (by rw [hI2]; exact vm_qf.thr _), by rw [hI2, vb_up1]⟩
    | some k_ =>
      obtain ⟨lk, rfl⟩ := vb_idx_some (by decide) hk
      have hk4 : k_ = 0 ∨ k_ = 1 ∨ k_ = 2 ∨ k_ = 3 := by omega
      have hw2 : w_ = 0 ∨ w_ = 1 := by omega
      rcases hk4 with rfl | rfl | rfl | rfl
      · rcases hw2 with rfl | rfl
        · rw [show sp_look σ (vb_i 0) (vb_i 0) = .inl (q_li (vs_l σ) (vs_x σ) (vx_tn (vs_x σ)) 0) by simp only [sp_look, hw, hk, if_true]]
          show mm_W _ _ 214 (mm_blk 214 0) [.ref 60, .int (vb_i 0), .int (vb_i 0), .null] [] _ _
          have hpk := vm_PK_le (ℓ := vs_l σ) (x := vs_x σ) (t := vx_tn (vs_x σ)) (k := 0)
          refine mm_w1 rfl ?_
          refine mm_wv (vb_i 0) rfl (by decide) ?_
          refine mm_wpiN (vM_S60 hM) (by decide) (by decide) ?_
          intro I1 hI1
          have hq1 : vm_qf I I1 := by rw [hI1]; exact vm_qf.thr _
          have dN1 := dN.qf hq1
          have dM1 := vmd_l dN1
          have hR1 := vmd_x dN1
          have thr1 : I1 60 0 = vb_i 0 := by rw [hI1, vb_up1]
          refine mm_w1 rfl ?_
          refine mm_w1 rfl ?_
          refine mm_wv (vb_i 1) rfl (by decide) ?_
          refine mm_cvp (vb_cv (vM_S60 hM) rfl rfl rfl rfl) (by decide) (by omega) (m_isW_t hM thr1 (by rw [hw]; rfl) (by decide) (by omega)) ?_
          refine mm_nifeq (by decide) (fun h => absurd h (by decide)) (fun _ => ?_)
          refine mm_w1 rfl ?_
          refine mm_w1 rfl ?_
          refine mm_wv (vb_i 0) rfl (by decide) ?_
          refine mm_wv (vb_i 3) rfl (by decide) ?_
          refine mm_csp rfl (by decide) (by omega) (m_within_t (by decide) (by rw [hk]; rfl)) ?_
          refine mm_wv (vb_i 2) rfl (by decide) ?_
          refine mm_cvp (vb_cv (vM_S60 hM) rfl rfl rfl rfl) (by decide) (by omega) (m_right_t hM thr1) ?_
          refine mm_nifne (by decide) (fun _ => ?_) (fun h => absurd h (by decide))
          refine mm_w1 rfl ?_
          refine mm_wv (vb_i 100) rfl (by decide) ?_
          refine mm_wpiN (vM_S60 hM) (by decide) (by decide) ?_
          intro I2 hI2
          have hq2 : vm_qf I I2 := hq1.tr (by rw [hI2]; exact vm_qf.bm _)
          have dN2 := dN.qf hq2
          have dM2 := vmd_l dN2
          have hR2 := vmd_x dN2
          have thr2 : I2 60 0 = vb_i 0 := by rw [hI2, vb_up2 _ _ (by decide)]; exact thr1
          refine mm_w1 rfl ?_
          refine mm_nifne (by decide) (fun h => absurd rfl h) (fun _ => ?_)
          refine mm_w1 rfl ?_
          refine mm_wv (vb_i 0) rfl (by decide) ?_
          refine mm_w1 rfl ?_
          refine mm_wgr (vM_S60 hM) (by decide) (by decide) (vM_P60_38 hM) (vM_a76 hM) ?_
          refine mm_wv (vb_i 43) rfl (by decide) ?_
          refine mm_wiav (vb_i (vx_tn (vs_x σ))) (vM_a76 hM) (vM_S76 hM) (by decide) (by omega) (vm_ru hR2) ?_
          refine mm_cvp (vb_cv (vM_S60 hM) rfl rfl rfl rfl) (by decide) (by omega) (m_score hM dM2 hR2 (by decide) hfj (by omega) (by omega)) ?_
          refine mm_wgoto ?_
          refine mm_w1 (ls' := [_, _, _, _]) rfl ?_
          refine mm_w1 rfl ?_
          refine mm_nifne (by decide) (fun h => absurd rfl h) (fun _ => ?_)
          refine mm_w1 rfl ?_
          refine mm_wgoto ?_
          refine mm_wr rfl rfl rfl ?_
          exact ⟨_, _, rfl, hq2, rfl, thr2⟩
        · rw [show sp_look σ (vb_i 0) (vb_i 1) = .inl (-1) by simp only [sp_look, hw, hk, if_true, Nat.one_ne_zero, if_false]]
          show mm_W _ _ 214 (mm_blk 214 0) [.ref 60, .int (vb_i 0), .int (vb_i 1), .null] [] _ _
          have hpk := vm_PK_le (ℓ := vs_l σ) (x := vs_x σ) (t := vx_tn (vs_x σ)) (k := 0)
          refine mm_w1 rfl ?_
          refine mm_wv (vb_i 0) rfl (by decide) ?_
          refine mm_wpiN (vM_S60 hM) (by decide) (by decide) ?_
          intro I1 hI1
          have hq1 : vm_qf I I1 := by rw [hI1]; exact vm_qf.thr _
          have dN1 := dN.qf hq1
          have dM1 := vmd_l dN1
          have hR1 := vmd_x dN1
          have thr1 : I1 60 0 = vb_i 0 := by rw [hI1, vb_up1]
          refine mm_w1 rfl ?_
          refine mm_w1 rfl ?_
          refine mm_wv (vb_i 1) rfl (by decide) ?_
          refine mm_cvp (vb_cv (vM_S60 hM) rfl rfl rfl rfl) (by decide) (by omega) (m_isW_t hM thr1 (by rw [hw]; rfl) (by decide) (by omega)) ?_
          refine mm_nifeq (by decide) (fun h => absurd h (by decide)) (fun _ => ?_)
          refine mm_w1 rfl ?_
          refine mm_w1 rfl ?_
          refine mm_wv (vb_i 0) rfl (by decide) ?_
          refine mm_wv (vb_i 3) rfl (by decide) ?_
          refine mm_csp rfl (by decide) (by omega) (m_within_t (by decide) (by rw [hk]; rfl)) ?_
          refine mm_wv (vb_i 2) rfl (by decide) ?_
          refine mm_cvp (vb_cv (vM_S60 hM) rfl rfl rfl rfl) (by decide) (by omega) (m_right_t hM thr1) ?_
          refine mm_nifne (by decide) (fun _ => ?_) (fun h => absurd h (by decide))
          refine mm_w1 rfl ?_
          refine mm_wv (vb_i 100) rfl (by decide) ?_
          refine mm_wpiN (vM_S60 hM) (by decide) (by decide) ?_
          intro I2 hI2
          have hq2 : vm_qf I I2 := hq1.tr (by rw [hI2]; exact vm_qf.bm _)
          have dN2 := dN.qf hq2
          have dM2 := vmd_l dN2
          have hR2 := vmd_x dN2
          have thr2 : I2 60 0 = vb_i 0 := by rw [hI2, vb_up2 _ _ (by decide)]; exact thr1
          refine mm_w1 rfl ?_
          refine mm_nifne (by decide) (fun h => absurd rfl h) (fun _ => ?_)
          refine mm_w1 rfl ?_
          refine mm_wv (vb_i 0) rfl (by decide) ?_
          refine mm_w1 rfl ?_
          refine mm_wgr (vM_S60 hM) (by decide) (by decide) (vM_P60_38 hM) (vM_a76 hM) ?_
          refine mm_wv (vb_i 43) rfl (by decide) ?_
          refine mm_wiav (vb_i (vx_tn (vs_x σ))) (vM_a76 hM) (vM_S76 hM) (by decide) (by omega) (vm_ru hR2) ?_
          refine mm_cvp (vb_cv (vM_S60 hM) rfl rfl rfl rfl) (by decide) (by omega) (m_score hM dM2 hR2 (by decide) hfj (by omega) (by omega)) ?_
          refine mm_wgoto ?_
          refine mm_w1 (ls' := [_, _, _, _]) rfl ?_
          refine mm_w1 rfl ?_
          refine mm_nifne (by decide) (fun _ => ?_) (fun h => absurd h (by decide))
          refine mm_w1 rfl ?_
          refine mm_wgiv (vb_i 100) (vM_S60 hM) (by decide) (by decide) (by rw [hI2, vb_up1]) ?_
          refine mm_csp rfl (by decide) (by omega) (m_told (by omega)) ?_
          refine mm_wr rfl rfl rfl ?_
          exact ⟨_, _, rfl, hq2, rfl, thr2⟩
      · rcases hw2 with rfl | rfl
        · rw [show sp_look σ (vb_i 1) (vb_i 0) = .inl (q_li (vs_l σ) (vs_x σ) (vx_tn (vs_x σ)) 1) by simp only [sp_look, hw, hk, if_true]]
          show mm_W _ _ 214 (mm_blk 214 0) [.ref 60, .int (vb_i 1), .int (vb_i 0), .null] [] _ _
          have hpk := vm_PK_le (ℓ := vs_l σ) (x := vs_x σ) (t := vx_tn (vs_x σ)) (k := 0)
          refine mm_w1 rfl ?_
          refine mm_wv (vb_i 0) rfl (by decide) ?_
          refine mm_wpiN (vM_S60 hM) (by decide) (by decide) ?_
          intro I1 hI1
          have hq1 : vm_qf I I1 := by rw [hI1]; exact vm_qf.thr _
          have dN1 := dN.qf hq1
          have dM1 := vmd_l dN1
          have hR1 := vmd_x dN1
          have thr1 : I1 60 0 = vb_i 0 := by rw [hI1, vb_up1]
          refine mm_w1 rfl ?_
          refine mm_w1 rfl ?_
          refine mm_wv (vb_i 1) rfl (by decide) ?_
          refine mm_cvp (vb_cv (vM_S60 hM) rfl rfl rfl rfl) (by decide) (by omega) (m_isW_t hM thr1 (by rw [hw]; rfl) (by decide) (by omega)) ?_
          refine mm_nifeq (by decide) (fun h => absurd h (by decide)) (fun _ => ?_)
          refine mm_w1 rfl ?_
          refine mm_w1 rfl ?_
          refine mm_wv (vb_i 0) rfl (by decide) ?_
          refine mm_wv (vb_i 3) rfl (by decide) ?_
          refine mm_csp rfl (by decide) (by omega) (m_within_t (by decide) (by rw [hk]; rfl)) ?_
          refine mm_wv (vb_i 2) rfl (by decide) ?_
          refine mm_cvp (vb_cv (vM_S60 hM) rfl rfl rfl rfl) (by decide) (by omega) (m_right_t hM thr1) ?_
          refine mm_nifne (by decide) (fun _ => ?_) (fun h => absurd h (by decide))
          refine mm_w1 rfl ?_
          refine mm_wv (vb_i 100) rfl (by decide) ?_
          refine mm_wpiN (vM_S60 hM) (by decide) (by decide) ?_
          intro I2 hI2
          have hq2 : vm_qf I I2 := hq1.tr (by rw [hI2]; exact vm_qf.bm _)
          have dN2 := dN.qf hq2
          have dM2 := vmd_l dN2
          have hR2 := vmd_x dN2
          have thr2 : I2 60 0 = vb_i 0 := by rw [hI2, vb_up2 _ _ (by decide)]; exact thr1
          refine mm_w1 rfl ?_
          refine mm_nifne (by decide) (fun _ => ?_) (fun h => absurd h (by decide))
          refine mm_w1 rfl ?_
          refine mm_wv (vb_i 1) rfl (by decide) ?_
          refine mm_nicne (by omega) (by omega) ?_ ?_
          · intro h57
            exact absurd rfl h57
          · intro h57
            refine mm_w1 rfl ?_
            refine mm_wv (vb_i 0) rfl (by decide) ?_
            refine mm_cvi (vb_cv (vM_S60 hM) rfl rfl rfl rfl) (by decide) (by omega) (m_look1 hM dM2 hR2 (by decide) hli hlb hwf (by omega) (by omega)) ?_
            intro I3 hq03
            obtain ⟨hl3, hbm3⟩ := hq03
            have hq3 := hq2.tr hl3.qf
            have dN3 := dN.qf hq3
            have dM3 := vmd_l dN3
            have hR3 := vmd_x dN3
            have thr3 : I3 60 0 = vb_i 0 := by rw [hl3.2.1 0 (by decide)]; exact thr2
            refine mm_wgoto ?_
            refine mm_w1 (ls' := [_, _, _, _]) rfl ?_
            refine mm_w1 rfl ?_
            refine mm_nifne (by decide) (fun h => absurd rfl h) (fun _ => ?_)
            refine mm_w1 rfl ?_
            refine mm_wgoto ?_
            refine mm_wr rfl rfl rfl ?_
            exact ⟨_, _, rfl, hq3, rfl, thr3⟩
        · rw [show sp_look σ (vb_i 1) (vb_i 1) = .inl (vb_told (q_bm (vs_l σ) (vs_x σ) 0)) by rw [sp_look, hw]; simp only; rw [hk]; rfl]
          show mm_W _ _ 214 (mm_blk 214 0) [.ref 60, .int (vb_i 1), .int (vb_i 1), .null] [] _ _
          have hpk := vm_PK_le (ℓ := vs_l σ) (x := vs_x σ) (t := vx_tn (vs_x σ)) (k := 0)
          refine mm_w1 rfl ?_
          refine mm_wv (vb_i 0) rfl (by decide) ?_
          refine mm_wpiN (vM_S60 hM) (by decide) (by decide) ?_
          intro I1 hI1
          have hq1 : vm_qf I I1 := by rw [hI1]; exact vm_qf.thr _
          have dN1 := dN.qf hq1
          have dM1 := vmd_l dN1
          have hR1 := vmd_x dN1
          have thr1 : I1 60 0 = vb_i 0 := by rw [hI1, vb_up1]
          refine mm_w1 rfl ?_
          refine mm_w1 rfl ?_
          refine mm_wv (vb_i 1) rfl (by decide) ?_
          refine mm_cvp (vb_cv (vM_S60 hM) rfl rfl rfl rfl) (by decide) (by omega) (m_isW_t hM thr1 (by rw [hw]; rfl) (by decide) (by omega)) ?_
          refine mm_nifeq (by decide) (fun h => absurd h (by decide)) (fun _ => ?_)
          refine mm_w1 rfl ?_
          refine mm_w1 rfl ?_
          refine mm_wv (vb_i 0) rfl (by decide) ?_
          refine mm_wv (vb_i 3) rfl (by decide) ?_
          refine mm_csp rfl (by decide) (by omega) (m_within_t (by decide) (by rw [hk]; rfl)) ?_
          refine mm_wv (vb_i 2) rfl (by decide) ?_
          refine mm_cvp (vb_cv (vM_S60 hM) rfl rfl rfl rfl) (by decide) (by omega) (m_right_t hM thr1) ?_
          refine mm_nifne (by decide) (fun _ => ?_) (fun h => absurd h (by decide))
          refine mm_w1 rfl ?_
          refine mm_wv (vb_i 100) rfl (by decide) ?_
          refine mm_wpiN (vM_S60 hM) (by decide) (by decide) ?_
          intro I2 hI2
          have hq2 : vm_qf I I2 := hq1.tr (by rw [hI2]; exact vm_qf.bm _)
          have dN2 := dN.qf hq2
          have dM2 := vmd_l dN2
          have hR2 := vmd_x dN2
          have thr2 : I2 60 0 = vb_i 0 := by rw [hI2, vb_up2 _ _ (by decide)]; exact thr1
          refine mm_w1 rfl ?_
          refine mm_nifne (by decide) (fun _ => ?_) (fun h => absurd h (by decide))
          refine mm_w1 rfl ?_
          refine mm_wv (vb_i 1) rfl (by decide) ?_
          refine mm_nicne (by omega) (by omega) ?_ ?_
          · intro h57
            exact absurd rfl h57
          · intro h57
            refine mm_w1 rfl ?_
            refine mm_wv (vb_i 0) rfl (by decide) ?_
            refine mm_cvi (vb_cv (vM_S60 hM) rfl rfl rfl rfl) (by decide) (by omega) (m_look1 hM dM2 hR2 (by decide) hli hlb hwf (by omega) (by omega)) ?_
            intro I3 hq03
            obtain ⟨hl3, hbm3⟩ := hq03
            have hq3 := hq2.tr hl3.qf
            have dN3 := dN.qf hq3
            have dM3 := vmd_l dN3
            have hR3 := vmd_x dN3
            have thr3 : I3 60 0 = vb_i 0 := by rw [hl3.2.1 0 (by decide)]; exact thr2
            refine mm_wgoto ?_
            refine mm_w1 (ls' := [_, _, _, _]) rfl ?_
            refine mm_w1 rfl ?_
            refine mm_nifne (by decide) (fun _ => ?_) (fun h => absurd h (by decide))
            refine mm_w1 rfl ?_
            refine mm_wgiv (vb_i (vm_PK (vs_l σ) (vs_x σ) (vx_tn (vs_x σ)) 0).1) (vM_S60 hM) (by decide) (by decide) hbm3 ?_
            refine mm_csp rfl (by decide) (by omega) (m_told (by omega)) ?_
            refine mm_wr rfl rfl rfl ?_
            refine ⟨_, _, rfl, hq3, ?_, thr3⟩
            rw [vm_PK1]
      · rcases hw2 with rfl | rfl
        · rw [show sp_look σ (vb_i 2) (vb_i 0) = .inl (q_li (vs_l σ) (vs_x σ) (vx_tn (vs_x σ)) 2) by simp only [sp_look, hw, hk, if_true]]
          show mm_W _ _ 214 (mm_blk 214 0) [.ref 60, .int (vb_i 2), .int (vb_i 0), .null] [] _ _
          have hpk := vm_PK_le (ℓ := vs_l σ) (x := vs_x σ) (t := vx_tn (vs_x σ)) (k := 1)
          refine mm_w1 rfl ?_
          refine mm_wv (vb_i 0) rfl (by decide) ?_
          refine mm_wpiN (vM_S60 hM) (by decide) (by decide) ?_
          intro I1 hI1
          have hq1 : vm_qf I I1 := by rw [hI1]; exact vm_qf.thr _
          have dN1 := dN.qf hq1
          have dM1 := vmd_l dN1
          have hR1 := vmd_x dN1
          have thr1 : I1 60 0 = vb_i 0 := by rw [hI1, vb_up1]
          refine mm_w1 rfl ?_
          refine mm_w1 rfl ?_
          refine mm_wv (vb_i 1) rfl (by decide) ?_
          refine mm_cvp (vb_cv (vM_S60 hM) rfl rfl rfl rfl) (by decide) (by omega) (m_isW_t hM thr1 (by rw [hw]; rfl) (by decide) (by omega)) ?_
          refine mm_nifeq (by decide) (fun h => absurd h (by decide)) (fun _ => ?_)
          refine mm_w1 rfl ?_
          refine mm_w1 rfl ?_
          refine mm_wv (vb_i 0) rfl (by decide) ?_
          refine mm_wv (vb_i 3) rfl (by decide) ?_
          refine mm_csp rfl (by decide) (by omega) (m_within_t (by decide) (by rw [hk]; rfl)) ?_
          refine mm_wv (vb_i 2) rfl (by decide) ?_
          refine mm_cvp (vb_cv (vM_S60 hM) rfl rfl rfl rfl) (by decide) (by omega) (m_right_t hM thr1) ?_
          refine mm_nifne (by decide) (fun _ => ?_) (fun h => absurd h (by decide))
          refine mm_w1 rfl ?_
          refine mm_wv (vb_i 100) rfl (by decide) ?_
          refine mm_wpiN (vM_S60 hM) (by decide) (by decide) ?_
          intro I2 hI2
          have hq2 : vm_qf I I2 := hq1.tr (by rw [hI2]; exact vm_qf.bm _)
          have dN2 := dN.qf hq2
          have dM2 := vmd_l dN2
          have hR2 := vmd_x dN2
          have thr2 : I2 60 0 = vb_i 0 := by rw [hI2, vb_up2 _ _ (by decide)]; exact thr1
          refine mm_w1 rfl ?_
          refine mm_nifne (by decide) (fun _ => ?_) (fun h => absurd h (by decide))
          refine mm_w1 rfl ?_
          refine mm_wv (vb_i 1) rfl (by decide) ?_
          refine mm_nicne (by omega) (by omega) ?_ ?_
          · intro h57
            refine mm_w1 rfl ?_
            refine mm_wv (vb_i 2) rfl (by decide) ?_
            refine mm_nicne (by omega) (by omega) ?_ ?_
            · intro h70
              exact absurd rfl h70
            · intro h70
              refine mm_w1 rfl ?_
              refine mm_wv (vb_i 0) rfl (by decide) ?_
              refine mm_cvi (vb_cv (vM_S60 hM) rfl rfl rfl rfl) (by decide) (by omega) (m_look2 hM dM2 hR2 (by decide) hli hlb hwf (by omega) (by omega)) ?_
              intro I3 hq03
              obtain ⟨hl3, hbm3⟩ := hq03
              have hq3 := hq2.tr hl3.qf
              have dN3 := dN.qf hq3
              have dM3 := vmd_l dN3
              have hR3 := vmd_x dN3
              have thr3 : I3 60 0 = vb_i 0 := by rw [hl3.2.1 0 (by decide)]; exact thr2
              refine mm_wgoto ?_
              refine mm_w1 (ls' := [_, _, _, _]) rfl ?_
              refine mm_w1 rfl ?_
              refine mm_nifne (by decide) (fun h => absurd rfl h) (fun _ => ?_)
              refine mm_w1 rfl ?_
              refine mm_wgoto ?_
              refine mm_wr rfl rfl rfl ?_
              exact ⟨_, _, rfl, hq3, rfl, thr3⟩
          · intro h57
            exact absurd h57 (by decide)
        · rw [show sp_look σ (vb_i 2) (vb_i 1) = .inl (vb_told (q_bm (vs_l σ) (vs_x σ) 1)) by rw [sp_look, hw]; simp only; rw [hk]; rfl]
          show mm_W _ _ 214 (mm_blk 214 0) [.ref 60, .int (vb_i 2), .int (vb_i 1), .null] [] _ _
          have hpk := vm_PK_le (ℓ := vs_l σ) (x := vs_x σ) (t := vx_tn (vs_x σ)) (k := 1)
          refine mm_w1 rfl ?_
          refine mm_wv (vb_i 0) rfl (by decide) ?_
          refine mm_wpiN (vM_S60 hM) (by decide) (by decide) ?_
          intro I1 hI1
          have hq1 : vm_qf I I1 := by rw [hI1]; exact vm_qf.thr _
          have dN1 := dN.qf hq1
          have dM1 := vmd_l dN1
          have hR1 := vmd_x dN1
          have thr1 : I1 60 0 = vb_i 0 := by rw [hI1, vb_up1]
          refine mm_w1 rfl ?_
          refine mm_w1 rfl ?_
          refine mm_wv (vb_i 1) rfl (by decide) ?_
          refine mm_cvp (vb_cv (vM_S60 hM) rfl rfl rfl rfl) (by decide) (by omega) (m_isW_t hM thr1 (by rw [hw]; rfl) (by decide) (by omega)) ?_
          refine mm_nifeq (by decide) (fun h => absurd h (by decide)) (fun _ => ?_)
          refine mm_w1 rfl ?_
          refine mm_w1 rfl ?_
          refine mm_wv (vb_i 0) rfl (by decide) ?_
          refine mm_wv (vb_i 3) rfl (by decide) ?_
          refine mm_csp rfl (by decide) (by omega) (m_within_t (by decide) (by rw [hk]; rfl)) ?_
          refine mm_wv (vb_i 2) rfl (by decide) ?_
          refine mm_cvp (vb_cv (vM_S60 hM) rfl rfl rfl rfl) (by decide) (by omega) (m_right_t hM thr1) ?_
          refine mm_nifne (by decide) (fun _ => ?_) (fun h => absurd h (by decide))
          refine mm_w1 rfl ?_
          refine mm_wv (vb_i 100) rfl (by decide) ?_
          refine mm_wpiN (vM_S60 hM) (by decide) (by decide) ?_
          intro I2 hI2
          have hq2 : vm_qf I I2 := hq1.tr (by rw [hI2]; exact vm_qf.bm _)
          have dN2 := dN.qf hq2
          have dM2 := vmd_l dN2
          have hR2 := vmd_x dN2
          have thr2 : I2 60 0 = vb_i 0 := by rw [hI2, vb_up2 _ _ (by decide)]; exact thr1
          refine mm_w1 rfl ?_
          refine mm_nifne (by decide) (fun _ => ?_) (fun h => absurd h (by decide))
          refine mm_w1 rfl ?_
          refine mm_wv (vb_i 1) rfl (by decide) ?_
          refine mm_nicne (by omega) (by omega) ?_ ?_
          · intro h57
            refine mm_w1 rfl ?_
            refine mm_wv (vb_i 2) rfl (by decide) ?_
            refine mm_nicne (by omega) (by omega) ?_ ?_
            · intro h70
              exact absurd rfl h70
            · intro h70
              refine mm_w1 rfl ?_
              refine mm_wv (vb_i 0) rfl (by decide) ?_
              refine mm_cvi (vb_cv (vM_S60 hM) rfl rfl rfl rfl) (by decide) (by omega) (m_look2 hM dM2 hR2 (by decide) hli hlb hwf (by omega) (by omega)) ?_
              intro I3 hq03
              obtain ⟨hl3, hbm3⟩ := hq03
              have hq3 := hq2.tr hl3.qf
              have dN3 := dN.qf hq3
              have dM3 := vmd_l dN3
              have hR3 := vmd_x dN3
              have thr3 : I3 60 0 = vb_i 0 := by rw [hl3.2.1 0 (by decide)]; exact thr2
              refine mm_wgoto ?_
              refine mm_w1 (ls' := [_, _, _, _]) rfl ?_
              refine mm_w1 rfl ?_
              refine mm_nifne (by decide) (fun _ => ?_) (fun h => absurd h (by decide))
              refine mm_w1 rfl ?_
              refine mm_wgiv (vb_i (vm_PK (vs_l σ) (vs_x σ) (vx_tn (vs_x σ)) 1).1) (vM_S60 hM) (by decide) (by decide) hbm3 ?_
              refine mm_csp rfl (by decide) (by omega) (m_told (by omega)) ?_
              refine mm_wr rfl rfl rfl ?_
              refine ⟨_, _, rfl, hq3, ?_, thr3⟩
              rw [vm_PK1]
          · intro h57
            exact absurd h57 (by decide)
      · rcases hw2 with rfl | rfl
        · rw [show sp_look σ (vb_i 3) (vb_i 0) = .inl (q_li (vs_l σ) (vs_x σ) (vx_tn (vs_x σ)) 3) by simp only [sp_look, hw, hk, if_true]]
          show mm_W _ _ 214 (mm_blk 214 0) [.ref 60, .int (vb_i 3), .int (vb_i 0), .null] [] _ _
          have hpk := vm_PK_le (ℓ := vs_l σ) (x := vs_x σ) (t := vx_tn (vs_x σ)) (k := 2)
          refine mm_w1 rfl ?_
          refine mm_wv (vb_i 0) rfl (by decide) ?_
          refine mm_wpiN (vM_S60 hM) (by decide) (by decide) ?_
          intro I1 hI1
          have hq1 : vm_qf I I1 := by rw [hI1]; exact vm_qf.thr _
          have dN1 := dN.qf hq1
          have dM1 := vmd_l dN1
          have hR1 := vmd_x dN1
          have thr1 : I1 60 0 = vb_i 0 := by rw [hI1, vb_up1]
          refine mm_w1 rfl ?_
          refine mm_w1 rfl ?_
          refine mm_wv (vb_i 1) rfl (by decide) ?_
          refine mm_cvp (vb_cv (vM_S60 hM) rfl rfl rfl rfl) (by decide) (by omega) (m_isW_t hM thr1 (by rw [hw]; rfl) (by decide) (by omega)) ?_
          refine mm_nifeq (by decide) (fun h => absurd h (by decide)) (fun _ => ?_)
          refine mm_w1 rfl ?_
          refine mm_w1 rfl ?_
          refine mm_wv (vb_i 0) rfl (by decide) ?_
          refine mm_wv (vb_i 3) rfl (by decide) ?_
          refine mm_csp rfl (by decide) (by omega) (m_within_t (by decide) (by rw [hk]; rfl)) ?_
          refine mm_wv (vb_i 2) rfl (by decide) ?_
          refine mm_cvp (vb_cv (vM_S60 hM) rfl rfl rfl rfl) (by decide) (by omega) (m_right_t hM thr1) ?_
          refine mm_nifne (by decide) (fun _ => ?_) (fun h => absurd h (by decide))
          refine mm_w1 rfl ?_
          refine mm_wv (vb_i 100) rfl (by decide) ?_
          refine mm_wpiN (vM_S60 hM) (by decide) (by decide) ?_
          intro I2 hI2
          have hq2 : vm_qf I I2 := hq1.tr (by rw [hI2]; exact vm_qf.bm _)
          have dN2 := dN.qf hq2
          have dM2 := vmd_l dN2
          have hR2 := vmd_x dN2
          have thr2 : I2 60 0 = vb_i 0 := by rw [hI2, vb_up2 _ _ (by decide)]; exact thr1
          refine mm_w1 rfl ?_
          refine mm_nifne (by decide) (fun _ => ?_) (fun h => absurd h (by decide))
          refine mm_w1 rfl ?_
          refine mm_wv (vb_i 1) rfl (by decide) ?_
          refine mm_nicne (by omega) (by omega) ?_ ?_
          · intro h57
            refine mm_w1 rfl ?_
            refine mm_wv (vb_i 2) rfl (by decide) ?_
            refine mm_nicne (by omega) (by omega) ?_ ?_
            · intro h70
              refine mm_w1 rfl ?_
              refine mm_wv (vb_i 0) rfl (by decide) ?_
              refine mm_cvi (vb_cv (vM_S60 hM) rfl rfl rfl rfl) (by decide) (by omega) (m_look3 hM dM2 hR2 (by decide) hli hlb hwf (by omega) (by omega)) ?_
              intro I3 hq03
              obtain ⟨hl3, hbm3⟩ := hq03
              have hq3 := hq2.tr hl3.qf
              have dN3 := dN.qf hq3
              have dM3 := vmd_l dN3
              have hR3 := vmd_x dN3
              have thr3 : I3 60 0 = vb_i 0 := by rw [hl3.2.1 0 (by decide)]; exact thr2
              refine mm_w1 (ls' := [_, _, _, _]) rfl ?_
              refine mm_w1 rfl ?_
              refine mm_nifne (by decide) (fun h => absurd rfl h) (fun _ => ?_)
              refine mm_w1 rfl ?_
              refine mm_wgoto ?_
              refine mm_wr rfl rfl rfl ?_
              exact ⟨_, _, rfl, hq3, rfl, thr3⟩
            · intro h70
              exact absurd h70 (by decide)
          · intro h57
            exact absurd h57 (by decide)
        · rw [show sp_look σ (vb_i 3) (vb_i 1) = .inl (vb_told (q_bm (vs_l σ) (vs_x σ) 2)) by rw [sp_look, hw]; simp only; rw [hk]; rfl]
          show mm_W _ _ 214 (mm_blk 214 0) [.ref 60, .int (vb_i 3), .int (vb_i 1), .null] [] _ _
          have hpk := vm_PK_le (ℓ := vs_l σ) (x := vs_x σ) (t := vx_tn (vs_x σ)) (k := 2)
          refine mm_w1 rfl ?_
          refine mm_wv (vb_i 0) rfl (by decide) ?_
          refine mm_wpiN (vM_S60 hM) (by decide) (by decide) ?_
          intro I1 hI1
          have hq1 : vm_qf I I1 := by rw [hI1]; exact vm_qf.thr _
          have dN1 := dN.qf hq1
          have dM1 := vmd_l dN1
          have hR1 := vmd_x dN1
          have thr1 : I1 60 0 = vb_i 0 := by rw [hI1, vb_up1]
          refine mm_w1 rfl ?_
          refine mm_w1 rfl ?_
          refine mm_wv (vb_i 1) rfl (by decide) ?_
          refine mm_cvp (vb_cv (vM_S60 hM) rfl rfl rfl rfl) (by decide) (by omega) (m_isW_t hM thr1 (by rw [hw]; rfl) (by decide) (by omega)) ?_
          refine mm_nifeq (by decide) (fun h => absurd h (by decide)) (fun _ => ?_)
          refine mm_w1 rfl ?_
          refine mm_w1 rfl ?_
          refine mm_wv (vb_i 0) rfl (by decide) ?_
          refine mm_wv (vb_i 3) rfl (by decide) ?_
          refine mm_csp rfl (by decide) (by omega) (m_within_t (by decide) (by rw [hk]; rfl)) ?_
          refine mm_wv (vb_i 2) rfl (by decide) ?_
          refine mm_cvp (vb_cv (vM_S60 hM) rfl rfl rfl rfl) (by decide) (by omega) (m_right_t hM thr1) ?_
          refine mm_nifne (by decide) (fun _ => ?_) (fun h => absurd h (by decide))
          refine mm_w1 rfl ?_
          refine mm_wv (vb_i 100) rfl (by decide) ?_
          refine mm_wpiN (vM_S60 hM) (by decide) (by decide) ?_
          intro I2 hI2
          have hq2 : vm_qf I I2 := hq1.tr (by rw [hI2]; exact vm_qf.bm _)
          have dN2 := dN.qf hq2
          have dM2 := vmd_l dN2
          have hR2 := vmd_x dN2
          have thr2 : I2 60 0 = vb_i 0 := by rw [hI2, vb_up2 _ _ (by decide)]; exact thr1
          refine mm_w1 rfl ?_
          refine mm_nifne (by decide) (fun _ => ?_) (fun h => absurd h (by decide))
          refine mm_w1 rfl ?_
          refine mm_wv (vb_i 1) rfl (by decide) ?_
          refine mm_nicne (by omega) (by omega) ?_ ?_
          · intro h57
            refine mm_w1 rfl ?_
            refine mm_wv (vb_i 2) rfl (by decide) ?_
            refine mm_nicne (by omega) (by omega) ?_ ?_
            · intro h70
              refine mm_w1 rfl ?_
              refine mm_wv (vb_i 0) rfl (by decide) ?_
              refine mm_cvi (vb_cv (vM_S60 hM) rfl rfl rfl rfl) (by decide) (by omega) (m_look3 hM dM2 hR2 (by decide) hli hlb hwf (by omega) (by omega)) ?_
              intro I3 hq03
              obtain ⟨hl3, hbm3⟩ := hq03
              have hq3 := hq2.tr hl3.qf
              have dN3 := dN.qf hq3
              have dM3 := vmd_l dN3
              have hR3 := vmd_x dN3
              have thr3 : I3 60 0 = vb_i 0 := by rw [hl3.2.1 0 (by decide)]; exact thr2
              refine mm_w1 (ls' := [_, _, _, _]) rfl ?_
              refine mm_w1 rfl ?_
              refine mm_nifne (by decide) (fun _ => ?_) (fun h => absurd h (by decide))
              refine mm_w1 rfl ?_
              refine mm_wgiv (vb_i (vm_PK (vs_l σ) (vs_x σ) (vx_tn (vs_x σ)) 2).1) (vM_S60 hM) (by decide) (by decide) hbm3 ?_
              refine mm_csp rfl (by decide) (by omega) (m_told (by omega)) ?_
              refine mm_wr rfl rfl rfl ?_
              refine ⟨_, _, rfl, hq3, ?_, thr3⟩
              rw [vm_PK1]
            · intro h70
              exact absurd h70 (by decide)
          · intro h57
            exact absurd h57 (by decide)
theorem vm_may_T {ℓ : vb_L} {x : vb_X} (hn : vb_n ℓ ≤ 10) (hsj : vx_dj (vx_s x)) {a b : Nat} (ha : a < vb_n ℓ) (hb : b < vb_n ℓ) : vm_may ℓ x (vx_tn x) (10 * a + b) = q_mayT ℓ x a b := by
  have ht := vx_t2 x
  have e1 : (10 * a + b) / 10 = a := by omega
  have e2 : (10 * a + b) % 10 = b := by omega
  rw [vm_may, decide_eq_false (by omega), Bool.false_or, vb_q, e1, e2, decide_eq_true ha, decide_eq_true hb, q_mayT, Bool.true_and, Bool.true_and, ← vx_in_dec hsj ht]
  by_cases h : vx_in (vx_s x) a = vx_tn x
  · rw [decide_eq_true h, q_tgt, h, if_neg (by omega)]
  · rw [decide_eq_false h]; rfl
theorem n_regret (hM : vm_isM P S) (dN : vm_MD σ I) (hI : vs_inv σ) (hlb : vl_bel (vs_l σ)) (hd : 20 ≤ d) (a b : Int32) : mm_C G d 245 [.ref 60, .int a, .int b] (I, P, J, S, nc, ns) (vm_RV (sp_regret σ a b) (fun I' => vm_qf I I') P J S nc ns) := by
  obtain ⟨hli, hIx, hIa, hIi⟩ := hI
  obtain ⟨hok, hwf, he9⟩ := hIx
  have hsj := hwf.sj
  have hfj := hwf.fj
  have hst := hwf.ws
  have dM := vmd_l dN
  have hR := vmd_x dN
  have hn := vm_10 dM
  have ht := vx_t2 (vs_x σ)
  have hs3 := vm_sc3 dM
  cases ha : vb_idx (vb_n (vs_l σ)) a with
  | none =>
    rw [show sp_regret σ a b = .inr 0 by simp only [sp_regret, ha]]
    show mm_W _ _ 245 (mm_blk 245 0) [.ref 60, .int a, .int b, .null] [] _ _
    refine mm_w1 rfl ?_
    refine mm_wv (vb_i 0) rfl (by decide) ?_
    refine mm_wpiN (vM_S60 hM) (by decide) (by decide) ?_
    intro I1 hI1
    have hq1 : vm_qf I I1 := by rw [hI1]; exact vm_qf.thr _
    have dN1 := dN.qf hq1
    have dM1 := vmd_l dN1
    have hR1 := vmd_x dN1
    have thr1 : I1 60 0 = vb_i 0 := by rw [hI1, vb_up1]
    refine mm_w1 rfl ?_
    refine mm_w1 rfl ?_
    refine mm_cvi (vb_cv (vM_S60 hM) rfl rfl rfl rfl) (by decide) (by omega) (m_isV_f hM dM1 thr1 ha (by omega)) ?_
    intro I2 hI2 
    refine mm_nifeq (by decide) (fun _ => ?_) (fun h => absurd rfl h)
    refine mm_wv (vb_i 0) rfl (by decide) ?_
    refine mm_wr rfl rfl rfl ?_
    exact ⟨_, _, rfl, hq1.tr (by rw [hI2]; exact vm_qf.thr _), by rw [hI2, vb_up1]⟩
  | some a_ =>
    obtain ⟨la, rfl⟩ := vb_idx_some (by omega) ha
    cases hb : vb_idx (vb_n (vs_l σ)) b with
    | none =>
      rw [show sp_regret σ (vb_i a_) b = .inr 0 by simp only [sp_regret, ha, hb]]
      show mm_W _ _ 245 (mm_blk 245 0) [.ref 60, .int (vb_i a_), .int b, .null] [] _ _
      refine mm_w1 rfl ?_
      refine mm_wv (vb_i 0) rfl (by decide) ?_
      refine mm_wpiN (vM_S60 hM) (by decide) (by decide) ?_
      intro I1 hI1
      have hq1 : vm_qf I I1 := by rw [hI1]; exact vm_qf.thr _
      have dN1 := dN.qf hq1
      have dM1 := vmd_l dN1
      have hR1 := vmd_x dN1
      have thr1 : I1 60 0 = vb_i 0 := by rw [hI1, vb_up1]
      refine mm_w1 rfl ?_
      refine mm_w1 rfl ?_
      refine mm_cvp (vb_cv (vM_S60 hM) rfl rfl rfl rfl) (by decide) (by omega) (m_isV_t hM dM1 thr1 (by omega) (by omega)) ?_
      refine mm_nifeq (by decide) (fun h => absurd h (by decide)) (fun _ => ?_)
      refine mm_w1 rfl ?_
      refine mm_w1 rfl ?_
      refine mm_cvi (vb_cv (vM_S60 hM) rfl rfl rfl rfl) (by decide) (by omega) (m_isV_f hM dM1 thr1 hb (by omega)) ?_
      intro I2 hI2 
      refine mm_nifne (by decide) (fun h => absurd rfl h) (fun _ => ?_)
      refine mm_wv (vb_i 0) rfl (by decide) ?_
      refine mm_wr rfl rfl rfl ?_
      exact ⟨_, _, rfl, hq1.tr (by rw [hI2]; exact vm_qf.thr _), by rw [hI2, vb_up1]⟩
    | some b_ =>
      obtain ⟨lb, rfl⟩ := vb_idx_some (by omega) hb
      rw [show sp_regret σ (vb_i a_) (vb_i b_) = .inl (if q_mayT (vs_l σ) (vs_x σ) a_ b_ then q_li (vs_l σ) (vs_x σ) (vx_tn (vs_x σ)) 2 - q_la (vs_l σ) (vs_x σ) (vx_tn (vs_x σ)) (10 * a_ + b_) 1 else -1) by simp only [sp_regret, ha, hb]]
      have hmq := vm_may_T hn hsj (by omega : a_ < vb_n (vs_l σ)) lb
      show mm_W _ _ 245 (mm_blk 245 0) [.ref 60, .int (vb_i a_), .int (vb_i b_), .null] [] _ _
      refine mm_w1 rfl ?_
      refine mm_wv (vb_i 0) rfl (by decide) ?_
      refine mm_wpiN (vM_S60 hM) (by decide) (by decide) ?_
      intro I1 hI1
      have hq1 : vm_qf I I1 := by rw [hI1]; exact vm_qf.thr _
      have dN1 := dN.qf hq1
      have dM1 := vmd_l dN1
      have hR1 := vmd_x dN1
      have thr1 : I1 60 0 = vb_i 0 := by rw [hI1, vb_up1]
      refine mm_w1 rfl ?_
      refine mm_w1 rfl ?_
      refine mm_cvp (vb_cv (vM_S60 hM) rfl rfl rfl rfl) (by decide) (by omega) (m_isV_t hM dM1 thr1 (by omega) (by omega)) ?_
      refine mm_nifeq (by decide) (fun h => absurd h (by decide)) (fun _ => ?_)
      refine mm_w1 rfl ?_
      refine mm_w1 rfl ?_
      refine mm_cvp (vb_cv (vM_S60 hM) rfl rfl rfl rfl) (by decide) (by omega) (m_isV_t hM dM1 thr1 (by omega) (by omega)) ?_
      refine mm_nifne (by decide) (fun _ => ?_) (fun h => absurd h (by decide))
      refine mm_w1 rfl ?_
      refine mm_wv (vb_i 0) rfl (by decide) ?_
      refine mm_wv (vb_i 10) rfl (by decide) ?_
      refine mm_w1 rfl ?_
      refine mm_nmul ?_
      refine mm_w1 rfl ?_
      refine mm_nadd ?_
      refine mm_w1 rfl ?_
      refine mm_wgr (vM_S60 hM) (by decide) (by decide) (vM_P60_38 hM) (vM_a76 hM) ?_
      refine mm_wv (vb_i 43) rfl (by decide) ?_
      refine mm_wiav (vb_i (vx_tn (vs_x σ))) (vM_a76 hM) (vM_S76 hM) (by decide) (by omega) (vm_ru hR1) ?_
      refine mm_cvi (vb_cv (vM_S60 hM) rfl rfl rfl rfl) (by decide) (by omega) (m_mayDo hM dM1 hR1 (by decide) hli hlb hsj hfj hst (by omega) (by omega) (by omega)) ?_
      intro I2 hf2
      have hq2 := hq1.tr (vm_qf.of8 hf2)
      have dN2 := dN.qf hq2
      have dM2 := vmd_l dN2
      have hR2 := vmd_x dN2
      have thr2 : I2 60 0 = vb_i 0 := by rw [hf2 60 (by simp only [vm_s8]; decide)]; exact thr1
      rw [hmq]
      refine mm_bifne ?_ ?_
      · intro h41
        have hm1 : vm_ok1 (vs_l σ) (vs_x σ) (vx_tn (vs_x σ)) (10 * a_ + b_) := vm_may_ok1 hn hli hsj ht (by omega) (by rw [hmq]; exact h41)
        refine mm_w1 rfl ?_
        refine mm_wv (vb_i 0) rfl (by decide) ?_
        refine mm_cvi (vb_cv (vM_S60 hM) rfl rfl rfl rfl) (by decide) (by omega) (m_look2 hM dM2 hR2 (by decide) hli hlb hwf (by omega) (by omega)) ?_
        intro I3 hq03
        obtain ⟨hl3, hbm3⟩ := hq03
        have hq3 := hq2.tr hl3.qf
        have dN3 := dN.qf hq3
        have dM3 := vmd_l dN3
        have hR3 := vmd_x dN3
        have thr3 : I3 60 0 = vb_i 0 := by rw [hl3.2.1 0 (by decide)]; exact thr2
        refine mm_w1 (ls' := [_, _, _, _]) rfl ?_
        refine mm_w1 rfl ?_
        refine mm_w1 rfl ?_
        refine mm_wv (vb_i 0) rfl (by decide) ?_
        refine mm_wv (vb_i 10) rfl (by decide) ?_
        refine mm_w1 rfl ?_
        refine mm_nmul ?_
        refine mm_w1 rfl ?_
        refine mm_nadd ?_
        refine mm_cvi (vb_cv (vM_S60 hM) rfl rfl rfl rfl) (by decide) (by omega) (m_ans hM dM3 hR3 (by decide) hli hlb hwf hm1 (by omega) (by omega)) ?_
        intro I4 hl4
        have hq4 := hq3.tr hl4.qf
        have thr4 : I4 60 0 = vb_i 0 := by rw [hl4.2.1 0 (by decide)]; exact thr3
        refine mm_w1 rfl ?_
        refine mm_wr rfl rfl rfl ?_
        refine ⟨_, _, rfl, hq4, ?_, thr4⟩
        rw [h41, if_pos rfl, vm_af_eq ht]; rfl
      · intro h41
        refine mm_wv (-1) rfl (by decide) ?_
        refine mm_wr rfl rfl rfl ?_
        refine ⟨_, _, rfl, hq2, ?_, thr2⟩
        rw [h41]; rfl 
end NLOOK
