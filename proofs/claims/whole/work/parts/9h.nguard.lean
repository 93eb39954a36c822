section NGUARD
variable {G : mm_G} {d : Nat} {I : Nat → Nat → Int32} {P : Nat → Nat → Nat} {J : Nat → Nat → Int64} {S : List (Nat × Nat)} {nc ns : Nat} {μ : mm_M} {σ : vb_St}
theorem n_guard (hM : vm_isM P S) (dN : vm_MD σ I) (hI : vs_inv σ) (hlb : vl_bel (vs_l σ)) (hd : 20 ≤ d) (v : Int32) : mm_C G d 242 [.ref 60, .int v] (I, P, J, S, nc, ns) (vm_RV (sp_guard σ v) (fun I' => vm_qf I I') P J S nc ns) := by
  obtain ⟨hli, hIx, hIa, hIi⟩ := hI
  obtain ⟨hok, hwf, he9⟩ := hIx
  have hsj := hwf.sj
  have hfj := hwf.fj
  have hst := hwf.ws
  have dM := vmd_l dN
  have hR := vmd_x dN
  have hn := vm_10 dM
  have ht := vx_t2 (vs_x σ)
  have hs3 := vm_sc3 dM
  cases hv : vb_idx (vb_n (vs_l σ)) v with
  | none =>
    rw [show sp_guard σ v = .inr 0 by simp only [sp_guard, hv]]
    show mm_W _ _ 242 (mm_blk 242 0) [.ref 60, .int v, .null, .null, .null, .null, .null] [] _ _
    refine mm_w1 rfl ?_
    refine mm_wv (vb_i 0) rfl (by decide) ?_
    refine mm_wpiN (vM_S60 hM) (by decide) (by decide) ?_
    intro I1 hI1
    have hq1 : vm_qf I I1 := by rw [hI1]; exact vm_qf.thr _
    have dN1 := dN.qf hq1
    have dM1 := vmd_l dN1
    have hR1 := vmd_x dN1
    have thr1 : I1 60 0 = vb_i 0 := by rw [hI1, vb_up1]
    refine mm_w1 rfl ?_
    refine mm_w1 rfl ?_
    refine mm_cvi (vb_cv (vM_S60 hM) rfl rfl rfl rfl) (by decide) (by omega) (m_isV_f hM dM1 thr1 hv (by omega)) ?_
    intro I2 hI2 
    refine mm_nifne (by decide) (fun h => absurd rfl h) (fun _ => ?_)
    refine mm_wv (vb_i 0) rfl (by decide) ?_
    refine mm_wr rfl rfl rfl ?_
    exact ⟨_, _, rfl, hq1.tr (by rw [hI2]; exact vm_qf.thr _), by rw [hI2, vb_up1]⟩
  | some v_ =>
    obtain ⟨lv, rfl⟩ := vb_idx_some (by omega) hv
    rw [show sp_guard σ (vb_i v_) = .inl (q_guard (vs_l σ) (vs_x σ) v_) by simp only [sp_guard, hv]]
    have hin := vx_in2 (vx_s (vs_x σ)) v_
    obtain ⟨f, hf, ef⟩ := vb_small (s := vb_set (vb_n (vs_l σ)) (fun w => decide (vx_in (vx_s (vs_x σ)) w = 2))) (vb_below_mono (vb_set_below (by omega) _) hn)
    have hF'h : ∀ w, vb_has (vb_i f) w = true → w < vb_n (vs_l σ) ∧ vx_in (vx_s (vs_x σ)) w = 2 := fun w hw => by
      rw [← ef, vb_has_set _ (by omega), Bool.and_eq_true] at hw
      exact ⟨of_decide_eq_true hw.1, of_decide_eq_true hw.2⟩
    have loop : (vx_in (vx_s (vs_x σ)) v_) ≠ 2 → ∀ j, j ≤ f + 1 → ∀ (I1 : Nat → Nat → Int32) (y6 : Value), vm_qf I I1 → I1 60 0 = vb_i 0 → mm_W G d 242 (mm_blk 242 44) [.ref 60, .int (vb_i v_), .int (vb_i (vx_in (vx_s (vs_x σ)) v_)), .int (vb_i f), .int (vg_bst (fun j => vb_tk (vs_l σ) (vx_s (vs_x σ) (vx_in (vx_s (vs_x σ)) v_) ||| j) (vx_s (vs_x σ) (1 - (vx_in (vx_s (vs_x σ)) v_))) v_ (vb_i (vx_e (vs_x σ))) == 0) (vb_i f) j), .int (vb_i j), y6] [] (I1, P, J, S, nc, ns) (vm_RV (.inl (q_guard (vs_l σ) (vs_x σ) v_)) (fun I' => vm_qf I I') P J S nc ns) := by
      intro h2
      have hs2 : (vx_in (vx_s (vs_x σ)) v_) < 2 := by omega
      refine vb_down (f + 1) ?_
      intro j hj ih I1 y6 hq1 thr1
      have dN1 := dN.qf hq1
      have dM1 := vmd_l dN1
      have hR1 := vmd_x dN1
      have hcj := vb_cnt_le 10 (vb_has (vb_i j))
      have hcb := vb_cnt_le 10 (vb_has (vg_bst (fun j => vb_tk (vs_l σ) (vx_s (vs_x σ) (vx_in (vx_s (vs_x σ)) v_) ||| j) (vx_s (vs_x σ) (1 - (vx_in (vx_s (vs_x σ)) v_))) v_ (vb_i (vx_e (vs_x σ))) == 0) (vb_i f) j))
      have inner : j ≤ f → vb_i j &&& ~~~ vb_i f = 0 → (vg_bst (fun j => vb_tk (vs_l σ) (vx_s (vs_x σ) (vx_in (vx_s (vs_x σ)) v_) ||| j) (vx_s (vs_x σ) (1 - (vx_in (vx_s (vs_x σ)) v_))) v_ (vb_i (vx_e (vs_x σ))) == 0) (vb_i f) j = -1 ∨ vb_cnt 10 (vb_has (vb_i j)) < vb_cnt 10 (vb_has (vg_bst (fun j => vb_tk (vs_l σ) (vx_s (vs_x σ) (vx_in (vx_s (vs_x σ)) v_) ||| j) (vx_s (vs_x σ) (1 - (vx_in (vx_s (vs_x σ)) v_))) v_ (vb_i (vx_e (vs_x σ))) == 0) (vb_i f) j))) → ∀ i, i ≤ vb_n (vs_l σ) → ∀ (I2 : Nat → Nat → Int32), vm_qf I I2 → I2 60 0 = vb_i 0 → vm_row (vs_l σ) (I2 76) 46 (vg_x (vs_x σ) (vx_in (vx_s (vs_x σ)) v_) (vb_set i (vb_has (vb_i j)))) (vx_tn (vs_x σ)) → mm_W G d 242 (mm_blk 242 91) [.ref 60, .int (vb_i v_), .int (vb_i (vx_in (vx_s (vs_x σ)) v_)), .int (vb_i f), .int (vg_bst (fun j => vb_tk (vs_l σ) (vx_s (vs_x σ) (vx_in (vx_s (vs_x σ)) v_) ||| j) (vx_s (vs_x σ) (1 - (vx_in (vx_s (vs_x σ)) v_))) v_ (vb_i (vx_e (vs_x σ))) == 0) (vb_i f) j), .int (vb_i j), .int (vb_i i)] [] (I2, P, J, S, nc, ns) (vm_RV (.inl (q_guard (vs_l σ) (vs_x σ) v_)) (fun I' => vm_qf I I') P J S nc ns) := by
        intro hjf hj0 hj1
        have hsub := vg_sub0 hj0
        have hg2 : ∀ w, vb_has (vb_i j) w = true → vx_in (vx_s (vs_x σ)) w = 2 := fun w hw => (hF'h w (hsub w hw)).2
        have hgi : ∀ i, i ≤ vb_n (vs_l σ) → ∀ w, vb_has (vb_set i (vb_has (vb_i j))) w = true → vx_in (vx_s (vs_x σ)) w = 2 := fun i hi w hw => by
          rw [vb_has_set _ (by omega), Bool.and_eq_true] at hw
          exact hg2 w hw.2
        have hvj : vb_has (vb_i j) v_ = false := by
          cases e : vb_has (vb_i j) v_ with
          | false => rfl
          | true => exact absurd (hg2 v_ e) h2
        refine vb_down (vb_n (vs_l σ)) ?_
        intro i hi ih2 I2 hq2 thr2 hS2
        have dN2 := dN.qf hq2
        have dM2 := vmd_l dN2
        have hR2 := vmd_x dN2
        refine mm_w1 rfl ?_
        refine mm_w1 rfl ?_
        refine mm_wgiv _ (vM_S60 hM) (by decide) (by decide) (vm_n dM2) ?_
        refine mm_nicge (by omega) (by omega) ?_ ?_
        · intro h97
          have hSn : vm_row (vs_l σ) (I2 76) 46 (vg_x (vs_x σ) (vx_in (vx_s (vs_x σ)) v_) (vb_i j)) (vx_tn (vs_x σ)) := by
            have e : vb_i j = vb_set (vb_n (vs_l σ)) (vb_has (vb_i j)) := vb_eq_set (by omega) (fun w hw => (hF'h w (hsub w hw)).1) (fun _ _ => rfl)
            rw [show i = vb_n (vs_l σ) by omega, ← e] at hS2
            exact hS2
          have hinn : vx_in (vx_s (vg_x (vs_x σ) (vx_in (vx_s (vs_x σ)) v_) (vb_i j))) v_ = (vx_in (vx_s (vs_x σ)) v_) := by rw [vg_in hs2 (hg2 v_), if_neg (by rw [hvj]; decide)]
          have hstn : ∀ s, s < 2 → vb_has (vx_s (vg_x (vs_x σ) (vx_in (vx_s (vs_x σ)) v_) (vb_i j)) (1 - s)) v_ = true → vb_has (vx_f (vg_x (vs_x σ) (vx_in (vx_s (vs_x σ)) v_) (vb_i j)) s) v_ = false := fun s hs hh => by
            refine hst s hs v_ ?_
            by_cases e : 1 - s = (vx_in (vx_s (vs_x σ)) v_)
            · rw [e, vg_own, vb_has_or, hvj, Bool.or_false] at hh
              rw [e]; exact hh
            · rw [show vx_s (vg_x (vs_x σ) (vx_in (vx_s (vs_x σ)) v_) (vb_i j)) (1 - s) = vx_s (vs_x σ) (1 - s) by rw [vg_s, if_neg e]] at hh; exact hh
          refine mm_w1 rfl ?_ 
          refine mm_wv (vb_i 46) rfl (by decide) ?_
          refine mm_w1 rfl ?_
          refine mm_cvi (vb_cv (vM_S60 hM) rfl rfl rfl rfl) (by decide) (by omega) (m_takenW (sd := (vx_in (vx_s (vs_x σ)) v_)) hM dM2 hSn (by decide) hli hlb (vg_dj hsj hs2 hg2) hfj hstn (by omega) (by omega) hs2 hinn) ?_
          rw [vg_own, vg_foe _ hs2, show vx_e (vg_x (vs_x σ) (vx_in (vx_s (vs_x σ)) v_) (vb_i j)) = vx_e (vs_x σ) from rfl]
          intro I3 hf3
          have hq3 := hq2.tr (vm_qf.of8 hf3)
          have dN3 := dN.qf hq3
          have dM3 := vmd_l dN3
          have hR3 := vmd_x dN3
          have thr3 : I3 60 0 = vb_i 0 := by rw [hf3 60 (by simp only [vm_s8]; decide)]; exact thr2
          refine mm_bifeq ?_ ?_
          · intro h135
            refine mm_w1 rfl ?_
            refine mm_w1 (ls' := [_, _, _, _, _, _, _]) rfl ?_
            refine mm_nincL (ls' := [_, _, _, _, _, _, _]) 1 rfl (by decide) rfl ?_
            refine mm_wgoto ?_
            have ih := fun y => ih (by omega) _ y hq3 thr3
            rw [vg_bst, vg_stp, if_pos hj0, if_pos hj1] at ih
            first
              | (rw [if_pos (by first | exact (Bool.not_eq_false' _).mp h135 | (rw [Bool.not_eq_false'] at h135; exact h135))] at ih; exact ih _)
              | (rw [if_neg (by rw [Bool.not_eq_true]; first | exact (Bool.not_eq_true' _).mp h135 | (rw [Bool.not_eq_true'] at h135; exact h135))] at ih; exact ih _)
          · intro h135
            refine mm_w1 rfl ?_
            refine mm_wgoto ?_
            refine mm_w1 (ls' := [_, _, _, _, _, _, _]) rfl ?_
            refine mm_nincL (ls' := [_, _, _, _, _, _, _]) 1 rfl (by decide) rfl ?_
            refine mm_wgoto ?_
            have ih := fun y => ih (by omega) _ y hq3 thr3
            rw [vg_bst, vg_stp, if_pos hj0, if_pos hj1] at ih
            first
              | (rw [if_pos (by first | exact (Bool.not_eq_false' _).mp h135 | (rw [Bool.not_eq_false'] at h135; exact h135))] at ih; exact ih _)
              | (rw [if_neg (by rw [Bool.not_eq_true]; first | exact (Bool.not_eq_true' _).mp h135 | (rw [Bool.not_eq_true'] at h135; exact h135))] at ih; exact ih _)
        · intro h97
          refine mm_w1 rfl ?_
          refine mm_w1 rfl ?_
          refine mm_w1 rfl ?_
          refine mm_wv (vb_i 1) rfl (by decide) ?_
          refine mm_wv (vb_b (vb_has _ _)) rfl (vb_shr1 _ (by omega)) ?_
          refine mm_wv (vb_i 1) rfl (by decide) ?_
          refine mm_wicne ?_ ?_
          · intro h108
            refine mm_nincL (ls' := [_, _, _, _, _, _, _]) 1 rfl (by decide) rfl ?_
            refine mm_wgoto ?_
            first
              | exact ih2 (by omega) _ hq2 thr2 hS2
              | (refine ih2 (by omega) _ hq2 thr2 ?_
                 rw [vb_set_s0 (Bool.eq_false_iff.mpr (fun e => h108 (vb_b_eq1.mpr e)))]; exact hS2)
          · intro h108
            refine mm_w1 rfl ?_
            refine mm_wgr (vM_S60 hM) (by decide) (by decide) (vM_P60_38 hM) (vM_a76 hM) ?_
            refine mm_wv (vb_i 46) rfl (by decide) ?_
            refine mm_w1 rfl ?_
            refine mm_nadd ?_
            refine mm_w1 rfl ?_
            refine mm_wisN (vM_S76 hM) (by decide) (by omega) ?_
            intro I3 hI3
            have hq3 : vm_qf I I3 := hq2.tr (vm_qf.of76 (by rw [hI3]; exact vb_fr.rf.up1) (fun j hj => by rw [hI3, vb_up2 _ _ (by omega)]))
            have thr3 : I3 60 0 = vb_i 0 := by rw [hI3, vb_up3 _ _ (by decide)]; exact thr2
            have hji : vb_has (vb_i j) i = true := vb_b_eq1.mp h108
            have hS3 : vm_row (vs_l σ) (I3 76) 46 (vg_x (vs_x σ) (vx_in (vx_s (vs_x σ)) v_) (vb_set (i + 1) (vb_has (vb_i j)))) (vx_tn (vs_x σ)) := by
              rw [hI3, vb_set_s1 hji]
              exact vg_row hs2 hn (by omega) (fun w hw => by rw [← vb_set_s1 hji] at hw; exact hgi (i + 1) (by omega) w hw) hS2
            refine mm_nincL (ls' := [_, _, _, _, _, _, _]) 1 rfl (by decide) rfl ?_
            refine mm_wgoto ?_
            first
              | exact ih2 (by omega) _ hq3 thr3 hS3
              | (refine ih2 (by omega) _ hq3 thr3 ?_
                 rw [vb_set_s0 (Bool.eq_false_iff.mpr (fun e => h108 (vb_b_eq1.mpr e)))]; exact hS3)
      refine mm_w1 rfl ?_
      refine mm_w1 rfl ?_
      refine mm_nicgt (by omega) (by omega) ?_ ?_
      · intro h47
        refine mm_w1 rfl ?_
        refine mm_wr rfl rfl rfl ?_
        refine ⟨_, _, rfl, hq1, ?_, thr1⟩
        rw [q_guard, if_neg h2, show j = f + 1 by omega, vg_fin _ hn hlb hsj lv hs2 ef hf]
      · intro h47
        refine mm_w1 rfl ?_
        refine mm_w1 rfl ?_
        refine mm_wv (-1) rfl (by decide) ?_
        refine mm_nnot ?_
        refine mm_w1 rfl ?_
        refine mm_wifne ?_ ?_
        · intro h56
          refine mm_nincL (ls' := [_, _, _, _, _, _, _]) 1 rfl (by decide) rfl ?_
          refine mm_wgoto ?_
          have ih := fun y => ih (by omega) _ y hq1 thr1
          first
            | (rw [vg_bst, vg_stp, if_neg h56] at ih; exact ih _)
            | (rw [vg_bst, vg_stp, if_pos h56, if_neg (by intro h; rcases h with h | h; exact h62 h; exact h75 h)] at ih; exact ih _)
        · intro h56
          refine mm_w1 rfl ?_
          refine mm_wv (-1) rfl (by decide) ?_
          refine mm_wiceq ?_ ?_
          · intro h62
            refine mm_w1 rfl ?_
            refine mm_wv (vb_i 0) rfl (by decide) ?_
            refine mm_wv (vb_i 46) rfl (by decide) ?_
            refine mm_cvn (vb_cv (vM_S60 hM) rfl rfl rfl rfl) (by decide) (by omega) (m_lays0 hM (by decide) (by decide) (by decide)) ?_
            intro I2 hq02
            obtain ⟨hc2, ho2, hf2⟩ := hq02
            have hq2 := hq1.tr (vm_qf.of76 hf2 (fun j hj => ho2 j (by omega)))
            have dN2 := dN.qf hq2
            have dM2 := vmd_l dN2
            have hR2 := vmd_x dN2
            have thr2 : I2 60 0 = vb_i 0 := by rw [hf2 60 (by decide)]; exact thr1
            have hS2 : vm_row (vs_l σ) (I2 76) 46 (vs_x σ) (vx_tn (vs_x σ)) := hR1.mv hn hc2
            refine mm_wv (vb_i 0) rfl (by decide) ?_
            refine mm_w1 (ls' := [_, _, _, _, _, _, _]) rfl ?_
            refine inner (by omega) h56 (by first | exact Or.inl h62 | exact Or.inr h75) 0 (by omega) _ hq2 thr2 ?_
            rw [show vb_set 0 (vb_has (vb_i j)) = 0 from rfl, vg_x0]; exact hS2
          · intro h62
            refine mm_w1 rfl ?_
            refine mm_csp rfl (by decide) (by omega) m_bits ?_
            refine mm_w1 rfl ?_
            refine mm_csp rfl (by decide) (by omega) m_bits ?_
            refine mm_niclt (by omega) (by omega) ?_ ?_
            · intro h75
              refine mm_w1 rfl ?_
              refine mm_wv (vb_i 0) rfl (by decide) ?_
              refine mm_wv (vb_i 46) rfl (by decide) ?_
              refine mm_cvn (vb_cv (vM_S60 hM) rfl rfl rfl rfl) (by decide) (by omega) (m_lays0 hM (by decide) (by decide) (by decide)) ?_
              intro I2 hq02
              obtain ⟨hc2, ho2, hf2⟩ := hq02
              have hq2 := hq1.tr (vm_qf.of76 hf2 (fun j hj => ho2 j (by omega)))
              have dN2 := dN.qf hq2
              have dM2 := vmd_l dN2
              have hR2 := vmd_x dN2
              have thr2 : I2 60 0 = vb_i 0 := by rw [hf2 60 (by decide)]; exact thr1
              have hS2 : vm_row (vs_l σ) (I2 76) 46 (vs_x σ) (vx_tn (vs_x σ)) := hR1.mv hn hc2
              refine mm_wv (vb_i 0) rfl (by decide) ?_
              refine mm_w1 (ls' := [_, _, _, _, _, _, _]) rfl ?_
              refine inner (by omega) h56 (by first | exact Or.inl h62 | exact Or.inr h75) 0 (by omega) _ hq2 thr2 ?_
              rw [show vb_set 0 (vb_has (vb_i j)) = 0 from rfl, vg_x0]; exact hS2
            · intro h75
              refine mm_wgoto ?_
              refine mm_nincL (ls' := [_, _, _, _, _, _, _]) 1 rfl (by decide) rfl ?_
              refine mm_wgoto ?_
              have ih := fun y => ih (by omega) _ y hq1 thr1
              first
                | (rw [vg_bst, vg_stp, if_neg h56] at ih; exact ih _)
                | (rw [vg_bst, vg_stp, if_pos h56, if_neg (by intro h; rcases h with h | h; exact h62 h; exact h75 h)] at ih; exact ih _)
    show mm_W _ _ 242 (mm_blk 242 0) [.ref 60, .int (vb_i v_), .null, .null, .null, .null, .null] [] _ _
    refine mm_w1 rfl ?_
    refine mm_wv (vb_i 0) rfl (by decide) ?_
    refine mm_wpiN (vM_S60 hM) (by decide) (by decide) ?_
    intro I1 hI1
    have hq1 : vm_qf I I1 := by rw [hI1]; exact vm_qf.thr _
    have dN1 := dN.qf hq1
    have dM1 := vmd_l dN1
    have hR1 := vmd_x dN1
    have thr1 : I1 60 0 = vb_i 0 := by rw [hI1, vb_up1]
    refine mm_w1 rfl ?_
    refine mm_w1 rfl ?_
    refine mm_cvp (vb_cv (vM_S60 hM) rfl rfl rfl rfl) (by decide) (by omega) (m_isV_t hM dM1 thr1 (by omega) (by omega)) ?_
    refine mm_nifne (by decide) (fun _ => ?_) (fun h => absurd h (by decide))
    refine mm_w1 rfl ?_
    refine mm_wgr (vM_S60 hM) (by decide) (by decide) (vM_P60_38 hM) (vM_a76 hM) ?_
    refine mm_wv (vb_i 0) rfl (by decide) ?_
    refine mm_w1 rfl ?_
    refine mm_nadd ?_
    refine mm_wiav (vb_i (vx_in (vx_s (vs_x σ)) v_)) (vM_a76 hM) (vM_S76 hM) (by decide) (by omega) (vm_rs hR1 lv) ?_
    refine mm_w1 (ls' := [_, _, _, _, _, _, _]) rfl ?_
    refine mm_w1 rfl ?_
    refine mm_wv (vb_i 2) rfl (by decide) ?_
    refine mm_nicne (by omega) (by omega) ?_ ?_
    · intro h26
      refine mm_w1 rfl ?_
      refine mm_wv (vb_i 0) rfl (by decide) ?_
      refine mm_wv (vb_i 2) rfl (by decide) ?_
      refine mm_cvp (vb_cv (vM_S60 hM) rfl rfl rfl rfl) (by decide) (by omega) (m_stones hM dM1 hR1 (by decide) (by omega)) ?_
      rw [ef] 
      refine mm_w1 (ls' := [_, _, _, _, _, _, _]) rfl ?_
      refine mm_wv (-1) rfl (by decide) ?_
      refine mm_w1 (ls' := [_, _, _, _, _, _, _]) rfl ?_
      refine mm_wv (vb_i 0) rfl (by decide) ?_
      refine mm_w1 (ls' := [_, _, _, _, _, _, _]) rfl ?_
      exact loop h26 0 (by omega) _ _ hq1 thr1
    · intro h26
      refine mm_wv (-1) rfl (by decide) ?_
      refine mm_wr rfl rfl rfl ?_
      refine ⟨_, _, rfl, hq1, ?_, thr1⟩
      rw [q_guard, if_pos h26]
      first
        | done
        | rfl
end NGUARD
