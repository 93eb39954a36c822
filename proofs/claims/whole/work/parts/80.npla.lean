section NPLA
variable {G : mm_G} {d : Nat} {I : Nat → Nat → Int32} {P : Nat → Nat → Nat} {J : Nat → Nat → Int64} {S : List (Nat × Nat)} {nc ns : Nat} {μ : mm_M} {σ : vb_St}
theorem vm_tkc {ℓ : vb_L} {x : vb_X} {sd to : Nat} (hn : vb_n ℓ ≤ 10) : vb_cnt 10 (vb_has (vb_tk ℓ (vx_s x sd) (vx_s x (1 - sd)) to (vb_i (vx_e x)))) = vb_cnt (vb_n ℓ) (vm_tkf ℓ x sd to) := by
  rw [vm_tks, vb_cnt_up (n := vb_n ℓ) hn (fun v hv => vb_has_below (vb_set_below (by omega) _) hv)]
  exact vb_cnt_congr (fun v hv => by rw [vb_has_set _ (by omega), decide_eq_true hv, Bool.true_and])
theorem vx_msT_len (ℓ : vb_L) (x : vb_X) (t : Nat) : (vx_msT ℓ x t).length ≤ 100 := by
  rw [vx_msT]
  refine Nat.le_trans (List.length_filter_le _ _) ?_
  rw [List.length_range']; exact Nat.sub_le _ _
theorem q_fk_eq {ℓ : vb_L} {x : vb_X} {t m : Nat} (ht : t < 2) (hm : m < 100) : vb_i (vb_cnt 10 (vb_has (vb_ep ℓ (vx_s (vx_doT ℓ x t m) (1 - t)) (vx_s (vx_doT ℓ x t m) (1 - (1 - t))) (vb_i (vx_e (vx_doT ℓ x t m)))))) = q_fk ℓ x t m := by
  rw [q_fk, vm_doT_foe ht (by omega), show 1 - (1 - t) = t by omega, vm_doT_own (by omega), vm_af_e]
theorem n_plant (hM : vm_isM P S) (dN : vm_MD σ I) (hI : vs_inv σ) (hlb : vl_bel (vs_l σ)) (hd : 20 ≤ d) (v w : Int32) : mm_C G d 225 [.ref 60, .int v, .int w] (I, P, J, S, nc, ns) (vm_RV (sp_plant σ v w) (fun I' => vm_qf I I') P J S nc ns) := by
  obtain ⟨hli, hIx, hIa, hIi⟩ := hI
  obtain ⟨hok, hwf, he9⟩ := hIx
  have hsj := hwf.sj
  have hfj := hwf.fj
  have hst := hwf.ws
  have dM := vmd_l dN
  have hR := vmd_x dN
  have hn := vm_10 dM
  have ht := vx_t2 (vs_x σ)
  have hs3 := vm_sc3 dM
  cases hv : vb_idx (vb_n (vs_l σ)) v with
  | none =>
    rw [show sp_plant σ v w = .inr 0 by simp only [sp_plant, hv]]
    show mm_W _ _ 225 (mm_blk 225 0) [.ref 60, .int v, .int w, .null, .null, .null] [] _ _
    refine mm_w1 rfl ?_
    refine mm_wv (vb_i 0) rfl (by decide) ?_
    refine mm_wpiN (vM_S60 hM) (by decide) (by decide) ?_
    intro I1 hI1
    have hq1 : vm_qf I I1 := by rw [hI1]; exact vm_qf.thr _
    have dN1 := dN.qf hq1
    have dM1 := vmd_l dN1
    have hR1 := vmd_x dN1
    have thr1 : I1 60 0 = vb_i 0 := by rw [hI1, vb_up1]
    refine mm_w1 rfl ?_
    refine mm_w1 rfl ?_
    refine mm_cvi (vb_cv (vM_S60 hM) rfl rfl rfl rfl) (by decide) (by omega) (m_isV_f hM dM1 thr1 hv (by omega)) ?_
    intro I2 hI2 
    refine mm_nifeq (by decide) (fun _ => ?_) (fun h => absurd rfl h)
    refine mm_wv (vb_i 0) rfl (by decide) ?_
    refine mm_wr rfl rfl rfl ?_
    exact ⟨_, _, rfl, hq1.tr (by rw [hI2]; exact vm_qf.thr _), by rw [hI2, vb_up1]⟩
  | some v_ =>
    obtain ⟨lv, rfl⟩ := vb_idx_some (by omega) hv
    cases hw : vb_idx 3 w with
    | none =>
      rw [show sp_plant σ (vb_i v_) w = .inr 0 by simp only [sp_plant, hv, hw]]
      show mm_W _ _ 225 (mm_blk 225 0) [.ref 60, .int (vb_i v_), .int w, .null, .null, .null] [] _ _
      refine mm_w1 rfl ?_
      refine mm_wv (vb_i 0) rfl (by decide) ?_
      refine mm_wpiN (vM_S60 hM) (by decide) (by decide) ?_
      intro I1 hI1
      have hq1 : vm_qf I I1 := by rw [hI1]; exact vm_qf.thr _
      have dN1 := dN.qf hq1
      have dM1 := vmd_l dN1
      have hR1 := vmd_x dN1
      have thr1 : I1 60 0 = vb_i 0 := by rw [hI1, vb_up1]
      refine mm_w1 rfl ?_
      refine mm_w1 rfl ?_
      refine mm_cvp (vb_cv (vM_S60 hM) rfl rfl rfl rfl) (by decide) (by omega) (m_isV_t hM dM1 thr1 (by omega) (by omega)) ?_
      refine mm_nifeq (by decide) (fun h => absurd h (by decide)) (fun _ => ?_)
      refine mm_w1 rfl ?_
      refine mm_w1 rfl ?_
      refine mm_wv (vb_i 2) rfl (by decide) ?_
      refine mm_cvi (vb_cv (vM_S60 hM) rfl rfl rfl rfl) (by decide) (by omega) (m_isW_f hM thr1 hw (by omega) (by omega)) ?_
      intro I2 hI2 
      refine mm_nifne (by decide) (fun h => absurd rfl h) (fun _ => ?_)
      refine mm_wv (vb_i 0) rfl (by decide) ?_
      refine mm_wr rfl rfl rfl ?_
      exact ⟨_, _, rfl, hq1.tr (by rw [hI2]; exact vm_qf.thr _), by rw [hI2, vb_up1]⟩
    | some w_ =>
      obtain ⟨lw, rfl⟩ := vb_idx_some (by decide) hw
      have hin := vx_in2 (vx_s (vs_x σ)) v_
      have hk : w_ = 0 ∨ w_ = 1 ∨ w_ = 2 := by omega
      rcases hk with rfl | rfl | rfl
      · rw [show sp_plant σ (vb_i v_) (vb_i 0) = .inl (q_plant (vs_l σ) (vs_x σ) v_ 0) by simp only [sp_plant, hv, hw]]
        have loop : (vx_in (vx_s (vs_x σ)) v_) ≠ 2 → ∀ i, i ≤ vb_n (vs_l σ) → ∀ (I1 : Nat → Nat → Int32), vm_qf I I1 → I1 60 0 = vb_i 0 → mm_W G d 225 (mm_blk 225 46) [.ref 60, .int (vb_i v_), .int (vb_i 0), .int (vb_i (vx_in (vx_s (vs_x σ)) v_)), .int (vb_i (vb_cnt i (vm_tkf (vs_l σ) (vs_x σ) (vx_in (vx_s (vs_x σ)) v_) v_))), .int (vb_i i)] [] (I1, P, J, S, nc, ns) (vm_RV (.inl (q_plant (vs_l σ) (vs_x σ) v_ 0)) (fun I' => vm_qf I I') P J S nc ns) := by
          intro h2
          refine vb_down (vb_n (vs_l σ)) ?_
          intro i hi ih I1 hq1 thr1
          have dN1 := dN.qf hq1
          have dM1 := vmd_l dN1
          have hR1 := vmd_x dN1
          have hini := vx_in2 (vx_s (vs_x σ)) i
          have hci := vb_cnt_le i (vm_tkf (vs_l σ) (vs_x σ) (vx_in (vx_s (vs_x σ)) v_) v_)
          have hcs : vb_cnt (i + 1) (vm_tkf (vs_l σ) (vs_x σ) (vx_in (vx_s (vs_x σ)) v_) v_) = vb_cnt i (vm_tkf (vs_l σ) (vs_x σ) (vx_in (vx_s (vs_x σ)) v_) v_) + ((vm_tkf (vs_l σ) (vs_x σ) (vx_in (vx_s (vs_x σ)) v_) v_) i).toNat := rfl
          have hml := vx_msT_len (vs_l σ) (vs_x σ) (1 - (vx_in (vx_s (vs_x σ)) v_))
          have hs2 : (vx_in (vx_s (vs_x σ)) v_) < 2 := by omega
          have e1 : 1 - (1 - (vx_in (vx_s (vs_x σ)) v_)) = (vx_in (vx_s (vs_x σ)) v_) := by omega
          have hpl : q_plant (vs_l σ) (vs_x σ) v_ 0 = vb_i (vb_cnt (vb_n (vs_l σ)) (vm_tkf (vs_l σ) (vs_x σ) (vx_in (vx_s (vs_x σ)) v_) v_)) := by
            rw [q_plant, if_neg h2]
            simp only [vm_tkc hn]
            first
              | (rw [vx_msT, e1]; rfl)
              | rfl
          refine mm_w1 rfl ?_
          refine mm_w1 rfl ?_
          refine mm_wgiv _ (vM_S60 hM) (by decide) (by decide) (vm_n dM1) ?_
          refine mm_nicge (by omega) (by omega) ?_ ?_
          · intro h52
            refine mm_w1 rfl ?_
            refine mm_wv (vb_i 0) rfl (by decide) ?_
            refine mm_wv (vb_i 1) rfl (by decide) ?_
            refine mm_w1 rfl ?_
            refine mm_nsub (by omega) ?_
            refine mm_cvi (vb_cv (vM_S60 hM) rfl rfl rfl rfl) (by decide) (by omega) (m_moves (sd := 1 - (vx_in (vx_s (vs_x σ)) v_)) hM dM1 hR1 (by decide) hli hlb hsj hfj hst (by omega) (by omega)) ?_
            intro I2 hf2
            have hq2 := hq1.tr (vm_qf.of8 hf2)
            have dN2 := dN.qf hq2
            have dM2 := vmd_l dN2
            have hR2 := vmd_x dN2
            have thr2 : I2 60 0 = vb_i 0 := by rw [hf2 60 (by simp only [vm_s8]; decide)]; exact thr1
            refine mm_wv (vb_i 1) rfl (by decide) ?_
            refine mm_nadd ?_
            refine mm_w1 (ls' := [_, _, _, _, _, _]) rfl ?_
            refine mm_w1 rfl ?_
            refine mm_nifne (by decide) (fun h => absurd rfl h) (fun _ => ?_)
            refine mm_w1 rfl ?_
            refine mm_wgoto ?_
            refine mm_wr rfl rfl rfl ?_
            refine ⟨_, _, rfl, hq2, ?_, thr2⟩
            rw [hpl]
            rw [show i = vb_n (vs_l σ) by omega] 
          · intro h52
            refine mm_w1 rfl ?_
            refine mm_w1 rfl ?_
            refine mm_wgr (vM_S60 hM) (by decide) (by decide) (vM_P60_38 hM) (vM_a76 hM) ?_
            refine mm_wv (vb_i 0) rfl (by decide) ?_
            refine mm_w1 rfl ?_
            refine mm_nadd ?_
            refine mm_wiav (vb_i (vx_in (vx_s (vs_x σ)) i)) (vM_a76 hM) (vM_S76 hM) (by decide) (by omega) (vm_rs hR1 (by omega)) ?_
            refine mm_wv (vb_i 1) rfl (by decide) ?_
            refine mm_w1 rfl ?_
            refine mm_nsub (by omega) ?_
            refine mm_nicne (by omega) (by omega) ?_ ?_
            · intro h69
              refine mm_wv (vb_i 0) rfl (by decide) ?_
              refine mm_nadd ?_
              refine mm_w1 (ls' := [_, _, _, _, _, _]) rfl ?_
              refine mm_nincL (ls' := [_, _, _, _, _, _]) 1 rfl (by decide) rfl ?_
              refine mm_wgoto ?_
              have ih := ih (by omega) _ hq1 thr1
              rw [hcs] at ih
              first
                | (rw [show (vm_tkf (vs_l σ) (vs_x σ) (vx_in (vx_s (vs_x σ)) v_) v_) i = false from vm_tk0 hsj hs2 h69] at ih; exact ih)
                | (rw [show (vm_tkf (vs_l σ) (vs_x σ) (vx_in (vx_s (vs_x σ)) v_) v_) i = true by rw [← vm_tk1 hn hli hsj hs2 lv (by omega) rfl h69, h80]] at ih; exact ih)
                | (rw [show (vm_tkf (vs_l σ) (vs_x σ) (vx_in (vx_s (vs_x σ)) v_) v_) i = false by rw [← vm_tk1 hn hli hsj hs2 lv (by omega) rfl h69, h80]] at ih; exact ih)
            · intro h69
              refine mm_w1 rfl ?_
              refine mm_wv (vb_i 0) rfl (by decide) ?_
              refine mm_w1 rfl ?_
              refine mm_w1 rfl ?_
              refine mm_cvi (vb_cv (vM_S60 hM) rfl rfl rfl rfl) (by decide) (by omega) (m_mayGo hM dM1 hR1 (by decide) hli hlb hsj hfj (fun s hs h => hst s hs _ h) (by omega) (by omega) (by omega)) ?_
              intro I2 hf2
              have hq2 := hq1.tr (vm_qf.of8 hf2)
              have dN2 := dN.qf hq2
              have dM2 := vmd_l dN2
              have hR2 := vmd_x dN2
              have thr2 : I2 60 0 = vb_i 0 := by rw [hf2 60 (by simp only [vm_s8]; decide)]; exact thr1
              refine mm_bifeq ?_ ?_
              · intro h80
                refine mm_wv (vb_i 0) rfl (by decide) ?_
                refine mm_nadd ?_
                refine mm_w1 (ls' := [_, _, _, _, _, _]) rfl ?_
                refine mm_nincL (ls' := [_, _, _, _, _, _]) 1 rfl (by decide) rfl ?_
                refine mm_wgoto ?_
                have ih := ih (by omega) _ hq2 thr2
                rw [hcs] at ih
                first
                  | (rw [show (vm_tkf (vs_l σ) (vs_x σ) (vx_in (vx_s (vs_x σ)) v_) v_) i = false from vm_tk0 hsj hs2 h69] at ih; exact ih)
                  | (rw [show (vm_tkf (vs_l σ) (vs_x σ) (vx_in (vx_s (vs_x σ)) v_) v_) i = true by rw [← vm_tk1 hn hli hsj hs2 lv (by omega) rfl h69, h80]] at ih; exact ih)
                  | (rw [show (vm_tkf (vs_l σ) (vs_x σ) (vx_in (vx_s (vs_x σ)) v_) v_) i = false by rw [← vm_tk1 hn hli hsj hs2 lv (by omega) rfl h69, h80]] at ih; exact ih)
              · intro h80
                refine mm_wv (vb_i 1) rfl (by decide) ?_
                refine mm_wgoto ?_
                refine mm_nadd ?_
                refine mm_w1 (ls' := [_, _, _, _, _, _]) rfl ?_
                refine mm_nincL (ls' := [_, _, _, _, _, _]) 1 rfl (by decide) rfl ?_
                refine mm_wgoto ?_
                have ih := ih (by omega) _ hq2 thr2
                rw [hcs] at ih
                first
                  | (rw [show (vm_tkf (vs_l σ) (vs_x σ) (vx_in (vx_s (vs_x σ)) v_) v_) i = false from vm_tk0 hsj hs2 h69] at ih; exact ih)
                  | (rw [show (vm_tkf (vs_l σ) (vs_x σ) (vx_in (vx_s (vs_x σ)) v_) v_) i = true by rw [← vm_tk1 hn hli hsj hs2 lv (by omega) rfl h69, h80]] at ih; exact ih)
                  | (rw [show (vm_tkf (vs_l σ) (vs_x σ) (vx_in (vx_s (vs_x σ)) v_) v_) i = false by rw [← vm_tk1 hn hli hsj hs2 lv (by omega) rfl h69, h80]] at ih; exact ih)
        show mm_W _ _ 225 (mm_blk 225 0) [.ref 60, .int (vb_i v_), .int (vb_i 0), .null, .null, .null] [] _ _
        refine mm_w1 rfl ?_
        refine mm_wv (vb_i 0) rfl (by decide) ?_
        refine mm_wpiN (vM_S60 hM) (by decide) (by decide) ?_
        intro I1 hI1
        have hq1 : vm_qf I I1 := by rw [hI1]; exact vm_qf.thr _
        have dN1 := dN.qf hq1
        have dM1 := vmd_l dN1
        have hR1 := vmd_x dN1
        have thr1 : I1 60 0 = vb_i 0 := by rw [hI1, vb_up1]
        refine mm_w1 rfl ?_
        refine mm_w1 rfl ?_
        refine mm_cvp (vb_cv (vM_S60 hM) rfl rfl rfl rfl) (by decide) (by omega) (m_isV_t hM dM1 thr1 (by omega) (by omega)) ?_
        refine mm_nifeq (by decide) (fun h => absurd h (by decide)) (fun _ => ?_)
        refine mm_w1 rfl ?_
        refine mm_w1 rfl ?_
        refine mm_wv (vb_i 2) rfl (by decide) ?_
        refine mm_cvp (vb_cv (vM_S60 hM) rfl rfl rfl rfl) (by decide) (by omega) (m_isW_t hM thr1 (by rw [hw]; rfl) (by decide) (by omega)) ?_
        refine mm_nifne (by decide) (fun _ => ?_) (fun h => absurd h (by decide))
        refine mm_w1 rfl ?_
        refine mm_wgr (vM_S60 hM) (by decide) (by decide) (vM_P60_38 hM) (vM_a76 hM) ?_
        refine mm_wv (vb_i 0) rfl (by decide) ?_
        refine mm_w1 rfl ?_
        refine mm_nadd ?_
        refine mm_wiav (vb_i (vx_in (vx_s (vs_x σ)) v_)) (vM_a76 hM) (vM_S76 hM) (by decide) (by omega) (vm_rs hR1 lv) ?_
        refine mm_w1 (ls' := [_, _, _, _, _, _]) rfl ?_
        refine mm_w1 rfl ?_
        refine mm_wv (vb_i 2) rfl (by decide) ?_
        refine mm_nicne (by omega) (by omega) ?_ ?_
        · intro h35
          refine mm_wv (vb_i 0) rfl (by decide) ?_
          refine mm_w1 (ls' := [_, _, _, _, _, _]) rfl ?_
          refine mm_wv (vb_i 0) rfl (by decide) ?_
          refine mm_w1 (ls' := [_, _, _, _, _, _]) rfl ?_
          exact loop h35 0 (by omega) _ hq1 thr1
        · intro h35
          refine mm_wv (-1) rfl (by decide) ?_
          refine mm_wr rfl rfl rfl ?_
          refine ⟨_, _, rfl, hq1, ?_, thr1⟩
          rw [q_plant, if_pos h35]
      · rw [show sp_plant σ (vb_i v_) (vb_i 1) = .inl (q_plant (vs_l σ) (vs_x σ) v_ 1) by simp only [sp_plant, hv, hw]]
        have loop : (vx_in (vx_s (vs_x σ)) v_) ≠ 2 → ∀ i, i ≤ vb_n (vs_l σ) → ∀ (I1 : Nat → Nat → Int32), vm_qf I I1 → I1 60 0 = vb_i 0 → mm_W G d 225 (mm_blk 225 46) [.ref 60, .int (vb_i v_), .int (vb_i 1), .int (vb_i (vx_in (vx_s (vs_x σ)) v_)), .int (vb_i (vb_cnt i (vm_tkf (vs_l σ) (vs_x σ) (vx_in (vx_s (vs_x σ)) v_) v_))), .int (vb_i i)] [] (I1, P, J, S, nc, ns) (vm_RV (.inl (q_plant (vs_l σ) (vs_x σ) v_ 1)) (fun I' => vm_qf I I') P J S nc ns) := by
          intro h2
          refine vb_down (vb_n (vs_l σ)) ?_
          intro i hi ih I1 hq1 thr1
          have dN1 := dN.qf hq1
          have dM1 := vmd_l dN1
          have hR1 := vmd_x dN1
          have hini := vx_in2 (vx_s (vs_x σ)) i
          have hci := vb_cnt_le i (vm_tkf (vs_l σ) (vs_x σ) (vx_in (vx_s (vs_x σ)) v_) v_)
          have hcs : vb_cnt (i + 1) (vm_tkf (vs_l σ) (vs_x σ) (vx_in (vx_s (vs_x σ)) v_) v_) = vb_cnt i (vm_tkf (vs_l σ) (vs_x σ) (vx_in (vx_s (vs_x σ)) v_) v_) + ((vm_tkf (vs_l σ) (vs_x σ) (vx_in (vx_s (vs_x σ)) v_) v_) i).toNat := rfl
          have hml := vx_msT_len (vs_l σ) (vs_x σ) (1 - (vx_in (vx_s (vs_x σ)) v_))
          have hs2 : (vx_in (vx_s (vs_x σ)) v_) < 2 := by omega
          have e1 : 1 - (1 - (vx_in (vx_s (vs_x σ)) v_)) = (vx_in (vx_s (vs_x σ)) v_) := by omega
          have hpl : q_plant (vs_l σ) (vs_x σ) v_ 1 = vb_i ((vx_msT (vs_l σ) (vs_x σ) (1 - vx_in (vx_s (vs_x σ)) v_)).length + 1) := by
            rw [q_plant, if_neg h2]
            simp only [vm_tkc hn]
            first
              | (rw [vx_msT, e1]; rfl)
              | rfl
          refine mm_w1 rfl ?_
          refine mm_w1 rfl ?_
          refine mm_wgiv _ (vM_S60 hM) (by decide) (by decide) (vm_n dM1) ?_
          refine mm_nicge (by omega) (by omega) ?_ ?_
          · intro h52
            refine mm_w1 rfl ?_
            refine mm_wv (vb_i 0) rfl (by decide) ?_
            refine mm_wv (vb_i 1) rfl (by decide) ?_
            refine mm_w1 rfl ?_
            refine mm_nsub (by omega) ?_
            refine mm_cvi (vb_cv (vM_S60 hM) rfl rfl rfl rfl) (by decide) (by omega) (m_moves (sd := 1 - (vx_in (vx_s (vs_x σ)) v_)) hM dM1 hR1 (by decide) hli hlb hsj hfj hst (by omega) (by omega)) ?_
            intro I2 hf2
            have hq2 := hq1.tr (vm_qf.of8 hf2)
            have dN2 := dN.qf hq2
            have dM2 := vmd_l dN2
            have hR2 := vmd_x dN2
            have thr2 : I2 60 0 = vb_i 0 := by rw [hf2 60 (by simp only [vm_s8]; decide)]; exact thr1
            refine mm_wv (vb_i 1) rfl (by decide) ?_
            refine mm_nadd ?_
            refine mm_w1 (ls' := [_, _, _, _, _, _]) rfl ?_
            refine mm_w1 rfl ?_
            refine mm_nifne (by decide) (fun _ => ?_) (fun h => absurd h (by decide))
            refine mm_w1 rfl ?_
            refine mm_wv (vb_i 1) rfl (by decide) ?_
            refine mm_nicne (by omega) (by omega) ?_ ?_
            · intro h120
              exact absurd rfl h120
            · intro h120
              refine mm_w1 rfl ?_
              refine mm_wgoto ?_
              refine mm_wr rfl rfl rfl ?_
              refine ⟨_, _, rfl, hq2, ?_, thr2⟩
              rw [hpl] 
          · intro h52
            refine mm_w1 rfl ?_
            refine mm_w1 rfl ?_
            refine mm_wgr (vM_S60 hM) (by decide) (by decide) (vM_P60_38 hM) (vM_a76 hM) ?_
            refine mm_wv (vb_i 0) rfl (by decide) ?_
            refine mm_w1 rfl ?_
            refine mm_nadd ?_
            refine mm_wiav (vb_i (vx_in (vx_s (vs_x σ)) i)) (vM_a76 hM) (vM_S76 hM) (by decide) (by omega) (vm_rs hR1 (by omega)) ?_
            refine mm_wv (vb_i 1) rfl (by decide) ?_
            refine mm_w1 rfl ?_
            refine mm_nsub (by omega) ?_
            refine mm_nicne (by omega) (by omega) ?_ ?_
            · intro h69
              refine mm_wv (vb_i 0) rfl (by decide) ?_
              refine mm_nadd ?_
              refine mm_w1 (ls' := [_, _, _, _, _, _]) rfl ?_
              refine mm_nincL (ls' := [_, _, _, _, _, _]) 1 rfl (by decide) rfl ?_
              refine mm_wgoto ?_
              have ih := ih (by omega) _ hq1 thr1
              rw [hcs] at ih
              first
                | (rw [show (vm_tkf (vs_l σ) (vs_x σ) (vx_in (vx_s (vs_x σ)) v_) v_) i = false from vm_tk0 hsj hs2 h69] at ih; exact ih)
                | (rw [show (vm_tkf (vs_l σ) (vs_x σ) (vx_in (vx_s (vs_x σ)) v_) v_) i = true by rw [← vm_tk1 hn hli hsj hs2 lv (by omega) rfl h69, h80]] at ih; exact ih)
                | (rw [show (vm_tkf (vs_l σ) (vs_x σ) (vx_in (vx_s (vs_x σ)) v_) v_) i = false by rw [← vm_tk1 hn hli hsj hs2 lv (by omega) rfl h69, h80]] at ih; exact ih)
            · intro h69
              refine mm_w1 rfl ?_
              refine mm_wv (vb_i 0) rfl (by decide) ?_
              refine mm_w1 rfl ?_
              refine mm_w1 rfl ?_
              refine mm_cvi (vb_cv (vM_S60 hM) rfl rfl rfl rfl) (by decide) (by omega) (m_mayGo hM dM1 hR1 (by decide) hli hlb hsj hfj (fun s hs h => hst s hs _ h) (by omega) (by omega) (by omega)) ?_
              intro I2 hf2
              have hq2 := hq1.tr (vm_qf.of8 hf2)
              have dN2 := dN.qf hq2
              have dM2 := vmd_l dN2
              have hR2 := vmd_x dN2
              have thr2 : I2 60 0 = vb_i 0 := by rw [hf2 60 (by simp only [vm_s8]; decide)]; exact thr1
              refine mm_bifeq ?_ ?_
              · intro h80
                refine mm_wv (vb_i 0) rfl (by decide) ?_
                refine mm_nadd ?_
                refine mm_w1 (ls' := [_, _, _, _, _, _]) rfl ?_
                refine mm_nincL (ls' := [_, _, _, _, _, _]) 1 rfl (by decide) rfl ?_
                refine mm_wgoto ?_
                have ih := ih (by omega) _ hq2 thr2
                rw [hcs] at ih
                first
                  | (rw [show (vm_tkf (vs_l σ) (vs_x σ) (vx_in (vx_s (vs_x σ)) v_) v_) i = false from vm_tk0 hsj hs2 h69] at ih; exact ih)
                  | (rw [show (vm_tkf (vs_l σ) (vs_x σ) (vx_in (vx_s (vs_x σ)) v_) v_) i = true by rw [← vm_tk1 hn hli hsj hs2 lv (by omega) rfl h69, h80]] at ih; exact ih)
                  | (rw [show (vm_tkf (vs_l σ) (vs_x σ) (vx_in (vx_s (vs_x σ)) v_) v_) i = false by rw [← vm_tk1 hn hli hsj hs2 lv (by omega) rfl h69, h80]] at ih; exact ih)
              · intro h80
                refine mm_wv (vb_i 1) rfl (by decide) ?_
                refine mm_wgoto ?_
                refine mm_nadd ?_
                refine mm_w1 (ls' := [_, _, _, _, _, _]) rfl ?_
                refine mm_nincL (ls' := [_, _, _, _, _, _]) 1 rfl (by decide) rfl ?_
                refine mm_wgoto ?_
                have ih := ih (by omega) _ hq2 thr2
                rw [hcs] at ih
                first
                  | (rw [show (vm_tkf (vs_l σ) (vs_x σ) (vx_in (vx_s (vs_x σ)) v_) v_) i = false from vm_tk0 hsj hs2 h69] at ih; exact ih)
                  | (rw [show (vm_tkf (vs_l σ) (vs_x σ) (vx_in (vx_s (vs_x σ)) v_) v_) i = true by rw [← vm_tk1 hn hli hsj hs2 lv (by omega) rfl h69, h80]] at ih; exact ih)
                  | (rw [show (vm_tkf (vs_l σ) (vs_x σ) (vx_in (vx_s (vs_x σ)) v_) v_) i = false by rw [← vm_tk1 hn hli hsj hs2 lv (by omega) rfl h69, h80]] at ih; exact ih)
        show mm_W _ _ 225 (mm_blk 225 0) [.ref 60, .int (vb_i v_), .int (vb_i 1), .null, .null, .null] [] _ _
        refine mm_w1 rfl ?_
        refine mm_wv (vb_i 0) rfl (by decide) ?_
        refine mm_wpiN (vM_S60 hM) (by decide) (by decide) ?_
        intro I1 hI1
        have hq1 : vm_qf I I1 := by rw [hI1]; exact vm_qf.thr _
        have dN1 := dN.qf hq1
        have dM1 := vmd_l dN1
        have hR1 := vmd_x dN1
        have thr1 : I1 60 0 = vb_i 0 := by rw [hI1, vb_up1]
        refine mm_w1 rfl ?_
        refine mm_w1 rfl ?_
        refine mm_cvp (vb_cv (vM_S60 hM) rfl rfl rfl rfl) (by decide) (by omega) (m_isV_t hM dM1 thr1 (by omega) (by omega)) ?_
        refine mm_nifeq (by decide) (fun h => absurd h (by decide)) (fun _ => ?_)
        refine mm_w1 rfl ?_
        refine mm_w1 rfl ?_
        refine mm_wv (vb_i 2) rfl (by decide) ?_
        refine mm_cvp (vb_cv (vM_S60 hM) rfl rfl rfl rfl) (by decide) (by omega) (m_isW_t hM thr1 (by rw [hw]; rfl) (by decide) (by omega)) ?_
        refine mm_nifne (by decide) (fun _ => ?_) (fun h => absurd h (by decide))
        refine mm_w1 rfl ?_
        refine mm_wgr (vM_S60 hM) (by decide) (by decide) (vM_P60_38 hM) (vM_a76 hM) ?_
        refine mm_wv (vb_i 0) rfl (by decide) ?_
        refine mm_w1 rfl ?_
        refine mm_nadd ?_
        refine mm_wiav (vb_i (vx_in (vx_s (vs_x σ)) v_)) (vM_a76 hM) (vM_S76 hM) (by decide) (by omega) (vm_rs hR1 lv) ?_
        refine mm_w1 (ls' := [_, _, _, _, _, _]) rfl ?_
        refine mm_w1 rfl ?_
        refine mm_wv (vb_i 2) rfl (by decide) ?_
        refine mm_nicne (by omega) (by omega) ?_ ?_
        · intro h35
          refine mm_wv (vb_i 0) rfl (by decide) ?_
          refine mm_w1 (ls' := [_, _, _, _, _, _]) rfl ?_
          refine mm_wv (vb_i 0) rfl (by decide) ?_
          refine mm_w1 (ls' := [_, _, _, _, _, _]) rfl ?_
          exact loop h35 0 (by omega) _ hq1 thr1
        · intro h35
          refine mm_wv (-1) rfl (by decide) ?_
          refine mm_wr rfl rfl rfl ?_
          refine ⟨_, _, rfl, hq1, ?_, thr1⟩
          rw [q_plant, if_pos h35]
      · rw [show sp_plant σ (vb_i v_) (vb_i 2) = .inl (q_plant (vs_l σ) (vs_x σ) v_ 2) by simp only [sp_plant, hv, hw]]
        have loop : (vx_in (vx_s (vs_x σ)) v_) ≠ 2 → ∀ i, i ≤ vb_n (vs_l σ) → ∀ (I1 : Nat → Nat → Int32), vm_qf I I1 → I1 60 0 = vb_i 0 → mm_W G d 225 (mm_blk 225 46) [.ref 60, .int (vb_i v_), .int (vb_i 2), .int (vb_i (vx_in (vx_s (vs_x σ)) v_)), .int (vb_i (vb_cnt i (vm_tkf (vs_l σ) (vs_x σ) (vx_in (vx_s (vs_x σ)) v_) v_))), .int (vb_i i)] [] (I1, P, J, S, nc, ns) (vm_RV (.inl (q_plant (vs_l σ) (vs_x σ) v_ 2)) (fun I' => vm_qf I I') P J S nc ns) := by
          intro h2
          refine vb_down (vb_n (vs_l σ)) ?_
          intro i hi ih I1 hq1 thr1
          have dN1 := dN.qf hq1
          have dM1 := vmd_l dN1
          have hR1 := vmd_x dN1
          have hini := vx_in2 (vx_s (vs_x σ)) i
          have hci := vb_cnt_le i (vm_tkf (vs_l σ) (vs_x σ) (vx_in (vx_s (vs_x σ)) v_) v_)
          have hcs : vb_cnt (i + 1) (vm_tkf (vs_l σ) (vs_x σ) (vx_in (vx_s (vs_x σ)) v_) v_) = vb_cnt i (vm_tkf (vs_l σ) (vs_x σ) (vx_in (vx_s (vs_x σ)) v_) v_) + ((vm_tkf (vs_l σ) (vs_x σ) (vx_in (vx_s (vs_x σ)) v_) v_) i).toNat := rfl
          have hml := vx_msT_len (vs_l σ) (vs_x σ) (1 - (vx_in (vx_s (vs_x σ)) v_))
          have hs2 : (vx_in (vx_s (vs_x σ)) v_) < 2 := by omega
          have e1 : 1 - (1 - (vx_in (vx_s (vs_x σ)) v_)) = (vx_in (vx_s (vs_x σ)) v_) := by omega
          have hpl : q_plant (vs_l σ) (vs_x σ) v_ 2 = if vb_i 2 * vb_i ((vx_msT (vs_l σ) (vs_x σ) (1 - vx_in (vx_s (vs_x σ)) v_)).length + 1) < vb_i 6 * (vb_i ((vx_msT (vs_l σ) (vs_x σ) (1 - vx_in (vx_s (vs_x σ)) v_)).length + 1) - vb_i (vb_cnt (vb_n (vs_l σ)) (vm_tkf (vs_l σ) (vs_x σ) (vx_in (vx_s (vs_x σ)) v_) v_))) then vb_i 1 else vb_i 0 := by
            rw [q_plant, if_neg h2]
            simp only [vm_tkc hn]
            first
              | (rw [vx_msT, e1]; rfl)
              | rfl
          refine mm_w1 rfl ?_
          refine mm_w1 rfl ?_
          refine mm_wgiv _ (vM_S60 hM) (by decide) (by decide) (vm_n dM1) ?_
          refine mm_nicge (by omega) (by omega) ?_ ?_
          · intro h52
            refine mm_w1 rfl ?_
            refine mm_wv (vb_i 0) rfl (by decide) ?_
            refine mm_wv (vb_i 1) rfl (by decide) ?_
            refine mm_w1 rfl ?_
            refine mm_nsub (by omega) ?_
            refine mm_cvi (vb_cv (vM_S60 hM) rfl rfl rfl rfl) (by decide) (by omega) (m_moves (sd := 1 - (vx_in (vx_s (vs_x σ)) v_)) hM dM1 hR1 (by decide) hli hlb hsj hfj hst (by omega) (by omega)) ?_
            intro I2 hf2
            have hq2 := hq1.tr (vm_qf.of8 hf2)
            have dN2 := dN.qf hq2
            have dM2 := vmd_l dN2
            have hR2 := vmd_x dN2
            have thr2 : I2 60 0 = vb_i 0 := by rw [hf2 60 (by simp only [vm_s8]; decide)]; exact thr1
            refine mm_wv (vb_i 1) rfl (by decide) ?_
            refine mm_nadd ?_
            refine mm_w1 (ls' := [_, _, _, _, _, _]) rfl ?_
            refine mm_w1 rfl ?_
            refine mm_nifne (by decide) (fun _ => ?_) (fun h => absurd h (by decide))
            refine mm_w1 rfl ?_
            refine mm_wv (vb_i 1) rfl (by decide) ?_
            refine mm_nicne (by omega) (by omega) ?_ ?_
            · intro h120
              refine mm_wv (vb_i 6) rfl (by decide) ?_
              refine mm_w1 rfl ?_
              refine mm_w1 rfl ?_
              refine mm_w1 rfl ?_
              refine mm_w1 rfl ?_
              refine mm_wv (vb_i 2) rfl (by decide) ?_
              refine mm_w1 rfl ?_
              refine mm_w1 rfl ?_
              refine mm_wicle ?_ ?_
              · intro h140
                refine mm_wv (vb_i 0) rfl (by decide) ?_
                refine mm_wr rfl rfl rfl ?_
                refine ⟨_, _, rfl, hq2, ?_, thr2⟩
                rw [hpl]
                rw [show i = vb_n (vs_l σ) by omega] at h140
                first
                  | rw [if_pos h140]
                  | rw [if_neg h140]
              · intro h140
                refine mm_wv (vb_i 1) rfl (by decide) ?_
                refine mm_wgoto ?_
                refine mm_wr rfl rfl rfl ?_
                refine ⟨_, _, rfl, hq2, ?_, thr2⟩
                rw [hpl]
                rw [show i = vb_n (vs_l σ) by omega] at h140
                first
                  | rw [if_pos h140]
                  | rw [if_neg h140]
            · intro h120
              exact absurd h120 (by decide) 
          · intro h52
            refine mm_w1 rfl ?_
            refine mm_w1 rfl ?_
            refine mm_wgr (vM_S60 hM) (by decide) (by decide) (vM_P60_38 hM) (vM_a76 hM) ?_
            refine mm_wv (vb_i 0) rfl (by decide) ?_
            refine mm_w1 rfl ?_
            refine mm_nadd ?_
            refine mm_wiav (vb_i (vx_in (vx_s (vs_x σ)) i)) (vM_a76 hM) (vM_S76 hM) (by decide) (by omega) (vm_rs hR1 (by omega)) ?_
            refine mm_wv (vb_i 1) rfl (by decide) ?_
            refine mm_w1 rfl ?_
            refine mm_nsub (by omega) ?_
            refine mm_nicne (by omega) (by omega) ?_ ?_
            · intro h69
              refine mm_wv (vb_i 0) rfl (by decide) ?_
              refine mm_nadd ?_
              refine mm_w1 (ls' := [_, _, _, _, _, _]) rfl ?_
              refine mm_nincL (ls' := [_, _, _, _, _, _]) 1 rfl (by decide) rfl ?_
              refine mm_wgoto ?_
              have ih := ih (by omega) _ hq1 thr1
              rw [hcs] at ih
              first
                | (rw [show (vm_tkf (vs_l σ) (vs_x σ) (vx_in (vx_s (vs_x σ)) v_) v_) i = false from vm_tk0 hsj hs2 h69] at ih; exact ih)
                | (rw [show (vm_tkf (vs_l σ) (vs_x σ) (vx_in (vx_s (vs_x σ)) v_) v_) i = true by rw [← vm_tk1 hn hli hsj hs2 lv (by omega) rfl h69, h80]] at ih; exact ih)
                | (rw [show (vm_tkf (vs_l σ) (vs_x σ) (vx_in (vx_s (vs_x σ)) v_) v_) i = false by rw [← vm_tk1 hn hli hsj hs2 lv (by omega) rfl h69, h80]] at ih; exact ih)
            · intro h69
              refine mm_w1 rfl ?_
              refine mm_wv (vb_i 0) rfl (by decide) ?_
              refine mm_w1 rfl ?_
              refine mm_w1 rfl ?_
              refine mm_cvi (vb_cv (vM_S60 hM) rfl rfl rfl rfl) (by decide) (by omega) (m_mayGo hM dM1 hR1 (by decide) hli hlb hsj hfj (fun s hs h => hst s hs _ h) (by omega) (by omega) (by omega)) ?_
              intro I2 hf2
              have hq2 := hq1.tr (vm_qf.of8 hf2)
              have dN2 := dN.qf hq2
              have dM2 := vmd_l dN2
              have hR2 := vmd_x dN2
              have thr2 : I2 60 0 = vb_i 0 := by rw [hf2 60 (by simp only [vm_s8]; decide)]; exact thr1
              refine mm_bifeq ?_ ?_
              · intro h80
                refine mm_wv (vb_i 0) rfl (by decide) ?_
                refine mm_nadd ?_
                refine mm_w1 (ls' := [_, _, _, _, _, _]) rfl ?_
                refine mm_nincL (ls' := [_, _, _, _, _, _]) 1 rfl (by decide) rfl ?_
                refine mm_wgoto ?_
                have ih := ih (by omega) _ hq2 thr2
                rw [hcs] at ih
                first
                  | (rw [show (vm_tkf (vs_l σ) (vs_x σ) (vx_in (vx_s (vs_x σ)) v_) v_) i = false from vm_tk0 hsj hs2 h69] at ih; exact ih)
                  | (rw [show (vm_tkf (vs_l σ) (vs_x σ) (vx_in (vx_s (vs_x σ)) v_) v_) i = true by rw [← vm_tk1 hn hli hsj hs2 lv (by omega) rfl h69, h80]] at ih; exact ih)
                  | (rw [show (vm_tkf (vs_l σ) (vs_x σ) (vx_in (vx_s (vs_x σ)) v_) v_) i = false by rw [← vm_tk1 hn hli hsj hs2 lv (by omega) rfl h69, h80]] at ih; exact ih)
              · intro h80
                refine mm_wv (vb_i 1) rfl (by decide) ?_
                refine mm_wgoto ?_
                refine mm_nadd ?_
                refine mm_w1 (ls' := [_, _, _, _, _, _]) rfl ?_
                refine mm_nincL (ls' := [_, _, _, _, _, _]) 1 rfl (by decide) rfl ?_
                refine mm_wgoto ?_
                have ih := ih (by omega) _ hq2 thr2
                rw [hcs] at ih
                first
                  | (rw [show (vm_tkf (vs_l σ) (vs_x σ) (vx_in (vx_s (vs_x σ)) v_) v_) i = false from vm_tk0 hsj hs2 h69] at ih; exact ih)
                  | (rw [show (vm_tkf (vs_l σ) (vs_x σ) (vx_in (vx_s (vs_x σ)) v_) v_) i = true by rw [← vm_tk1 hn hli hsj hs2 lv (by omega) rfl h69, h80]] at ih; exact ih)
                  | (rw [show (vm_tkf (vs_l σ) (vs_x σ) (vx_in (vx_s (vs_x σ)) v_) v_) i = false by rw [← vm_tk1 hn hli hsj hs2 lv (by omega) rfl h69, h80]] at ih; exact ih)
        show mm_W _ _ 225 (mm_blk 225 0) [.ref 60, .int (vb_i v_), .int (vb_i 2), .null, .null, .null] [] _ _
        refine mm_w1 rfl ?_
        refine mm_wv (vb_i 0) rfl (by decide) ?_
        refine mm_wpiN (vM_S60 hM) (by decide) (by decide) ?_
        intro I1 hI1
        have hq1 : vm_qf I I1 := by rw [hI1]; exact vm_qf.thr _
        have dN1 := dN.qf hq1
        have dM1 := vmd_l dN1
        have hR1 := vmd_x dN1
        have thr1 : I1 60 0 = vb_i 0 := by rw [hI1, vb_up1]
        refine mm_w1 rfl ?_
        refine mm_w1 rfl ?_
        refine mm_cvp (vb_cv (vM_S60 hM) rfl rfl rfl rfl) (by decide) (by omega) (m_isV_t hM dM1 thr1 (by omega) (by omega)) ?_
        refine mm_nifeq (by decide) (fun h => absurd h (by decide)) (fun _ => ?_)
        refine mm_w1 rfl ?_
        refine mm_w1 rfl ?_
        refine mm_wv (vb_i 2) rfl (by decide) ?_
        refine mm_cvp (vb_cv (vM_S60 hM) rfl rfl rfl rfl) (by decide) (by omega) (m_isW_t hM thr1 (by rw [hw]; rfl) (by decide) (by omega)) ?_
        refine mm_nifne (by decide) (fun _ => ?_) (fun h => absurd h (by decide))
        refine mm_w1 rfl ?_
        refine mm_wgr (vM_S60 hM) (by decide) (by decide) (vM_P60_38 hM) (vM_a76 hM) ?_
        refine mm_wv (vb_i 0) rfl (by decide) ?_
        refine mm_w1 rfl ?_
        refine mm_nadd ?_
        refine mm_wiav (vb_i (vx_in (vx_s (vs_x σ)) v_)) (vM_a76 hM) (vM_S76 hM) (by decide) (by omega) (vm_rs hR1 lv) ?_
        refine mm_w1 (ls' := [_, _, _, _, _, _]) rfl ?_
        refine mm_w1 rfl ?_
        refine mm_wv (vb_i 2) rfl (by decide) ?_
        refine mm_nicne (by omega) (by omega) ?_ ?_
        · intro h35
          refine mm_wv (vb_i 0) rfl (by decide) ?_
          refine mm_w1 (ls' := [_, _, _, _, _, _]) rfl ?_
          refine mm_wv (vb_i 0) rfl (by decide) ?_
          refine mm_w1 (ls' := [_, _, _, _, _, _]) rfl ?_
          exact loop h35 0 (by omega) _ hq1 thr1
        · intro h35
          refine mm_wv (-1) rfl (by decide) ?_
          refine mm_wr rfl rfl rfl ?_
          refine ⟨_, _, rfl, hq1, ?_, thr1⟩
          rw [q_plant, if_pos h35]
theorem n_fork (hM : vm_isM P S) (dN : vm_MD σ I) (hI : vs_inv σ) (hlb : vl_bel (vs_l σ)) (hd : 20 ≤ d) : mm_C G d 244 [.ref 60] (I, P, J, S, nc, ns) (vm_RV (sp_fork σ) (fun I' => vm_qf I I') P J S nc ns) := by
  obtain ⟨hli, hIx, hIa, hIi⟩ := hI
  obtain ⟨hok, hwf, he9⟩ := hIx
  have hsj := hwf.sj
  have hfj := hwf.fj
  have hst := hwf.ws
  have dM := vmd_l dN
  have hR := vmd_x dN
  have hn := vm_10 dM
  have ht := vx_t2 (vs_x σ)
  have hs3 := vm_sc3 dM
  rw [show sp_fork σ = .inl (vb_told (q_fork (vs_l σ) (vs_x σ))) by simp only [sp_fork]]
  have hsj2 := hsj
  have loop := vb_down (p := fun i => ∀ (I1 : Nat → Nat → Int32) (y5 : Value) (st : Nat × Int32), vm_qf I I1 → I1 60 0 = vb_i 0 → st.1 ≤ 100 → (vx_pick (q_fk (vs_l σ) (vs_x σ) (vx_tn (vs_x σ))) (vb_rs (vb_q (vs_l σ) (vx_s (vs_x σ) (vx_tn (vs_x σ))) (vx_s (vs_x σ) (1 - vx_tn (vs_x σ))) (vb_i (vx_e (vs_x σ)))) i) st).1 = q_fork (vs_l σ) (vs_x σ) → mm_W G d 244 (mm_blk 244 21) [.ref 60, .int (vb_i (vx_tn (vs_x σ))), .int (vb_i st.1), .int st.2, .int (vb_i i), y5] [] (I1, P, J, S, nc, ns) (vm_RV (.inl (vb_told (q_fork (vs_l σ) (vs_x σ)))) (fun I' => vm_qf I I') P J S nc ns)) 100 (by
    intro i hi ih I1 y5 st hq1 thr1 hs1 heq
    have dN1 := dN.qf hq1
    have dM1 := vmd_l dN1
    have hR1 := vmd_x dN1
    refine mm_w1 rfl ?_
    refine mm_wv (vb_i 100) rfl (by decide) ?_
    refine mm_nicge (by omega) (by omega) ?_ ?_
    · intro h25
      refine mm_w1 rfl ?_
      refine mm_csp rfl (by decide) (by omega) (m_told (by omega)) ?_
      refine mm_wr rfl rfl rfl ?_
      refine ⟨_, _, rfl, hq1, ?_, thr1⟩
      rw [vb_rs_end (by omega)] at heq
      rw [← heq]; rfl
    · intro h25
      refine mm_w1 rfl ?_
      refine mm_wv (vb_i 0) rfl (by decide) ?_
      refine mm_w1 rfl ?_
      refine mm_w1 rfl ?_
      refine mm_cvi (vb_cv (vM_S60 hM) rfl rfl rfl rfl) (by decide) (by omega) (m_mayDo hM dM1 hR1 (by decide) hli hlb hsj hfj hst (by omega) (by omega) (by omega)) ?_
      intro I2 hf2
      have hq2 := hq1.tr (vm_qf.of8 hf2)
      have dN2 := dN.qf hq2
      have dM2 := vmd_l dN2
      have hR2 := vmd_x dN2
      have thr2 : I2 60 0 = vb_i 0 := by rw [hf2 60 (by simp only [vm_s8]; decide)]; exact thr1
      have hmay : vm_may (vs_l σ) (vs_x σ) (vx_tn (vs_x σ)) i = (vb_q (vs_l σ) (vx_s (vs_x σ) (vx_tn (vs_x σ))) (vx_s (vs_x σ) (1 - vx_tn (vs_x σ))) (vb_i (vx_e (vs_x σ)))) i := by rw [vm_may, decide_eq_false (by omega), Bool.false_or]
      rw [vb_rs_cons (by omega), ← hmay] at heq
      refine mm_bifne ?_ ?_
      · intro h36
        rw [h36, if_pos rfl] at heq
        have hm1 := vm_may_ok1 hn hli hsj ht (by omega) h36
        have hwfD : vx_wf (vs_l σ) (vx_doT (vs_l σ) (vs_x σ) (vx_tn (vs_x σ)) i) := hwf.mvT hn ht (by rcases hm1 with h | h; exact Or.inl h; exact Or.inr h.2.2.1)
        have hpc : vx_pick (q_fk (vs_l σ) (vs_x σ) (vx_tn (vs_x σ))) (i :: vb_rs (vb_q (vs_l σ) (vx_s (vs_x σ) (vx_tn (vs_x σ))) (vx_s (vs_x σ) (1 - vx_tn (vs_x σ))) (vb_i (vx_e (vs_x σ)))) (i + 1)) st = vx_pick (q_fk (vs_l σ) (vs_x σ) (vx_tn (vs_x σ))) (vb_rs (vb_q (vs_l σ) (vx_s (vs_x σ) (vx_tn (vs_x σ))) (vx_s (vs_x σ) (1 - vx_tn (vs_x σ))) (vb_i (vx_e (vs_x σ)))) (i + 1)) (if st.2 < (q_fk (vs_l σ) (vs_x σ) (vx_tn (vs_x σ))) i then (i, (q_fk (vs_l σ) (vs_x σ) (vx_tn (vs_x σ))) i) else st) := rfl
        rw [hpc] at heq
        refine mm_w1 rfl ?_
        refine mm_wv (vb_i 0) rfl (by decide) ?_
        refine mm_wv (vb_i 46) rfl (by decide) ?_
        refine mm_cvn (vb_cv (vM_S60 hM) rfl rfl rfl rfl) (by decide) (by omega) (m_lays0 hM (by decide) (by decide) (by decide)) ?_
        intro I3 hq03
        obtain ⟨hc3, ho3, hf3⟩ := hq03
        have hq3 := hq2.tr (vm_qf.of76 hf3 (fun j hj => ho3 j (by omega)))
        have dN3 := dN.qf hq3
        have dM3 := vmd_l dN3
        have hR3 := vmd_x dN3
        have thr3 : I3 60 0 = vb_i 0 := by rw [hf3 60 (by decide)]; exact thr2
        have hS3 : vm_row (vs_l σ) (I3 76) 46 (vs_x σ) (vx_tn (vs_x σ)) := hR2.mv hn hc3
        refine mm_w1 rfl ?_
        refine mm_wv (vb_i 46) rfl (by decide) ?_
        refine mm_w1 rfl ?_
        refine mm_cvn (vb_cv (vM_S60 hM) rfl rfl rfl rfl) (by decide) (by omega) (m_does hM dM3 hS3 (by decide) hsj2 (by omega) hm1 (by omega)) ?_
        intro I4 hq04
        obtain ⟨hS4, ho4, hf4⟩ := hq04
        have hq4 := hq3.tr (vm_qf.of76 hf4 (fun j hj => ho4 j (by omega)))
        have dN4 := dN.qf hq4
        have dM4 := vmd_l dN4
        have hR4 := vmd_x dN4
        have thr4 : I4 60 0 = vb_i 0 := by rw [hf4 60 (by decide)]; exact thr3
        refine mm_w1 rfl ?_
        refine mm_wv (vb_i 46) rfl (by decide) ?_
        refine mm_wv (vb_i 1) rfl (by decide) ?_
        refine mm_w1 rfl ?_
        refine mm_nsub (by omega) ?_
        refine mm_cvi (vb_cv (vM_S60 hM) rfl rfl rfl rfl) (by decide) (by omega) (m_prised (sd := 1 - (vx_tn (vs_x σ))) hM dM4 hS4 (by decide) hli hlb hwfD.sj hwfD.fj hwfD.ws (by omega) (by omega)) ?_
        intro I5 hf5
        have hq5 := hq4.tr (vm_qf.of8 hf5)
        have dN5 := dN.qf hq5
        have dM5 := vmd_l dN5
        have hR5 := vmd_x dN5
        have thr5 : I5 60 0 = vb_i 0 := by rw [hf5 60 (by simp only [vm_s8]; decide)]; exact thr4
        refine mm_csp rfl (by decide) (by omega) m_bits ?_
        rw [q_fk_eq ht (by omega)]
        refine mm_w1 (ls' := [_, _, _, _, _, _]) rfl ?_
        refine mm_w1 rfl ?_
        refine mm_w1 rfl ?_
        refine mm_wicgt ?_ ?_
        · intro h74
          refine mm_w1 rfl ?_
          refine mm_w1 (ls' := [_, _, _, _, _, _]) rfl ?_
          refine mm_w1 rfl ?_
          refine mm_w1 (ls' := [_, _, _, _, _, _]) rfl ?_
          refine mm_nincL (ls' := [_, _, _, _, _, _]) 1 rfl (by decide) rfl ?_
          refine mm_wgoto ?_
          first
            | (rw [if_pos h74] at heq; exact ih (by omega) _ _ (_, _) hq5 thr5 (by show i ≤ 100; omega) heq)
            | (rw [if_neg h74] at heq; exact ih (by omega) _ _ st hq5 thr5 hs1 heq)
        · intro h74
          refine mm_wgoto ?_
          refine mm_nincL (ls' := [_, _, _, _, _, _]) 1 rfl (by decide) rfl ?_
          refine mm_wgoto ?_
          first
            | (rw [if_pos h74] at heq; exact ih (by omega) _ _ (_, _) hq5 thr5 (by show i ≤ 100; omega) heq)
            | (rw [if_neg h74] at heq; exact ih (by omega) _ _ st hq5 thr5 hs1 heq)
      · intro h36
        rw [h36, if_neg (by decide)] at heq
        refine mm_wgoto ?_
        refine mm_nincL (ls' := [_, _, _, _, _, _]) 1 rfl (by decide) rfl ?_
        refine mm_wgoto ?_
        exact ih (by omega) _ _ st hq2 thr2 hs1 heq 
    )
  show mm_W _ _ 244 (mm_blk 244 0) [.ref 60, .null, .null, .null, .null, .null] [] _ _
  refine mm_w1 rfl ?_
  refine mm_wv (vb_i 0) rfl (by decide) ?_
  refine mm_wpiN (vM_S60 hM) (by decide) (by decide) ?_
  intro I1 hI1
  have hq1 : vm_qf I I1 := by rw [hI1]; exact vm_qf.thr _
  have dN1 := dN.qf hq1
  have dM1 := vmd_l dN1
  have hR1 := vmd_x dN1
  have thr1 : I1 60 0 = vb_i 0 := by rw [hI1, vb_up1]
  refine mm_w1 rfl ?_
  refine mm_wgr (vM_S60 hM) (by decide) (by decide) (vM_P60_38 hM) (vM_a76 hM) ?_
  refine mm_wv (vb_i 43) rfl (by decide) ?_
  refine mm_wiav (vb_i (vx_tn (vs_x σ))) (vM_a76 hM) (vM_S76 hM) (by decide) (by omega) (vm_ru hR1) ?_
  refine mm_w1 (ls' := [_, _, _, _, _, _]) rfl ?_
  refine mm_wv (vb_i 100) rfl (by decide) ?_
  refine mm_w1 (ls' := [_, _, _, _, _, _]) rfl ?_
  refine mm_wv (vb_i 1) rfl (by decide) ?_
  refine mm_w1 (ls' := [_, _, _, _, _, _]) rfl ?_
  refine mm_wv (vb_i 0) rfl (by decide) ?_
  refine mm_w1 (ls' := [_, _, _, _, _, _]) rfl ?_
  exact loop 0 (by omega) _ _ (100, vb_i 1) hq1 thr1 (by decide) rfl
end NPLA
