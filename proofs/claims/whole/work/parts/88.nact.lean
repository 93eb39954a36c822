section NACT
variable {G : mm_G} {d : Nat} {I : Nat → Nat → Int32} {P : Nat → Nat → Nat} {J : Nat → Nat → Int64} {S : List (Nat × Nat)} {nc ns : Nat} {μ : mm_M} {σ : vb_St}
theorem vm_MD.row {I' : Nat → Nat → Int32} {y : vb_X} (h : vm_MD σ I) (hf : vb_fr (fun a => a = 76) I I') (hr : vm_row (vs_l σ) (I' 76) 0 y (vx_tn y)) : vm_MD (vs_act σ y (vs_a σ)) I' := by
  have k : ∀ a, a ≠ 76 → I' a = I a := fun a ha => hf a ha
  obtain ⟨g1, g2, g3, g4, g5, g6, g7, g8, g9, g10, g11, g12, g13⟩ := h
  refine ⟨g1.fr hf (fun a h1 h2 => by omega), hr, ?_, ?_, ?_, ?_, ?_, ?_, ?_, g10, ?_, ?_, ?_⟩
  · rw [k 60 (by decide)]; exact g3
  · rw [k 77 (by decide)]; exact g4
  · rw [k 60 (by decide)]; exact g5
  · rw [k 81 (by decide)]; exact g6
  · rw [k 60 (by decide)]; exact g7
  · intro z hz
    rw [k 60 (by decide), k 83 (by decide), k 84 (by decide), k 85 (by decide)]
    exact g8 z hz
  · rw [k 60 (by decide)]; exact g9
  · rw [k 66 (by decide)]; exact g11
  · rw [k 60 (by decide)]; exact g12
  · rw [k 67 (by decide)]; exact g13
theorem vm_MD.refu {w : Nat} (h : vm_MD σ I) : vm_MD (vs_ref σ w) (mm_up I 67 w (vs_r σ w + vb_i 1)) := by
  have k : ∀ a, a ≠ 67 → mm_up I 67 w (vs_r σ w + vb_i 1) a = I a := fun a ha => vb_up3 _ _ ha
  obtain ⟨g1, g2, g3, g4, g5, g6, g7, g8, g9, g10, g11, g12, g13⟩ := h
  refine ⟨g1.fr (F := fun a => a = 67) (fun a ha => k a ha) (fun a h1 h2 => by omega), ?_, ?_, ?_, ?_, ?_, ?_, ?_, ?_, g10, ?_, ?_, ?_⟩
  · rw [k 76 (by decide)]; exact g2
  · rw [k 60 (by decide)]; exact g3
  · rw [k 77 (by decide)]; exact g4
  · rw [k 60 (by decide)]; exact g5
  · rw [k 81 (by decide)]; exact g6
  · rw [k 60 (by decide)]; exact g7
  · intro z hz
    rw [k 60 (by decide), k 83 (by decide), k 84 (by decide), k 85 (by decide)]
    exact g8 z hz
  · rw [k 60 (by decide)]; exact g9
  · rw [k 66 (by decide)]; exact g11
  · rw [k 60 (by decide)]; exact g12
  · intro j hj
    show mm_up I 67 w _ 67 j = if j = w then vs_r σ j + vb_i 1 else vs_r σ j
    by_cases e : j = w
    · rw [e, vb_up1, if_pos rfl]
    · rw [vb_up2 _ _ (by omega), if_neg e]; exact g13 j hj
theorem m_refuses {w : Nat} (hM : vm_isM P S) (dN : vm_MD σ I) (hw : w < 3) : mm_C G d 173 [.ref 60, .int (vb_i w)] (I, P, J, S, nc, ns) (vb_R (some (.int (-1))) (fun I' => vm_MD (vs_ref σ w) I' ∧ I' 60 0 = I 60 0) P J S nc ns) := by
  show mm_W _ _ 173 (mm_blk 173 0) [.ref 60, .int (vb_i w)] [] _ _
  refine mm_w1 rfl ?_
  refine mm_wgr (vM_S60 hM) (by decide) (by decide) (vM_P60_14 hM) (vM_a67 hM) ?_
  refine mm_w1 rfl ?_
  refine mm_w1 rfl ?_
  refine mm_wiav (vs_r σ w) (vM_a67 hM) (vM_S67 hM) (by decide) (by omega) (vmd_r dN hw) ?_
  refine mm_wv (vb_i 1) rfl (by decide) ?_
  refine mm_w1 rfl ?_
  refine mm_wisN (vM_S67 hM) (by decide) (by omega) ?_
  intro I1 hI1
  have dN1 : vm_MD (vs_ref σ w) I1 := by rw [hI1]; exact dN.refu
  have e1 : I1 60 0 = I 60 0 := by rw [hI1, vb_up3 _ _ (by decide)]
  refine mm_wv (-1) rfl (by decide) ?_
  refine mm_wr rfl rfl rfl ?_
  exact ⟨_, ⟨dN1, e1⟩, rfl⟩
theorem n_pass (hM : vm_isM P S) (dN : vm_MD σ I) (hI : vs_inv σ) (hlb : vl_bel (vs_l σ)) (hd : 20 ≤ d) : mm_C G d 204 [.ref 60] (I, P, J, S, nc, ns) (vm_RV (sp_pass σ) (fun I' => vm_MD (st_pass σ) I') P J S nc ns) := by
  obtain ⟨hli, hIx, hIa, hIi⟩ := hI
  obtain ⟨hok, hwf, he9⟩ := hIx
  have hsj := hwf.sj
  have hfj := hwf.fj
  have hst := hwf.ws
  have dM := vmd_l dN
  have hR := vmd_x dN
  have hn := vm_10 dM
  have ht := vx_t2 (vs_x σ)
  have hs3 := vm_sc3 dM
  have hm1 : vm_ok1 (vs_l σ) (vs_x σ) (vx_tn (vs_x σ)) 100 := Or.inl rfl
  by_cases he : vx_e (vs_x σ) < 999
  · rw [show sp_pass σ = .inl (vb_i (vx_e (vs_x σ) + 1)) by simp only [sp_pass, if_pos he], show st_pass σ = vs_act σ (vx_do (vs_l σ) (vs_x σ) 100) (vb_keep (vs_a σ) (vs_x σ)) by simp only [st_pass, if_pos he]]
    show mm_W _ _ 204 (mm_blk 204 0) [.ref 60] [] _ _
    refine mm_w1 rfl ?_
    refine mm_wv (vb_i 0) rfl (by decide) ?_
    refine mm_wpiN (vM_S60 hM) (by decide) (by decide) ?_
    intro I1 hI1
    have hq1 : vm_qf I I1 := by rw [hI1]; exact vm_qf.thr _
    have dN1 := dN.qf hq1
    have dM1 := vmd_l dN1
    have hR1 := vmd_x dN1
    have thr1 : I1 60 0 = vb_i 0 := by rw [hI1, vb_up1]
    refine mm_w1 rfl ?_
    refine mm_wgr (vM_S60 hM) (by decide) (by decide) (vM_P60_38 hM) (vM_a76 hM) ?_
    refine mm_wv (vb_i 42) rfl (by decide) ?_
    refine mm_wiav (vb_i (vx_e (vs_x σ))) (vM_a76 hM) (vM_S76 hM) (by decide) (by omega) (vm_re hR1) ?_
    refine mm_wv (vb_i 999) rfl (by decide) ?_
    refine mm_nicne (by omega) (by omega) ?_ ?_
    · intro h15
      refine mm_w1 rfl ?_
      refine mm_cvn (vb_cv (vM_S60 hM) rfl rfl rfl rfl) (by decide) (by omega) (m_keeps hM dN1) ?_
      intro I2 hq02
      obtain ⟨dN2, ht2⟩ := hq02
      have dM2 : vm_LD (vs_l σ) I2 := dN2.1
      have hR2 : vm_row (vs_l σ) (I2 76) 0 (vs_x σ) (vx_tn (vs_x σ)) := dN2.2.1
      have thr2 : I2 60 0 = vb_i 0 := ht2.trans thr1
      refine mm_w1 rfl ?_
      refine mm_wv (vb_i 0) rfl (by decide) ?_
      refine mm_wv (vb_i 100) rfl (by decide) ?_
      refine mm_cvn (vb_cv (vM_S60 hM) rfl rfl rfl rfl) (by decide) (by omega) (m_does hM dM2 hR2 (by decide) hsj (by omega) hm1 (by omega)) ?_
      intro I3 hq03
      obtain ⟨hr3, ho3, hf3⟩ := hq03
      have dN3 : vm_MD (vs_act σ (vx_do (vs_l σ) (vs_x σ) 100) (vb_keep (vs_a σ) (vs_x σ))) I3 := vm_MD.row dN2 hf3 (by rw [vx_tn_do]; exact hr3)
      have thr3 : I3 60 0 = vb_i 0 := by rw [hf3 60 (by decide)]; exact thr2
      refine mm_w1 rfl ?_
      refine mm_wgr (vM_S60 hM) (by decide) (by decide) (vM_P60_38 hM) (vM_a76 hM) ?_
      refine mm_wv (vb_i 42) rfl (by decide) ?_
      refine mm_wiav (vb_i (vx_e (vs_x σ) + 1)) (vM_a76 hM) (vM_S76 hM) (by decide) (by omega) (by have h := vm_re hr3; rw [vm_af_e] at h; exact h) ?_
      refine mm_wr rfl rfl rfl ?_
      exact ⟨_, _, rfl, dN3, rfl, thr3⟩
    · intro h15
      omega
  · rw [show sp_pass σ = .inl (-1) by simp only [sp_pass, if_neg he], show st_pass σ = vs_ref σ 1 by simp only [st_pass, if_neg he]]
    show mm_W _ _ 204 (mm_blk 204 0) [.ref 60] [] _ _
    refine mm_w1 rfl ?_
    refine mm_wv (vb_i 0) rfl (by decide) ?_
    refine mm_wpiN (vM_S60 hM) (by decide) (by decide) ?_
    intro I1 hI1
    have hq1 : vm_qf I I1 := by rw [hI1]; exact vm_qf.thr _
    have dN1 := dN.qf hq1
    have dM1 := vmd_l dN1
    have hR1 := vmd_x dN1
    have thr1 : I1 60 0 = vb_i 0 := by rw [hI1, vb_up1]
    refine mm_w1 rfl ?_
    refine mm_wgr (vM_S60 hM) (by decide) (by decide) (vM_P60_38 hM) (vM_a76 hM) ?_
    refine mm_wv (vb_i 42) rfl (by decide) ?_
    refine mm_wiav (vb_i (vx_e (vs_x σ))) (vM_a76 hM) (vM_S76 hM) (by decide) (by omega) (vm_re hR1) ?_
    refine mm_wv (vb_i 999) rfl (by decide) ?_
    refine mm_nicne (by omega) (by omega) ?_ ?_
    · intro h15
      omega
    · intro h15
      refine mm_w1 rfl ?_
      refine mm_wv (vb_i 1) rfl (by decide) ?_
      refine mm_cvi (vb_cv (vM_S60 hM) rfl rfl rfl rfl) (by decide) (by omega) (m_refuses (w := 1) hM dN1 (by decide)) ?_
      intro I2 hq02
      obtain ⟨dN2, ht2⟩ := hq02
      have thr2 : I2 60 0 = vb_i 0 := ht2.trans thr1
      refine mm_wr rfl rfl rfl ?_
      exact ⟨_, _, rfl, dN2, rfl, thr2⟩
theorem vm_mvt {ℓ : vb_L} {x : vb_X} {a b : Nat} (hn : vb_n ℓ ≤ 10) (hsj : vx_dj (vx_s x)) (h : q_mayT ℓ x a b = true) (hb : b < vb_n ℓ) : vb_b (vb_has (vx_s x (1 - vx_tn x)) b) = if vx_in (vx_s x) b = 2 then vb_i 0 else vb_i 1 := by
  have ht := vx_t2 x
  rw [q_mayT, Bool.and_eq_true, decide_eq_true_eq] at h
  obtain ⟨h1, h2⟩ := h
  rw [q_tgt, h1, if_neg (by omega), vb_law, vb_has_set _ (by omega), Bool.and_eq_true, Bool.and_eq_true] at h2
  have h3 := h2.2.2
  have hin := vx_in2 (vx_s x) b
  by_cases e : vx_in (vx_s x) b = 2
  · rw [if_pos e]
    rw [show vb_has (vx_s x (1 - vx_tn x)) b = false by rw [← vx_in_dec hsj (by omega)]; exact decide_eq_false (by omega)]; rfl
  · rw [if_neg e]
    have h4 : vb_has (vx_s x (1 - vx_tn x)) b = true := by
      cases e5 : vb_has (vx_s x (1 - vx_tn x)) b with
      | true => rfl
      | false =>
        rw [e5] at h3
        have e6 : vb_has (vx_s x (vx_tn x)) b = false := by
          cases e7 : vb_has (vx_s x (vx_tn x)) b with
          | false => rfl
          | true => rw [e7] at h3; simp at h3
        rw [← vx_in_dec hsj (by omega), decide_eq_false_iff_not] at e5 e6
        omega
    rw [h4]; rfl
theorem n_move (hM : vm_isM P S) (dN : vm_MD σ I) (hI : vs_inv σ) (hlb : vl_bel (vs_l σ)) (hd : 20 ≤ d) (a b : Int32) : mm_C G d 203 [.ref 60, .int a, .int b] (I, P, J, S, nc, ns) (vm_RV (sp_move σ a b) (fun I' => vm_MD (st_move σ a b) I') P J S nc ns) := by
  obtain ⟨hli, hIx, hIa, hIi⟩ := hI
  obtain ⟨hok, hwf, he9⟩ := hIx
  have hsj := hwf.sj
  have hfj := hwf.fj
  have hst := hwf.ws
  have dM := vmd_l dN
  have hR := vmd_x dN
  have hn := vm_10 dM
  have ht := vx_t2 (vs_x σ)
  have hs3 := vm_sc3 dM
  cases ha : vb_idx (vb_n (vs_l σ)) a with
  | none =>
    rw [show sp_move σ a b = .inr 0 by simp only [sp_move, ha], show st_move σ a b = σ by simp only [st_move, ha]]
    show mm_W _ _ 203 (mm_blk 203 0) [.ref 60, .int a, .int b, .null] [] _ _
    refine mm_w1 rfl ?_
    refine mm_wv (vb_i 0) rfl (by decide) ?_
    refine mm_wpiN (vM_S60 hM) (by decide) (by decide) ?_
    intro I1 hI1
    have hq1 : vm_qf I I1 := by rw [hI1]; exact vm_qf.thr _
    have dN1 := dN.qf hq1
    have dM1 := vmd_l dN1
    have hR1 := vmd_x dN1
    have thr1 : I1 60 0 = vb_i 0 := by rw [hI1, vb_up1]
    refine mm_w1 rfl ?_
    refine mm_w1 rfl ?_
    refine mm_cvi (vb_cv (vM_S60 hM) rfl rfl rfl rfl) (by decide) (by omega) (m_isV_f hM dM1 thr1 ha (by omega)) ?_
    intro I2 hI2 
    refine mm_nifeq (by decide) (fun _ => ?_) (fun h => absurd rfl h)
    refine mm_wv (vb_i 0) rfl (by decide) ?_
    refine mm_wr rfl rfl rfl ?_
    exact ⟨_, _, rfl, dN.qf (hq1.tr (by rw [hI2]; exact vm_qf.thr _)), by rw [hI2, vb_up1]⟩
  | some a_ =>
    obtain ⟨la, rfl⟩ := vb_idx_some (by omega) ha
    cases hb : vb_idx (vb_n (vs_l σ)) b with
    | none =>
      rw [show sp_move σ (vb_i a_) b = .inr 0 by simp only [sp_move, ha, hb], show st_move σ (vb_i a_) b = σ by simp only [st_move, ha, hb]]
      show mm_W _ _ 203 (mm_blk 203 0) [.ref 60, .int (vb_i a_), .int b, .null] [] _ _
      refine mm_w1 rfl ?_
      refine mm_wv (vb_i 0) rfl (by decide) ?_
      refine mm_wpiN (vM_S60 hM) (by decide) (by decide) ?_
      intro I1 hI1
      have hq1 : vm_qf I I1 := by rw [hI1]; exact vm_qf.thr _
      have dN1 := dN.qf hq1
      have dM1 := vmd_l dN1
      have hR1 := vmd_x dN1
      have thr1 : I1 60 0 = vb_i 0 := by rw [hI1, vb_up1]
      refine mm_w1 rfl ?_
      refine mm_w1 rfl ?_
      refine mm_cvp (vb_cv (vM_S60 hM) rfl rfl rfl rfl) (by decide) (by omega) (m_isV_t hM dM1 thr1 (by omega) (by omega)) ?_
      refine mm_nifeq (by decide) (fun h => absurd h (by decide)) (fun _ => ?_)
      refine mm_w1 rfl ?_
      refine mm_w1 rfl ?_
      refine mm_cvi (vb_cv (vM_S60 hM) rfl rfl rfl rfl) (by decide) (by omega) (m_isV_f hM dM1 thr1 hb (by omega)) ?_
      intro I2 hI2 
      refine mm_nifne (by decide) (fun h => absurd rfl h) (fun _ => ?_)
      refine mm_wv (vb_i 0) rfl (by decide) ?_
      refine mm_wr rfl rfl rfl ?_
      exact ⟨_, _, rfl, dN.qf (hq1.tr (by rw [hI2]; exact vm_qf.thr _)), by rw [hI2, vb_up1]⟩
    | some b_ =>
      obtain ⟨lb, rfl⟩ := vb_idx_some (by omega) hb
      have hin := vx_in2 (vx_s (vs_x σ)) b_
      have hmq := vm_may_T hn hsj (by omega : a_ < vb_n (vs_l σ)) lb
      by_cases he : vx_e (vs_x σ) < 999
      · cases hmy : q_mayT (vs_l σ) (vs_x σ) a_ b_ with
        | false =>
          rw [show sp_move σ (vb_i a_) (vb_i b_) = .inl (-1) by simp only [sp_move, ha, hb, if_pos he, hmy, Bool.false_eq_true, if_false], show st_move σ (vb_i a_) (vb_i b_) = vs_ref σ 1 by simp only [st_move, ha, hb, if_pos he, hmy, Bool.false_eq_true, if_false]]
          show mm_W _ _ 203 (mm_blk 203 0) [.ref 60, .int (vb_i a_), .int (vb_i b_), .null] [] _ _
          refine mm_w1 rfl ?_
          refine mm_wv (vb_i 0) rfl (by decide) ?_
          refine mm_wpiN (vM_S60 hM) (by decide) (by decide) ?_
          intro I1 hI1
          have hq1 : vm_qf I I1 := by rw [hI1]; exact vm_qf.thr _
          have dN1 := dN.qf hq1
          have dM1 := vmd_l dN1
          have hR1 := vmd_x dN1
          have thr1 : I1 60 0 = vb_i 0 := by rw [hI1, vb_up1]
          refine mm_w1 rfl ?_
          refine mm_w1 rfl ?_
          refine mm_cvp (vb_cv (vM_S60 hM) rfl rfl rfl rfl) (by decide) (by omega) (m_isV_t hM dM1 thr1 (by omega) (by omega)) ?_
          refine mm_nifeq (by decide) (fun h => absurd h (by decide)) (fun _ => ?_)
          refine mm_w1 rfl ?_
          refine mm_w1 rfl ?_
          refine mm_cvp (vb_cv (vM_S60 hM) rfl rfl rfl rfl) (by decide) (by omega) (m_isV_t hM dM1 thr1 (by omega) (by omega)) ?_
          refine mm_nifne (by decide) (fun _ => ?_) (fun h => absurd h (by decide))
          refine mm_w1 rfl ?_
          refine mm_wgr (vM_S60 hM) (by decide) (by decide) (vM_P60_38 hM) (vM_a76 hM) ?_
          refine mm_wv (vb_i 42) rfl (by decide) ?_
          refine mm_wiav (vb_i (vx_e (vs_x σ))) (vM_a76 hM) (vM_S76 hM) (by decide) (by omega) (vm_re hR1) ?_
          refine mm_wv (vb_i 999) rfl (by decide) ?_
          refine mm_niceq (by omega) (by omega) ?_ ?_
          · intro h33
            omega
          · intro h33
            refine mm_w1 rfl ?_
            refine mm_wv (vb_i 0) rfl (by decide) ?_
            refine mm_wv (vb_i 10) rfl (by decide) ?_
            refine mm_w1 rfl ?_
            refine mm_nmul ?_
            refine mm_w1 rfl ?_
            refine mm_nadd ?_
            refine mm_w1 rfl ?_
            refine mm_wgr (vM_S60 hM) (by decide) (by decide) (vM_P60_38 hM) (vM_a76 hM) ?_
            refine mm_wv (vb_i 43) rfl (by decide) ?_
            refine mm_wiav (vb_i (vx_tn (vs_x σ))) (vM_a76 hM) (vM_S76 hM) (by decide) (by omega) (vm_ru hR1) ?_
            refine mm_cvi (vb_cv (vM_S60 hM) rfl rfl rfl rfl) (by decide) (by omega) (m_mayDo hM dM1 hR1 (by decide) hli hlb hsj hfj hst (by omega) (by omega) (by omega)) ?_
            intro I2 hf2
            have hq2 := hq1.tr (vm_qf.of8 hf2)
            have dN2 := dN.qf hq2
            have dM2 := vmd_l dN2
            have hR2 := vmd_x dN2
            have thr2 : I2 60 0 = vb_i 0 := by rw [hf2 60 (by simp only [vm_s8]; decide)]; exact thr1
            refine mm_bifne ?_ ?_
            · intro h54
              rw [hmq, hmy] at h54; cases h54
            · intro h54
              refine mm_w1 rfl ?_
              refine mm_wv (vb_i 1) rfl (by decide) ?_
              refine mm_cvi (vb_cv (vM_S60 hM) rfl rfl rfl rfl) (by decide) (by omega) (m_refuses (w := 1) hM dN2 (by decide)) ?_
              intro I3 hq03
              obtain ⟨dN3, ht3⟩ := hq03
              have thr3 : I3 60 0 = vb_i 0 := ht3.trans thr2
              refine mm_wr rfl rfl rfl ?_
              exact ⟨_, _, rfl, dN3, rfl, thr3⟩
        | true =>
          have hm1 := vm_may_ok1 hn hli hsj ht (by omega) (hmq.trans hmy)
          have hres : vb_b (vb_has (vx_s (vs_x σ) (1 - (vx_tn (vs_x σ)))) b_) = if vx_in (vx_s (vs_x σ)) b_ = 2 then vb_i 0 else vb_i 1 := vm_mvt hn hsj hmy lb
          rw [show sp_move σ (vb_i a_) (vb_i b_) = .inl (vb_b (vb_has (vx_s (vs_x σ) (1 - (vx_tn (vs_x σ)))) b_)) by simp only [sp_move, ha, hb, if_pos he, hmy, if_true], show st_move σ (vb_i a_) (vb_i b_) = vs_act σ (vx_do (vs_l σ) (vs_x σ) (10 * a_ + b_)) (vb_keep (vs_a σ) (vs_x σ)) by simp only [st_move, ha, hb, if_pos he, hmy, if_true]]
          show mm_W _ _ 203 (mm_blk 203 0) [.ref 60, .int (vb_i a_), .int (vb_i b_), .null] [] _ _
          refine mm_w1 rfl ?_
          refine mm_wv (vb_i 0) rfl (by decide) ?_
          refine mm_wpiN (vM_S60 hM) (by decide) (by decide) ?_
          intro I1 hI1
          have hq1 : vm_qf I I1 := by rw [hI1]; exact vm_qf.thr _
          have dN1 := dN.qf hq1
          have dM1 := vmd_l dN1
          have hR1 := vmd_x dN1
          have thr1 : I1 60 0 = vb_i 0 := by rw [hI1, vb_up1]
          refine mm_w1 rfl ?_
          refine mm_w1 rfl ?_
          refine mm_cvp (vb_cv (vM_S60 hM) rfl rfl rfl rfl) (by decide) (by omega) (m_isV_t hM dM1 thr1 (by omega) (by omega)) ?_
          refine mm_nifeq (by decide) (fun h => absurd h (by decide)) (fun _ => ?_)
          refine mm_w1 rfl ?_
          refine mm_w1 rfl ?_
          refine mm_cvp (vb_cv (vM_S60 hM) rfl rfl rfl rfl) (by decide) (by omega) (m_isV_t hM dM1 thr1 (by omega) (by omega)) ?_
          refine mm_nifne (by decide) (fun _ => ?_) (fun h => absurd h (by decide))
          refine mm_w1 rfl ?_
          refine mm_wgr (vM_S60 hM) (by decide) (by decide) (vM_P60_38 hM) (vM_a76 hM) ?_
          refine mm_wv (vb_i 42) rfl (by decide) ?_
          refine mm_wiav (vb_i (vx_e (vs_x σ))) (vM_a76 hM) (vM_S76 hM) (by decide) (by omega) (vm_re hR1) ?_
          refine mm_wv (vb_i 999) rfl (by decide) ?_
          refine mm_niceq (by omega) (by omega) ?_ ?_
          · intro h33
            omega
          · intro h33
            refine mm_w1 rfl ?_
            refine mm_wv (vb_i 0) rfl (by decide) ?_
            refine mm_wv (vb_i 10) rfl (by decide) ?_
            refine mm_w1 rfl ?_
            refine mm_nmul ?_
            refine mm_w1 rfl ?_
            refine mm_nadd ?_
            refine mm_w1 rfl ?_
            refine mm_wgr (vM_S60 hM) (by decide) (by decide) (vM_P60_38 hM) (vM_a76 hM) ?_
            refine mm_wv (vb_i 43) rfl (by decide) ?_
            refine mm_wiav (vb_i (vx_tn (vs_x σ))) (vM_a76 hM) (vM_S76 hM) (by decide) (by omega) (vm_ru hR1) ?_
            refine mm_cvi (vb_cv (vM_S60 hM) rfl rfl rfl rfl) (by decide) (by omega) (m_mayDo hM dM1 hR1 (by decide) hli hlb hsj hfj hst (by omega) (by omega) (by omega)) ?_
            intro I2 hf2
            have hq2 := hq1.tr (vm_qf.of8 hf2)
            have dN2 := dN.qf hq2
            have dM2 := vmd_l dN2
            have hR2 := vmd_x dN2
            have thr2 : I2 60 0 = vb_i 0 := by rw [hf2 60 (by simp only [vm_s8]; decide)]; exact thr1
            refine mm_bifne ?_ ?_
            · intro h54
              refine mm_w1 rfl ?_
              refine mm_cvn (vb_cv (vM_S60 hM) rfl rfl rfl rfl) (by decide) (by omega) (m_keeps hM dN2) ?_
              intro I3 hq03
              obtain ⟨dN3, ht3⟩ := hq03
              have dM3 : vm_LD (vs_l σ) I3 := dN3.1
              have hR3 : vm_row (vs_l σ) (I3 76) 0 (vs_x σ) (vx_tn (vs_x σ)) := dN3.2.1
              have thr3 : I3 60 0 = vb_i 0 := ht3.trans thr2
              refine mm_w1 rfl ?_
              refine mm_wgr (vM_S60 hM) (by decide) (by decide) (vM_P60_38 hM) (vM_a76 hM) ?_
              refine mm_wv (vb_i 0) rfl (by decide) ?_
              refine mm_w1 rfl ?_
              refine mm_nadd ?_
              refine mm_wiav (vb_i (vx_in (vx_s (vs_x σ)) b_)) (vM_a76 hM) (vM_S76 hM) (by decide) (by omega) (vm_rs hR3 lb) ?_
              refine mm_wv (vb_i 2) rfl (by decide) ?_
              refine mm_nicne (by omega) (by omega) ?_ ?_
              · intro h76
                refine mm_wv (vb_i 1) rfl (by decide) ?_
                refine mm_w1 (ls' := [_, _, _, _]) rfl ?_
                refine mm_w1 rfl ?_
                refine mm_wv (vb_i 0) rfl (by decide) ?_
                refine mm_wv (vb_i 10) rfl (by decide) ?_
                refine mm_w1 rfl ?_
                refine mm_nmul ?_
                refine mm_w1 rfl ?_
                refine mm_nadd ?_
                refine mm_cvn (vb_cv (vM_S60 hM) rfl rfl rfl rfl) (by decide) (by omega) (m_does hM dM3 hR3 (by decide) hsj (by omega) hm1 (by omega)) ?_
                intro I4 hq04
                obtain ⟨hr4, ho4, hf4⟩ := hq04
                have dN4 : vm_MD (vs_act σ (vx_do (vs_l σ) (vs_x σ) (10 * a_ + b_)) (vb_keep (vs_a σ) (vs_x σ))) I4 := vm_MD.row dN3 hf4 (by rw [vx_tn_do]; exact hr4)
                have thr4 : I4 60 0 = vb_i 0 := by rw [hf4 60 (by decide)]; exact thr3
                refine mm_w1 rfl ?_
                refine mm_wr rfl rfl rfl ?_
                refine ⟨_, _, rfl, dN4, ?_, thr4⟩
                rw [hres]
                first
                  | rw [if_pos h76]
                  | rw [if_neg h76]
              · intro h76
                refine mm_wv (vb_i 0) rfl (by decide) ?_
                refine mm_wgoto ?_
                refine mm_w1 (ls' := [_, _, _, _]) rfl ?_
                refine mm_w1 rfl ?_
                refine mm_wv (vb_i 0) rfl (by decide) ?_
                refine mm_wv (vb_i 10) rfl (by decide) ?_
                refine mm_w1 rfl ?_
                refine mm_nmul ?_
                refine mm_w1 rfl ?_
                refine mm_nadd ?_
                refine mm_cvn (vb_cv (vM_S60 hM) rfl rfl rfl rfl) (by decide) (by omega) (m_does hM dM3 hR3 (by decide) hsj (by omega) hm1 (by omega)) ?_
                intro I4 hq04
                obtain ⟨hr4, ho4, hf4⟩ := hq04
                have dN4 : vm_MD (vs_act σ (vx_do (vs_l σ) (vs_x σ) (10 * a_ + b_)) (vb_keep (vs_a σ) (vs_x σ))) I4 := vm_MD.row dN3 hf4 (by rw [vx_tn_do]; exact hr4)
                have thr4 : I4 60 0 = vb_i 0 := by rw [hf4 60 (by decide)]; exact thr3
                refine mm_w1 rfl ?_
                refine mm_wr rfl rfl rfl ?_
                refine ⟨_, _, rfl, dN4, ?_, thr4⟩
                rw [hres]
                first
                  | rw [if_pos h76]
                  | rw [if_neg h76]
            · intro h54
              rw [hmq, hmy] at h54; cases h54
      · rw [show sp_move σ (vb_i a_) (vb_i b_) = .inl (-1) by simp only [sp_move, ha, hb, if_neg he], show st_move σ (vb_i a_) (vb_i b_) = vs_ref σ 1 by simp only [st_move, ha, hb, if_neg he]]
        show mm_W _ _ 203 (mm_blk 203 0) [.ref 60, .int (vb_i a_), .int (vb_i b_), .null] [] _ _
        refine mm_w1 rfl ?_
        refine mm_wv (vb_i 0) rfl (by decide) ?_
        refine mm_wpiN (vM_S60 hM) (by decide) (by decide) ?_
        intro I1 hI1
        have hq1 : vm_qf I I1 := by rw [hI1]; exact vm_qf.thr _
        have dN1 := dN.qf hq1
        have dM1 := vmd_l dN1
        have hR1 := vmd_x dN1
        have thr1 : I1 60 0 = vb_i 0 := by rw [hI1, vb_up1]
        refine mm_w1 rfl ?_
        refine mm_w1 rfl ?_
        refine mm_cvp (vb_cv (vM_S60 hM) rfl rfl rfl rfl) (by decide) (by omega) (m_isV_t hM dM1 thr1 (by omega) (by omega)) ?_
        refine mm_nifeq (by decide) (fun h => absurd h (by decide)) (fun _ => ?_)
        refine mm_w1 rfl ?_
        refine mm_w1 rfl ?_
        refine mm_cvp (vb_cv (vM_S60 hM) rfl rfl rfl rfl) (by decide) (by omega) (m_isV_t hM dM1 thr1 (by omega) (by omega)) ?_
        refine mm_nifne (by decide) (fun _ => ?_) (fun h => absurd h (by decide))
        refine mm_w1 rfl ?_
        refine mm_wgr (vM_S60 hM) (by decide) (by decide) (vM_P60_38 hM) (vM_a76 hM) ?_
        refine mm_wv (vb_i 42) rfl (by decide) ?_
        refine mm_wiav (vb_i (vx_e (vs_x σ))) (vM_a76 hM) (vM_S76 hM) (by decide) (by omega) (vm_re hR1) ?_
        refine mm_wv (vb_i 999) rfl (by decide) ?_
        refine mm_niceq (by omega) (by omega) ?_ ?_
        · intro h33
          refine mm_w1 rfl ?_
          refine mm_wv (vb_i 1) rfl (by decide) ?_
          refine mm_cvi (vb_cv (vM_S60 hM) rfl rfl rfl rfl) (by decide) (by omega) (m_refuses (w := 1) hM dN1 (by decide)) ?_
          intro I2 hq02
          obtain ⟨dN2, ht2⟩ := hq02
          have thr2 : I2 60 0 = vb_i 0 := ht2.trans thr1
          refine mm_wr rfl rfl rfl ?_
          exact ⟨_, _, rfl, dN2, rfl, thr2⟩
        · intro h33
          omega
end NACT
