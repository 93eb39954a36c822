def q_h1 (r : Nat → Bool) (p : Nat × Int32) (c : Nat) : Nat × Int32 := if r c then (p.1 + 1, if p.2 = -1 then vb_i (10 * (c / 2) + c % 2) else p.2) else p
theorem q_hg (r : Nat → Bool) : q_h1 r (q_h1 r (q_h1 r (q_h1 r (0, -1) 0) 1) 2) 3 = q_g1 r (q_g1 r (q_g1 r (q_g1 r (0, -1) 3) 2) 1) 0 := by
  simp only [q_h1, q_g1]
  cases r 0 <;> cases r 1 <;> cases r 2 <;> cases r 3 <;> decide
section NGAME
variable {G : mm_G} {d : Nat} {I : Nat → Nat → Int32} {P : Nat → Nat → Nat} {J : Nat → Nat → Int64} {S : List (Nat × Nat)} {nc ns : Nat} {μ : mm_M} {σ : vb_St}
theorem m_rich (hM : vm_isM P S) (dN : vm_MD σ I) (hI : vs_inv σ) (hlb : vl_bel (vs_l σ)) (hd : 8 ≤ d) {s a b : Nat} (hs : s < 2) (ha : a < vb_sc (vs_l σ)) (hb : b < vb_sc (vs_l σ)) (thr : I 60 0 = vb_i 0) : mm_C G d 233 [.ref 60, .int (vb_i s), .int (vb_i a), .int (vb_i b)] (I, P, J, S, nc, ns) (vb_R (some (.int (vx_t (vx_seq (vs_l σ) (vx_sty (vs_x σ) a b) 10) s - vx_t (vs_x σ) s))) (fun I' => vm_qf I I' ∧ I' 60 0 = vb_i 0) P J S nc ns) := by
  obtain ⟨hli, hIx, hIa, hIi⟩ := hI
  obtain ⟨hok, hwf, he9⟩ := hIx
  have hsj := hwf.sj
  have hfj := hwf.fj
  have hst := hwf.ws
  have dM := vmd_l dN
  have hR := vmd_x dN
  have hn := vm_10 dM
  have ht := vx_t2 (vs_x σ)
  have hs3 := vm_sc3 dM
  have hq := vm_qf.rf (I := I)
  have hwf0 : vx_wf (vs_l σ) (vx_sty (vs_x σ) a b) := hwf.sf rfl rfl
  have loop := vb_down (p := fun j => ∀ (I1 : Nat → Nat → Int32), vm_qf I I1 → I1 60 0 = vb_i 0 → vm_row (vs_l σ) (I1 76) 46 (vx_seq (vs_l σ) (vx_sty (vs_x σ) a b) j) (vx_tn (vx_seq (vs_l σ) (vx_sty (vs_x σ) a b) j)) → mm_W G d 233 (mm_blk 233 26) [.ref 60, .int (vb_i s), .int (vb_i a), .int (vb_i b), .int (vb_i j)] [] (I1, P, J, S, nc, ns) (vb_R (some (.int (vx_t (vx_seq (vs_l σ) (vx_sty (vs_x σ) a b) 10) s - vx_t (vs_x σ) s))) (fun I' => vm_qf I I' ∧ I' 60 0 = vb_i 0) P J S nc ns)) 10 (by
    intro j hj ih I1 hq1 thr1 hS1
    have dN1 := dN.qf hq1
    have dM1 := vmd_l dN1
    have hR1 := vmd_x dN1
    have hse : vx_e (vx_seq (vs_l σ) (vx_sty (vs_x σ) a b) j) = vx_e (vs_x σ) + j := vx_seq_e _ _ _
    have hokS := (vx_sty_ok (x := vs_x σ) ha hb).seq j
    have hwfS := vx_wf.seq hwf0 hn j
    refine mm_w1 rfl ?_
    refine mm_wv (vb_i 10) rfl (by decide) ?_
    refine mm_nicge (by omega) (by omega) ?_ ?_
    · intro h30
      refine mm_w1 rfl ?_
      refine mm_wgr (vM_S60 hM) (by decide) (by decide) (vM_P60_38 hM) (vM_a76 hM) ?_
      refine mm_wv (vb_i 86) rfl (by decide) ?_
      refine mm_w1 rfl ?_
      refine mm_nadd ?_
      refine mm_wiav (vx_t (vx_seq (vs_l σ) (vx_sty (vs_x σ) a b) j) s) (vM_a76 hM) (vM_S76 hM) (by decide) (by omega) (vm_rt hS1 hs) ?_
      refine mm_w1 rfl ?_
      refine mm_wgr (vM_S60 hM) (by decide) (by decide) (vM_P60_38 hM) (vM_a76 hM) ?_
      refine mm_wv (vb_i 40) rfl (by decide) ?_
      refine mm_w1 rfl ?_
      refine mm_nadd ?_
      refine mm_wiav (vx_t (vs_x σ) s) (vM_a76 hM) (vM_S76 hM) (by decide) (by omega) (vm_rt hR1 hs) ?_
      refine mm_w1 rfl ?_
      refine mm_wr rfl rfl rfl ?_
      have e : j = 10 := by omega
      subst e
      exact ⟨_, ⟨hq1, thr1⟩, rfl⟩
    · intro h30
      refine mm_w1 rfl ?_
      refine mm_wv (vb_i 46) rfl (by decide) ?_
      refine mm_w1 rfl ?_
      refine mm_wv (vb_i 46) rfl (by decide) ?_
      refine mm_cvi (vb_cv (vM_S60 hM) rfl rfl rfl rfl) (by decide) (by omega) (m_by hM dM1 hS1 (by decide) hli hlb hwfS.sj hwfS.fj hwfS.ws hokS (by omega)) ?_
      intro I2 hf2
      have hq2 := hq1.tr (vm_qf.of8 hf2)
      have dN2 := dN.qf hq2
      have dM2 := vmd_l dN2
      have hR2 := vmd_x dN2
      have thr2 : I2 60 0 = vb_i 0 := by rw [hf2 60 (by simp only [vm_s8]; decide)]; exact thr1
      have hS2 : vm_row (vs_l σ) (I2 76) 46 (vx_seq (vs_l σ) (vx_sty (vs_x σ) a b) j) (vx_tn (vx_seq (vs_l σ) (vx_sty (vs_x σ) a b) j)) := by rw [hf2 76 (by simp only [vm_s8]; decide)]; exact hS1
      have hble := vx_by_le (vs_l σ) (vx_seq (vs_l σ) (vx_sty (vs_x σ) a b) j)
      have hble : vx_byT (vs_l σ) (vx_seq (vs_l σ) (vx_sty (vs_x σ) a b) j) (vx_tn (vx_seq (vs_l σ) (vx_sty (vs_x σ) a b) j)) ≤ 100 := hble
      refine mm_cvn (vb_cv (vM_S60 hM) rfl rfl rfl rfl) (by decide) (by omega) (m_does hM dM2 hS2 (by decide) hwfS.sj (by omega) (vm_by_ok1 hn hli hwfS) (by omega)) ?_
      intro I3 hq03
      obtain ⟨hS3, ho3, hf3⟩ := hq03
      have hq3 := hq2.tr (vm_qf.of76 hf3 (fun j hj => ho3 j (by omega)))
      have dN3 := dN.qf hq3
      have dM3 := vmd_l dN3
      have hR3 := vmd_x dN3
      have thr3 : I3 60 0 = vb_i 0 := by rw [hf3 60 (by decide)]; exact thr2
      refine mm_nincL (ls' := [_, _, _, _, _]) 1 rfl (by decide) rfl ?_
      refine mm_wgoto ?_
      exact ih (by omega) _ hq3 thr3 (by have := hS3; rw [show 1 - vx_tn (vx_seq (vs_l σ) (vx_sty (vs_x σ) a b) j) = vx_tn (vx_seq (vs_l σ) (vx_sty (vs_x σ) a b) (j + 1)) from (vx_tn_play _ _).symm] at this; exact this)
    )
  show mm_W _ _ 233 (mm_blk 233 0) [.ref 60, .int (vb_i s), .int (vb_i a), .int (vb_i b), .null] [] _ _
  refine mm_w1 rfl ?_
  refine mm_wv (vb_i 0) rfl (by decide) ?_
  refine mm_wv (vb_i 46) rfl (by decide) ?_
  refine mm_cvn (vb_cv (vM_S60 hM) rfl rfl rfl rfl) (by decide) (by omega) (m_lays0 hM (by decide) (by decide) (by decide)) ?_
  intro I1 hq01
  obtain ⟨hc1, ho1, hf1⟩ := hq01
  have hq1 := hq.tr (vm_qf.of76 hf1 (fun j hj => ho1 j (by omega)))
  have dN1 := dN.qf hq1
  have dM1 := vmd_l dN1
  have hR1 := vmd_x dN1
  have thr1 : I1 60 0 = vb_i 0 := by rw [hf1 60 (by decide)]; exact thr
  have hS1 : vm_row (vs_l σ) (I1 76) 46 (vs_x σ) (vx_tn (vs_x σ)) := hR.mv hn hc1
  refine mm_w1 rfl ?_
  refine mm_wgr (vM_S60 hM) (by decide) (by decide) (vM_P60_38 hM) (vM_a76 hM) ?_
  refine mm_wv (vb_i 90) rfl (by decide) ?_
  refine mm_w1 rfl ?_
  refine mm_wis (vM_S76 hM) (by decide) (by omega) ?_
  refine mm_w1 rfl ?_
  refine mm_wgr (vM_S60 hM) (by decide) (by decide) (vM_P60_38 hM) (vM_a76 hM) ?_
  refine mm_wv (vb_i 91) rfl (by decide) ?_
  refine mm_w1 rfl ?_
  refine mm_wis (vM_S76 hM) (by decide) (by omega) ?_
  refine mm_wv (vb_i 0) rfl (by decide) ?_
  refine mm_w1 (ls' := [_, _, _, _, _]) rfl ?_
  obtain ⟨h1, h2, h3, h4, h5, h6, h7, h8, h9⟩ := hS1
  refine loop 0 (by omega) _ (hq1.tr (vm_qf.of76 ((vb_fr.rf.up1).up1) (fun j hj => by rw [vb_up2 _ _ (by omega), vb_up2 _ _ (by omega)]))) (by rw [vb_up3 _ _ (by decide), vb_up3 _ _ (by decide)]; exact thr1) ⟨?_, ?_, ?_, ?_, ?_, ?_, ?_, h8, h9⟩
  · intro v hv; rw [vb_up2 _ _ (by omega), vb_up2 _ _ (by omega)]; exact h1 v hv
  · intro v hv; rw [vb_up2 _ _ (by omega), vb_up2 _ _ (by omega)]; exact h2 v hv
  · intro v hv; rw [vb_up2 _ _ (by omega), vb_up2 _ _ (by omega)]; exact h3 v hv
  · intro v hv; rw [vb_up2 _ _ (by omega), vb_up2 _ _ (by omega)]; exact h4 v hv
  · rw [vb_up2 _ _ (by omega), vb_up2 _ _ (by omega)]; exact h5
  · rw [vb_up2 _ _ (by omega), vb_up2 _ _ (by omega)]; exact h6
  · intro j hj
    by_cases h0 : j = 0
    · subst h0; rw [vb_up2 _ _ (by omega)]; exact vb_up1 _ _ _ _
    · have hj1 : j = 1 := by omega
      subst hj1; exact vb_up1 _ _ _ _
theorem n_game (hM : vm_isM P S) (dN : vm_MD σ I) (hI : vs_inv σ) (hlb : vl_bel (vs_l σ)) (hd : 20 ≤ d) (a b w : Int32) : mm_C G d 234 [.ref 60, .int a, .int b, .int w] (I, P, J, S, nc, ns) (vm_RV (sp_game σ a b w) (fun I' => vm_qf I I') P J S nc ns) := by
  obtain ⟨hli, hIx, hIa, hIi⟩ := hI
  obtain ⟨hok, hwf, he9⟩ := hIx
  have hsj := hwf.sj
  have hfj := hwf.fj
  have hst := hwf.ws
  have dM := vmd_l dN
  have hR := vmd_x dN
  have hn := vm_10 dM
  have ht := vx_t2 (vs_x σ)
  have hs3 := vm_sc3 dM
  have hI0 : vs_inv σ := ⟨hli, ⟨hok, hwf, he9⟩, hIa, hIi⟩
  cases ha : vb_idx (vb_sc (vs_l σ)) a with
  | none =>
    rw [show sp_game σ a b w = .inr 0 by simp only [sp_game, ha]]
    show mm_W _ _ 234 (mm_blk 234 0) [.ref 60, .int a, .int b, .int w, .null, .null, .null, .null, .null, .null, .null] [] _ _
    refine mm_w1 rfl ?_
    refine mm_wv (vb_i 0) rfl (by decide) ?_
    refine mm_wpiN (vM_S60 hM) (by decide) (by decide) ?_
    intro I1 hI1
    have hq1 : vm_qf I I1 := by rw [hI1]; exact vm_qf.thr _
    have dN1 := dN.qf hq1
    have dM1 := vmd_l dN1
    have hR1 := vmd_x dN1
    have thr1 : I1 60 0 = vb_i 0 := by rw [hI1, vb_up1]
    refine mm_w1 rfl ?_
    refine mm_w1 rfl ?_
    refine mm_wiflt ?_ ?_
    · intro h7
      refine mm_wv (vb_i 0) rfl (by decide) ?_
      refine mm_wv (vb_i 1) rfl (by decide) ?_
      refine mm_cvi (vb_cv (vM_S60 hM) rfl rfl rfl rfl) (by decide) (by omega) (m_right_f (w := 1) hM thr1 (by decide) (by decide)) ?_
      intro I2 hI2
      refine mm_nifeq (by decide) (fun _ => ?_) (fun h => absurd rfl h)
      refine mm_wv (vb_i 0) rfl (by decide) ?_
      refine mm_wr rfl rfl rfl ?_
      exact ⟨_, _, rfl, hq1.tr (by rw [hI2]; exact vm_qf.thr _), by rw [hI2, vb_up1]⟩
    · intro h7
      refine mm_w1 rfl ?_
      refine mm_w1 rfl ?_
      refine mm_wgiv _ (vM_S60 hM) (by decide) (by decide) (vm_sc dM1) ?_
      refine mm_wicge ?_ ?_
      · intro h15
        refine mm_wv (vb_i 0) rfl (by decide) ?_
        refine mm_wv (vb_i 1) rfl (by decide) ?_
        refine mm_cvi (vb_cv (vM_S60 hM) rfl rfl rfl rfl) (by decide) (by omega) (m_right_f (w := 1) hM thr1 (by decide) (by decide)) ?_
        intro I2 hI2
        refine mm_nifeq (by decide) (fun _ => ?_) (fun h => absurd rfl h)
        refine mm_wv (vb_i 0) rfl (by decide) ?_
        refine mm_wr rfl rfl rfl ?_
        exact ⟨_, _, rfl, hq1.tr (by rw [hI2]; exact vm_qf.thr _), by rw [hI2, vb_up1]⟩
      · intro h15
        exact vb_idx_no ha h7 h15
  | some a_ =>
    obtain ⟨la, rfl⟩ := vb_idx_some (by omega) ha
    cases hb : vb_idx (vb_sc (vs_l σ)) b with
    | none =>
      rw [show sp_game σ (vb_i a_) b w = .inr 0 by simp only [sp_game, ha, hb]]
      show mm_W _ _ 234 (mm_blk 234 0) [.ref 60, .int (vb_i a_), .int b, .int w, .null, .null, .null, .null, .null, .null, .null] [] _ _
      refine mm_w1 rfl ?_
      refine mm_wv (vb_i 0) rfl (by decide) ?_
      refine mm_wpiN (vM_S60 hM) (by decide) (by decide) ?_
      intro I1 hI1
      have hq1 : vm_qf I I1 := by rw [hI1]; exact vm_qf.thr _
      have dN1 := dN.qf hq1
      have dM1 := vmd_l dN1
      have hR1 := vmd_x dN1
      have thr1 : I1 60 0 = vb_i 0 := by rw [hI1, vb_up1]
      refine mm_w1 rfl ?_
      refine mm_w1 rfl ?_
      refine mm_niflt (by omega) ?_
      refine mm_w1 rfl ?_
      refine mm_w1 rfl ?_
      refine mm_wgiv _ (vM_S60 hM) (by decide) (by decide) (vm_sc dM1) ?_
      refine mm_nicge (by omega) (by omega) ?_ ?_
      · intro h15
        exact absurd la h15
      · intro h15
        refine mm_w1 rfl ?_
        refine mm_wiflt ?_ ?_
        · intro h19
          refine mm_wv (vb_i 0) rfl (by decide) ?_
          refine mm_wv (vb_i 1) rfl (by decide) ?_
          refine mm_cvi (vb_cv (vM_S60 hM) rfl rfl rfl rfl) (by decide) (by omega) (m_right_f (w := 1) hM thr1 (by decide) (by decide)) ?_
          intro I2 hI2
          refine mm_nifeq (by decide) (fun _ => ?_) (fun h => absurd rfl h)
          refine mm_wv (vb_i 0) rfl (by decide) ?_
          refine mm_wr rfl rfl rfl ?_
          exact ⟨_, _, rfl, hq1.tr (by rw [hI2]; exact vm_qf.thr _), by rw [hI2, vb_up1]⟩
        · intro h19
          refine mm_w1 rfl ?_
          refine mm_w1 rfl ?_
          refine mm_wgiv _ (vM_S60 hM) (by decide) (by decide) (vm_sc dM1) ?_
          refine mm_wicge ?_ ?_
          · intro h27
            refine mm_wv (vb_i 0) rfl (by decide) ?_
            refine mm_wv (vb_i 1) rfl (by decide) ?_
            refine mm_cvi (vb_cv (vM_S60 hM) rfl rfl rfl rfl) (by decide) (by omega) (m_right_f (w := 1) hM thr1 (by decide) (by decide)) ?_
            intro I2 hI2
            refine mm_nifeq (by decide) (fun _ => ?_) (fun h => absurd rfl h)
            refine mm_wv (vb_i 0) rfl (by decide) ?_
            refine mm_wr rfl rfl rfl ?_
            exact ⟨_, _, rfl, hq1.tr (by rw [hI2]; exact vm_qf.thr _), by rw [hI2, vb_up1]⟩
          · intro h27
            exact vb_idx_no hb h19 h27
    | some b_ =>
      obtain ⟨lb, rfl⟩ := vb_idx_some (by omega) hb
      cases hw : vb_idx 2 w with
      | none =>
        rw [show sp_game σ (vb_i a_) (vb_i b_) w = .inr 0 by simp only [sp_game, ha, hb, hw]]
        show mm_W _ _ 234 (mm_blk 234 0) [.ref 60, .int (vb_i a_), .int (vb_i b_), .int w, .null, .null, .null, .null, .null, .null, .null] [] _ _
        refine mm_w1 rfl ?_
        refine mm_wv (vb_i 0) rfl (by decide) ?_
        refine mm_wpiN (vM_S60 hM) (by decide) (by decide) ?_
        intro I1 hI1
        have hq1 : vm_qf I I1 := by rw [hI1]; exact vm_qf.thr _
        have dN1 := dN.qf hq1
        have dM1 := vmd_l dN1
        have hR1 := vmd_x dN1
        have thr1 : I1 60 0 = vb_i 0 := by rw [hI1, vb_up1]
        refine mm_w1 rfl ?_
        refine mm_w1 rfl ?_
        refine mm_niflt (by omega) ?_
        refine mm_w1 rfl ?_
        refine mm_w1 rfl ?_
        refine mm_wgiv _ (vM_S60 hM) (by decide) (by decide) (vm_sc dM1) ?_
        refine mm_nicge (by omega) (by omega) ?_ ?_
        · intro h15
          exact absurd la h15
        · intro h15
          refine mm_w1 rfl ?_
          refine mm_niflt (by omega) ?_
          refine mm_w1 rfl ?_
          refine mm_w1 rfl ?_
          refine mm_wgiv _ (vM_S60 hM) (by decide) (by decide) (vm_sc dM1) ?_
          refine mm_nicge (by omega) (by omega) ?_ ?_
          · intro h27
            exact absurd lb h27
          · intro h27
            refine mm_wv (vb_i 1) rfl (by decide) ?_
            refine mm_wgoto ?_
            refine mm_wv (vb_i 1) rfl (by decide) ?_
            refine mm_cvp (vb_cv (vM_S60 hM) rfl rfl rfl rfl) (by decide) (by omega) (m_right_t hM thr1) ?_
            refine mm_nifeq (by decide) (fun h => absurd h (by decide)) (fun _ => ?_)
            refine mm_w1 rfl ?_
            refine mm_w1 rfl ?_
            refine mm_wv (vb_i 1) rfl (by decide) ?_
            refine mm_cvi (vb_cv (vM_S60 hM) rfl rfl rfl rfl) (by decide) (by omega) (m_isW_f hM thr1 hw (by omega) (by omega)) ?_
            intro I2 hI2 
            refine mm_nifeq (by decide) (fun _ => ?_) (fun h => absurd rfl h)
            refine mm_wv (vb_i 0) rfl (by decide) ?_
            refine mm_wr rfl rfl rfl ?_
            exact ⟨_, _, rfl, hq1.tr (by rw [hI2]; exact vm_qf.thr _), by rw [hI2, vb_up1]⟩
      | some w_ =>
        obtain ⟨lw, rfl⟩ := vb_idx_some (by decide) hw
        by_cases hab : a_ = b_
        · rw [show sp_game σ (vb_i a_) (vb_i b_) (vb_i w_) = .inr 1 by simp only [sp_game, ha, hb, hw, if_pos hab]]
          show mm_W _ _ 234 (mm_blk 234 0) [.ref 60, .int (vb_i a_), .int (vb_i b_), .int (vb_i w_), .null, .null, .null, .null, .null, .null, .null] [] _ _
          refine mm_w1 rfl ?_
          refine mm_wv (vb_i 0) rfl (by decide) ?_
          refine mm_wpiN (vM_S60 hM) (by decide) (by decide) ?_
          intro I1 hI1
          have hq1 : vm_qf I I1 := by rw [hI1]; exact vm_qf.thr _
          have dN1 := dN.qf hq1
          have dM1 := vmd_l dN1
          have hR1 := vmd_x dN1
          have thr1 : I1 60 0 = vb_i 0 := by rw [hI1, vb_up1]
          refine mm_w1 rfl ?_
          refine mm_w1 rfl ?_
          refine mm_niflt (by omega) ?_
          refine mm_w1 rfl ?_
          refine mm_w1 rfl ?_
          refine mm_wgiv _ (vM_S60 hM) (by decide) (by decide) (vm_sc dM1) ?_
          refine mm_nicge (by omega) (by omega) ?_ ?_
          · intro h15
            exact absurd la h15
          · intro h15
            refine mm_w1 rfl ?_
            refine mm_niflt (by omega) ?_
            refine mm_w1 rfl ?_
            refine mm_w1 rfl ?_
            refine mm_wgiv _ (vM_S60 hM) (by decide) (by decide) (vm_sc dM1) ?_
            refine mm_nicge (by omega) (by omega) ?_ ?_
            · intro h27
              exact absurd lb h27
            · intro h27
              refine mm_wv (vb_i 1) rfl (by decide) ?_
              refine mm_wgoto ?_
              refine mm_wv (vb_i 1) rfl (by decide) ?_
              refine mm_cvp (vb_cv (vM_S60 hM) rfl rfl rfl rfl) (by decide) (by omega) (m_right_t hM thr1) ?_
              refine mm_nifeq (by decide) (fun h => absurd h (by decide)) (fun _ => ?_)
              refine mm_w1 rfl ?_
              refine mm_w1 rfl ?_
              refine mm_wv (vb_i 1) rfl (by decide) ?_
              refine mm_cvp (vb_cv (vM_S60 hM) rfl rfl rfl rfl) (by decide) (by omega) (m_isW_t hM thr1 (by rw [hw]; rfl) (by decide) (by omega)) ?_
              refine mm_nifeq (by decide) (fun h => absurd h (by decide)) (fun _ => ?_)
              refine mm_w1 rfl ?_
              refine mm_w1 rfl ?_
              refine mm_w1 rfl ?_
              refine mm_niceq (by omega) (by omega) ?_ ?_
              · intro h54
                refine mm_wv (vb_i 0) rfl (by decide) ?_
                refine mm_wv (vb_i 2) rfl (by decide) ?_
                refine mm_cvi (vb_cv (vM_S60 hM) rfl rfl rfl rfl) (by decide) (by omega) (m_right_f (w := 2) hM thr1 (by decide) (by decide)) ?_
                intro I2 hI2 
                refine mm_nifne (by decide) (fun h => absurd rfl h) (fun _ => ?_)
                refine mm_wv (vb_i 0) rfl (by decide) ?_
                refine mm_wr rfl rfl rfl ?_
                exact ⟨_, _, rfl, hq1.tr (by rw [hI2]; exact vm_qf.thr _), by rw [hI2, vb_up1]⟩
              · intro h54
                exact absurd hab h54
        · rw [show sp_game σ (vb_i a_) (vb_i b_) (vb_i w_) = .inl (if w_ = 0 then vb_i (q_game (vs_l σ) (vs_x σ) a_ b_).1 else (q_game (vs_l σ) (vs_x σ) a_ b_).2) by simp only [sp_game, ha, hb, hw, if_neg hab]]
          have g4 : ∀ (I1 : Nat → Nat → Int32) (p : Nat × Int32) (y7 y8 y9 y10 : Value), p.1 ≤ 4 → vm_qf I I1 → I1 60 0 = vb_i 0 → p = q_game (vs_l σ) (vs_x σ) a_ b_ → mm_W G d 234 (mm_blk 234 80) [.ref 60, .int (vb_i a_), .int (vb_i b_), .int (vb_i w_), .int (vb_i p.1), .int p.2, .int (vb_i (3 + 1)), y7, y8, y9, y10] [] (I1, P, J, S, nc, ns) (vm_RV (.inl (if w_ = 0 then vb_i (q_game (vs_l σ) (vs_x σ) a_ b_).1 else (q_game (vs_l σ) (vs_x σ) a_ b_).2)) (fun I' => vm_qf I I') P J S nc ns) := by
            intro I1 p y7 y8 y9 y10 hp hq1 thr1 heq
            refine mm_w1 rfl ?_
            refine mm_wv (vb_i 4) rfl (by decide) ?_
            refine mm_nicge (by omega) (by omega) ?_ ?_
            · intro h83
              refine mm_w1 rfl ?_
              refine mm_nifne (by omega) ?_ ?_
              · intro h217
                refine mm_w1 rfl ?_
                refine mm_wr rfl rfl rfl ?_
                refine ⟨_, _, rfl, hq1, ?_, thr1⟩
                rw [← heq]
                first
                  | (rw [if_pos h217]; done)
                  | (rw [if_neg h217]; done)
              · intro h217
                refine mm_w1 rfl ?_
                refine mm_wgoto ?_
                refine mm_wr rfl rfl rfl ?_
                refine ⟨_, _, rfl, hq1, ?_, thr1⟩
                rw [← heq]
                first
                  | (rw [if_pos h217]; done)
                  | (rw [if_neg h217]; done)
            · intro h83
              exact absurd h83 (by decide)
          have g3 : ∀ (I1 : Nat → Nat → Int32) (p : Nat × Int32) (y7 y8 y9 y10 : Value), p.1 ≤ 3 → vm_qf I I1 → I1 60 0 = vb_i 0 → q_h1 (q_rests (vs_l σ) (vs_x σ) a_ b_) (p) 3 = q_game (vs_l σ) (vs_x σ) a_ b_ → mm_W G d 234 (mm_blk 234 80) [.ref 60, .int (vb_i a_), .int (vb_i b_), .int (vb_i w_), .int (vb_i p.1), .int p.2, .int (vb_i (2 + 1)), y7, y8, y9, y10] [] (I1, P, J, S, nc, ns) (vm_RV (.inl (if w_ = 0 then vb_i (q_game (vs_l σ) (vs_x σ) a_ b_).1 else (q_game (vs_l σ) (vs_x σ) a_ b_).2)) (fun I' => vm_qf I I') P J S nc ns) := by
            intro I1 p y7 y8 y9 y10 hp hq1 thr1 heq
            have dN1 := dN.qf hq1
            have dM1 := vmd_l dN1
            have hR1 := vmd_x dN1
            refine mm_w1 rfl ?_
            refine mm_wv (vb_i 4) rfl (by decide) ?_
            refine mm_nicge (by omega) (by omega) ?_ ?_
            · intro h83
              exact absurd h83 (by decide)
            · intro h83
              refine mm_w1 rfl ?_
              refine mm_wv (vb_i 2) rfl (by decide) ?_
              refine mm_ndiv (by omega) (by omega) (by omega) ?_
              refine mm_nifne (by omega) ?_ ?_
              · intro h90
                refine mm_w1 rfl ?_
                refine mm_w1 (ls' := [_, _, _, _, _, _, _, _, _, _, _]) rfl ?_ 
                refine mm_w1 rfl ?_
                refine mm_wv (vb_i 2) rfl (by decide) ?_
                refine mm_ndiv (by omega) (by omega) (by omega) ?_
                refine mm_nifne (by omega) ?_ ?_
                · intro h104
                  refine mm_w1 rfl ?_
                  refine mm_w1 (ls' := [_, _, _, _, _, _, _, _, _, _, _]) rfl ?_ 
                  refine mm_w1 rfl ?_
                  refine mm_wv (vb_i 2) rfl (by decide) ?_
                  refine mm_nrem (by omega) (by omega) (by omega) ?_
                  refine mm_nifne (by omega) ?_ ?_
                  · intro h118
                    refine mm_w1 rfl ?_
                    refine mm_w1 (ls' := [_, _, _, _, _, _, _, _, _, _, _]) rfl ?_ 
                    refine mm_w1 rfl ?_
                    refine mm_wv (vb_i 2) rfl (by decide) ?_
                    refine mm_nrem (by omega) (by omega) (by omega) ?_
                    refine mm_nifne (by omega) ?_ ?_
                    · intro h132
                      refine mm_w1 rfl ?_
                      refine mm_w1 (ls' := [_, _, _, _, _, _, _, _, _, _, _]) rfl ?_ 
                      refine mm_w1 rfl ?_
                      refine mm_wv (vb_i 0) rfl (by decide) ?_
                      refine mm_w1 rfl ?_
                      refine mm_w1 rfl ?_
                      refine mm_cvi (vb_cv (vM_S60 hM) rfl rfl rfl rfl) (by decide) (by omega) (m_rich hM dN1 hI0 hlb (by omega) (by omega) (by omega) (by omega) thr1) ?_
                      intro I2 hq02
                      obtain ⟨hqq2, thr2⟩ := hq02
                      have hq2 := hq1.tr hqq2
                      have dN2 := dN.qf hq2
                      have dM2 := vmd_l dN2
                      have hR2 := vmd_x dN2
                      refine mm_w1 rfl ?_
                      refine mm_wv (vb_i 0) rfl (by decide) ?_
                      refine mm_w1 rfl ?_
                      refine mm_w1 rfl ?_
                      refine mm_cvi (vb_cv (vM_S60 hM) rfl rfl rfl rfl) (by decide) (by omega) (m_rich hM dN2 hI0 hlb (by omega) (by omega) (by omega) (by omega) thr2) ?_
                      intro I3 hq03
                      obtain ⟨hqq3, thr3⟩ := hq03
                      have hq3 := hq2.tr hqq3
                      have dN3 := dN.qf hq3
                      have dM3 := vmd_l dN3
                      have hR3 := vmd_x dN3
                      refine mm_wicgt ?_ ?_
                      · intro h160
                        refine mm_nincL (ls' := [_, _, _, _, _, _, _, _, _, _, _]) 1 rfl (by decide) rfl ?_
                        refine mm_wgoto ?_
                        have hr : (q_rests (vs_l σ) (vs_x σ) a_ b_) 3 = false := by
                          rw [q_rests]
                          first
                            | (rw [show decide (q_gn (vs_l σ) (vs_x σ) a_ b_ 3 0 < q_gn (vs_l σ) (vs_x σ) a_ b_ ((3 + 2) % 4) 0) = true from decide_eq_true h160]; rfl)
                            | (rw [show decide (q_gn (vs_l σ) (vs_x σ) a_ b_ 3 1 < q_gn (vs_l σ) (vs_x σ) a_ b_ (2 * (3 / 2) + (1 - 3 % 2)) 1) = true from decide_eq_true h181, Bool.not_true, Bool.and_false])
                        rw [show q_h1 (q_rests (vs_l σ) (vs_x σ) a_ b_) p 3 = p by rw [q_h1, hr]; rfl] at heq
                        exact g4 _ p _ _ _ _ (by omega) hq3 thr3 heq
                      · intro h160
                        refine mm_w1 rfl ?_
                        refine mm_wv (vb_i 1) rfl (by decide) ?_
                        refine mm_w1 rfl ?_
                        refine mm_w1 rfl ?_
                        refine mm_cvi (vb_cv (vM_S60 hM) rfl rfl rfl rfl) (by decide) (by omega) (m_rich hM dN3 hI0 hlb (by omega) (by omega) (by omega) (by omega) thr3) ?_
                        intro I4 hq04
                        obtain ⟨hqq4, thr4⟩ := hq04
                        have hq4 := hq3.tr hqq4
                        have dN4 := dN.qf hq4
                        have dM4 := vmd_l dN4
                        have hR4 := vmd_x dN4
                        refine mm_w1 rfl ?_
                        refine mm_wv (vb_i 1) rfl (by decide) ?_
                        refine mm_w1 rfl ?_
                        refine mm_w1 rfl ?_
                        refine mm_cvi (vb_cv (vM_S60 hM) rfl rfl rfl rfl) (by decide) (by omega) (m_rich hM dN4 hI0 hlb (by omega) (by omega) (by omega) (by omega) thr4) ?_
                        intro I5 hq05
                        obtain ⟨hqq5, thr5⟩ := hq05
                        have hq5 := hq4.tr hqq5
                        have dN5 := dN.qf hq5
                        have dM5 := vmd_l dN5
                        have hR5 := vmd_x dN5
                        refine mm_wicle ?_ ?_
                        · intro h181
                          refine mm_nincL (ls' := [_, _, _, _, _, _, _, _, _, _, _]) 1 rfl (by decide) rfl ?_
                          refine mm_w1 rfl ?_
                          refine mm_wv (-1) rfl (by decide) ?_
                          refine mm_wicne ?_ ?_
                          · intro h193
                            refine mm_nincL (ls' := [_, _, _, _, _, _, _, _, _, _, _]) 1 rfl (by decide) rfl ?_
                            refine mm_wgoto ?_
                            have hr : (q_rests (vs_l σ) (vs_x σ) a_ b_) 3 = true := by
                              rw [q_rests, show decide (q_gn (vs_l σ) (vs_x σ) a_ b_ 3 0 < q_gn (vs_l σ) (vs_x σ) a_ b_ ((3 + 2) % 4) 0) = false from decide_eq_false h160, show decide (q_gn (vs_l σ) (vs_x σ) a_ b_ 3 1 < q_gn (vs_l σ) (vs_x σ) a_ b_ (2 * (3 / 2) + (1 - 3 % 2)) 1) = false from decide_eq_false h181]; rfl
                            rw [show q_h1 (q_rests (vs_l σ) (vs_x σ) a_ b_) p 3 = (p.1 + 1, if p.2 = -1 then vb_i (10 * (3 / 2) + 3 % 2) else p.2) by rw [q_h1, hr]; rfl] at heq
                            first
                              | (rw [if_pos h193] at heq; exact g4 _ (p.1 + 1, vb_i (10 * (3 / 2) + 3 % 2)) _ _ _ _ (by show p.1 + 1 ≤ 4; omega) hq5 thr5 heq)
                              | (rw [if_neg h193] at heq; exact g4 _ (p.1 + 1, p.2) _ _ _ _ (by show p.1 + 1 ≤ 4; omega) hq5 thr5 heq)
                          · intro h193
                            refine mm_wv (vb_i 10) rfl (by decide) ?_
                            refine mm_w1 rfl ?_
                            refine mm_wv (vb_i 2) rfl (by decide) ?_
                            refine mm_ndiv (by omega) (by omega) (by omega) ?_
                            refine mm_nmul ?_
                            refine mm_w1 rfl ?_
                            refine mm_wv (vb_i 2) rfl (by decide) ?_
                            refine mm_nrem (by omega) (by omega) (by omega) ?_
                            refine mm_nadd ?_
                            refine mm_w1 (ls' := [_, _, _, _, _, _, _, _, _, _, _]) rfl ?_
                            refine mm_nincL (ls' := [_, _, _, _, _, _, _, _, _, _, _]) 1 rfl (by decide) rfl ?_
                            refine mm_wgoto ?_
                            have hr : (q_rests (vs_l σ) (vs_x σ) a_ b_) 3 = true := by
                              rw [q_rests, show decide (q_gn (vs_l σ) (vs_x σ) a_ b_ 3 0 < q_gn (vs_l σ) (vs_x σ) a_ b_ ((3 + 2) % 4) 0) = false from decide_eq_false h160, show decide (q_gn (vs_l σ) (vs_x σ) a_ b_ 3 1 < q_gn (vs_l σ) (vs_x σ) a_ b_ (2 * (3 / 2) + (1 - 3 % 2)) 1) = false from decide_eq_false h181]; rfl
                            rw [show q_h1 (q_rests (vs_l σ) (vs_x σ) a_ b_) p 3 = (p.1 + 1, if p.2 = -1 then vb_i (10 * (3 / 2) + 3 % 2) else p.2) by rw [q_h1, hr]; rfl] at heq
                            first
                              | (rw [if_pos h193] at heq; exact g4 _ (p.1 + 1, vb_i (10 * (3 / 2) + 3 % 2)) _ _ _ _ (by show p.1 + 1 ≤ 4; omega) hq5 thr5 heq)
                              | (rw [if_neg h193] at heq; exact g4 _ (p.1 + 1, p.2) _ _ _ _ (by show p.1 + 1 ≤ 4; omega) hq5 thr5 heq)
                        · intro h181
                          refine mm_wgoto ?_
                          refine mm_nincL (ls' := [_, _, _, _, _, _, _, _, _, _, _]) 1 rfl (by decide) rfl ?_
                          refine mm_wgoto ?_
                          have hr : (q_rests (vs_l σ) (vs_x σ) a_ b_) 3 = false := by
                            rw [q_rests]
                            first
                              | (rw [show decide (q_gn (vs_l σ) (vs_x σ) a_ b_ 3 0 < q_gn (vs_l σ) (vs_x σ) a_ b_ ((3 + 2) % 4) 0) = true from decide_eq_true h160]; rfl)
                              | (rw [show decide (q_gn (vs_l σ) (vs_x σ) a_ b_ 3 1 < q_gn (vs_l σ) (vs_x σ) a_ b_ (2 * (3 / 2) + (1 - 3 % 2)) 1) = true from decide_eq_true h181, Bool.not_true, Bool.and_false])
                          rw [show q_h1 (q_rests (vs_l σ) (vs_x σ) a_ b_) p 3 = p by rw [q_h1, hr]; rfl] at heq
                          exact g4 _ p _ _ _ _ (by omega) hq5 thr5 heq  
                    · intro h132
                      exact absurd h132 (by decide)
                  · intro h118
                    exact absurd h118 (by decide)
                · intro h104
                  exact absurd h104 (by decide)
              · intro h90
                exact absurd h90 (by decide)
          have g2 : ∀ (I1 : Nat → Nat → Int32) (p : Nat × Int32) (y7 y8 y9 y10 : Value), p.1 ≤ 2 → vm_qf I I1 → I1 60 0 = vb_i 0 → q_h1 (q_rests (vs_l σ) (vs_x σ) a_ b_) (q_h1 (q_rests (vs_l σ) (vs_x σ) a_ b_) (p) 2) 3 = q_game (vs_l σ) (vs_x σ) a_ b_ → mm_W G d 234 (mm_blk 234 80) [.ref 60, .int (vb_i a_), .int (vb_i b_), .int (vb_i w_), .int (vb_i p.1), .int p.2, .int (vb_i (1 + 1)), y7, y8, y9, y10] [] (I1, P, J, S, nc, ns) (vm_RV (.inl (if w_ = 0 then vb_i (q_game (vs_l σ) (vs_x σ) a_ b_).1 else (q_game (vs_l σ) (vs_x σ) a_ b_).2)) (fun I' => vm_qf I I') P J S nc ns) := by
            intro I1 p y7 y8 y9 y10 hp hq1 thr1 heq
            have dN1 := dN.qf hq1
            have dM1 := vmd_l dN1
            have hR1 := vmd_x dN1
            refine mm_w1 rfl ?_
            refine mm_wv (vb_i 4) rfl (by decide) ?_
            refine mm_nicge (by omega) (by omega) ?_ ?_
            · intro h83
              exact absurd h83 (by decide)
            · intro h83
              refine mm_w1 rfl ?_
              refine mm_wv (vb_i 2) rfl (by decide) ?_
              refine mm_ndiv (by omega) (by omega) (by omega) ?_
              refine mm_nifne (by omega) ?_ ?_
              · intro h90
                refine mm_w1 rfl ?_
                refine mm_w1 (ls' := [_, _, _, _, _, _, _, _, _, _, _]) rfl ?_ 
                refine mm_w1 rfl ?_
                refine mm_wv (vb_i 2) rfl (by decide) ?_
                refine mm_ndiv (by omega) (by omega) (by omega) ?_
                refine mm_nifne (by omega) ?_ ?_
                · intro h104
                  refine mm_w1 rfl ?_
                  refine mm_w1 (ls' := [_, _, _, _, _, _, _, _, _, _, _]) rfl ?_ 
                  refine mm_w1 rfl ?_
                  refine mm_wv (vb_i 2) rfl (by decide) ?_
                  refine mm_nrem (by omega) (by omega) (by omega) ?_
                  refine mm_nifne (by omega) ?_ ?_
                  · intro h118
                    exact absurd rfl h118
                  · intro h118
                    refine mm_w1 rfl ?_
                    refine mm_wgoto ?_
                    refine mm_w1 (ls' := [_, _, _, _, _, _, _, _, _, _, _]) rfl ?_ 
                    refine mm_w1 rfl ?_
                    refine mm_wv (vb_i 2) rfl (by decide) ?_
                    refine mm_nrem (by omega) (by omega) (by omega) ?_
                    refine mm_nifne (by omega) ?_ ?_
                    · intro h132
                      exact absurd rfl h132
                    · intro h132
                      refine mm_w1 rfl ?_
                      refine mm_wgoto ?_
                      refine mm_w1 (ls' := [_, _, _, _, _, _, _, _, _, _, _]) rfl ?_ 
                      refine mm_w1 rfl ?_
                      refine mm_wv (vb_i 0) rfl (by decide) ?_
                      refine mm_w1 rfl ?_
                      refine mm_w1 rfl ?_
                      refine mm_cvi (vb_cv (vM_S60 hM) rfl rfl rfl rfl) (by decide) (by omega) (m_rich hM dN1 hI0 hlb (by omega) (by omega) (by omega) (by omega) thr1) ?_
                      intro I2 hq02
                      obtain ⟨hqq2, thr2⟩ := hq02
                      have hq2 := hq1.tr hqq2
                      have dN2 := dN.qf hq2
                      have dM2 := vmd_l dN2
                      have hR2 := vmd_x dN2
                      refine mm_w1 rfl ?_
                      refine mm_wv (vb_i 0) rfl (by decide) ?_
                      refine mm_w1 rfl ?_
                      refine mm_w1 rfl ?_
                      refine mm_cvi (vb_cv (vM_S60 hM) rfl rfl rfl rfl) (by decide) (by omega) (m_rich hM dN2 hI0 hlb (by omega) (by omega) (by omega) (by omega) thr2) ?_
                      intro I3 hq03
                      obtain ⟨hqq3, thr3⟩ := hq03
                      have hq3 := hq2.tr hqq3
                      have dN3 := dN.qf hq3
                      have dM3 := vmd_l dN3
                      have hR3 := vmd_x dN3
                      refine mm_wicgt ?_ ?_
                      · intro h160
                        refine mm_nincL (ls' := [_, _, _, _, _, _, _, _, _, _, _]) 1 rfl (by decide) rfl ?_
                        refine mm_wgoto ?_
                        have hr : (q_rests (vs_l σ) (vs_x σ) a_ b_) 2 = false := by
                          rw [q_rests]
                          first
                            | (rw [show decide (q_gn (vs_l σ) (vs_x σ) a_ b_ 2 0 < q_gn (vs_l σ) (vs_x σ) a_ b_ ((2 + 2) % 4) 0) = true from decide_eq_true h160]; rfl)
                            | (rw [show decide (q_gn (vs_l σ) (vs_x σ) a_ b_ 2 1 < q_gn (vs_l σ) (vs_x σ) a_ b_ (2 * (2 / 2) + (1 - 2 % 2)) 1) = true from decide_eq_true h181, Bool.not_true, Bool.and_false])
                        rw [show q_h1 (q_rests (vs_l σ) (vs_x σ) a_ b_) p 2 = p by rw [q_h1, hr]; rfl] at heq
                        exact g3 _ p _ _ _ _ (by omega) hq3 thr3 heq
                      · intro h160
                        refine mm_w1 rfl ?_
                        refine mm_wv (vb_i 1) rfl (by decide) ?_
                        refine mm_w1 rfl ?_
                        refine mm_w1 rfl ?_
                        refine mm_cvi (vb_cv (vM_S60 hM) rfl rfl rfl rfl) (by decide) (by omega) (m_rich hM dN3 hI0 hlb (by omega) (by omega) (by omega) (by omega) thr3) ?_
                        intro I4 hq04
                        obtain ⟨hqq4, thr4⟩ := hq04
                        have hq4 := hq3.tr hqq4
                        have dN4 := dN.qf hq4
                        have dM4 := vmd_l dN4
                        have hR4 := vmd_x dN4
                        refine mm_w1 rfl ?_
                        refine mm_wv (vb_i 1) rfl (by decide) ?_
                        refine mm_w1 rfl ?_
                        refine mm_w1 rfl ?_
                        refine mm_cvi (vb_cv (vM_S60 hM) rfl rfl rfl rfl) (by decide) (by omega) (m_rich hM dN4 hI0 hlb (by omega) (by omega) (by omega) (by omega) thr4) ?_
                        intro I5 hq05
                        obtain ⟨hqq5, thr5⟩ := hq05
                        have hq5 := hq4.tr hqq5
                        have dN5 := dN.qf hq5
                        have dM5 := vmd_l dN5
                        have hR5 := vmd_x dN5
                        refine mm_wicle ?_ ?_
                        · intro h181
                          refine mm_nincL (ls' := [_, _, _, _, _, _, _, _, _, _, _]) 1 rfl (by decide) rfl ?_
                          refine mm_w1 rfl ?_
                          refine mm_wv (-1) rfl (by decide) ?_
                          refine mm_wicne ?_ ?_
                          · intro h193
                            refine mm_nincL (ls' := [_, _, _, _, _, _, _, _, _, _, _]) 1 rfl (by decide) rfl ?_
                            refine mm_wgoto ?_
                            have hr : (q_rests (vs_l σ) (vs_x σ) a_ b_) 2 = true := by
                              rw [q_rests, show decide (q_gn (vs_l σ) (vs_x σ) a_ b_ 2 0 < q_gn (vs_l σ) (vs_x σ) a_ b_ ((2 + 2) % 4) 0) = false from decide_eq_false h160, show decide (q_gn (vs_l σ) (vs_x σ) a_ b_ 2 1 < q_gn (vs_l σ) (vs_x σ) a_ b_ (2 * (2 / 2) + (1 - 2 % 2)) 1) = false from decide_eq_false h181]; rfl
                            rw [show q_h1 (q_rests (vs_l σ) (vs_x σ) a_ b_) p 2 = (p.1 + 1, if p.2 = -1 then vb_i (10 * (2 / 2) + 2 % 2) else p.2) by rw [q_h1, hr]; rfl] at heq
                            first
                              | (rw [if_pos h193] at heq; exact g3 _ (p.1 + 1, vb_i (10 * (2 / 2) + 2 % 2)) _ _ _ _ (by show p.1 + 1 ≤ 3; omega) hq5 thr5 heq)
                              | (rw [if_neg h193] at heq; exact g3 _ (p.1 + 1, p.2) _ _ _ _ (by show p.1 + 1 ≤ 3; omega) hq5 thr5 heq)
                          · intro h193
                            refine mm_wv (vb_i 10) rfl (by decide) ?_
                            refine mm_w1 rfl ?_
                            refine mm_wv (vb_i 2) rfl (by decide) ?_
                            refine mm_ndiv (by omega) (by omega) (by omega) ?_
                            refine mm_nmul ?_
                            refine mm_w1 rfl ?_
                            refine mm_wv (vb_i 2) rfl (by decide) ?_
                            refine mm_nrem (by omega) (by omega) (by omega) ?_
                            refine mm_nadd ?_
                            refine mm_w1 (ls' := [_, _, _, _, _, _, _, _, _, _, _]) rfl ?_
                            refine mm_nincL (ls' := [_, _, _, _, _, _, _, _, _, _, _]) 1 rfl (by decide) rfl ?_
                            refine mm_wgoto ?_
                            have hr : (q_rests (vs_l σ) (vs_x σ) a_ b_) 2 = true := by
                              rw [q_rests, show decide (q_gn (vs_l σ) (vs_x σ) a_ b_ 2 0 < q_gn (vs_l σ) (vs_x σ) a_ b_ ((2 + 2) % 4) 0) = false from decide_eq_false h160, show decide (q_gn (vs_l σ) (vs_x σ) a_ b_ 2 1 < q_gn (vs_l σ) (vs_x σ) a_ b_ (2 * (2 / 2) + (1 - 2 % 2)) 1) = false from decide_eq_false h181]; rfl
                            rw [show q_h1 (q_rests (vs_l σ) (vs_x σ) a_ b_) p 2 = (p.1 + 1, if p.2 = -1 then vb_i (10 * (2 / 2) + 2 % 2) else p.2) by rw [q_h1, hr]; rfl] at heq
                            first
                              | (rw [if_pos h193] at heq; exact g3 _ (p.1 + 1, vb_i (10 * (2 / 2) + 2 % 2)) _ _ _ _ (by show p.1 + 1 ≤ 3; omega) hq5 thr5 heq)
                              | (rw [if_neg h193] at heq; exact g3 _ (p.1 + 1, p.2) _ _ _ _ (by show p.1 + 1 ≤ 3; omega) hq5 thr5 heq)
                        · intro h181
                          refine mm_wgoto ?_
                          refine mm_nincL (ls' := [_, _, _, _, _, _, _, _, _, _, _]) 1 rfl (by decide) rfl ?_
                          refine mm_wgoto ?_
                          have hr : (q_rests (vs_l σ) (vs_x σ) a_ b_) 2 = false := by
                            rw [q_rests]
                            first
                              | (rw [show decide (q_gn (vs_l σ) (vs_x σ) a_ b_ 2 0 < q_gn (vs_l σ) (vs_x σ) a_ b_ ((2 + 2) % 4) 0) = true from decide_eq_true h160]; rfl)
                              | (rw [show decide (q_gn (vs_l σ) (vs_x σ) a_ b_ 2 1 < q_gn (vs_l σ) (vs_x σ) a_ b_ (2 * (2 / 2) + (1 - 2 % 2)) 1) = true from decide_eq_true h181, Bool.not_true, Bool.and_false])
                          rw [show q_h1 (q_rests (vs_l σ) (vs_x σ) a_ b_) p 2 = p by rw [q_h1, hr]; rfl] at heq
                          exact g3 _ p _ _ _ _ (by omega) hq5 thr5 heq  
                · intro h104
                  exact absurd h104 (by decide)
              · intro h90
                exact absurd h90 (by decide)
          have g1 : ∀ (I1 : Nat → Nat → Int32) (p : Nat × Int32) (y7 y8 y9 y10 : Value), p.1 ≤ 1 → vm_qf I I1 → I1 60 0 = vb_i 0 → q_h1 (q_rests (vs_l σ) (vs_x σ) a_ b_) (q_h1 (q_rests (vs_l σ) (vs_x σ) a_ b_) (q_h1 (q_rests (vs_l σ) (vs_x σ) a_ b_) (p) 1) 2) 3 = q_game (vs_l σ) (vs_x σ) a_ b_ → mm_W G d 234 (mm_blk 234 80) [.ref 60, .int (vb_i a_), .int (vb_i b_), .int (vb_i w_), .int (vb_i p.1), .int p.2, .int (vb_i (0 + 1)), y7, y8, y9, y10] [] (I1, P, J, S, nc, ns) (vm_RV (.inl (if w_ = 0 then vb_i (q_game (vs_l σ) (vs_x σ) a_ b_).1 else (q_game (vs_l σ) (vs_x σ) a_ b_).2)) (fun I' => vm_qf I I') P J S nc ns) := by
            intro I1 p y7 y8 y9 y10 hp hq1 thr1 heq
            have dN1 := dN.qf hq1
            have dM1 := vmd_l dN1
            have hR1 := vmd_x dN1
            refine mm_w1 rfl ?_
            refine mm_wv (vb_i 4) rfl (by decide) ?_
            refine mm_nicge (by omega) (by omega) ?_ ?_
            · intro h83
              exact absurd h83 (by decide)
            · intro h83
              refine mm_w1 rfl ?_
              refine mm_wv (vb_i 2) rfl (by decide) ?_
              refine mm_ndiv (by omega) (by omega) (by omega) ?_
              refine mm_nifne (by omega) ?_ ?_
              · intro h90
                exact absurd rfl h90
              · intro h90
                refine mm_w1 rfl ?_
                refine mm_wgoto ?_
                refine mm_w1 (ls' := [_, _, _, _, _, _, _, _, _, _, _]) rfl ?_ 
                refine mm_w1 rfl ?_
                refine mm_wv (vb_i 2) rfl (by decide) ?_
                refine mm_ndiv (by omega) (by omega) (by omega) ?_
                refine mm_nifne (by omega) ?_ ?_
                · intro h104
                  exact absurd rfl h104
                · intro h104
                  refine mm_w1 rfl ?_
                  refine mm_wgoto ?_
                  refine mm_w1 (ls' := [_, _, _, _, _, _, _, _, _, _, _]) rfl ?_ 
                  refine mm_w1 rfl ?_
                  refine mm_wv (vb_i 2) rfl (by decide) ?_
                  refine mm_nrem (by omega) (by omega) (by omega) ?_
                  refine mm_nifne (by omega) ?_ ?_
                  · intro h118
                    refine mm_w1 rfl ?_
                    refine mm_w1 (ls' := [_, _, _, _, _, _, _, _, _, _, _]) rfl ?_ 
                    refine mm_w1 rfl ?_
                    refine mm_wv (vb_i 2) rfl (by decide) ?_
                    refine mm_nrem (by omega) (by omega) (by omega) ?_
                    refine mm_nifne (by omega) ?_ ?_
                    · intro h132
                      refine mm_w1 rfl ?_
                      refine mm_w1 (ls' := [_, _, _, _, _, _, _, _, _, _, _]) rfl ?_ 
                      refine mm_w1 rfl ?_
                      refine mm_wv (vb_i 0) rfl (by decide) ?_
                      refine mm_w1 rfl ?_
                      refine mm_w1 rfl ?_
                      refine mm_cvi (vb_cv (vM_S60 hM) rfl rfl rfl rfl) (by decide) (by omega) (m_rich hM dN1 hI0 hlb (by omega) (by omega) (by omega) (by omega) thr1) ?_
                      intro I2 hq02
                      obtain ⟨hqq2, thr2⟩ := hq02
                      have hq2 := hq1.tr hqq2
                      have dN2 := dN.qf hq2
                      have dM2 := vmd_l dN2
                      have hR2 := vmd_x dN2
                      refine mm_w1 rfl ?_
                      refine mm_wv (vb_i 0) rfl (by decide) ?_
                      refine mm_w1 rfl ?_
                      refine mm_w1 rfl ?_
                      refine mm_cvi (vb_cv (vM_S60 hM) rfl rfl rfl rfl) (by decide) (by omega) (m_rich hM dN2 hI0 hlb (by omega) (by omega) (by omega) (by omega) thr2) ?_
                      intro I3 hq03
                      obtain ⟨hqq3, thr3⟩ := hq03
                      have hq3 := hq2.tr hqq3
                      have dN3 := dN.qf hq3
                      have dM3 := vmd_l dN3
                      have hR3 := vmd_x dN3
                      refine mm_wicgt ?_ ?_
                      · intro h160
                        refine mm_nincL (ls' := [_, _, _, _, _, _, _, _, _, _, _]) 1 rfl (by decide) rfl ?_
                        refine mm_wgoto ?_
                        have hr : (q_rests (vs_l σ) (vs_x σ) a_ b_) 1 = false := by
                          rw [q_rests]
                          first
                            | (rw [show decide (q_gn (vs_l σ) (vs_x σ) a_ b_ 1 0 < q_gn (vs_l σ) (vs_x σ) a_ b_ ((1 + 2) % 4) 0) = true from decide_eq_true h160]; rfl)
                            | (rw [show decide (q_gn (vs_l σ) (vs_x σ) a_ b_ 1 1 < q_gn (vs_l σ) (vs_x σ) a_ b_ (2 * (1 / 2) + (1 - 1 % 2)) 1) = true from decide_eq_true h181, Bool.not_true, Bool.and_false])
                        rw [show q_h1 (q_rests (vs_l σ) (vs_x σ) a_ b_) p 1 = p by rw [q_h1, hr]; rfl] at heq
                        exact g2 _ p _ _ _ _ (by omega) hq3 thr3 heq
                      · intro h160
                        refine mm_w1 rfl ?_
                        refine mm_wv (vb_i 1) rfl (by decide) ?_
                        refine mm_w1 rfl ?_
                        refine mm_w1 rfl ?_
                        refine mm_cvi (vb_cv (vM_S60 hM) rfl rfl rfl rfl) (by decide) (by omega) (m_rich hM dN3 hI0 hlb (by omega) (by omega) (by omega) (by omega) thr3) ?_
                        intro I4 hq04
                        obtain ⟨hqq4, thr4⟩ := hq04
                        have hq4 := hq3.tr hqq4
                        have dN4 := dN.qf hq4
                        have dM4 := vmd_l dN4
                        have hR4 := vmd_x dN4
                        refine mm_w1 rfl ?_
                        refine mm_wv (vb_i 1) rfl (by decide) ?_
                        refine mm_w1 rfl ?_
                        refine mm_w1 rfl ?_
                        refine mm_cvi (vb_cv (vM_S60 hM) rfl rfl rfl rfl) (by decide) (by omega) (m_rich hM dN4 hI0 hlb (by omega) (by omega) (by omega) (by omega) thr4) ?_
                        intro I5 hq05
                        obtain ⟨hqq5, thr5⟩ := hq05
                        have hq5 := hq4.tr hqq5
                        have dN5 := dN.qf hq5
                        have dM5 := vmd_l dN5
                        have hR5 := vmd_x dN5
                        refine mm_wicle ?_ ?_
                        · intro h181
                          refine mm_nincL (ls' := [_, _, _, _, _, _, _, _, _, _, _]) 1 rfl (by decide) rfl ?_
                          refine mm_w1 rfl ?_
                          refine mm_wv (-1) rfl (by decide) ?_
                          refine mm_wicne ?_ ?_
                          · intro h193
                            refine mm_nincL (ls' := [_, _, _, _, _, _, _, _, _, _, _]) 1 rfl (by decide) rfl ?_
                            refine mm_wgoto ?_
                            have hr : (q_rests (vs_l σ) (vs_x σ) a_ b_) 1 = true := by
                              rw [q_rests, show decide (q_gn (vs_l σ) (vs_x σ) a_ b_ 1 0 < q_gn (vs_l σ) (vs_x σ) a_ b_ ((1 + 2) % 4) 0) = false from decide_eq_false h160, show decide (q_gn (vs_l σ) (vs_x σ) a_ b_ 1 1 < q_gn (vs_l σ) (vs_x σ) a_ b_ (2 * (1 / 2) + (1 - 1 % 2)) 1) = false from decide_eq_false h181]; rfl
                            rw [show q_h1 (q_rests (vs_l σ) (vs_x σ) a_ b_) p 1 = (p.1 + 1, if p.2 = -1 then vb_i (10 * (1 / 2) + 1 % 2) else p.2) by rw [q_h1, hr]; rfl] at heq
                            first
                              | (rw [if_pos h193] at heq; exact g2 _ (p.1 + 1, vb_i (10 * (1 / 2) + 1 % 2)) _ _ _ _ (by show p.1 + 1 ≤ 2; omega) hq5 thr5 heq)
                              | (rw [if_neg h193] at heq; exact g2 _ (p.1 + 1, p.2) _ _ _ _ (by show p.1 + 1 ≤ 2; omega) hq5 thr5 heq)
                          · intro h193
                            refine mm_wv (vb_i 10) rfl (by decide) ?_
                            refine mm_w1 rfl ?_
                            refine mm_wv (vb_i 2) rfl (by decide) ?_
                            refine mm_ndiv (by omega) (by omega) (by omega) ?_
                            refine mm_nmul ?_
                            refine mm_w1 rfl ?_
                            refine mm_wv (vb_i 2) rfl (by decide) ?_
                            refine mm_nrem (by omega) (by omega) (by omega) ?_
                            refine mm_nadd ?_
                            refine mm_w1 (ls' := [_, _, _, _, _, _, _, _, _, _, _]) rfl ?_
                            refine mm_nincL (ls' := [_, _, _, _, _, _, _, _, _, _, _]) 1 rfl (by decide) rfl ?_
                            refine mm_wgoto ?_
                            have hr : (q_rests (vs_l σ) (vs_x σ) a_ b_) 1 = true := by
                              rw [q_rests, show decide (q_gn (vs_l σ) (vs_x σ) a_ b_ 1 0 < q_gn (vs_l σ) (vs_x σ) a_ b_ ((1 + 2) % 4) 0) = false from decide_eq_false h160, show decide (q_gn (vs_l σ) (vs_x σ) a_ b_ 1 1 < q_gn (vs_l σ) (vs_x σ) a_ b_ (2 * (1 / 2) + (1 - 1 % 2)) 1) = false from decide_eq_false h181]; rfl
                            rw [show q_h1 (q_rests (vs_l σ) (vs_x σ) a_ b_) p 1 = (p.1 + 1, if p.2 = -1 then vb_i (10 * (1 / 2) + 1 % 2) else p.2) by rw [q_h1, hr]; rfl] at heq
                            first
                              | (rw [if_pos h193] at heq; exact g2 _ (p.1 + 1, vb_i (10 * (1 / 2) + 1 % 2)) _ _ _ _ (by show p.1 + 1 ≤ 2; omega) hq5 thr5 heq)
                              | (rw [if_neg h193] at heq; exact g2 _ (p.1 + 1, p.2) _ _ _ _ (by show p.1 + 1 ≤ 2; omega) hq5 thr5 heq)
                        · intro h181
                          refine mm_wgoto ?_
                          refine mm_nincL (ls' := [_, _, _, _, _, _, _, _, _, _, _]) 1 rfl (by decide) rfl ?_
                          refine mm_wgoto ?_
                          have hr : (q_rests (vs_l σ) (vs_x σ) a_ b_) 1 = false := by
                            rw [q_rests]
                            first
                              | (rw [show decide (q_gn (vs_l σ) (vs_x σ) a_ b_ 1 0 < q_gn (vs_l σ) (vs_x σ) a_ b_ ((1 + 2) % 4) 0) = true from decide_eq_true h160]; rfl)
                              | (rw [show decide (q_gn (vs_l σ) (vs_x σ) a_ b_ 1 1 < q_gn (vs_l σ) (vs_x σ) a_ b_ (2 * (1 / 2) + (1 - 1 % 2)) 1) = true from decide_eq_true h181, Bool.not_true, Bool.and_false])
                          rw [show q_h1 (q_rests (vs_l σ) (vs_x σ) a_ b_) p 1 = p by rw [q_h1, hr]; rfl] at heq
                          exact g2 _ p _ _ _ _ (by omega) hq5 thr5 heq  
                    · intro h132
                      exact absurd h132 (by decide)
                  · intro h118
                    exact absurd h118 (by decide)
          have g0 : ∀ (I1 : Nat → Nat → Int32) (p : Nat × Int32) (y7 y8 y9 y10 : Value), p.1 ≤ 0 → vm_qf I I1 → I1 60 0 = vb_i 0 → q_h1 (q_rests (vs_l σ) (vs_x σ) a_ b_) (q_h1 (q_rests (vs_l σ) (vs_x σ) a_ b_) (q_h1 (q_rests (vs_l σ) (vs_x σ) a_ b_) (q_h1 (q_rests (vs_l σ) (vs_x σ) a_ b_) (p) 0) 1) 2) 3 = q_game (vs_l σ) (vs_x σ) a_ b_ → mm_W G d 234 (mm_blk 234 80) [.ref 60, .int (vb_i a_), .int (vb_i b_), .int (vb_i w_), .int (vb_i p.1), .int p.2, .int (vb_i 0), y7, y8, y9, y10] [] (I1, P, J, S, nc, ns) (vm_RV (.inl (if w_ = 0 then vb_i (q_game (vs_l σ) (vs_x σ) a_ b_).1 else (q_game (vs_l σ) (vs_x σ) a_ b_).2)) (fun I' => vm_qf I I') P J S nc ns) := by
            intro I1 p y7 y8 y9 y10 hp hq1 thr1 heq
            have dN1 := dN.qf hq1
            have dM1 := vmd_l dN1
            have hR1 := vmd_x dN1
            refine mm_w1 rfl ?_
            refine mm_wv (vb_i 4) rfl (by decide) ?_
            refine mm_nicge (by omega) (by omega) ?_ ?_
            · intro h83
              exact absurd h83 (by decide)
            · intro h83
              refine mm_w1 rfl ?_
              refine mm_wv (vb_i 2) rfl (by decide) ?_
              refine mm_ndiv (by omega) (by omega) (by omega) ?_
              refine mm_nifne (by omega) ?_ ?_
              · intro h90
                exact absurd rfl h90
              · intro h90
                refine mm_w1 rfl ?_
                refine mm_wgoto ?_
                refine mm_w1 (ls' := [_, _, _, _, _, _, _, _, _, _, _]) rfl ?_ 
                refine mm_w1 rfl ?_
                refine mm_wv (vb_i 2) rfl (by decide) ?_
                refine mm_ndiv (by omega) (by omega) (by omega) ?_
                refine mm_nifne (by omega) ?_ ?_
                · intro h104
                  exact absurd rfl h104
                · intro h104
                  refine mm_w1 rfl ?_
                  refine mm_wgoto ?_
                  refine mm_w1 (ls' := [_, _, _, _, _, _, _, _, _, _, _]) rfl ?_ 
                  refine mm_w1 rfl ?_
                  refine mm_wv (vb_i 2) rfl (by decide) ?_
                  refine mm_nrem (by omega) (by omega) (by omega) ?_
                  refine mm_nifne (by omega) ?_ ?_
                  · intro h118
                    exact absurd rfl h118
                  · intro h118
                    refine mm_w1 rfl ?_
                    refine mm_wgoto ?_
                    refine mm_w1 (ls' := [_, _, _, _, _, _, _, _, _, _, _]) rfl ?_ 
                    refine mm_w1 rfl ?_
                    refine mm_wv (vb_i 2) rfl (by decide) ?_
                    refine mm_nrem (by omega) (by omega) (by omega) ?_
                    refine mm_nifne (by omega) ?_ ?_
                    · intro h132
                      exact absurd rfl h132
                    · intro h132
                      refine mm_w1 rfl ?_
                      refine mm_wgoto ?_
                      refine mm_w1 (ls' := [_, _, _, _, _, _, _, _, _, _, _]) rfl ?_ 
                      refine mm_w1 rfl ?_
                      refine mm_wv (vb_i 0) rfl (by decide) ?_
                      refine mm_w1 rfl ?_
                      refine mm_w1 rfl ?_
                      refine mm_cvi (vb_cv (vM_S60 hM) rfl rfl rfl rfl) (by decide) (by omega) (m_rich hM dN1 hI0 hlb (by omega) (by omega) (by omega) (by omega) thr1) ?_
                      intro I2 hq02
                      obtain ⟨hqq2, thr2⟩ := hq02
                      have hq2 := hq1.tr hqq2
                      have dN2 := dN.qf hq2
                      have dM2 := vmd_l dN2
                      have hR2 := vmd_x dN2
                      refine mm_w1 rfl ?_
                      refine mm_wv (vb_i 0) rfl (by decide) ?_
                      refine mm_w1 rfl ?_
                      refine mm_w1 rfl ?_
                      refine mm_cvi (vb_cv (vM_S60 hM) rfl rfl rfl rfl) (by decide) (by omega) (m_rich hM dN2 hI0 hlb (by omega) (by omega) (by omega) (by omega) thr2) ?_
                      intro I3 hq03
                      obtain ⟨hqq3, thr3⟩ := hq03
                      have hq3 := hq2.tr hqq3
                      have dN3 := dN.qf hq3
                      have dM3 := vmd_l dN3
                      have hR3 := vmd_x dN3
                      refine mm_wicgt ?_ ?_
                      · intro h160
                        refine mm_nincL (ls' := [_, _, _, _, _, _, _, _, _, _, _]) 1 rfl (by decide) rfl ?_
                        refine mm_wgoto ?_
                        have hr : (q_rests (vs_l σ) (vs_x σ) a_ b_) 0 = false := by
                          rw [q_rests]
                          first
                            | (rw [show decide (q_gn (vs_l σ) (vs_x σ) a_ b_ 0 0 < q_gn (vs_l σ) (vs_x σ) a_ b_ ((0 + 2) % 4) 0) = true from decide_eq_true h160]; rfl)
                            | (rw [show decide (q_gn (vs_l σ) (vs_x σ) a_ b_ 0 1 < q_gn (vs_l σ) (vs_x σ) a_ b_ (2 * (0 / 2) + (1 - 0 % 2)) 1) = true from decide_eq_true h181, Bool.not_true, Bool.and_false])
                        rw [show q_h1 (q_rests (vs_l σ) (vs_x σ) a_ b_) p 0 = p by rw [q_h1, hr]; rfl] at heq
                        exact g1 _ p _ _ _ _ (by omega) hq3 thr3 heq
                      · intro h160
                        refine mm_w1 rfl ?_
                        refine mm_wv (vb_i 1) rfl (by decide) ?_
                        refine mm_w1 rfl ?_
                        refine mm_w1 rfl ?_
                        refine mm_cvi (vb_cv (vM_S60 hM) rfl rfl rfl rfl) (by decide) (by omega) (m_rich hM dN3 hI0 hlb (by omega) (by omega) (by omega) (by omega) thr3) ?_
                        intro I4 hq04
                        obtain ⟨hqq4, thr4⟩ := hq04
                        have hq4 := hq3.tr hqq4
                        have dN4 := dN.qf hq4
                        have dM4 := vmd_l dN4
                        have hR4 := vmd_x dN4
                        refine mm_w1 rfl ?_
                        refine mm_wv (vb_i 1) rfl (by decide) ?_
                        refine mm_w1 rfl ?_
                        refine mm_w1 rfl ?_
                        refine mm_cvi (vb_cv (vM_S60 hM) rfl rfl rfl rfl) (by decide) (by omega) (m_rich hM dN4 hI0 hlb (by omega) (by omega) (by omega) (by omega) thr4) ?_
                        intro I5 hq05
                        obtain ⟨hqq5, thr5⟩ := hq05
                        have hq5 := hq4.tr hqq5
                        have dN5 := dN.qf hq5
                        have dM5 := vmd_l dN5
                        have hR5 := vmd_x dN5
                        refine mm_wicle ?_ ?_
                        · intro h181
                          refine mm_nincL (ls' := [_, _, _, _, _, _, _, _, _, _, _]) 1 rfl (by decide) rfl ?_
                          refine mm_w1 rfl ?_
                          refine mm_wv (-1) rfl (by decide) ?_
                          refine mm_wicne ?_ ?_
                          · intro h193
                            refine mm_nincL (ls' := [_, _, _, _, _, _, _, _, _, _, _]) 1 rfl (by decide) rfl ?_
                            refine mm_wgoto ?_
                            have hr : (q_rests (vs_l σ) (vs_x σ) a_ b_) 0 = true := by
                              rw [q_rests, show decide (q_gn (vs_l σ) (vs_x σ) a_ b_ 0 0 < q_gn (vs_l σ) (vs_x σ) a_ b_ ((0 + 2) % 4) 0) = false from decide_eq_false h160, show decide (q_gn (vs_l σ) (vs_x σ) a_ b_ 0 1 < q_gn (vs_l σ) (vs_x σ) a_ b_ (2 * (0 / 2) + (1 - 0 % 2)) 1) = false from decide_eq_false h181]; rfl
                            rw [show q_h1 (q_rests (vs_l σ) (vs_x σ) a_ b_) p 0 = (p.1 + 1, if p.2 = -1 then vb_i (10 * (0 / 2) + 0 % 2) else p.2) by rw [q_h1, hr]; rfl] at heq
                            first
                              | (rw [if_pos h193] at heq; exact g1 _ (p.1 + 1, vb_i (10 * (0 / 2) + 0 % 2)) _ _ _ _ (by show p.1 + 1 ≤ 1; omega) hq5 thr5 heq)
                              | (rw [if_neg h193] at heq; exact g1 _ (p.1 + 1, p.2) _ _ _ _ (by show p.1 + 1 ≤ 1; omega) hq5 thr5 heq)
                          · intro h193
                            refine mm_wv (vb_i 10) rfl (by decide) ?_
                            refine mm_w1 rfl ?_
                            refine mm_wv (vb_i 2) rfl (by decide) ?_
                            refine mm_ndiv (by omega) (by omega) (by omega) ?_
                            refine mm_nmul ?_
                            refine mm_w1 rfl ?_
                            refine mm_wv (vb_i 2) rfl (by decide) ?_
                            refine mm_nrem (by omega) (by omega) (by omega) ?_
                            refine mm_nadd ?_
                            refine mm_w1 (ls' := [_, _, _, _, _, _, _, _, _, _, _]) rfl ?_
                            refine mm_nincL (ls' := [_, _, _, _, _, _, _, _, _, _, _]) 1 rfl (by decide) rfl ?_
                            refine mm_wgoto ?_
                            have hr : (q_rests (vs_l σ) (vs_x σ) a_ b_) 0 = true := by
                              rw [q_rests, show decide (q_gn (vs_l σ) (vs_x σ) a_ b_ 0 0 < q_gn (vs_l σ) (vs_x σ) a_ b_ ((0 + 2) % 4) 0) = false from decide_eq_false h160, show decide (q_gn (vs_l σ) (vs_x σ) a_ b_ 0 1 < q_gn (vs_l σ) (vs_x σ) a_ b_ (2 * (0 / 2) + (1 - 0 % 2)) 1) = false from decide_eq_false h181]; rfl
                            rw [show q_h1 (q_rests (vs_l σ) (vs_x σ) a_ b_) p 0 = (p.1 + 1, if p.2 = -1 then vb_i (10 * (0 / 2) + 0 % 2) else p.2) by rw [q_h1, hr]; rfl] at heq
                            first
                              | (rw [if_pos h193] at heq; exact g1 _ (p.1 + 1, vb_i (10 * (0 / 2) + 0 % 2)) _ _ _ _ (by show p.1 + 1 ≤ 1; omega) hq5 thr5 heq)
                              | (rw [if_neg h193] at heq; exact g1 _ (p.1 + 1, p.2) _ _ _ _ (by show p.1 + 1 ≤ 1; omega) hq5 thr5 heq)
                        · intro h181
                          refine mm_wgoto ?_
                          refine mm_nincL (ls' := [_, _, _, _, _, _, _, _, _, _, _]) 1 rfl (by decide) rfl ?_
                          refine mm_wgoto ?_
                          have hr : (q_rests (vs_l σ) (vs_x σ) a_ b_) 0 = false := by
                            rw [q_rests]
                            first
                              | (rw [show decide (q_gn (vs_l σ) (vs_x σ) a_ b_ 0 0 < q_gn (vs_l σ) (vs_x σ) a_ b_ ((0 + 2) % 4) 0) = true from decide_eq_true h160]; rfl)
                              | (rw [show decide (q_gn (vs_l σ) (vs_x σ) a_ b_ 0 1 < q_gn (vs_l σ) (vs_x σ) a_ b_ (2 * (0 / 2) + (1 - 0 % 2)) 1) = true from decide_eq_true h181, Bool.not_true, Bool.and_false])
                          rw [show q_h1 (q_rests (vs_l σ) (vs_x σ) a_ b_) p 0 = p by rw [q_h1, hr]; rfl] at heq
                          exact g1 _ p _ _ _ _ (by omega) hq5 thr5 heq  
          show mm_W _ _ 234 (mm_blk 234 0) [.ref 60, .int (vb_i a_), .int (vb_i b_), .int (vb_i w_), .null, .null, .null, .null, .null, .null, .null] [] _ _
          refine mm_w1 rfl ?_
          refine mm_wv (vb_i 0) rfl (by decide) ?_
          refine mm_wpiN (vM_S60 hM) (by decide) (by decide) ?_
          intro I1 hI1
          have hq1 : vm_qf I I1 := by rw [hI1]; exact vm_qf.thr _
          have dN1 := dN.qf hq1
          have dM1 := vmd_l dN1
          have hR1 := vmd_x dN1
          have thr1 : I1 60 0 = vb_i 0 := by rw [hI1, vb_up1]
          refine mm_w1 rfl ?_
          refine mm_w1 rfl ?_
          refine mm_niflt (by omega) ?_
          refine mm_w1 rfl ?_
          refine mm_w1 rfl ?_
          refine mm_wgiv _ (vM_S60 hM) (by decide) (by decide) (vm_sc dM1) ?_
          refine mm_nicge (by omega) (by omega) ?_ ?_
          · intro h15
            exact absurd la h15
          · intro h15
            refine mm_w1 rfl ?_
            refine mm_niflt (by omega) ?_
            refine mm_w1 rfl ?_
            refine mm_w1 rfl ?_
            refine mm_wgiv _ (vM_S60 hM) (by decide) (by decide) (vm_sc dM1) ?_
            refine mm_nicge (by omega) (by omega) ?_ ?_
            · intro h27
              exact absurd lb h27
            · intro h27
              refine mm_wv (vb_i 1) rfl (by decide) ?_
              refine mm_wgoto ?_
              refine mm_wv (vb_i 1) rfl (by decide) ?_
              refine mm_cvp (vb_cv (vM_S60 hM) rfl rfl rfl rfl) (by decide) (by omega) (m_right_t hM thr1) ?_
              refine mm_nifeq (by decide) (fun h => absurd h (by decide)) (fun _ => ?_)
              refine mm_w1 rfl ?_
              refine mm_w1 rfl ?_
              refine mm_wv (vb_i 1) rfl (by decide) ?_
              refine mm_cvp (vb_cv (vM_S60 hM) rfl rfl rfl rfl) (by decide) (by omega) (m_isW_t hM thr1 (by rw [hw]; rfl) (by decide) (by omega)) ?_
              refine mm_nifeq (by decide) (fun h => absurd h (by decide)) (fun _ => ?_)
              refine mm_w1 rfl ?_
              refine mm_w1 rfl ?_
              refine mm_w1 rfl ?_
              refine mm_niceq (by omega) (by omega) ?_ ?_
              · intro h54
                exact absurd h54 hab
              · intro h54
                refine mm_wv (vb_i 1) rfl (by decide) ?_
                refine mm_wgoto ?_
                refine mm_wv (vb_i 2) rfl (by decide) ?_
                refine mm_cvp (vb_cv (vM_S60 hM) rfl rfl rfl rfl) (by decide) (by omega) (m_right_t hM thr1) ?_
                refine mm_nifne (by decide) (fun _ => ?_) (fun h => absurd h (by decide))
                refine mm_wv (vb_i 0) rfl (by decide) ?_
                refine mm_w1 (ls' := [_, _, _, _, _, _, _, _, _, _, _]) rfl ?_
                refine mm_wv (-1) rfl (by decide) ?_
                refine mm_w1 (ls' := [_, _, _, _, _, _, _, _, _, _, _]) rfl ?_
                refine mm_wv (vb_i 0) rfl (by decide) ?_
                refine mm_w1 (ls' := [_, _, _, _, _, _, _, _, _, _, _]) rfl ?_
                exact g0 _ (0, -1) _ _ _ _ (by decide) hq1 thr1 (q_hg _)
end NGAME
