section NSAFE
variable {G : mm_G} {d : Nat} {I : Nat → Nat → Int32} {P : Nat → Nat → Nat} {J : Nat → Nat → Int64} {S : List (Nat × Nat)} {nc ns : Nat} {μ : mm_M} {σ : vb_St}
theorem vm_may_S {ℓ : vb_L} {x : vb_X} (hn : vb_n ℓ ≤ 10) (hsj : vx_dj (vx_s x)) {a b : Nat} (ha : a < vb_n ℓ) (hb : b < vb_n ℓ) (hs : vx_in (vx_s x) a < 2) : vm_may ℓ x (vx_in (vx_s x) a) (10 * a + b) = vb_has (q_tgt ℓ x a) b := by
  have e1 : (10 * a + b) / 10 = a := by omega
  have e2 : (10 * a + b) % 10 = b := by omega
  rw [vm_may, decide_eq_false (by omega), Bool.false_or, vb_q, e1, e2, decide_eq_true ha, decide_eq_true hb, Bool.true_and, Bool.true_and, ← vx_in_dec hsj hs, decide_eq_true rfl, Bool.true_and, q_tgt, if_neg (by omega)]
theorem n_safe (hM : vm_isM P S) (dN : vm_MD σ I) (hI : vs_inv σ) (hlb : vl_bel (vs_l σ)) (hd : 20 ≤ d) (v : Int32) : mm_C G d 241 [.ref 60, .int v] (I, P, J, S, nc, ns) (vm_RV (sp_safe σ v) (fun I' => vm_qf I I') P J S nc ns) := by
  obtain ⟨hli, hIx, hIa, hIi⟩ := hI
  obtain ⟨hok, hwf, he9⟩ := hIx
  have hsj := hwf.sj
  have hfj := hwf.fj
  have hst := hwf.ws
  have dM := vmd_l dN
  have hR := vmd_x dN
  have hn := vm_10 dM
  have ht := vx_t2 (vs_x σ)
  have hs3 := vm_sc3 dM
  cases hv : vb_idx (vb_n (vs_l σ)) v with
  | none =>
    rw [show sp_safe σ v = .inr 0 by simp only [sp_safe, hv]]
    show mm_W _ _ 241 (mm_blk 241 0) [.ref 60, .int v, .null, .null] [] _ _
    refine mm_w1 rfl ?_
    refine mm_wv (vb_i 0) rfl (by decide) ?_
    refine mm_wpiN (vM_S60 hM) (by decide) (by decide) ?_
    intro I1 hI1
    have hq1 : vm_qf I I1 := by rw [hI1]; exact vm_qf.thr _
    have dN1 := dN.qf hq1
    have dM1 := vmd_l dN1
    have hR1 := vmd_x dN1
    have thr1 : I1 60 0 = vb_i 0 := by rw [hI1, vb_up1]
    refine mm_w1 rfl ?_
    refine mm_w1 rfl ?_
    refine mm_cvi (vb_cv (vM_S60 hM) rfl rfl rfl rfl) (by decide) (by omega) (m_isV_f hM dM1 thr1 hv (by omega)) ?_
    intro I2 hI2 
    refine mm_nifeq (by decide) (fun _ => ?_) (fun h => absurd rfl h)
    refine mm_wv (vb_i 0) rfl (by decide) ?_
    refine mm_wr rfl rfl rfl ?_
    exact ⟨_, _, rfl, hq1.tr (by rw [hI2]; exact vm_qf.thr _), by rw [hI2, vb_up1]⟩
  | some v_ =>
    obtain ⟨lv, rfl⟩ := vb_idx_some (by omega) hv
    rw [show sp_safe σ (vb_i v_) = .inl (q_safe (vs_l σ) (vs_x σ) v_) by simp only [sp_safe, hv]]
    have hsj2 := hsj
    have hin := vx_in2 (vx_s (vs_x σ)) v_
    have loop : (vx_in (vx_s (vs_x σ)) v_) ≠ 2 → ∀ i, i ≤ vb_n (vs_l σ) → ∀ (I1 : Nat → Nat → Int32), vm_qf I I1 → I1 60 0 = vb_i 0 → mm_W G d 241 (mm_blk 241 31) [.ref 60, .int (vb_i v_), .int (vb_set i (fun to => vb_has (q_tgt (vs_l σ) (vs_x σ) v_) to && (vb_tk (vs_l σ) (vb_mvd (vx_s (vs_x σ) (vx_in (vx_s (vs_x σ)) v_)) v_ to) (vx_s (vs_x σ) (1 - (vx_in (vx_s (vs_x σ)) v_)) &&& ~~~ vb_bit to) to (vb_i (vx_e (vs_x σ) + 1)) == 0))), .int (vb_i i)] [] (I1, P, J, S, nc, ns) (vm_RV (.inl (q_safe (vs_l σ) (vs_x σ) v_)) (fun I' => vm_qf I I') P J S nc ns) := by
      intro h2
      have hs2 : (vx_in (vx_s (vs_x σ)) v_) < 2 := by omega
      refine vb_down (vb_n (vs_l σ)) ?_
      intro i hi ih I1 hq1 thr1
      have dN1 := dN.qf hq1
      have dM1 := vmd_l dN1
      have hR1 := vmd_x dN1
      refine mm_w1 rfl ?_
      refine mm_w1 rfl ?_
      refine mm_wgiv _ (vM_S60 hM) (by decide) (by decide) (vm_n dM1) ?_
      refine mm_nicge (by omega) (by omega) ?_ ?_
      · intro h36
        refine mm_w1 rfl ?_
        refine mm_wr rfl rfl rfl ?_
        refine ⟨_, _, rfl, hq1, ?_, thr1⟩
        rw [q_safe, if_neg h2, show i = vb_n (vs_l σ) by omega]
      · intro h36
        refine mm_w1 rfl ?_
        refine mm_wv (vb_i 0) rfl (by decide) ?_
        refine mm_w1 rfl ?_
        refine mm_w1 rfl ?_
        refine mm_cvi (vb_cv (vM_S60 hM) rfl rfl rfl rfl) (by decide) (by omega) (m_mayGo hM dM1 hR1 (by decide) hli hlb hsj hfj (fun s hs h => hst s hs _ h) (by omega) (by omega) (by omega)) ?_
        intro I2 hf2
        have hq2 := hq1.tr (vm_qf.of8 hf2)
        have dN2 := dN.qf hq2
        have dM2 := vmd_l dN2
        have hR2 := vmd_x dN2
        have thr2 : I2 60 0 = vb_i 0 := by rw [hf2 60 (by simp only [vm_s8]; decide)]; exact thr1
        refine mm_bifne ?_ ?_
        · intro h46
          have hm1 : vm_ok1 (vs_l σ) (vs_x σ) (vx_in (vx_s (vs_x σ)) v_) (10 * v_ + i) := vm_may_ok1 hn hli hsj hs2 (by omega) (by rw [vm_may_S hn hsj lv (by omega) hs2, h46])
          have hwfD : vx_wf (vs_l σ) (vx_doT (vs_l σ) (vs_x σ) (vx_in (vx_s (vs_x σ)) v_) (10 * v_ + i)) := hwf.mvT hn hs2 (by rcases hm1 with h | h; exact Or.inl h; exact Or.inr h.2.2.1)
          have e1 : (10 * v_ + i) / 10 = v_ := by omega
          have e2 : (10 * v_ + i) % 10 = i := by omega
          have hown : vx_s (vx_doT (vs_l σ) (vs_x σ) (vx_in (vx_s (vs_x σ)) v_) (10 * v_ + i)) (vx_in (vx_s (vs_x σ)) v_) = vb_mvd (vx_s (vs_x σ) (vx_in (vx_s (vs_x σ)) v_)) v_ i := by rw [vm_doT_own (by omega), e1, e2]
          have hfoe : vx_s (vx_doT (vs_l σ) (vs_x σ) (vx_in (vx_s (vs_x σ)) v_) (10 * v_ + i)) (1 - (vx_in (vx_s (vs_x σ)) v_)) = vx_s (vs_x σ) (1 - (vx_in (vx_s (vs_x σ)) v_)) &&& ~~~ vb_bit i := by rw [vm_doT_foe hs2 (by omega), e2]
          have hinD : vx_in (vx_s (vx_doT (vs_l σ) (vs_x σ) (vx_in (vx_s (vs_x σ)) v_) (10 * v_ + i))) i = (vx_in (vx_s (vs_x σ)) v_) := (vx_in_eq hwfD.sj hs2).mpr (by rw [hown, vb_mvd, vb_has_or, vb_has_bit (by omega), decide_eq_true rfl, Bool.or_true])
          refine mm_w1 rfl ?_
          refine mm_wv (vb_i 0) rfl (by decide) ?_
          refine mm_wv (vb_i 46) rfl (by decide) ?_
          refine mm_cvn (vb_cv (vM_S60 hM) rfl rfl rfl rfl) (by decide) (by omega) (m_lays0 hM (by decide) (by decide) (by decide)) ?_
          intro I3 hq03
          obtain ⟨hc3, ho3, hf3⟩ := hq03
          have hq3 := hq2.tr (vm_qf.of76 hf3 (fun j hj => ho3 j (by omega)))
          have dN3 := dN.qf hq3
          have dM3 := vmd_l dN3
          have hR3 := vmd_x dN3
          have thr3 : I3 60 0 = vb_i 0 := by rw [hf3 60 (by decide)]; exact thr2
          have hS3 : vm_row (vs_l σ) (I3 76) 46 (vs_x σ) (vx_tn (vs_x σ)) := hR2.mv hn hc3
          refine mm_w1 rfl ?_
          refine mm_wgr (vM_S60 hM) (by decide) (by decide) (vM_P60_38 hM) (vM_a76 hM) ?_
          refine mm_wv (vb_i 89) rfl (by decide) ?_
          refine mm_w1 rfl ?_
          refine mm_wgr (vM_S60 hM) (by decide) (by decide) (vM_P60_38 hM) (vM_a76 hM) ?_
          refine mm_wv (vb_i 0) rfl (by decide) ?_
          refine mm_w1 rfl ?_
          refine mm_nadd ?_
          refine mm_wiav (vb_i (vx_in (vx_s (vs_x σ)) v_)) (vM_a76 hM) (vM_S76 hM) (by decide) (by omega) (vm_rs hR3 lv) ?_
          refine mm_wisN (vM_S76 hM) (by decide) (by omega) ?_
          intro I4 hI4
          have hq4 : vm_qf I I4 := hq3.tr (vm_qf.of76 (by rw [hI4]; exact vb_fr.rf.up1) (fun j hj => by rw [hI4, vb_up2 _ _ (by omega)]))
          have dN4 := dN.qf hq4
          have dM4 := vmd_l dN4
          have hR4 := vmd_x dN4
          have thr4 : I4 60 0 = vb_i 0 := by rw [hI4, vb_up3 _ _ (by decide)]; exact thr3
          have hS4 : vm_row (vs_l σ) (I4 76) 46 (vs_x σ) (vx_in (vx_s (vs_x σ)) v_) := by rw [hI4]; exact hS3.tn hn (by omega)
          refine mm_w1 rfl ?_
          refine mm_wv (vb_i 46) rfl (by decide) ?_
          refine mm_wv (vb_i 10) rfl (by decide) ?_
          refine mm_w1 rfl ?_
          refine mm_nmul ?_
          refine mm_w1 rfl ?_
          refine mm_nadd ?_
          refine mm_cvn (vb_cv (vM_S60 hM) rfl rfl rfl rfl) (by decide) (by omega) (m_does hM dM4 hS4 (by decide) hsj2 (by omega) hm1 (by omega)) ?_
          intro I5 hq05
          obtain ⟨hS5, ho5, hf5⟩ := hq05
          have hq5 := hq4.tr (vm_qf.of76 hf5 (fun j hj => ho5 j (by omega)))
          have dN5 := dN.qf hq5
          have dM5 := vmd_l dN5
          have hR5 := vmd_x dN5
          have thr5 : I5 60 0 = vb_i 0 := by rw [hf5 60 (by decide)]; exact thr4
          refine mm_w1 rfl ?_
          refine mm_w1 rfl ?_
          refine mm_wv (vb_i 46) rfl (by decide) ?_
          refine mm_w1 rfl ?_
          refine mm_cvi (vb_cv (vM_S60 hM) rfl rfl rfl rfl) (by decide) (by omega) (m_taken (sd := (vx_in (vx_s (vs_x σ)) v_)) hM dM5 hS5 (by decide) hli hlb hwfD.sj hwfD.fj hwfD.ws (by omega) (by omega) hs2 hinD) ?_
          rw [hown, hfoe, vm_af_e]
          intro I6 hf6
          have hq6 := hq5.tr (vm_qf.of8 hf6)
          have dN6 := dN.qf hq6
          have dM6 := vmd_l dN6
          have hR6 := vmd_x dN6
          have thr6 : I6 60 0 = vb_i 0 := by rw [hf6 60 (by simp only [vm_s8]; decide)]; exact thr5
          refine mm_bifeq ?_ ?_
          · intro h94
            refine mm_wv (vb_i 1) rfl (by decide) ?_
            refine mm_w1 rfl ?_
            refine mm_nbit (by omega) ?_
            refine mm_w1 rfl ?_ 
            refine mm_w1 (ls' := [_, _, _, _]) rfl ?_
            refine mm_nincL (ls' := [_, _, _, _]) 1 rfl (by decide) rfl ?_
            refine mm_wgoto ?_
            have ih := ih (by omega) _ hq6 thr6
            first
              | (rw [vb_set_s1 (p := (fun to => vb_has (q_tgt (vs_l σ) (vs_x σ) v_) to && (vb_tk (vs_l σ) (vb_mvd (vx_s (vs_x σ) (vx_in (vx_s (vs_x σ)) v_)) v_ to) (vx_s (vs_x σ) (1 - (vx_in (vx_s (vs_x σ)) v_)) &&& ~~~ vb_bit to) to (vb_i (vx_e (vs_x σ) + 1)) == 0))) (by show (vb_has _ i && _) = true; rw [h46, Bool.true_and]; exact (Bool.not_eq_false' _).mp h94)] at ih; exact ih)
              | (rw [vb_set_s0 (p := (fun to => vb_has (q_tgt (vs_l σ) (vs_x σ) v_) to && (vb_tk (vs_l σ) (vb_mvd (vx_s (vs_x σ) (vx_in (vx_s (vs_x σ)) v_)) v_ to) (vx_s (vs_x σ) (1 - (vx_in (vx_s (vs_x σ)) v_)) &&& ~~~ vb_bit to) to (vb_i (vx_e (vs_x σ) + 1)) == 0))) (by show (vb_has _ i && _) = false; rw [h46, Bool.true_and]; exact (Bool.not_eq_true' _).mp h94)] at ih; exact ih)
          · intro h94
            refine mm_wv (vb_i 0) rfl (by decide) ?_
            refine mm_wgoto ?_
            refine mm_w1 rfl ?_
            rw [show ∀ z : Int32, z ||| vb_i 0 = z from fun z => by rw [show (vb_i 0 : Int32) = 0 from rfl, Int32.or_zero]]
            refine mm_w1 (ls' := [_, _, _, _]) rfl ?_
            refine mm_nincL (ls' := [_, _, _, _]) 1 rfl (by decide) rfl ?_
            refine mm_wgoto ?_
            have ih := ih (by omega) _ hq6 thr6
            first
              | (rw [vb_set_s1 (p := (fun to => vb_has (q_tgt (vs_l σ) (vs_x σ) v_) to && (vb_tk (vs_l σ) (vb_mvd (vx_s (vs_x σ) (vx_in (vx_s (vs_x σ)) v_)) v_ to) (vx_s (vs_x σ) (1 - (vx_in (vx_s (vs_x σ)) v_)) &&& ~~~ vb_bit to) to (vb_i (vx_e (vs_x σ) + 1)) == 0))) (by show (vb_has _ i && _) = true; rw [h46, Bool.true_and]; exact (Bool.not_eq_false' _).mp h94)] at ih; exact ih)
              | (rw [vb_set_s0 (p := (fun to => vb_has (q_tgt (vs_l σ) (vs_x σ) v_) to && (vb_tk (vs_l σ) (vb_mvd (vx_s (vs_x σ) (vx_in (vx_s (vs_x σ)) v_)) v_ to) (vx_s (vs_x σ) (1 - (vx_in (vx_s (vs_x σ)) v_)) &&& ~~~ vb_bit to) to (vb_i (vx_e (vs_x σ) + 1)) == 0))) (by show (vb_has _ i && _) = false; rw [h46, Bool.true_and]; exact (Bool.not_eq_true' _).mp h94)] at ih; exact ih)
        · intro h46
          refine mm_wgoto ?_
          refine mm_nincL (ls' := [_, _, _, _]) 1 rfl (by decide) rfl ?_
          refine mm_wgoto ?_
          have ih := ih (by omega) _ hq2 thr2
          rw [vb_set_s0 (p := (fun to => vb_has (q_tgt (vs_l σ) (vs_x σ) v_) to && (vb_tk (vs_l σ) (vb_mvd (vx_s (vs_x σ) (vx_in (vx_s (vs_x σ)) v_)) v_ to) (vx_s (vs_x σ) (1 - (vx_in (vx_s (vs_x σ)) v_)) &&& ~~~ vb_bit to) to (vb_i (vx_e (vs_x σ) + 1)) == 0))) (by show (vb_has _ i && _) = false; rw [h46]; rfl)] at ih
          exact ih 
    show mm_W _ _ 241 (mm_blk 241 0) [.ref 60, .int (vb_i v_), .null, .null] [] _ _
    refine mm_w1 rfl ?_
    refine mm_wv (vb_i 0) rfl (by decide) ?_
    refine mm_wpiN (vM_S60 hM) (by decide) (by decide) ?_
    intro I1 hI1
    have hq1 : vm_qf I I1 := by rw [hI1]; exact vm_qf.thr _
    have dN1 := dN.qf hq1
    have dM1 := vmd_l dN1
    have hR1 := vmd_x dN1
    have thr1 : I1 60 0 = vb_i 0 := by rw [hI1, vb_up1]
    refine mm_w1 rfl ?_
    refine mm_w1 rfl ?_
    refine mm_cvp (vb_cv (vM_S60 hM) rfl rfl rfl rfl) (by decide) (by omega) (m_isV_t hM dM1 thr1 (by omega) (by omega)) ?_
    refine mm_nifeq (by decide) (fun h => absurd h (by decide)) (fun _ => ?_)
    refine mm_w1 rfl ?_
    refine mm_wgr (vM_S60 hM) (by decide) (by decide) (vM_P60_38 hM) (vM_a76 hM) ?_
    refine mm_wv (vb_i 0) rfl (by decide) ?_
    refine mm_w1 rfl ?_
    refine mm_nadd ?_
    refine mm_wiav (vb_i (vx_in (vx_s (vs_x σ)) v_)) (vM_a76 hM) (vM_S76 hM) (by decide) (by omega) (vm_rs hR1 lv) ?_
    refine mm_wv (vb_i 2) rfl (by decide) ?_
    refine mm_nicne (by omega) (by omega) ?_ ?_
    · intro h22
      refine mm_wv (vb_i 0) rfl (by decide) ?_
      refine mm_w1 (ls' := [_, _, _, _]) rfl ?_
      refine mm_wv (vb_i 0) rfl (by decide) ?_
      refine mm_w1 (ls' := [_, _, _, _]) rfl ?_
      exact loop h22 0 (by omega) _ hq1 thr1
    · intro h22
      refine mm_wv (vb_i 0) rfl (by decide) ?_
      refine mm_wr rfl rfl rfl ?_
      refine ⟨_, _, rfl, hq1, ?_, thr1⟩
      rw [q_safe, if_pos h22]
      first
        | done
        | rfl
end NSAFE
