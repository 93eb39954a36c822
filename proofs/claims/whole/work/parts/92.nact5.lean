section NACT5
variable {G : mm_G} {d : Nat} {I : Nat → Nat → Int32} {P : Nat → Nat → Nat} {J : Nat → Nat → Int64} {S : List (Nat × Nat)} {nc ns : Nat} {μ : mm_M} {σ : vb_St}
theorem m_within1_t {k : Nat} (g1 : 1 ≤ k) (g2 : k ≤ 30) : mm_Call G d 138 [.int (vb_i k), .int (vb_i 1), .int (vb_i 30)] μ (.inl (some (.int (vb_i 1))), μ) := by
  refine mm_C.call ?_
  show mm_W _ _ 138 (mm_blk 138 0) [.int (vb_i k), .int (vb_i 1), .int (vb_i 30)] [] _ _
  refine mm_w1 rfl ?_
  refine mm_w1 rfl ?_
  refine mm_niclt (by omega) (by omega) ?_ ?_
  · intro h2
    omega
  · intro h2
    refine mm_w1 rfl ?_
    refine mm_w1 rfl ?_
    refine mm_nicgt (by omega) (by omega) ?_ ?_
    · intro h7
      omega
    · intro h7
      refine mm_wv (vb_i 1) rfl (by decide) ?_
      refine mm_wgoto ?_
      refine mm_wr rfl rfl rfl ?_
      exact rfl
theorem m_within1_f {v : Int32} (g : v < vb_i 1 ∨ vb_i 30 < v) : mm_Call G d 138 [.int v, .int (vb_i 1), .int (vb_i 30)] μ (.inl (some (.int (vb_i 0))), μ) := by
  refine mm_C.call ?_
  show mm_W _ _ 138 (mm_blk 138 0) [.int v, .int (vb_i 1), .int (vb_i 30)] [] _ _
  refine mm_w1 rfl ?_
  refine mm_w1 rfl ?_
  refine mm_wiclt ?_ ?_
  · intro h2
    refine mm_wv (vb_i 0) rfl (by decide) ?_
    refine mm_wr rfl rfl rfl ?_
    first
      | exact rfl
      | exact (g.elim h2 h7).elim
  · intro h2
    refine mm_w1 rfl ?_
    refine mm_w1 rfl ?_
    refine mm_wicgt ?_ ?_
    · intro h7
      refine mm_wv (vb_i 0) rfl (by decide) ?_
      refine mm_wr rfl rfl rfl ?_
      first
        | exact rfl
        | exact (g.elim h2 h7).elim
    · intro h7
      refine mm_wv (vb_i 1) rfl (by decide) ?_
      refine mm_wgoto ?_
      refine mm_wr rfl rfl rfl ?_
      first
        | exact rfl
        | exact (g.elim h2 h7).elim
theorem vb_idx31 {v : Int32} (h : vb_idx 31 v = none) : v < vb_i 1 ∨ vb_i 30 < v := by
  rcases vb_idx_none h with h | ⟨_, h⟩
  · left
    have e0 : (0 : Int32).toInt = 0 := rfl
    have e1 := vb_toInt (n := 1) (by decide)
    rw [Int32.lt_iff_toInt_lt, e0] at h
    rw [Int32.lt_iff_toInt_lt, e1]; omega
  · right
    have e1 := vb_toInt (n := 31) (by decide)
    have e2 := vb_toInt (n := 30) (by decide)
    rw [Int32.lt_iff_toInt_lt, e1] at h
    rw [Int32.lt_iff_toInt_lt, e2]; omega
theorem n_play (hM : vm_isM P S) (dN : vm_MD σ I) (hI : vs_inv σ) (hlb : vl_bel (vs_l σ)) (hd : 20 ≤ d) (k : Int32) : mm_C G d 207 [.ref 60, .int k] (I, P, J, S, nc, ns) (vm_RV (sp_play σ k) (fun I' => vm_MD (st_play σ k) I') P J S nc ns) := by
  obtain ⟨hli, hIx, hIa, hIi⟩ := hI
  obtain ⟨hok, hwf, he9⟩ := hIx
  have hsj := hwf.sj
  have hfj := hwf.fj
  have hst := hwf.ws
  have dM := vmd_l dN
  have hR := vmd_x dN
  have hn := vm_10 dM
  have ht := vx_t2 (vs_x σ)
  have hs3 := vm_sc3 dM
  have hok0 := hok
  have hwf0 := hwf
  cases hk : vb_idx 31 k with
  | none =>
    rw [show sp_play σ k = .inl (-1) by simp only [sp_play, q_many, hk], show st_play σ k = vs_ref σ 1 by simp only [st_play, q_many, hk]]
    show mm_W _ _ 207 (mm_blk 207 0) [.ref 60, .int k, .null] [] _ _
    refine mm_w1 rfl ?_
    refine mm_wv (vb_i 0) rfl (by decide) ?_
    refine mm_wpiN (vM_S60 hM) (by decide) (by decide) ?_
    intro I1 hI1
    have hq1 : vm_qf I I1 := by rw [hI1]; exact vm_qf.thr _
    have dN1 := dN.qf hq1
    have dM1 := vmd_l dN1
    have hR1 := vmd_x dN1
    have thr1 : I1 60 0 = vb_i 0 := by rw [hI1, vb_up1]
    refine mm_w1 rfl ?_
    refine mm_wv (vb_i 1) rfl (by decide) ?_
    refine mm_wv (vb_i 30) rfl (by decide) ?_
    refine mm_csp rfl (by decide) (by omega) (m_within1_f (vb_idx31 hk)) ?_
    refine mm_nifeq (by decide) (fun _ => ?_) (fun h => absurd rfl h)
    refine mm_w1 rfl ?_
    refine mm_wv (vb_i 1) rfl (by decide) ?_
    refine mm_cvi (vb_cv (vM_S60 hM) rfl rfl rfl rfl) (by decide) (by omega) (m_refuses (w := 1) hM dN1 (by decide)) ?_
    intro I2 hq02
    obtain ⟨dN2, ht2⟩ := hq02
    have thr2 : I2 60 0 = vb_i 0 := ht2.trans thr1
    refine mm_wr rfl rfl rfl ?_
    exact ⟨_, _, rfl, dN2, rfl, thr2⟩
  | some k_ =>
    obtain ⟨lk, rfl⟩ := vb_idx_some (by decide) hk
    by_cases hz : k_ = 0
    · rw [show sp_play σ (vb_i k_) = .inl (-1) by simp only [sp_play, q_many, hk, if_pos hz], show st_play σ (vb_i k_) = vs_ref σ 1 by simp only [st_play, q_many, hk, if_pos hz]]
      show mm_W _ _ 207 (mm_blk 207 0) [.ref 60, .int (vb_i k_), .null] [] _ _
      refine mm_w1 rfl ?_
      refine mm_wv (vb_i 0) rfl (by decide) ?_
      refine mm_wpiN (vM_S60 hM) (by decide) (by decide) ?_
      intro I1 hI1
      have hq1 : vm_qf I I1 := by rw [hI1]; exact vm_qf.thr _
      have dN1 := dN.qf hq1
      have dM1 := vmd_l dN1
      have hR1 := vmd_x dN1
      have thr1 : I1 60 0 = vb_i 0 := by rw [hI1, vb_up1]
      refine mm_w1 rfl ?_
      refine mm_wv (vb_i 1) rfl (by decide) ?_
      refine mm_wv (vb_i 30) rfl (by decide) ?_
      refine mm_csp rfl (by decide) (by omega) (m_within1_f (Or.inl (by rw [hz]; decide))) ?_
      refine mm_nifeq (by decide) (fun _ => ?_) (fun h => absurd rfl h)
      refine mm_w1 rfl ?_
      refine mm_wv (vb_i 1) rfl (by decide) ?_
      refine mm_cvi (vb_cv (vM_S60 hM) rfl rfl rfl rfl) (by decide) (by omega) (m_refuses (w := 1) hM dN1 (by decide)) ?_
      intro I2 hq02
      obtain ⟨dN2, ht2⟩ := hq02
      have thr2 : I2 60 0 = vb_i 0 := ht2.trans thr1
      refine mm_wr rfl rfl rfl ?_
      exact ⟨_, _, rfl, dN2, rfl, thr2⟩
    · by_cases he : vx_e (vs_x σ) + k_ ≤ 999
      · rw [show sp_play σ (vb_i k_) = .inl (vb_i (vx_e (vs_x σ) + k_)) by simp only [sp_play, q_many, hk, if_neg hz, if_pos he], show st_play σ (vb_i k_) = vs_act σ (vx_seq (vs_l σ) (vs_x σ) k_) (vb_keep (vs_a σ) (vs_x σ)) by simp only [st_play, q_many, hk, if_neg hz, if_pos he]]
        have loop := vb_down (p := fun j => ∀ (I1 : Nat → Nat → Int32), vm_MD (vs_act σ (vx_seq (vs_l σ) (vs_x σ) j) (vb_keep (vs_a σ) (vs_x σ))) I1 → I1 60 0 = vb_i 0 → mm_W G d 207 (mm_blk 207 42) [.ref 60, .int (vb_i k_), .int (vb_i j)] [] (I1, P, J, S, nc, ns) (vm_RV (.inl (vb_i (vx_e (vs_x σ) + k_))) (fun I' => vm_MD (vs_act σ (vx_seq (vs_l σ) (vs_x σ) k_) (vb_keep (vs_a σ) (vs_x σ))) I') P J S nc ns)) k_ (by
          intro j hj ih I1 dN1 thr1
          have dM1 : vm_LD (vs_l σ) I1 := dN1.1
          have hR1 : vm_row (vs_l σ) (I1 76) 0 (vx_seq (vs_l σ) (vs_x σ) j) (vx_tn (vx_seq (vs_l σ) (vs_x σ) j)) := dN1.2.1
          have hse : vx_e (vx_seq (vs_l σ) (vs_x σ) j) = vx_e (vs_x σ) + j := vx_seq_e _ _ _
          have hokS := vx_ok.seq hok0 j
          have hwfS := vx_wf.seq hwf0 hn j
          refine mm_w1 rfl ?_
          refine mm_w1 rfl ?_
          refine mm_nicge (by omega) (by omega) ?_ ?_
          · intro h44
            refine mm_w1 rfl ?_
            refine mm_wgr (vM_S60 hM) (by decide) (by decide) (vM_P60_38 hM) (vM_a76 hM) ?_
            refine mm_wv (vb_i 42) rfl (by decide) ?_
            refine mm_wiav (vb_i (vx_e (vs_x σ) + j)) (vM_a76 hM) (vM_S76 hM) (by decide) (by omega) (by have h := vm_re hR1; rw [hse] at h; exact h) ?_
            refine mm_wr rfl rfl rfl ?_
            have e : j = k_ := by omega
            subst e
            exact ⟨_, _, rfl, dN1, rfl, thr1⟩
          · intro h44
            refine mm_w1 rfl ?_
            refine mm_wv (vb_i 0) rfl (by decide) ?_
            refine mm_w1 rfl ?_
            refine mm_wv (vb_i 0) rfl (by decide) ?_
            refine mm_cvi (vb_cv (vM_S60 hM) rfl rfl rfl rfl) (by decide) (by omega) (m_by hM dM1 hR1 (by decide) hli hlb hwfS.sj hwfS.fj hwfS.ws hokS (by omega)) ?_
            intro I2 hf2
            have dN2 := dN1.qf (vm_qf.of8 hf2)
            have dM2 : vm_LD (vs_l σ) I2 := dN2.1
            have hR2 : vm_row (vs_l σ) (I2 76) 0 (vx_seq (vs_l σ) (vs_x σ) j) (vx_tn (vx_seq (vs_l σ) (vs_x σ) j)) := dN2.2.1
            have thr2 : I2 60 0 = vb_i 0 := by rw [hf2 60 (by simp only [vm_s8]; decide)]; exact thr1
            have hble : vx_byT (vs_l σ) (vx_seq (vs_l σ) (vs_x σ) j) (vx_tn (vx_seq (vs_l σ) (vs_x σ) j)) ≤ 100 := vx_by_le (vs_l σ) (vx_seq (vs_l σ) (vs_x σ) j)
            refine mm_cvn (vb_cv (vM_S60 hM) rfl rfl rfl rfl) (by decide) (by omega) (m_does hM dM2 hR2 (by decide) hwfS.sj (by omega) (vm_by_ok1 hn hli hwfS) (by omega)) ?_
            intro I3 hq03
            obtain ⟨hr3, ho3, hf3⟩ := hq03
            have dN3 : vm_MD (vs_act σ (vx_seq (vs_l σ) (vs_x σ) (j + 1)) (vb_keep (vs_a σ) (vs_x σ))) I3 := vm_MD.row (σ := vs_act σ (vx_seq (vs_l σ) (vs_x σ) j) (vb_keep (vs_a σ) (vs_x σ))) dN2 hf3 (by rw [show vx_tn (vx_seq (vs_l σ) (vs_x σ) (j + 1)) = 1 - vx_tn (vx_seq (vs_l σ) (vs_x σ) j) from vx_tn_play _ _]; exact hr3)
            have thr3 : I3 60 0 = vb_i 0 := by rw [hf3 60 (by decide)]; exact thr2
            refine mm_nincL (ls' := [_, _, _]) 1 rfl (by decide) rfl ?_
            refine mm_wgoto ?_
            exact ih (by omega) _ dN3 thr3
          )
        show mm_W _ _ 207 (mm_blk 207 0) [.ref 60, .int (vb_i k_), .null] [] _ _
        refine mm_w1 rfl ?_
        refine mm_wv (vb_i 0) rfl (by decide) ?_
        refine mm_wpiN (vM_S60 hM) (by decide) (by decide) ?_
        intro I1 hI1
        have hq1 : vm_qf I I1 := by rw [hI1]; exact vm_qf.thr _
        have dN1 := dN.qf hq1
        have dM1 := vmd_l dN1
        have hR1 := vmd_x dN1
        have thr1 : I1 60 0 = vb_i 0 := by rw [hI1, vb_up1]
        refine mm_w1 rfl ?_
        refine mm_wv (vb_i 1) rfl (by decide) ?_
        refine mm_wv (vb_i 30) rfl (by decide) ?_
        refine mm_csp rfl (by decide) (by omega) (m_within1_t (by omega) (by omega)) ?_
        refine mm_nifeq (by decide) (fun h => absurd h (by decide)) (fun _ => ?_)
        refine mm_w1 rfl ?_
        refine mm_wgr (vM_S60 hM) (by decide) (by decide) (vM_P60_38 hM) (vM_a76 hM) ?_
        refine mm_wv (vb_i 42) rfl (by decide) ?_
        refine mm_wiav (vb_i (vx_e (vs_x σ))) (vM_a76 hM) (vM_S76 hM) (by decide) (by omega) (vm_re hR1) ?_
        refine mm_w1 rfl ?_
        refine mm_nadd ?_
        refine mm_wv (vb_i 999) rfl (by decide) ?_
        refine mm_nicle (by omega) (by omega) ?_ ?_
        · intro h27
          refine mm_w1 rfl ?_
          refine mm_cvn (vb_cv (vM_S60 hM) rfl rfl rfl rfl) (by decide) (by omega) (m_keeps hM dN1) ?_
          intro I2 hq02
          obtain ⟨dN2, ht2⟩ := hq02
          have dM2 : vm_LD (vs_l σ) I2 := dN2.1
          have hR2 : vm_row (vs_l σ) (I2 76) 0 (vs_x σ) (vx_tn (vs_x σ)) := dN2.2.1
          have thr2 : I2 60 0 = vb_i 0 := ht2.trans thr1
          refine mm_wv (vb_i 0) rfl (by decide) ?_
          refine mm_w1 (ls' := [_, _, _]) rfl ?_
          exact loop 0 (by omega) _ dN2 thr2
        · intro h27
          omega
      · rw [show sp_play σ (vb_i k_) = .inl (-1) by simp only [sp_play, q_many, hk, if_neg hz, if_neg he], show st_play σ (vb_i k_) = vs_ref σ 1 by simp only [st_play, q_many, hk, if_neg hz, if_neg he]]
        show mm_W _ _ 207 (mm_blk 207 0) [.ref 60, .int (vb_i k_), .null] [] _ _
        refine mm_w1 rfl ?_
        refine mm_wv (vb_i 0) rfl (by decide) ?_
        refine mm_wpiN (vM_S60 hM) (by decide) (by decide) ?_
        intro I1 hI1
        have hq1 : vm_qf I I1 := by rw [hI1]; exact vm_qf.thr _
        have dN1 := dN.qf hq1
        have dM1 := vmd_l dN1
        have hR1 := vmd_x dN1
        have thr1 : I1 60 0 = vb_i 0 := by rw [hI1, vb_up1]
        refine mm_w1 rfl ?_
        refine mm_wv (vb_i 1) rfl (by decide) ?_
        refine mm_wv (vb_i 30) rfl (by decide) ?_
        refine mm_csp rfl (by decide) (by omega) (m_within1_t (by omega) (by omega)) ?_
        refine mm_nifeq (by decide) (fun h => absurd h (by decide)) (fun _ => ?_)
        refine mm_w1 rfl ?_
        refine mm_wgr (vM_S60 hM) (by decide) (by decide) (vM_P60_38 hM) (vM_a76 hM) ?_
        refine mm_wv (vb_i 42) rfl (by decide) ?_
        refine mm_wiav (vb_i (vx_e (vs_x σ))) (vM_a76 hM) (vM_S76 hM) (by decide) (by omega) (vm_re hR1) ?_
        refine mm_w1 rfl ?_
        refine mm_nadd ?_
        refine mm_wv (vb_i 999) rfl (by decide) ?_
        refine mm_nicle (by omega) (by omega) ?_ ?_
        · intro h27
          omega
        · intro h27
          refine mm_w1 rfl ?_
          refine mm_wv (vb_i 1) rfl (by decide) ?_
          refine mm_cvi (vb_cv (vM_S60 hM) rfl rfl rfl rfl) (by decide) (by omega) (m_refuses (w := 1) hM dN1 (by decide)) ?_
          intro I2 hq02
          obtain ⟨dN2, ht2⟩ := hq02
          have thr2 : I2 60 0 = vb_i 0 := ht2.trans thr1
          refine mm_wr rfl rfl rfl ?_
          exact ⟨_, _, rfl, dN2, rfl, thr2⟩
end NACT5
