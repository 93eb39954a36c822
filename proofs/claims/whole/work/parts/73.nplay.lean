section NPLAY
variable {G : mm_G} {d : Nat} {I : Nat → Nat → Int32} {P : Nat → Nat → Nat} {J : Nat → Nat → Int64} {S : List (Nat × Nat)} {nc ns : Nat} {μ : mm_M} {σ : vb_St}
theorem vm_ms_ok1 {ℓ : vb_L} {x : vb_X} {t m : Nat} (hn : vb_n ℓ ≤ 10) (hli : vl_inv ℓ) (hsj : vx_dj (vx_s x)) (ht : t < 2) (h : m ∈ vx_msT ℓ x t) : vm_ok1 ℓ x t m := by
  have h1 : m ∈ vm_al ℓ x t 0 := by rw [vm_al0]; exact List.mem_append_left _ h
  rw [vm_al, List.mem_filter, List.mem_range'] at h1
  obtain ⟨⟨i, h2, h3⟩, h4⟩ := h1
  exact vm_may_ok1 hn hli hsj ht (by omega) h4
theorem vm_by_ok1 {ℓ : vb_L} {x : vb_X} (hn : vb_n ℓ ≤ 10) (hli : vl_inv ℓ) (hwf : vx_wf ℓ x) : vm_ok1 ℓ x (vx_tn x) (vx_byT ℓ x (vx_tn x)) := by
  have h : vx_byT ℓ x (vx_tn x) = 100 ∨ vx_byT ℓ x (vx_tn x) ∈ vx_msT ℓ x (vx_tn x) := vx_by_lt ℓ x
  rcases h with h | h
  · exact Or.inl h
  · exact vm_ms_ok1 hn hli hwf.sj (vx_t2 x) h
theorem vx_tn_do (ℓ : vb_L) (x : vb_X) (m : Nat) : vx_tn (vx_do ℓ x m) = 1 - vx_tn x := by
  simp only [vx_tn, vx_do_e]; omega
theorem vx_tn_play (ℓ : vb_L) (x : vb_X) : vx_tn (vx_play ℓ x) = 1 - vx_tn x := vx_tn_do ℓ x _
theorem n_played (hM : vm_isM P S) (dN : vm_MD σ I) (hI : vs_inv σ) (hlb : vl_bel (vs_l σ)) (hd : 20 ≤ d) (i : Int32) : mm_C G d 221 [.ref 60, .int i] (I, P, J, S, nc, ns) (vm_RV (sp_played σ i) (fun I' => vm_qf I I') P J S nc ns) := by
  obtain ⟨hli, hIx, hIa, hIi⟩ := hI
  obtain ⟨hok, hwf, he9⟩ := hIx
  have hsj := hwf.sj
  have hfj := hwf.fj
  have hst := hwf.ws
  have dM := vmd_l dN
  have hR := vmd_x dN
  have hn := vm_10 dM
  have ht := vx_t2 (vs_x σ)
  have hs3 := vm_sc3 dM
  have hok0 := hok
  have hwf0 := hwf
  cases hi : vb_idx 30 i with
  | none =>
    rw [show sp_played σ i = .inr 0 by simp only [sp_played, hi]]
    show mm_W _ _ 221 (mm_blk 221 0) [.ref 60, .int i, .null] [] _ _
    refine mm_w1 rfl ?_
    refine mm_wv (vb_i 0) rfl (by decide) ?_
    refine mm_wpiN (vM_S60 hM) (by decide) (by decide) ?_
    intro I1 hI1
    have hq1 : vm_qf I I1 := by rw [hI1]; exact vm_qf.thr _
    have dN1 := dN.qf hq1
    have dM1 := vmd_l dN1
    have hR1 := vmd_x dN1
    have thr1 : I1 60 0 = vb_i 0 := by rw [hI1, vb_up1]
    refine mm_w1 rfl ?_
    refine mm_w1 rfl ?_
    refine mm_wv (vb_i 29) rfl (by decide) ?_
    refine mm_cvi (vb_cv (vM_S60 hM) rfl rfl rfl rfl) (by decide) (by omega) (m_isW_f hM thr1 hi (by omega) (by omega)) ?_
    intro I2 hI2 
    refine mm_nifne (by decide) (fun h => absurd rfl h) (fun _ => ?_)
    refine mm_wv (vb_i 0) rfl (by decide) ?_
    refine mm_wr rfl rfl rfl ?_
    exact ⟨_, _, rfl, hq1.tr (by rw [hI2]; exact vm_qf.thr _), by rw [hI2, vb_up1]⟩
  | some i_ =>
    obtain ⟨li, rfl⟩ := vb_idx_some (by decide) hi
    rw [show sp_played σ (vb_i i_) = .inl (vb_told (vx_mvs (vs_l σ) (vs_x σ) i_)) by simp only [sp_played, hi]]
    have loop := vb_down (p := fun j => ∀ (I1 : Nat → Nat → Int32), vm_qf I I1 → I1 60 0 = vb_i 0 → vm_row (vs_l σ) (I1 76) 46 (vx_seq (vs_l σ) (vs_x σ) j) (vx_tn (vx_seq (vs_l σ) (vs_x σ) j)) → mm_W G d 221 (mm_blk 221 26) [.ref 60, .int (vb_i i_), .int (vb_i j)] [] (I1, P, J, S, nc, ns) (vm_RV (.inl (vb_told (vx_mvs (vs_l σ) (vs_x σ) i_))) (fun I' => vm_qf I I') P J S nc ns)) i_ (by
      intro j hj ih I1 hq1 thr1 hS1
      have dN1 := dN.qf hq1
      have dM1 := vmd_l dN1
      have hR1 := vmd_x dN1
      have hse := vx_seq_e (vs_l σ) (vs_x σ) (j)
      have hokS := vx_ok.seq hok0 (j)
      have hwfS := vx_wf.seq hwf0 hn (j)
      refine mm_w1 rfl ?_
      refine mm_w1 rfl ?_
      refine mm_nicge (by omega) (by omega) ?_ ?_
      · intro h28
        refine mm_w1 rfl ?_
        refine mm_wv (vb_i 46) rfl (by decide) ?_
        refine mm_cvi (vb_cv (vM_S60 hM) rfl rfl rfl rfl) (by decide) (by omega) (m_by hM dM1 hS1 (by decide) hli hlb hwfS.sj hwfS.fj hwfS.ws hokS (by omega)) ?_
        intro I2 hf2
        have hq2 := hq1.tr (vm_qf.of8 hf2)
        have dN2 := dN.qf hq2
        have dM2 := vmd_l dN2
        have hR2 := vmd_x dN2
        have thr2 : I2 60 0 = vb_i 0 := by rw [hf2 60 (by simp only [vm_s8]; decide)]; exact thr1
        have hS2 : vm_row (vs_l σ) (I2 76) 46 (vx_seq (vs_l σ) (vs_x σ) j) (vx_tn (vx_seq (vs_l σ) (vs_x σ) j)) := by rw [hf2 76 (by simp only [vm_s8]; decide)]; exact hS1
        have hble := vx_by_le (vs_l σ) (vx_seq (vs_l σ) (vs_x σ) j)
        have hble : vx_byT (vs_l σ) (vx_seq (vs_l σ) (vs_x σ) j) (vx_tn (vx_seq (vs_l σ) (vs_x σ) j)) ≤ 100 := hble
        refine mm_csp rfl (by decide) (by omega) (m_told (by omega)) ?_
        refine mm_wr rfl rfl rfl ?_
        refine ⟨_, _, rfl, hq2, ?_, thr2⟩
        rw [show i_ = j by omega]; rfl
      · intro h28
        refine mm_w1 rfl ?_
        refine mm_wv (vb_i 46) rfl (by decide) ?_
        refine mm_w1 rfl ?_
        refine mm_wv (vb_i 46) rfl (by decide) ?_
        refine mm_cvi (vb_cv (vM_S60 hM) rfl rfl rfl rfl) (by decide) (by omega) (m_by hM dM1 hS1 (by decide) hli hlb hwfS.sj hwfS.fj hwfS.ws hokS (by omega)) ?_
        intro I2 hf2
        have hq2 := hq1.tr (vm_qf.of8 hf2)
        have dN2 := dN.qf hq2
        have dM2 := vmd_l dN2
        have hR2 := vmd_x dN2
        have thr2 : I2 60 0 = vb_i 0 := by rw [hf2 60 (by simp only [vm_s8]; decide)]; exact thr1
        have hS2 : vm_row (vs_l σ) (I2 76) 46 (vx_seq (vs_l σ) (vs_x σ) j) (vx_tn (vx_seq (vs_l σ) (vs_x σ) j)) := by rw [hf2 76 (by simp only [vm_s8]; decide)]; exact hS1
        have hble := vx_by_le (vs_l σ) (vx_seq (vs_l σ) (vs_x σ) j)
        have hble : vx_byT (vs_l σ) (vx_seq (vs_l σ) (vs_x σ) j) (vx_tn (vx_seq (vs_l σ) (vs_x σ) j)) ≤ 100 := hble
        refine mm_cvn (vb_cv (vM_S60 hM) rfl rfl rfl rfl) (by decide) (by omega) (m_does hM dM2 hS2 (by decide) hwfS.sj (by omega) (vm_by_ok1 hn hli hwfS) (by omega)) ?_
        intro I3 hq03
        obtain ⟨hS3, ho3, hf3⟩ := hq03
        have hq3 := hq2.tr (vm_qf.of76 hf3 (fun j hj => ho3 j (by omega)))
        have dN3 := dN.qf hq3
        have dM3 := vmd_l dN3
        have hR3 := vmd_x dN3
        have thr3 : I3 60 0 = vb_i 0 := by rw [hf3 60 (by decide)]; exact thr2
        refine mm_nincL (ls' := [_, _, _]) 1 rfl (by decide) rfl ?_
        refine mm_wgoto ?_
        exact ih (by omega) _ hq3 thr3 (by have := hS3; rw [show 1 - vx_tn (vx_seq (vs_l σ) (vs_x σ) j) = vx_tn (vx_seq (vs_l σ) (vs_x σ) (j + 1)) from (vx_tn_play _ _).symm] at this; exact this)
      )
    show mm_W _ _ 221 (mm_blk 221 0) [.ref 60, .int (vb_i i_), .null] [] _ _
    refine mm_w1 rfl ?_
    refine mm_wv (vb_i 0) rfl (by decide) ?_
    refine mm_wpiN (vM_S60 hM) (by decide) (by decide) ?_
    intro I1 hI1
    have hq1 : vm_qf I I1 := by rw [hI1]; exact vm_qf.thr _
    have dN1 := dN.qf hq1
    have dM1 := vmd_l dN1
    have hR1 := vmd_x dN1
    have thr1 : I1 60 0 = vb_i 0 := by rw [hI1, vb_up1]
    refine mm_w1 rfl ?_
    refine mm_w1 rfl ?_
    refine mm_wv (vb_i 29) rfl (by decide) ?_
    refine mm_cvp (vb_cv (vM_S60 hM) rfl rfl rfl rfl) (by decide) (by omega) (m_isW_t hM thr1 (by rw [hi]; rfl) (by decide) (by omega)) ?_
    refine mm_nifne (by decide) (fun _ => ?_) (fun h => absurd h (by decide))
    refine mm_w1 rfl ?_
    refine mm_wv (vb_i 0) rfl (by decide) ?_
    refine mm_wv (vb_i 46) rfl (by decide) ?_
    refine mm_cvn (vb_cv (vM_S60 hM) rfl rfl rfl rfl) (by decide) (by omega) (m_lays0 hM (by decide) (by decide) (by decide)) ?_
    intro I2 hq02
    obtain ⟨hc2, ho2, hf2⟩ := hq02
    have hq2 := hq1.tr (vm_qf.of76 hf2 (fun j hj => ho2 j (by omega)))
    have dN2 := dN.qf hq2
    have dM2 := vmd_l dN2
    have hR2 := vmd_x dN2
    have thr2 : I2 60 0 = vb_i 0 := by rw [hf2 60 (by decide)]; exact thr1
    have hS2 : vm_row (vs_l σ) (I2 76) 46 (vs_x σ) (vx_tn (vs_x σ)) := hR1.mv hn hc2
    refine mm_wv (vb_i 0) rfl (by decide) ?_
    refine mm_w1 (ls' := [_, _, _]) rfl ?_
    exact loop 0 (by omega) _ hq2 thr2 hS2
theorem n_turned (hM : vm_isM P S) (dN : vm_MD σ I) (hI : vs_inv σ) (hlb : vl_bel (vs_l σ)) (hd : 20 ≤ d) (v : Int32) : mm_C G d 222 [.ref 60, .int v] (I, P, J, S, nc, ns) (vm_RV (sp_turned σ v) (fun I' => vm_qf I I') P J S nc ns) := by
  obtain ⟨hli, hIx, hIa, hIi⟩ := hI
  obtain ⟨hok, hwf, he9⟩ := hIx
  have hsj := hwf.sj
  have hfj := hwf.fj
  have hst := hwf.ws
  have dM := vmd_l dN
  have hR := vmd_x dN
  have hn := vm_10 dM
  have ht := vx_t2 (vs_x σ)
  have hs3 := vm_sc3 dM
  have hok0 := hok
  have hwf0 := hwf
  cases hv : vb_idx (vb_n (vs_l σ)) v with
  | none =>
    rw [show sp_turned σ v = .inr 0 by simp only [sp_turned, hv]]
    show mm_W _ _ 222 (mm_blk 222 0) [.ref 60, .int v, .null] [] _ _
    refine mm_w1 rfl ?_
    refine mm_wv (vb_i 0) rfl (by decide) ?_
    refine mm_wpiN (vM_S60 hM) (by decide) (by decide) ?_
    intro I1 hI1
    have hq1 : vm_qf I I1 := by rw [hI1]; exact vm_qf.thr _
    have dN1 := dN.qf hq1
    have dM1 := vmd_l dN1
    have hR1 := vmd_x dN1
    have thr1 : I1 60 0 = vb_i 0 := by rw [hI1, vb_up1]
    refine mm_w1 rfl ?_
    refine mm_w1 rfl ?_
    refine mm_cvi (vb_cv (vM_S60 hM) rfl rfl rfl rfl) (by decide) (by omega) (m_isV_f hM dM1 thr1 hv (by omega)) ?_
    intro I2 hI2 
    refine mm_nifne (by decide) (fun h => absurd rfl h) (fun _ => ?_)
    refine mm_wv (vb_i 0) rfl (by decide) ?_
    refine mm_wr rfl rfl rfl ?_
    exact ⟨_, _, rfl, hq1.tr (by rw [hI2]; exact vm_qf.thr _), by rw [hI2, vb_up1]⟩
  | some v_ =>
    obtain ⟨lv, rfl⟩ := vb_idx_some (by omega) hv
    rw [show sp_turned σ (vb_i v_) = .inl (q_tr (vs_l σ) (vs_x σ) v_ 30 1) by simp only [sp_turned, hv]]
    have hin := vx_in2 (vx_f (vs_x σ)) v_
    have loop := vb_down (p := fun j => 1 ≤ j → ∀ (I1 : Nat → Nat → Int32), vm_qf I I1 → I1 60 0 = vb_i 0 → vm_row (vs_l σ) (I1 76) 46 (vx_seq (vs_l σ) (vs_x σ) (j - 1)) (vx_tn (vx_seq (vs_l σ) (vs_x σ) (j - 1))) → q_tr (vs_l σ) (vs_x σ) v_ (31 - j) j = (q_tr (vs_l σ) (vs_x σ) v_ 30 1) → mm_W G d 222 (mm_blk 222 24) [.ref 60, .int (vb_i v_), .int (vb_i j)] [] (I1, P, J, S, nc, ns) (vm_RV (.inl (q_tr (vs_l σ) (vs_x σ) v_ 30 1)) (fun I' => vm_qf I I') P J S nc ns)) 31 (by
      intro j hj ih h1j I1 hq1 thr1 hS1 hr
      have dN1 := dN.qf hq1
      have dM1 := vmd_l dN1
      have hR1 := vmd_x dN1
      have hse := vx_seq_e (vs_l σ) (vs_x σ) (j - 1)
      have hokS := vx_ok.seq hok0 (j - 1)
      have hwfS := vx_wf.seq hwf0 hn (j - 1)
      have hin2 := vx_in2 (vx_f (vx_seq (vs_l σ) (vs_x σ) j)) v_
      have hsj9 : vx_play (vs_l σ) (vx_seq (vs_l σ) (vs_x σ) (j - 1)) = vx_seq (vs_l σ) (vs_x σ) j := by
        obtain ⟨q, rfl⟩ : ∃ q, j = q + 1 := ⟨j - 1, by omega⟩
        rfl
      refine mm_w1 rfl ?_
      refine mm_wv (vb_i 30) rfl (by decide) ?_
      refine mm_nicgt (by omega) (by omega) ?_ ?_
      · intro h27
        refine mm_wv (-1) rfl (by decide) ?_
        refine mm_wr rfl rfl rfl ?_
        refine ⟨_, _, rfl, hq1, ?_, thr1⟩
        rw [← hr, show 31 - j = 0 by omega]; rfl
      · intro h27
        refine mm_w1 rfl ?_
        refine mm_wv (vb_i 46) rfl (by decide) ?_
        refine mm_w1 rfl ?_
        refine mm_wv (vb_i 46) rfl (by decide) ?_
        refine mm_cvi (vb_cv (vM_S60 hM) rfl rfl rfl rfl) (by decide) (by omega) (m_by hM dM1 hS1 (by decide) hli hlb hwfS.sj hwfS.fj hwfS.ws hokS (by omega)) ?_
        intro I2 hf2
        have hq2 := hq1.tr (vm_qf.of8 hf2)
        have dN2 := dN.qf hq2
        have dM2 := vmd_l dN2
        have hR2 := vmd_x dN2
        have thr2 : I2 60 0 = vb_i 0 := by rw [hf2 60 (by simp only [vm_s8]; decide)]; exact thr1
        have hS2 : vm_row (vs_l σ) (I2 76) 46 (vx_seq (vs_l σ) (vs_x σ) (j - 1)) (vx_tn (vx_seq (vs_l σ) (vs_x σ) (j - 1))) := by rw [hf2 76 (by simp only [vm_s8]; decide)]; exact hS1
        have hble := vx_by_le (vs_l σ) (vx_seq (vs_l σ) (vs_x σ) (j - 1))
        have hble : vx_byT (vs_l σ) (vx_seq (vs_l σ) (vs_x σ) (j - 1)) (vx_tn (vx_seq (vs_l σ) (vs_x σ) (j - 1))) ≤ 100 := hble
        refine mm_cvn (vb_cv (vM_S60 hM) rfl rfl rfl rfl) (by decide) (by omega) (m_does hM dM2 hS2 (by decide) hwfS.sj (by omega) (vm_by_ok1 hn hli hwfS) (by omega)) ?_
        intro I3 hq03
        obtain ⟨hS3, ho3, hf3⟩ := hq03
        have hq3 := hq2.tr (vm_qf.of76 hf3 (fun j hj => ho3 j (by omega)))
        have dN3 := dN.qf hq3
        have dM3 := vmd_l dN3
        have hR3 := vmd_x dN3
        have thr3 : I3 60 0 = vb_i 0 := by rw [hf3 60 (by decide)]; exact thr2
        have hT3 : vm_row (vs_l σ) (I3 76) 46 (vx_seq (vs_l σ) (vs_x σ) j) (vx_tn (vx_seq (vs_l σ) (vs_x σ) j)) := by
          have := hS3
          rw [show 1 - vx_tn (vx_seq (vs_l σ) (vs_x σ) (j - 1)) = vx_tn (vx_play (vs_l σ) (vx_seq (vs_l σ) (vs_x σ) (j - 1))) from (vx_tn_play _ _).symm] at this
          rw [← hsj9]; exact this
        refine mm_w1 rfl ?_
        refine mm_wgr (vM_S60 hM) (by decide) (by decide) (vM_P60_38 hM) (vM_a76 hM) ?_
        refine mm_wv (vb_i 56) rfl (by decide) ?_
        refine mm_w1 rfl ?_
        refine mm_nadd ?_
        refine mm_wiav (vb_i (vx_in (vx_f (vx_seq (vs_l σ) (vs_x σ) j)) v_)) (vM_a76 hM) (vM_S76 hM) (by decide) (by omega) (vm_rf hT3 lv) ?_
        refine mm_w1 rfl ?_
        refine mm_wgr (vM_S60 hM) (by decide) (by decide) (vM_P60_38 hM) (vM_a76 hM) ?_
        refine mm_wv (vb_i 10) rfl (by decide) ?_
        refine mm_w1 rfl ?_
        refine mm_nadd ?_
        refine mm_wiav (vb_i (vx_in (vx_f (vs_x σ)) v_)) (vM_a76 hM) (vM_S76 hM) (by decide) (by omega) (vm_rf hR3 lv) ?_
        refine mm_niceq (by omega) (by omega) ?_ ?_
        · intro h60
          refine mm_nincL (ls' := [_, _, _]) 1 rfl (by decide) rfl ?_
          refine mm_wgoto ?_
          refine ih (by omega) (by omega) _ hq3 thr3 (by rw [Nat.add_sub_cancel]; exact hT3) ?_
          rw [← hr, show 31 - j = (31 - (j + 1)) + 1 by omega, q_tr, if_pos h60]
        · intro h60
          refine mm_w1 rfl ?_
          refine mm_wr rfl rfl rfl ?_
          refine ⟨_, _, rfl, hq3, ?_, thr3⟩
          rw [← hr, show 31 - j = (31 - (j + 1)) + 1 by omega, q_tr, if_neg h60]
      )
    show mm_W _ _ 222 (mm_blk 222 0) [.ref 60, .int (vb_i v_), .null] [] _ _
    refine mm_w1 rfl ?_
    refine mm_wv (vb_i 0) rfl (by decide) ?_
    refine mm_wpiN (vM_S60 hM) (by decide) (by decide) ?_
    intro I1 hI1
    have hq1 : vm_qf I I1 := by rw [hI1]; exact vm_qf.thr _
    have dN1 := dN.qf hq1
    have dM1 := vmd_l dN1
    have hR1 := vmd_x dN1
    have thr1 : I1 60 0 = vb_i 0 := by rw [hI1, vb_up1]
    refine mm_w1 rfl ?_
    refine mm_w1 rfl ?_
    refine mm_cvp (vb_cv (vM_S60 hM) rfl rfl rfl rfl) (by decide) (by omega) (m_isV_t hM dM1 thr1 (by omega) (by omega)) ?_
    refine mm_nifne (by decide) (fun _ => ?_) (fun h => absurd h (by decide))
    refine mm_w1 rfl ?_
    refine mm_wv (vb_i 0) rfl (by decide) ?_
    refine mm_wv (vb_i 46) rfl (by decide) ?_
    refine mm_cvn (vb_cv (vM_S60 hM) rfl rfl rfl rfl) (by decide) (by omega) (m_lays0 hM (by decide) (by decide) (by decide)) ?_
    intro I2 hq02
    obtain ⟨hc2, ho2, hf2⟩ := hq02
    have hq2 := hq1.tr (vm_qf.of76 hf2 (fun j hj => ho2 j (by omega)))
    have dN2 := dN.qf hq2
    have dM2 := vmd_l dN2
    have hR2 := vmd_x dN2
    have thr2 : I2 60 0 = vb_i 0 := by rw [hf2 60 (by decide)]; exact thr1
    have hS2 : vm_row (vs_l σ) (I2 76) 46 (vs_x σ) (vx_tn (vs_x σ)) := hR1.mv hn hc2
    refine mm_wv (vb_i 1) rfl (by decide) ?_
    refine mm_w1 (ls' := [_, _, _]) rfl ?_
    exact loop 1 (by omega) (by omega) _ hq2 thr2 hS2 rfl
theorem n_treasury (hM : vm_isM P S) (dN : vm_MD σ I) (hI : vs_inv σ) (hlb : vl_bel (vs_l σ)) (hd : 20 ≤ d) (s k : Int32) : mm_C G d 223 [.ref 60, .int s, .int k] (I, P, J, S, nc, ns) (vm_RV (sp_treasury σ s k) (fun I' => vm_qf I I') P J S nc ns) := by
  obtain ⟨hli, hIx, hIa, hIi⟩ := hI
  obtain ⟨hok, hwf, he9⟩ := hIx
  have hsj := hwf.sj
  have hfj := hwf.fj
  have hst := hwf.ws
  have dM := vmd_l dN
  have hR := vmd_x dN
  have hn := vm_10 dM
  have ht := vx_t2 (vs_x σ)
  have hs3 := vm_sc3 dM
  have hok0 := hok
  have hwf0 := hwf
  cases hs : vb_idx 2 s with
  | none =>
    rw [show sp_treasury σ s k = .inr 0 by simp only [sp_treasury, hs]]
    show mm_W _ _ 223 (mm_blk 223 0) [.ref 60, .int s, .int k, .null] [] _ _
    refine mm_w1 rfl ?_
    refine mm_wv (vb_i 0) rfl (by decide) ?_
    refine mm_wpiN (vM_S60 hM) (by decide) (by decide) ?_
    intro I1 hI1
    have hq1 : vm_qf I I1 := by rw [hI1]; exact vm_qf.thr _
    have dN1 := dN.qf hq1
    have dM1 := vmd_l dN1
    have hR1 := vmd_x dN1
    have thr1 : I1 60 0 = vb_i 0 := by rw [hI1, vb_up1]
    refine mm_w1 rfl ?_
    refine mm_w1 rfl ?_
    refine mm_cvi (vb_cv (vM_S60 hM) rfl rfl rfl rfl) (by decide) (by omega) (m_isS_f hM thr1 hs (by omega)) ?_
    intro I2 hI2 
    refine mm_nifeq (by decide) (fun _ => ?_) (fun h => absurd rfl h)
    refine mm_wv (vb_i 0) rfl (by decide) ?_
    refine mm_wr rfl rfl rfl ?_
    exact ⟨_, _, rfl, hq1.tr (by rw [hI2]; exact vm_qf.thr _), by rw [hI2, vb_up1]⟩
  | some s_ =>
    obtain ⟨ls, rfl⟩ := vb_idx_some (by omega) hs
    cases hk : vb_idx 31 k with
    | none =>
      rw [show sp_treasury σ (vb_i s_) k = .inr 1 by simp only [sp_treasury, hs, hk]]
      show mm_W _ _ 223 (mm_blk 223 0) [.ref 60, .int (vb_i s_), .int k, .null] [] _ _
      refine mm_w1 rfl ?_
      refine mm_wv (vb_i 0) rfl (by decide) ?_
      refine mm_wpiN (vM_S60 hM) (by decide) (by decide) ?_
      intro I1 hI1
      have hq1 : vm_qf I I1 := by rw [hI1]; exact vm_qf.thr _
      have dN1 := dN.qf hq1
      have dM1 := vmd_l dN1
      have hR1 := vmd_x dN1
      have thr1 : I1 60 0 = vb_i 0 := by rw [hI1, vb_up1]
      refine mm_w1 rfl ?_
      refine mm_w1 rfl ?_
      refine mm_cvp (vb_cv (vM_S60 hM) rfl rfl rfl rfl) (by decide) (by omega) (m_isS_t hM thr1 (by rw [hs]; rfl) (by omega)) ?_
      refine mm_nifeq (by decide) (fun h => absurd h (by decide)) (fun _ => ?_)
      refine mm_w1 rfl ?_
      refine mm_w1 rfl ?_
      refine mm_wv (vb_i 0) rfl (by decide) ?_
      refine mm_wv (vb_i 30) rfl (by decide) ?_
      refine mm_csp rfl (by decide) (by omega) (m_within_f (by decide) hk) ?_
      refine mm_wv (vb_i 2) rfl (by decide) ?_
      refine mm_cvi (vb_cv (vM_S60 hM) rfl rfl rfl rfl) (by decide) (by omega) (m_right_f (w := 2) hM thr1 (by decide) (by decide)) ?_
      intro I2 hI2
      refine mm_nifne (by decide) (fun h => absurd rfl h) (fun _ => ?_)
      refine mm_wv (vb_i 0) rfl (by decide) ?_
      refine mm_wr rfl rfl rfl ?_
      exact ⟨_, _, rfl, hq1.tr (by rw [hI2]; exact vm_qf.thr _), by rw [hI2, vb_up1]⟩
    | some k_ =>
      obtain ⟨lk, rfl⟩ := vb_idx_some (by decide) hk
      rw [show sp_treasury σ (vb_i s_) (vb_i k_) = .inl (vx_t (vx_seq (vs_l σ) (vs_x σ) k_) s_) by simp only [sp_treasury, hs, hk]]
      have loop := vb_down (p := fun j => ∀ (I1 : Nat → Nat → Int32), vm_qf I I1 → I1 60 0 = vb_i 0 → vm_row (vs_l σ) (I1 76) 46 (vx_seq (vs_l σ) (vs_x σ) j) (vx_tn (vx_seq (vs_l σ) (vs_x σ) j)) → mm_W G d 223 (mm_blk 223 39) [.ref 60, .int (vb_i s_), .int (vb_i k_), .int (vb_i j)] [] (I1, P, J, S, nc, ns) (vm_RV (.inl (vx_t (vx_seq (vs_l σ) (vs_x σ) k_) s_)) (fun I' => vm_qf I I') P J S nc ns)) k_ (by
        intro j hj ih I1 hq1 thr1 hS1
        have dN1 := dN.qf hq1
        have dM1 := vmd_l dN1
        have hR1 := vmd_x dN1
        have hse := vx_seq_e (vs_l σ) (vs_x σ) (j)
        have hokS := vx_ok.seq hok0 (j)
        have hwfS := vx_wf.seq hwf0 hn (j)
        refine mm_w1 rfl ?_
        refine mm_w1 rfl ?_
        refine mm_nicge (by omega) (by omega) ?_ ?_
        · intro h41
          refine mm_w1 rfl ?_
          refine mm_wgr (vM_S60 hM) (by decide) (by decide) (vM_P60_38 hM) (vM_a76 hM) ?_
          refine mm_wv (vb_i 86) rfl (by decide) ?_
          refine mm_w1 rfl ?_
          refine mm_nadd ?_
          refine mm_wiav (vx_t (vx_seq (vs_l σ) (vs_x σ) j) s_) (vM_a76 hM) (vM_S76 hM) (by decide) (by omega) (vm_rt hS1 ls) ?_
          refine mm_wr rfl rfl rfl ?_
          refine ⟨_, _, rfl, hq1, ?_, thr1⟩
          rw [show k_ = j by omega]
        · intro h41
          refine mm_w1 rfl ?_
          refine mm_wv (vb_i 46) rfl (by decide) ?_
          refine mm_w1 rfl ?_
          refine mm_wv (vb_i 46) rfl (by decide) ?_
          refine mm_cvi (vb_cv (vM_S60 hM) rfl rfl rfl rfl) (by decide) (by omega) (m_by hM dM1 hS1 (by decide) hli hlb hwfS.sj hwfS.fj hwfS.ws hokS (by omega)) ?_
          intro I2 hf2
          have hq2 := hq1.tr (vm_qf.of8 hf2)
          have dN2 := dN.qf hq2
          have dM2 := vmd_l dN2
          have hR2 := vmd_x dN2
          have thr2 : I2 60 0 = vb_i 0 := by rw [hf2 60 (by simp only [vm_s8]; decide)]; exact thr1
          have hS2 : vm_row (vs_l σ) (I2 76) 46 (vx_seq (vs_l σ) (vs_x σ) j) (vx_tn (vx_seq (vs_l σ) (vs_x σ) j)) := by rw [hf2 76 (by simp only [vm_s8]; decide)]; exact hS1
          have hble := vx_by_le (vs_l σ) (vx_seq (vs_l σ) (vs_x σ) j)
          have hble : vx_byT (vs_l σ) (vx_seq (vs_l σ) (vs_x σ) j) (vx_tn (vx_seq (vs_l σ) (vs_x σ) j)) ≤ 100 := hble
          refine mm_cvn (vb_cv (vM_S60 hM) rfl rfl rfl rfl) (by decide) (by omega) (m_does hM dM2 hS2 (by decide) hwfS.sj (by omega) (vm_by_ok1 hn hli hwfS) (by omega)) ?_
          intro I3 hq03
          obtain ⟨hS3, ho3, hf3⟩ := hq03
          have hq3 := hq2.tr (vm_qf.of76 hf3 (fun j hj => ho3 j (by omega)))
          have dN3 := dN.qf hq3
          have dM3 := vmd_l dN3
          have hR3 := vmd_x dN3
          have thr3 : I3 60 0 = vb_i 0 := by rw [hf3 60 (by decide)]; exact thr2
          refine mm_nincL (ls' := [_, _, _, _]) 1 rfl (by decide) rfl ?_
          refine mm_wgoto ?_
          exact ih (by omega) _ hq3 thr3 (by have := hS3; rw [show 1 - vx_tn (vx_seq (vs_l σ) (vs_x σ) j) = vx_tn (vx_seq (vs_l σ) (vs_x σ) (j + 1)) from (vx_tn_play _ _).symm] at this; exact this)
        )
      show mm_W _ _ 223 (mm_blk 223 0) [.ref 60, .int (vb_i s_), .int (vb_i k_), .null] [] _ _
      refine mm_w1 rfl ?_
      refine mm_wv (vb_i 0) rfl (by decide) ?_
      refine mm_wpiN (vM_S60 hM) (by decide) (by decide) ?_
      intro I1 hI1
      have hq1 : vm_qf I I1 := by rw [hI1]; exact vm_qf.thr _
      have dN1 := dN.qf hq1
      have dM1 := vmd_l dN1
      have hR1 := vmd_x dN1
      have thr1 : I1 60 0 = vb_i 0 := by rw [hI1, vb_up1]
      refine mm_w1 rfl ?_
      refine mm_w1 rfl ?_
      refine mm_cvp (vb_cv (vM_S60 hM) rfl rfl rfl rfl) (by decide) (by omega) (m_isS_t hM thr1 (by rw [hs]; rfl) (by omega)) ?_
      refine mm_nifeq (by decide) (fun h => absurd h (by decide)) (fun _ => ?_)
      refine mm_w1 rfl ?_
      refine mm_w1 rfl ?_
      refine mm_wv (vb_i 0) rfl (by decide) ?_
      refine mm_wv (vb_i 30) rfl (by decide) ?_
      refine mm_csp rfl (by decide) (by omega) (m_within_t (by decide) (by rw [hk]; rfl)) ?_
      refine mm_wv (vb_i 2) rfl (by decide) ?_
      refine mm_cvp (vb_cv (vM_S60 hM) rfl rfl rfl rfl) (by decide) (by omega) (m_right_t hM thr1) ?_
      refine mm_nifne (by decide) (fun _ => ?_) (fun h => absurd h (by decide))
      refine mm_w1 rfl ?_
      refine mm_wv (vb_i 0) rfl (by decide) ?_
      refine mm_wv (vb_i 46) rfl (by decide) ?_
      refine mm_cvn (vb_cv (vM_S60 hM) rfl rfl rfl rfl) (by decide) (by omega) (m_lays0 hM (by decide) (by decide) (by decide)) ?_
      intro I2 hq02
      obtain ⟨hc2, ho2, hf2⟩ := hq02
      have hq2 := hq1.tr (vm_qf.of76 hf2 (fun j hj => ho2 j (by omega)))
      have dN2 := dN.qf hq2
      have dM2 := vmd_l dN2
      have hR2 := vmd_x dN2
      have thr2 : I2 60 0 = vb_i 0 := by rw [hf2 60 (by decide)]; exact thr1
      have hS2 : vm_row (vs_l σ) (I2 76) 46 (vs_x σ) (vx_tn (vs_x σ)) := hR1.mv hn hc2
      refine mm_wv (vb_i 0) rfl (by decide) ?_
      refine mm_w1 (ls' := [_, _, _, _]) rfl ?_
      exact loop 0 (by omega) _ hq2 thr2 hS2
end NPLAY
