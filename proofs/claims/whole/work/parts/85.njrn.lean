section NJRN
variable {G : mm_G} {d : Nat} {I : Nat → Nat → Int32} {P : Nat → Nat → Nat} {J : Nat → Nat → Int64} {S : List (Nat × Nat)} {nc ns : Nat} {μ : mm_M} {σ : vb_St}
theorem vw_jv {ℓ : vb_L} {g : Int32} {a b : Nat} {s : Nat → Nat} (hn : vb_n ℓ ≤ 10) (ha : a < vb_n ℓ) (hb : b < vb_n ℓ) (hl : vw_lo ℓ g (vb_bit a) s) (hh : vw_hi ℓ g (vb_bit a) (vb_n ℓ) s) : q_jn ℓ g b 10 0 (vb_bit a) = if s b < 9999 then vb_i (s b) else -1 := by
  have hj := vw_jn ℓ g b 10 0 (vb_bit a)
  have e0 : vw_R ℓ g (vb_bit a) 0 = vb_bit a := rfl
  rw [e0] at hj
  rcases vw_fin hn ha hb hl hh with ⟨h1, h2⟩ | ⟨h1, h2, h3⟩
  · rw [if_neg (by omega)]
    rcases hj with ⟨h4, _⟩ | ⟨j, _, _, _, h4, _⟩
    · exact h4
    · rw [h2 j] at h4; cases h4
  · rw [if_pos (by omega)]
    rcases hj with ⟨_, h4⟩ | ⟨j, _, _, h4, h5, h6⟩
    · rw [h4 (s b) (by omega) (by omega)] at h2; cases h2
    · rw [h4]
      have : j = s b := by
        rcases Nat.lt_trichotomy j (s b) with h | h | h
        · rw [h3 j h] at h5; cases h5
        · exact h
        · rw [h6 (s b) (by omega) h] at h2; cases h2
      rw [this]
theorem vw_rv {ℓ : vb_L} {g : Int32} {a : Nat} {s : Nat → Nat} (hn : vb_n ℓ ≤ 10) (ha : a < vb_n ℓ) (hl : vw_lo ℓ g (vb_bit a) s) (hh : vw_hi ℓ g (vb_bit a) (vb_n ℓ) s) : vb_grow ℓ g 10 (vb_bit a) &&& ~~~ vb_bit a = vb_set (vb_n ℓ) (fun k => !decide (k = a) && decide (s k < 9999)) := by
  have hbl : vb_below (vb_n ℓ) (vb_bit a) := fun v hv => by rw [vb_has_bit (by omega), decide_eq_true_eq] at hv; omega
  rw [vw_grow]
  have hnot : ∀ v, v < 32 → vb_has (~~~ vb_bit a) v = !decide (v = a) := fun v hv => by rw [vb_has_not _ hv, vb_has_bit (by omega)]
  have hb2 : vb_below (vb_n ℓ) (vw_R ℓ g (vb_bit a) 10 &&& ~~~ vb_bit a) := fun v hv => by
    rw [vb_has_and, Bool.and_eq_true] at hv; exact vw_below hn hbl _ v hv.1
  refine vb_eq_set (by omega) hb2 (fun v hv => ?_)
  rw [vb_has_and, hnot v (by omega), Bool.and_comm]
  congr 1
  rcases vw_fin hn ha hv hl hh with ⟨h1, h2⟩ | ⟨h1, h2, h3⟩
  · rw [h2, decide_eq_false (by omega)]
  · rw [vw_up hn h2 (by omega), decide_eq_true (by omega)]
theorem n_journey (hM : vm_isM P S) (dN : vm_MD σ I) (hI : vs_inv σ) (hlb : vl_bel (vs_l σ)) (hd : 20 ≤ d) (a b : Int32) : mm_C G d 219 [.ref 60, .int a, .int b] (I, P, J, S, nc, ns) (vm_RV (sp_journey σ a b) (fun I' => vm_qf I I') P J S nc ns) := by
  obtain ⟨hli, hIx, hIa, hIi⟩ := hI
  obtain ⟨hok, hwf, he9⟩ := hIx
  have hsj := hwf.sj
  have hfj := hwf.fj
  have hst := hwf.ws
  have dM := vmd_l dN
  have hR := vmd_x dN
  have hn := vm_10 dM
  have ht := vx_t2 (vs_x σ)
  have hs3 := vm_sc3 dM
  have hI0 : vs_inv σ := ⟨hli, ⟨hok, hwf, he9⟩, hIa, hIi⟩
  cases ha : vb_idx (vb_n (vs_l σ)) a with
  | none =>
    rw [show sp_journey σ a b = .inr 0 by simp only [sp_journey, ha]]
    show mm_W _ _ 219 (mm_blk 219 0) [.ref 60, .int a, .int b] [] _ _
    refine mm_w1 rfl ?_
    refine mm_wv (vb_i 0) rfl (by decide) ?_
    refine mm_wpiN (vM_S60 hM) (by decide) (by decide) ?_
    intro I1 hI1
    have hq1 : vm_qf I I1 := by rw [hI1]; exact vm_qf.thr _
    have dN1 := dN.qf hq1
    have dM1 := vmd_l dN1
    have hR1 := vmd_x dN1
    have thr1 : I1 60 0 = vb_i 0 := by rw [hI1, vb_up1]
    refine mm_w1 rfl ?_
    refine mm_w1 rfl ?_
    refine mm_cvi (vb_cv (vM_S60 hM) rfl rfl rfl rfl) (by decide) (by omega) (m_isV_f hM dM1 thr1 ha (by omega)) ?_
    intro I2 hI2 
    refine mm_nifeq (by decide) (fun _ => ?_) (fun h => absurd rfl h)
    refine mm_wv (vb_i 0) rfl (by decide) ?_
    refine mm_wr rfl rfl rfl ?_
    exact ⟨_, _, rfl, hq1.tr (by rw [hI2]; exact vm_qf.thr _), by rw [hI2, vb_up1]⟩
  | some a_ =>
    obtain ⟨la, rfl⟩ := vb_idx_some (by omega) ha
    cases hb : vb_idx (vb_n (vs_l σ)) b with
    | none =>
      rw [show sp_journey σ (vb_i a_) b = .inr 0 by simp only [sp_journey, ha, hb]]
      show mm_W _ _ 219 (mm_blk 219 0) [.ref 60, .int (vb_i a_), .int b] [] _ _
      refine mm_w1 rfl ?_
      refine mm_wv (vb_i 0) rfl (by decide) ?_
      refine mm_wpiN (vM_S60 hM) (by decide) (by decide) ?_
      intro I1 hI1
      have hq1 : vm_qf I I1 := by rw [hI1]; exact vm_qf.thr _
      have dN1 := dN.qf hq1
      have dM1 := vmd_l dN1
      have hR1 := vmd_x dN1
      have thr1 : I1 60 0 = vb_i 0 := by rw [hI1, vb_up1]
      refine mm_w1 rfl ?_
      refine mm_w1 rfl ?_
      refine mm_cvp (vb_cv (vM_S60 hM) rfl rfl rfl rfl) (by decide) (by omega) (m_isV_t hM dM1 thr1 (by omega) (by omega)) ?_
      refine mm_nifeq (by decide) (fun h => absurd h (by decide)) (fun _ => ?_)
      refine mm_w1 rfl ?_
      refine mm_w1 rfl ?_
      refine mm_cvi (vb_cv (vM_S60 hM) rfl rfl rfl rfl) (by decide) (by omega) (m_isV_f hM dM1 thr1 hb (by omega)) ?_
      intro I2 hI2 
      refine mm_nifne (by decide) (fun h => absurd rfl h) (fun _ => ?_)
      refine mm_wv (vb_i 0) rfl (by decide) ?_
      refine mm_wr rfl rfl rfl ?_
      exact ⟨_, _, rfl, hq1.tr (by rw [hI2]; exact vm_qf.thr _), by rw [hI2, vb_up1]⟩
    | some b_ =>
      obtain ⟨lb, rfl⟩ := vb_idx_some (by omega) hb
      rw [show sp_journey σ (vb_i a_) (vb_i b_) = .inl (if vx_in (vx_s (vs_x σ)) a_ = 2 then -1 else q_jn (vs_l σ) (q_free (vs_l σ) (vs_x σ)) b_ 10 0 (vb_bit a_)) by simp only [sp_journey, ha, hb]]
      have hin := vx_in2 (vx_s (vs_x σ)) a_
      show mm_W _ _ 219 (mm_blk 219 0) [.ref 60, .int (vb_i a_), .int (vb_i b_)] [] _ _
      refine mm_w1 rfl ?_
      refine mm_wv (vb_i 0) rfl (by decide) ?_
      refine mm_wpiN (vM_S60 hM) (by decide) (by decide) ?_
      intro I1 hI1
      have hq1 : vm_qf I I1 := by rw [hI1]; exact vm_qf.thr _
      have dN1 := dN.qf hq1
      have dM1 := vmd_l dN1
      have hR1 := vmd_x dN1
      have thr1 : I1 60 0 = vb_i 0 := by rw [hI1, vb_up1]
      refine mm_w1 rfl ?_
      refine mm_w1 rfl ?_
      refine mm_cvp (vb_cv (vM_S60 hM) rfl rfl rfl rfl) (by decide) (by omega) (m_isV_t hM dM1 thr1 (by omega) (by omega)) ?_
      refine mm_nifeq (by decide) (fun h => absurd h (by decide)) (fun _ => ?_)
      refine mm_w1 rfl ?_
      refine mm_w1 rfl ?_
      refine mm_cvp (vb_cv (vM_S60 hM) rfl rfl rfl rfl) (by decide) (by omega) (m_isV_t hM dM1 thr1 (by omega) (by omega)) ?_
      refine mm_nifne (by decide) (fun _ => ?_) (fun h => absurd h (by decide))
      refine mm_w1 rfl ?_
      refine mm_wgr (vM_S60 hM) (by decide) (by decide) (vM_P60_38 hM) (vM_a76 hM) ?_
      refine mm_wv (vb_i 0) rfl (by decide) ?_
      refine mm_w1 rfl ?_
      refine mm_nadd ?_
      refine mm_wiav (vb_i (vx_in (vx_s (vs_x σ)) a_)) (vM_a76 hM) (vM_S76 hM) (by decide) (by omega) (vm_rs hR1 la) ?_
      refine mm_wv (vb_i 2) rfl (by decide) ?_
      refine mm_nicne (by omega) (by omega) ?_ ?_
      · intro h32
        refine mm_w1 rfl ?_
        refine mm_w1 rfl ?_
        refine mm_cvn (vb_cv (vM_S60 hM) rfl rfl rfl rfl) (by decide) (by omega) (m_walks hM dN1 hI0 hlb (by omega) (by omega) thr1) ?_
        intro I2 hq02
        obtain ⟨hqq2, thr2, s, hs, hlo, hhi⟩ := hq02
        have hq2 := hq1.tr hqq2
        have dN2 := dN.qf hq2
        have dM2 := vmd_l dN2
        have hR2 := vmd_x dN2
        have hsb := (hlo b_ lb).1
        have hjv := vw_jv hn la lb hlo hhi
        refine mm_w1 rfl ?_
        refine mm_wgr (vM_S60 hM) (by decide) (by decide) (vM_P60_44 hM) (vM_a80 hM) ?_
        refine mm_w1 rfl ?_
        refine mm_wiav (vb_i (s b_)) (vM_a80 hM) (vM_S80 hM) (by decide) (by omega) (hs b_ (by omega)) ?_
        refine mm_wv (vb_i 9999) rfl (by decide) ?_
        refine mm_niclt (by omega) (by omega) ?_ ?_
        · intro h51
          refine mm_w1 rfl ?_
          refine mm_wgr (vM_S60 hM) (by decide) (by decide) (vM_P60_44 hM) (vM_a80 hM) ?_
          refine mm_w1 rfl ?_
          refine mm_wiav (vb_i (s b_)) (vM_a80 hM) (vM_S80 hM) (by decide) (by omega) (hs b_ (by omega)) ?_
          refine mm_wr rfl rfl rfl ?_
          refine ⟨_, _, rfl, hq2, ?_, thr2⟩
          first
            | rw [if_pos h32]
            | rw [if_neg h32, hjv, if_pos h51]
            | rw [if_neg h32, hjv, if_neg h51]
        · intro h51
          refine mm_wv (-1) rfl (by decide) ?_
          refine mm_wgoto ?_
          refine mm_wr rfl rfl rfl ?_
          refine ⟨_, _, rfl, hq2, ?_, thr2⟩
          first
            | rw [if_pos h32]
            | rw [if_neg h32, hjv, if_pos h51]
            | rw [if_neg h32, hjv, if_neg h51]
      · intro h32
        refine mm_wv (-1) rfl (by decide) ?_
        refine mm_wr rfl rfl rfl ?_
        refine ⟨_, _, rfl, hq1, ?_, thr1⟩
        first
          | rw [if_pos h32]
          | rw [if_neg h32, hjv, if_pos h51]
          | rw [if_neg h32, hjv, if_neg h51]
theorem n_reach (hM : vm_isM P S) (dN : vm_MD σ I) (hI : vs_inv σ) (hlb : vl_bel (vs_l σ)) (hd : 20 ≤ d) (v : Int32) : mm_C G d 220 [.ref 60, .int v] (I, P, J, S, nc, ns) (vm_RV (sp_reach σ v) (fun I' => vm_qf I I') P J S nc ns) := by
  obtain ⟨hli, hIx, hIa, hIi⟩ := hI
  obtain ⟨hok, hwf, he9⟩ := hIx
  have hsj := hwf.sj
  have hfj := hwf.fj
  have hst := hwf.ws
  have dM := vmd_l dN
  have hR := vmd_x dN
  have hn := vm_10 dM
  have ht := vx_t2 (vs_x σ)
  have hs3 := vm_sc3 dM
  have hI0 : vs_inv σ := ⟨hli, ⟨hok, hwf, he9⟩, hIa, hIi⟩
  cases hv : vb_idx (vb_n (vs_l σ)) v with
  | none =>
    rw [show sp_reach σ v = .inr 0 by simp only [sp_reach, hv]]
    show mm_W _ _ 220 (mm_blk 220 0) [.ref 60, .int v, .null, .null] [] _ _
    refine mm_w1 rfl ?_
    refine mm_wv (vb_i 0) rfl (by decide) ?_
    refine mm_wpiN (vM_S60 hM) (by decide) (by decide) ?_
    intro I1 hI1
    have hq1 : vm_qf I I1 := by rw [hI1]; exact vm_qf.thr _
    have dN1 := dN.qf hq1
    have dM1 := vmd_l dN1
    have hR1 := vmd_x dN1
    have thr1 : I1 60 0 = vb_i 0 := by rw [hI1, vb_up1]
    refine mm_w1 rfl ?_
    refine mm_w1 rfl ?_
    refine mm_cvi (vb_cv (vM_S60 hM) rfl rfl rfl rfl) (by decide) (by omega) (m_isV_f hM dM1 thr1 hv (by omega)) ?_
    intro I2 hI2 
    refine mm_nifeq (by decide) (fun _ => ?_) (fun h => absurd rfl h)
    refine mm_wv (vb_i 0) rfl (by decide) ?_
    refine mm_wr rfl rfl rfl ?_
    exact ⟨_, _, rfl, hq1.tr (by rw [hI2]; exact vm_qf.thr _), by rw [hI2, vb_up1]⟩
  | some v_ =>
    obtain ⟨lv, rfl⟩ := vb_idx_some (by omega) hv
    rw [show sp_reach σ (vb_i v_) = .inl (q_reach (vs_l σ) (vs_x σ) v_) by simp only [sp_reach, hv]]
    have hin := vx_in2 (vx_s (vs_x σ)) v_
    have loop : ∀ (I1 : Nat → Nat → Int32) (s : Nat → Nat), vm_qf I I1 → I1 60 0 = vb_i 0 → (∀ v, v < 10 → I1 80 v = vb_i (s v)) → (∀ b, b < vb_n (vs_l σ) → s b ≤ 9999) → vb_set (vb_n (vs_l σ)) (fun k => !decide (k = v_) && decide (s k < 9999)) = q_reach (vs_l σ) (vs_x σ) v_ → ∀ i, i ≤ vb_n (vs_l σ) → mm_W G d 220 (mm_blk 220 36) [.ref 60, .int (vb_i v_), .int (vb_set i (fun k => !decide (k = v_) && decide (s k < 9999))), .int (vb_i i)] [] (I1, P, J, S, nc, ns) (vm_RV (.inl (q_reach (vs_l σ) (vs_x σ) v_)) (fun I' => vm_qf I I') P J S nc ns) := by
      intro I1 s hq1 thr1 hs hb hre
      refine vb_down (vb_n (vs_l σ)) ?_
      intro i hi ih
      have dN1 := dN.qf hq1
      have dM1 := vmd_l dN1
      have hR1 := vmd_x dN1
      refine mm_w1 rfl ?_
      refine mm_w1 rfl ?_
      refine mm_wgiv _ (vM_S60 hM) (by decide) (by decide) (vm_n dM1) ?_
      refine mm_nicge (by omega) (by omega) ?_ ?_
      · intro h41
        refine mm_w1 rfl ?_
        refine mm_wr rfl rfl rfl ?_
        refine ⟨_, _, rfl, hq1, ?_, thr1⟩
        rw [show i = vb_n (vs_l σ) by omega, hre]
      · intro h41
        refine mm_w1 rfl ?_
        refine mm_w1 rfl ?_
        refine mm_w1 rfl ?_
        refine mm_niceq (by omega) (by omega) ?_ ?_
        · intro h47
          refine mm_wv (vb_i 0) rfl (by decide) ?_
          refine mm_w1 rfl ?_
          rw [show ∀ z : Int32, z ||| vb_i 0 = z from fun z => by rw [show (vb_i 0 : Int32) = 0 from rfl, Int32.or_zero]]
          refine mm_w1 (ls' := [_, _, _, _]) rfl ?_
          refine mm_nincL (ls' := [_, _, _, _]) 1 rfl (by decide) rfl ?_
          refine mm_wgoto ?_
          have ih := ih (by omega)
          rw [vb_set_s0 (p := (fun k => !decide (k = v_) && decide (s k < 9999))) (by show (!decide (i = v_) && _) = false; rw [decide_eq_true h47]; rfl)] at ih
          exact ih
        · intro h47
          refine mm_w1 rfl ?_
          refine mm_wgr (vM_S60 hM) (by decide) (by decide) (vM_P60_44 hM) (vM_a80 hM) ?_
          refine mm_w1 rfl ?_
          refine mm_wiav (vb_i (s i)) (vM_a80 hM) (vM_S80 hM) (by decide) (by omega) (hs i (by omega)) ?_
          refine mm_wv (vb_i 9999) rfl (by decide) ?_
          have hbi := hb i (by omega)
          refine mm_nicge (by omega) (by omega) ?_ ?_
          · intro h59
            refine mm_wv (vb_i 0) rfl (by decide) ?_
            refine mm_w1 rfl ?_
            rw [show ∀ z : Int32, z ||| vb_i 0 = z from fun z => by rw [show (vb_i 0 : Int32) = 0 from rfl, Int32.or_zero]]
            refine mm_w1 (ls' := [_, _, _, _]) rfl ?_
            refine mm_nincL (ls' := [_, _, _, _]) 1 rfl (by decide) rfl ?_
            refine mm_wgoto ?_
            have ih := ih (by omega)
            rw [vb_set_s0 (p := (fun k => !decide (k = v_) && decide (s k < 9999))) (by show (_ && decide (s i < 9999)) = false; rw [show decide (s i < 9999) = false from decide_eq_false (by omega), Bool.and_false])] at ih
            exact ih
          · intro h59
            refine mm_wv (vb_i 1) rfl (by decide) ?_
            refine mm_w1 rfl ?_
            refine mm_nbit (by omega) ?_
            refine mm_wgoto ?_
            refine mm_w1 rfl ?_ 
            refine mm_w1 (ls' := [_, _, _, _]) rfl ?_
            refine mm_nincL (ls' := [_, _, _, _]) 1 rfl (by decide) rfl ?_
            refine mm_wgoto ?_
            have ih := ih (by omega)
            rw [vb_set_s1 (p := (fun k => !decide (k = v_) && decide (s k < 9999))) (by show (!decide (i = v_) && decide (s i < 9999)) = true; rw [decide_eq_false h47, decide_eq_true (by omega)]; rfl)] at ih
            exact ih 
    show mm_W _ _ 220 (mm_blk 220 0) [.ref 60, .int (vb_i v_), .null, .null] [] _ _
    refine mm_w1 rfl ?_
    refine mm_wv (vb_i 0) rfl (by decide) ?_
    refine mm_wpiN (vM_S60 hM) (by decide) (by decide) ?_
    intro I1 hI1
    have hq1 : vm_qf I I1 := by rw [hI1]; exact vm_qf.thr _
    have dN1 := dN.qf hq1
    have dM1 := vmd_l dN1
    have hR1 := vmd_x dN1
    have thr1 : I1 60 0 = vb_i 0 := by rw [hI1, vb_up1]
    refine mm_w1 rfl ?_
    refine mm_w1 rfl ?_
    refine mm_cvp (vb_cv (vM_S60 hM) rfl rfl rfl rfl) (by decide) (by omega) (m_isV_t hM dM1 thr1 (by omega) (by omega)) ?_
    refine mm_nifeq (by decide) (fun h => absurd h (by decide)) (fun _ => ?_)
    refine mm_w1 rfl ?_
    refine mm_wgr (vM_S60 hM) (by decide) (by decide) (vM_P60_38 hM) (vM_a76 hM) ?_
    refine mm_wv (vb_i 0) rfl (by decide) ?_
    refine mm_w1 rfl ?_
    refine mm_nadd ?_
    refine mm_wiav (vb_i (vx_in (vx_s (vs_x σ)) v_)) (vM_a76 hM) (vM_S76 hM) (by decide) (by omega) (vm_rs hR1 lv) ?_
    refine mm_wv (vb_i 2) rfl (by decide) ?_
    refine mm_nicne (by omega) (by omega) ?_ ?_
    · intro h22
      refine mm_w1 rfl ?_
      refine mm_w1 rfl ?_
      refine mm_cvn (vb_cv (vM_S60 hM) rfl rfl rfl rfl) (by decide) (by omega) (m_walks hM dN1 hI0 hlb (by omega) (by omega) thr1) ?_
      intro I2 hq02
      obtain ⟨hqq2, thr2, s, hs, hlo, hhi⟩ := hq02
      have hq2 := hq1.tr hqq2
      have dN2 := dN.qf hq2
      have dM2 := vmd_l dN2
      have hR2 := vmd_x dN2
      refine mm_wv (vb_i 0) rfl (by decide) ?_
      refine mm_w1 (ls' := [_, _, _, _]) rfl ?_
      refine mm_wv (vb_i 0) rfl (by decide) ?_
      refine mm_w1 (ls' := [_, _, _, _]) rfl ?_
      exact loop _ s hq2 thr2 hs (fun b hb => (hlo b hb).1) (by rw [q_reach, if_neg h22, vw_rv hn lv hlo hhi]) 0 (by omega)
    · intro h22
      refine mm_wv (vb_i 0) rfl (by decide) ?_
      refine mm_wr rfl rfl rfl ?_
      refine ⟨_, _, rfl, hq1, ?_, thr1⟩
      rw [q_reach, if_pos h22]
      first
        | done
        | rfl
end NJRN
