section NGIFT
variable {G : mm_G} {d : Nat} {I : Nat → Nat → Int32} {P : Nat → Nat → Nat} {J : Nat → Nat → Int64} {S : List (Nat × Nat)} {nc ns : Nat} {μ : mm_M} {σ : vb_St}
theorem lt1_same {ℓ : vb_L} {x : vb_X} {m : Nat} {a : Int64} : q_lt1 ℓ x m a m = a := if_pos rfl
theorem vb_i64 (v : Int32) : v.toInt64.toInt = v.toInt := Int32.toInt_toInt64 v
theorem vb_i64p (v : Int32) : (v.toInt64 + 1).toInt = v.toInt + 1 := by
  rw [Int64.toInt_add, vb_i64, show (1 : Int64).toInt = 1 from rfl]
  have h1 := v.toInt_lt
  have h2 := v.le_toInt
  rw [Int.bmod_eq_of_le] <;> omega
theorem lt1_skip {ℓ : vb_L} {x : vb_X} {m i : Nat} {a : Int64} (ha : 1 ≤ a.toInt) (h : ¬ 0 < lg_cmp (vx_g ℓ x i).toInt64 0) : q_lt1 ℓ x m a i = a := by
  rw [lg_cmp_gt, Int64.lt_iff_toInt_lt, vb_i64, show (0 : Int64).toInt = 0 from rfl] at h
  rw [q_lt1]
  by_cases h1 : i = m
  · rw [if_pos h1]
  · rw [if_neg h1]
    by_cases h2 : i < m
    · rw [if_pos h2]
      by_cases h3 : (vx_g ℓ x i).toInt64 + 1 < a
      · rw [if_pos h3]
      · rw [if_neg h3]
        rw [Int64.lt_iff_toInt_lt, vb_i64p] at h3
        exact Int64.toInt_inj.mp (by rw [vb_i64p]; omega)
    · rw [if_neg h2, Int64.add_zero, if_pos]
      rw [Int64.lt_iff_toInt_lt, vb_i64]; omega
theorem lt1_up {ℓ : vb_L} {x : vb_X} {m i : Nat} {a : Int64} (h1 : i < m) : q_lt1 ℓ x m a i = if 0 < lg_cmp ((vx_g ℓ x i).toInt64 + 1) a then (vx_g ℓ x i).toInt64 + 1 else a := by
  rw [q_lt1, if_neg (by omega), if_pos h1]
  by_cases h : 0 < lg_cmp ((vx_g ℓ x i).toInt64 + 1) a
  · rw [if_pos h, if_neg]
    rw [lg_cmp_gt, Int64.lt_iff_toInt_lt] at h
    rw [Int64.lt_iff_toInt_lt]; omega
  · rw [if_neg h]
    rw [lg_cmp_gt, Int64.lt_iff_toInt_lt] at h
    by_cases h3 : (vx_g ℓ x i).toInt64 + 1 < a
    · rw [if_pos h3]
    · rw [if_neg h3]
      rw [Int64.lt_iff_toInt_lt] at h3
      exact Int64.toInt_inj.mp (by omega)
theorem lt1_dn {ℓ : vb_L} {x : vb_X} {m i : Nat} {a : Int64} (h0 : ¬ i = m) (h1 : ¬ i < m) : q_lt1 ℓ x m a i = if 0 < lg_cmp (vx_g ℓ x i).toInt64 a then (vx_g ℓ x i).toInt64 else a := by
  rw [q_lt1, if_neg h0, if_neg h1, Int64.add_zero]
  by_cases h : 0 < lg_cmp (vx_g ℓ x i).toInt64 a
  · rw [if_pos h, if_neg]
    rw [lg_cmp_gt, Int64.lt_iff_toInt_lt] at h
    rw [Int64.lt_iff_toInt_lt]; omega
  · rw [if_neg h]
    rw [lg_cmp_gt, Int64.lt_iff_toInt_lt] at h
    by_cases h3 : (vx_g ℓ x i).toInt64 < a
    · rw [if_pos h3]
    · rw [if_neg h3]
      rw [Int64.lt_iff_toInt_lt] at h3
      exact Int64.toInt_inj.mp (by omega)
theorem lt1_up1 {ℓ : vb_L} {x : vb_X} {m i : Nat} {a : Int64} (h1 : i < m) (h : 0 < lg_cmp ((vx_g ℓ x i).toInt64 + 1) a) : q_lt1 ℓ x m a i = (vx_g ℓ x i).toInt64 + 1 := by rw [lt1_up h1, if_pos h]
theorem lt1_up0 {ℓ : vb_L} {x : vb_X} {m i : Nat} {a : Int64} (h1 : i < m) (h : ¬ 0 < lg_cmp ((vx_g ℓ x i).toInt64 + 1) a) : q_lt1 ℓ x m a i = a := by rw [lt1_up h1, if_neg h]
theorem lt1_dn1 {ℓ : vb_L} {x : vb_X} {m i : Nat} {a : Int64} (h0 : ¬ i = m) (h1 : ¬ i < m) (h : 0 < lg_cmp (vx_g ℓ x i).toInt64 a) : q_lt1 ℓ x m a i = (vx_g ℓ x i).toInt64 := by rw [lt1_dn h0 h1, if_pos h]
theorem lt1_dn0 {ℓ : vb_L} {x : vb_X} {m i : Nat} {a : Int64} (h0 : ¬ i = m) (h1 : ¬ i < m) (h : ¬ 0 < lg_cmp (vx_g ℓ x i).toInt64 a) : q_lt1 ℓ x m a i = a := by rw [lt1_dn h0 h1, if_neg h]
theorem lg_up {u a : Int64} (ha : 1 ≤ a.toInt) (h : 0 < lg_cmp u a) : 1 ≤ u.toInt := by
  rw [lg_cmp_gt, Int64.lt_iff_toInt_lt] at h; omega
theorem n_gift (hM : vm_isM P S) (dN : vm_MD σ I) (hI : vs_inv σ) (hlb : vl_bel (vs_l σ)) (hd : 20 ≤ d) (a b : Int32) : mm_C G d 224 [.ref 60, .int a, .int b] (I, P, J, S, nc, ns) (vm_RV (sp_gift σ a b) (fun I' => vm_qf I I') P J S nc ns) := by
  obtain ⟨hli, hIx, hIa, hIi⟩ := hI
  obtain ⟨hok, hwf, he9⟩ := hIx
  have hsj := hwf.sj
  have hfj := hwf.fj
  have hst := hwf.ws
  have dM := vmd_l dN
  have hR := vmd_x dN
  have hn := vm_10 dM
  have ht := vx_t2 (vs_x σ)
  have hs3 := vm_sc3 dM
  cases ha : vb_idx (vb_n (vs_l σ)) a with
  | none =>
    rw [show sp_gift σ a b = .inr 0 by simp only [sp_gift, ha]]
    show mm_W _ _ 224 (mm_blk 224 0) [.ref 60, .int a, .int b, .null, .null, .null, .null, .null, .null, .null, .null] [] _ _
    refine mm_w1 rfl ?_
    refine mm_wv (vb_i 0) rfl (by decide) ?_
    refine mm_wpiN (vM_S60 hM) (by decide) (by decide) ?_
    intro I1 hI1
    have hq1 : vm_qf I I1 := by rw [hI1]; exact vm_qf.thr _
    have dN1 := dN.qf hq1
    have dM1 := vmd_l dN1
    have hR1 := vmd_x dN1
    have thr1 : I1 60 0 = vb_i 0 := by rw [hI1, vb_up1]
    refine mm_w1 rfl ?_
    refine mm_w1 rfl ?_
    refine mm_cvi (vb_cv (vM_S60 hM) rfl rfl rfl rfl) (by decide) (by omega) (m_isV_f hM dM1 thr1 ha (by omega)) ?_
    intro I2 hI2 
    refine mm_nifeq (by decide) (fun _ => ?_) (fun h => absurd rfl h)
    refine mm_wv (vb_i 0) rfl (by decide) ?_
    refine mm_wr rfl rfl rfl ?_
    exact ⟨_, _, rfl, hq1.tr (by rw [hI2]; exact vm_qf.thr _), by rw [hI2, vb_up1]⟩
  | some a_ =>
    obtain ⟨la, rfl⟩ := vb_idx_some (by omega) ha
    cases hb : vb_idx (vb_n (vs_l σ)) b with
    | none =>
      rw [show sp_gift σ (vb_i a_) b = .inr 0 by simp only [sp_gift, ha, hb]]
      show mm_W _ _ 224 (mm_blk 224 0) [.ref 60, .int (vb_i a_), .int b, .null, .null, .null, .null, .null, .null, .null, .null] [] _ _
      refine mm_w1 rfl ?_
      refine mm_wv (vb_i 0) rfl (by decide) ?_
      refine mm_wpiN (vM_S60 hM) (by decide) (by decide) ?_
      intro I1 hI1
      have hq1 : vm_qf I I1 := by rw [hI1]; exact vm_qf.thr _
      have dN1 := dN.qf hq1
      have dM1 := vmd_l dN1
      have hR1 := vmd_x dN1
      have thr1 : I1 60 0 = vb_i 0 := by rw [hI1, vb_up1]
      refine mm_w1 rfl ?_
      refine mm_w1 rfl ?_
      refine mm_cvp (vb_cv (vM_S60 hM) rfl rfl rfl rfl) (by decide) (by omega) (m_isV_t hM dM1 thr1 (by omega) (by omega)) ?_
      refine mm_nifeq (by decide) (fun h => absurd h (by decide)) (fun _ => ?_)
      refine mm_w1 rfl ?_
      refine mm_w1 rfl ?_
      refine mm_cvi (vb_cv (vM_S60 hM) rfl rfl rfl rfl) (by decide) (by omega) (m_isV_f hM dM1 thr1 hb (by omega)) ?_
      intro I2 hI2 
      refine mm_nifne (by decide) (fun h => absurd rfl h) (fun _ => ?_)
      refine mm_wv (vb_i 0) rfl (by decide) ?_
      refine mm_wr rfl rfl rfl ?_
      exact ⟨_, _, rfl, hq1.tr (by rw [hI2]; exact vm_qf.thr _), by rw [hI2, vb_up1]⟩
    | some b_ =>
      obtain ⟨lb, rfl⟩ := vb_idx_some (by omega) hb
      rw [show sp_gift σ (vb_i a_) (vb_i b_) = .inl (if vx_y (vs_x σ) (vx_tn (vs_x σ)) = -1 then -1 else if q_mayT (vs_l σ) (vs_x σ) a_ b_ then q_gift (vs_l σ) (vs_x σ) (10 * a_ + b_) else -1) by simp only [sp_gift, ha, hb]]
      have e1 : (10 * a_ + b_) / 10 = a_ := by omega
      have e2 : (10 * a_ + b_) % 10 = b_ := by omega
      have hmq := vm_may_T hn hsj (by omega : a_ < vb_n (vs_l σ)) lb
      have loop : ∀ r, r < vb_sc (vs_l σ) → vx_y (vs_x σ) (vx_tn (vs_x σ)) = vb_i r → ¬ vx_y (vs_x σ) (vx_tn (vs_x σ)) = -1 → q_mayT (vs_l σ) (vs_x σ) a_ b_ = true → ∀ i, i ≤ 100 → ∀ (I1 : Nat → Nat → Int32) (y9 y10 : Value) (a : Int64), vm_qf I I1 → I1 60 0 = vb_i 0 → 1 ≤ a.toInt → (vb_rs (vb_q (vs_l σ) (vx_s (vs_x σ) (vx_tn (vs_x σ))) (vx_s (vs_x σ) (1 - vx_tn (vs_x σ))) (vb_i (vx_e (vs_x σ)))) i).foldl (q_lt1 (vs_l σ) (vs_x σ) (10 * a_ + b_)) a = q_ltw (vs_l σ) (vs_x σ) (10 * a_ + b_) → mm_W G d 224 (mm_blk 224 75) [.ref 60, .int (vb_i a_), .int (vb_i b_), .int (vb_i (vx_tn (vs_x σ))), .int (vb_i r), .int (vb_i (10 * a_ + b_)), .long a, .null, .int (vb_i i), y9, y10] [] (I1, P, J, S, nc, ns) (vm_RV (.inl (if vx_y (vs_x σ) (vx_tn (vs_x σ)) = -1 then -1 else if q_mayT (vs_l σ) (vs_x σ) a_ b_ then q_gift (vs_l σ) (vs_x σ) (10 * a_ + b_) else -1)) (fun I' => vm_qf I I') P J S nc ns) := by
        intro r hr hyr hy hmt
        have hyn : (vx_y (vs_x σ) (vx_tn (vs_x σ))).toNatClampNeg = r := by rw [hyr, vb_nat (by omega)]
        have hval : (if vx_y (vs_x σ) (vx_tn (vs_x σ)) = -1 then -1 else if q_mayT (vs_l σ) (vs_x σ) a_ b_ then q_gift (vs_l σ) (vs_x σ) (10 * a_ + b_) else -1) = q_gift (vs_l σ) (vs_x σ) (10 * a_ + b_) := by rw [if_neg hy, hmt, if_pos rfl]
        have hmt2 : decide (vx_in (vx_s (vs_x σ)) a_ = (vx_tn (vs_x σ))) = true := by
          have h := hmt; rw [q_mayT, Bool.and_eq_true] at h; exact h.1
        have hsda := of_decide_eq_true hmt2
        refine vb_down 100 ?_
        intro i hi ih I1 y9 y10 a hq1 thr1 ha heq
        have dN1 := dN.qf hq1
        have dM1 := vmd_l dN1
        have hR1 := vmd_x dN1
        refine mm_w1 rfl ?_
        refine mm_wv (vb_i 100) rfl (by decide) ?_
        refine mm_nicge (by omega) (by omega) ?_ ?_
        · intro h79
          rw [vb_rs_end (by omega)] at heq
          have hqa : a = q_ltw (vs_l σ) (vs_x σ) (10 * a_ + b_) := heq
          subst hqa
          refine mm_w1 rfl ?_
          refine mm_wv (vb_i 0) rfl (by decide) ?_
          refine mm_w1 rfl ?_
          refine mm_w1 rfl ?_
          refine mm_cvn (vb_cv (vM_S60 hM) rfl rfl rfl rfl) (by decide) (by omega) (m_tells (sd := (vx_tn (vs_x σ))) hM dM1 hR1 (by decide) hli hlb hsj hfj (by omega) la lb ht hsda) ?_
          intro I2 hq02
          obtain ⟨hv2, hf02⟩ := hq02
          have hf2 : vb_fr vm_s8 I1 I2 := hf02.mono (fun a h => Or.inl h)
          have hq2 := hq1.tr (vm_qf.of8 hf2)
          have dN2 := dN.qf hq2
          have dM2 := vmd_l dN2
          have hR2 := vmd_x dN2
          have thr2 : I2 60 0 = vb_i 0 := by rw [hf2 60 (by simp only [vm_s8]; decide)]; exact thr1
          obtain ⟨ta, lta, hta, hrd⟩ := vm_sy dM2 hr
          have hg : vb_ru (vs_l σ) r (I2 78) = vx_g (vs_l σ) (vs_x σ) (10 * a_ + b_) := by
            rw [vx_g, hyn, e1, e2]; exact hrd.cg _ _ hv2
          refine mm_w1 rfl ?_
          refine mm_w1 rfl ?_
          refine mm_w1 rfl ?_
          refine mm_wgr (vM_S60 hM) (by decide) (by decide) (vM_P60_7 hM) (vM_a63 hM) ?_
          refine mm_w1 rfl ?_
          refine mm_wiav (vb_i ta) (vM_a63 hM) (vM_S63 hM) (by decide) (by omega) hta ?_
          refine mm_cvi (vb_cv (vM_S60 hM) rfl rfl rfl rfl) (by decide) (by omega) (m_reck hM hrd (by omega)) ?_
          intro I3 hf03
          rw [hg]
          have hf3 : vb_fr vm_s8 I2 I3 := hf03.mono (fun a h => Or.inr h)
          have hq3 := hq2.tr (vm_qf.of8 hf3)
          have dN3 := dN.qf hq3
          have dM3 := vmd_l dN3
          have hR3 := vmd_x dN3
          have thr3 : I3 60 0 = vb_i 0 := by rw [hf3 60 (by simp only [vm_s8]; decide)]; exact thr2
          refine mm_w1 rfl ?_
          refine mm_w1 rfl ?_
          refine mm_w1 (ls' := [_, _, _, _, _, _, _, _, _, _, _]) rfl ?_
          refine mm_w1 rfl ?_
          refine mm_w1 rfl ?_
          refine mm_w1 rfl ?_
          refine mm_wifgt ?_ ?_
          · intro h206
            refine mm_w1 rfl ?_
            refine mm_w1 rfl ?_
            refine mm_w1 rfl ?_
            refine mm_wifle ?_ ?_
            · intro h219
              refine mm_w1 rfl ?_
              refine mm_w1 rfl ?_
              refine mm_wr rfl rfl rfl ?_
              refine ⟨_, _, rfl, hq3, ?_, thr3⟩
              rw [hval]
              first
                | (rw [q_gift0 h206]; rfl)
                | rw [q_gift1 h206 h219]
                | rw [q_gift2 h206 h219]
            · intro h219
              refine mm_wv (-1) rfl (by decide) ?_
              refine mm_wgoto ?_
              refine mm_wr rfl rfl rfl ?_
              refine ⟨_, _, rfl, hq3, ?_, thr3⟩
              rw [hval]
              first
                | (rw [q_gift0 h206]; rfl)
                | rw [q_gift1 h206 h219]
                | rw [q_gift2 h206 h219]
          · intro h206
            refine mm_wv (vb_i 0) rfl (by decide) ?_
            refine mm_wgoto ?_
            refine mm_wr rfl rfl rfl ?_
            refine ⟨_, _, rfl, hq3, ?_, thr3⟩
            rw [hval]
            first
              | (rw [q_gift0 h206]; rfl)
              | rw [q_gift1 h206 h219]
              | rw [q_gift2 h206 h219]
        · intro h79
          have hmay : vm_may (vs_l σ) (vs_x σ) (vx_tn (vs_x σ)) i = (vb_q (vs_l σ) (vx_s (vs_x σ) (vx_tn (vs_x σ))) (vx_s (vs_x σ) (1 - vx_tn (vs_x σ))) (vb_i (vx_e (vs_x σ)))) i := by rw [vm_may, decide_eq_false (by omega), Bool.false_or]
          rw [vb_rs_cons (by omega), ← hmay] at heq
          refine mm_w1 rfl ?_
          refine mm_w1 rfl ?_
          refine mm_niceq (by omega) (by omega) ?_ ?_
          · intro h86
            refine mm_nincL (ls' := [_, _, _, _, _, _, _, _, _, _, _]) 1 rfl (by decide) rfl ?_
            refine mm_wgoto ?_
            have hmi : vm_may (vs_l σ) (vs_x σ) (vx_tn (vs_x σ)) i = true := by rw [h86, hmq, hmt]
            rw [hmi, if_pos rfl, List.foldl_cons] at heq
            have e : (q_lt1 (vs_l σ) (vs_x σ) (10 * a_ + b_)) a i = a := if_pos h86
            rw [e] at heq
            exact ih (by omega) _ _ _ _ hq1 thr1 ha heq
          · intro h86
            refine mm_w1 rfl ?_
            refine mm_wv (vb_i 0) rfl (by decide) ?_
            refine mm_w1 rfl ?_
            refine mm_w1 rfl ?_
            refine mm_cvi (vb_cv (vM_S60 hM) rfl rfl rfl rfl) (by decide) (by omega) (m_mayDo hM dM1 hR1 (by decide) hli hlb hsj hfj hst (by omega) (by omega) (by omega)) ?_
            intro I2 hf2
            have hq2 := hq1.tr (vm_qf.of8 hf2)
            have dN2 := dN.qf hq2
            have dM2 := vmd_l dN2
            have hR2 := vmd_x dN2
            have thr2 : I2 60 0 = vb_i 0 := by rw [hf2 60 (by simp only [vm_s8]; decide)]; exact thr1
            refine mm_bifne ?_ ?_
            · intro h97
              rw [h97, if_pos rfl, List.foldl_cons] at heq
              obtain ⟨q1, q2, q3, q4⟩ := vb_q_in (hmay.symm.trans h97)
              have hsd : vx_in (vx_s (vs_x σ)) (i / 10) = (vx_tn (vs_x σ)) := (vx_in_eq hsj ht).mpr q3
              refine mm_w1 rfl ?_
              refine mm_wv (vb_i 0) rfl (by decide) ?_
              refine mm_w1 rfl ?_
              refine mm_wv (vb_i 10) rfl (by decide) ?_
              refine mm_ndiv (by omega) (by omega) (by omega) ?_
              refine mm_w1 rfl ?_
              refine mm_wv (vb_i 10) rfl (by decide) ?_
              refine mm_nrem (by omega) (by omega) (by omega) ?_
              refine mm_cvn (vb_cv (vM_S60 hM) rfl rfl rfl rfl) (by decide) (by omega) (m_tells (sd := (vx_tn (vs_x σ))) hM dM2 hR2 (by decide) hli hlb hsj hfj (by omega) q1 q2 ht hsd) ?_
              intro I3 hq03
              obtain ⟨hv3, hf03⟩ := hq03
              have hf3 : vb_fr vm_s8 I2 I3 := hf03.mono (fun a h => Or.inl h)
              have hq3 := hq2.tr (vm_qf.of8 hf3)
              have dN3 := dN.qf hq3
              have dM3 := vmd_l dN3
              have hR3 := vmd_x dN3
              have thr3 : I3 60 0 = vb_i 0 := by rw [hf3 60 (by simp only [vm_s8]; decide)]; exact thr2
              obtain ⟨ta, lta, hta, hrd⟩ := vm_sy dM3 hr
              have hg : vb_ru (vs_l σ) r (I3 78) = vx_g (vs_l σ) (vs_x σ) i := by
                rw [vx_g, hyn]; exact hrd.cg _ _ hv3
              refine mm_w1 rfl ?_
              refine mm_w1 rfl ?_
              refine mm_wgr (vM_S60 hM) (by decide) (by decide) (vM_P60_7 hM) (vM_a63 hM) ?_
              refine mm_w1 rfl ?_
              refine mm_wiav (vb_i ta) (vM_a63 hM) (vM_S63 hM) (by decide) (by omega) hta ?_
              refine mm_cvi (vb_cv (vM_S60 hM) rfl rfl rfl rfl) (by decide) (by omega) (m_reck hM hrd (by omega)) ?_
              intro I4 hf04
              rw [hg]
              have hf4 : vb_fr vm_s8 I3 I4 := hf04.mono (fun a h => Or.inr h)
              have hq4 := hq3.tr (vm_qf.of8 hf4)
              have dN4 := dN.qf hq4
              have dM4 := vmd_l dN4
              have hR4 := vmd_x dN4
              have thr4 : I4 60 0 = vb_i 0 := by rw [hf4 60 (by simp only [vm_s8]; decide)]; exact thr3
              refine mm_w1 rfl ?_
              refine mm_w1 (ls' := [_, _, _, _, _, _, _, _, _, _, _]) rfl ?_
              refine mm_w1 rfl ?_
              refine mm_w1 rfl ?_
              refine mm_w1 rfl ?_
              refine mm_wifgt ?_ ?_
              · intro h136
                refine mm_w1 rfl ?_
                refine mm_w1 rfl ?_
                refine mm_nicge (by omega) (by omega) ?_ ?_
                · intro h146
                  refine mm_w1 rfl ?_
                  refine mm_w1 rfl ?_
                  refine mm_w1 rfl ?_
                  refine mm_wifle ?_ ?_
                  · intro h160
                    refine mm_w1 rfl ?_
                    refine mm_w1 (ls' := [_, _, _, _, _, _, _, _, _, _, _]) rfl ?_
                    refine mm_nincL (ls' := [_, _, _, _, _, _, _, _, _, _, _]) 1 rfl (by decide) rfl ?_
                    refine mm_wgoto ?_
                    (rw [lt1_dn0 h86 (by omega) h160] at heq; exact ih (by omega) _ _ _ _ hq4 thr4 ha heq)
                  · intro h160
                    refine mm_w1 rfl ?_
                    refine mm_wgoto ?_
                    refine mm_w1 (ls' := [_, _, _, _, _, _, _, _, _, _, _]) rfl ?_
                    refine mm_nincL (ls' := [_, _, _, _, _, _, _, _, _, _, _]) 1 rfl (by decide) rfl ?_
                    refine mm_wgoto ?_
                    (rw [lt1_dn1 h86 (by omega) h160] at heq; exact ih (by omega) _ _ _ _ hq4 thr4 (lg_up ha h160) heq)
                · intro h146
                  refine mm_w1 rfl ?_
                  refine mm_w1 rfl ?_
                  refine mm_w1 rfl ?_
                  refine mm_w1 (ls' := [_, _, _, _, _, _, _, _, _, _, _]) rfl ?_
                  refine mm_w1 rfl ?_
                  refine mm_w1 rfl ?_
                  refine mm_w1 rfl ?_
                  refine mm_wifle ?_ ?_
                  · intro h160
                    refine mm_w1 rfl ?_
                    refine mm_w1 (ls' := [_, _, _, _, _, _, _, _, _, _, _]) rfl ?_
                    refine mm_nincL (ls' := [_, _, _, _, _, _, _, _, _, _, _]) 1 rfl (by decide) rfl ?_
                    refine mm_wgoto ?_
                    (rw [lt1_up0 h146 h160] at heq; exact ih (by omega) _ _ _ _ hq4 thr4 ha heq)
                  · intro h160
                    refine mm_w1 rfl ?_
                    refine mm_wgoto ?_
                    refine mm_w1 (ls' := [_, _, _, _, _, _, _, _, _, _, _]) rfl ?_
                    refine mm_nincL (ls' := [_, _, _, _, _, _, _, _, _, _, _]) 1 rfl (by decide) rfl ?_
                    refine mm_wgoto ?_
                    (rw [lt1_up1 h146 h160] at heq; exact ih (by omega) _ _ _ _ hq4 thr4 (lg_up ha h160) heq)
              · intro h136
                refine mm_wgoto ?_
                refine mm_nincL (ls' := [_, _, _, _, _, _, _, _, _, _, _]) 1 rfl (by decide) rfl ?_
                refine mm_wgoto ?_
                (rw [lt1_skip ha h136] at heq; exact ih (by omega) _ _ _ _ hq4 thr4 ha heq)
            · intro h97
              rw [h97, if_neg (by decide)] at heq
              refine mm_wgoto ?_
              refine mm_nincL (ls' := [_, _, _, _, _, _, _, _, _, _, _]) 1 rfl (by decide) rfl ?_
              refine mm_wgoto ?_
              exact ih (by omega) _ _ _ _ hq2 thr2 ha heq  
      show mm_W _ _ 224 (mm_blk 224 0) [.ref 60, .int (vb_i a_), .int (vb_i b_), .null, .null, .null, .null, .null, .null, .null, .null] [] _ _
      refine mm_w1 rfl ?_
      refine mm_wv (vb_i 0) rfl (by decide) ?_
      refine mm_wpiN (vM_S60 hM) (by decide) (by decide) ?_
      intro I1 hI1
      have hq1 : vm_qf I I1 := by rw [hI1]; exact vm_qf.thr _
      have dN1 := dN.qf hq1
      have dM1 := vmd_l dN1
      have hR1 := vmd_x dN1
      have thr1 : I1 60 0 = vb_i 0 := by rw [hI1, vb_up1]
      refine mm_w1 rfl ?_
      refine mm_w1 rfl ?_
      refine mm_cvp (vb_cv (vM_S60 hM) rfl rfl rfl rfl) (by decide) (by omega) (m_isV_t hM dM1 thr1 (by omega) (by omega)) ?_
      refine mm_nifeq (by decide) (fun h => absurd h (by decide)) (fun _ => ?_)
      refine mm_w1 rfl ?_
      refine mm_w1 rfl ?_
      refine mm_cvp (vb_cv (vM_S60 hM) rfl rfl rfl rfl) (by decide) (by omega) (m_isV_t hM dM1 thr1 (by omega) (by omega)) ?_
      refine mm_nifne (by decide) (fun _ => ?_) (fun h => absurd h (by decide))
      refine mm_w1 rfl ?_
      refine mm_wgr (vM_S60 hM) (by decide) (by decide) (vM_P60_38 hM) (vM_a76 hM) ?_
      refine mm_wv (vb_i 43) rfl (by decide) ?_
      refine mm_wiav (vb_i (vx_tn (vs_x σ))) (vM_a76 hM) (vM_S76 hM) (by decide) (by omega) (vm_ru hR1) ?_
      refine mm_w1 (ls' := [_, _, _, _, _, _, _, _, _, _, _]) rfl ?_
      refine mm_w1 rfl ?_
      refine mm_wgr (vM_S60 hM) (by decide) (by decide) (vM_P60_38 hM) (vM_a76 hM) ?_
      refine mm_wv (vb_i 44) rfl (by decide) ?_
      refine mm_w1 rfl ?_
      refine mm_nadd ?_
      refine mm_wiav (vx_y (vs_x σ) (vx_tn (vs_x σ))) (vM_a76 hM) (vM_S76 hM) (by decide) (by omega) (vm_ry hR1 ht) ?_
      refine mm_w1 (ls' := [_, _, _, _, _, _, _, _, _, _, _]) rfl ?_
      refine mm_wv (vb_i 10) rfl (by decide) ?_
      refine mm_w1 rfl ?_
      refine mm_nmul ?_
      refine mm_w1 rfl ?_
      refine mm_nadd ?_
      refine mm_w1 (ls' := [_, _, _, _, _, _, _, _, _, _, _]) rfl ?_
      refine mm_w1 rfl ?_
      refine mm_wv (-1) rfl (by decide) ?_
      refine mm_wiceq ?_ ?_
      · intro h53
        refine mm_wv (-1) rfl (by decide) ?_
        refine mm_wr rfl rfl rfl ?_
        refine ⟨_, _, rfl, hq1, ?_, thr1⟩
        first
          | rw [if_pos h53]
          | rw [if_neg h53, ← hmq, h64, if_neg (by decide)]
      · intro h53
        refine mm_w1 rfl ?_
        refine mm_wv (vb_i 0) rfl (by decide) ?_
        refine mm_w1 rfl ?_
        refine mm_w1 rfl ?_
        refine mm_cvi (vb_cv (vM_S60 hM) rfl rfl rfl rfl) (by decide) (by omega) (m_mayDo hM dM1 hR1 (by decide) hli hlb hsj hfj hst (by omega) (by omega) (by omega)) ?_
        intro I2 hf2
        have hq2 := hq1.tr (vm_qf.of8 hf2)
        have dN2 := dN.qf hq2
        have dM2 := vmd_l dN2
        have hR2 := vmd_x dN2
        have thr2 : I2 60 0 = vb_i 0 := by rw [hf2 60 (by simp only [vm_s8]; decide)]; exact thr1
        refine mm_bifne ?_ ?_
        · intro h64
          refine mm_w1 rfl ?_
          refine mm_w1 (ls' := [_, _, _, _, _, _, _, _, _, _, _]) rfl ?_
          refine mm_wv (vb_i 0) rfl (by decide) ?_
          refine mm_w1 (ls' := [_, _, _, _, _, _, _, _, _, _, _]) rfl ?_
          obtain ⟨r, hr, hyr⟩ := (hok (vx_tn (vs_x σ)) ht).resolve_left h53
          have hmt := hmq.symm.trans h64
          have hL := fun y9 y10 => loop r hr hyr h53 hmt 0 (by omega) _ y9 y10 1 hq2 thr2 (by decide) rfl
          rw [← hyr] at hL
          exact hL _ _
        · intro h64
          refine mm_wv (-1) rfl (by decide) ?_
          refine mm_wr rfl rfl rfl ?_
          refine ⟨_, _, rfl, hq2, ?_, thr2⟩
          first
            | rw [if_pos h53]
            | rw [if_neg h53, ← hmq, h64, if_neg (by decide)]
end NGIFT
