theorem q_ash (s : Int32) : (s >>> (vb_i 16 &&& 31)) &&& vb_i 32767 = q_ush s := by
  apply vb_ext
  intro v hv
  have hm : vb_has (vb_i 32767) v = decide (v < 15) := vb_msk (k := 15) (by decide) v hv
  rw [q_ush, vb_has_and, vb_has_and, hm]
  by_cases h : v < 15
  · have e1 : vb_has (s >>> (vb_i 16 &&& 31)) v = vb_has s (16 + v) := by
      simp only [vb_has, Int32.toBitVec_shiftRight]
      rw [BitVec.sshiftRight_eq', vb_sh (by decide : 16 < 32), BitVec.getLsbD_sshiftRight]
      rw [if_pos (by omega), decide_eq_false (by omega)]; rfl
    have e2 : vb_has ((s.toUInt32 >>> ((vb_i 16).toUInt32 &&& Int32.toUInt32 31)).toInt32) v = vb_has s (16 + v) := by
      simp only [vb_has]
      show (s.toBitVec >>> (16 : BitVec 32)).getLsbD v = _
      rw [BitVec.ushiftRight_eq', BitVec.getLsbD_ushiftRight]; rfl
    rw [e1, e2]
  · rw [decide_eq_false h, Bool.and_false, Bool.and_false]
section NYEARS
variable {G : mm_G} {d : Nat} {I : Nat → Nat → Int32} {P : Nat → Nat → Nat} {J : Nat → Nat → Int64} {S : List (Nat × Nat)} {nc ns : Nat} {μ : mm_M} {ℓ : vb_L} {x : vb_X} {b t : Nat}
theorem m_moveOf {r : Nat} (hM : vm_isM P S) (dM : vm_LD ℓ I) (hR : vm_row ℓ (I 76) b x t) (hb : b + 46 ≤ 276) (hli : vl_inv ℓ) (hlb : vl_bel ℓ) (hsj : vx_dj (vx_s x)) (hfj : vx_dj (vx_f x)) (hst : vx_ws x) (hd : 4 ≤ d) (hr : r ≤ 100) : mm_C G d 236 [.ref 60, .int (vb_i b), .int (vb_i r)] (I, P, J, S, nc, ns) (vb_R (some (.int (vb_i ((vx_msT ℓ x t).getD r 100)))) (fun I' => vb_fr vm_s8 I I') P J S nc ns) := by
  have hn := vm_10 dM
  have ht := vm_r2 hR
  have he := vm_e2 hR
  have hF : vb_fr vm_s8 I I := vb_fr.rf
  have loop := vb_down (p := fun i => ∀ (I1 : Nat → Nat → Int32) (c : Nat), vb_fr vm_s8 I I1 → c ≤ 100 → (vb_rs (vb_q ℓ (vx_s x t) (vx_s x (1 - t)) (vb_i (vx_e x))) i).getD c 100 = ((vx_msT ℓ x t).getD r 100) → mm_W G d 236 (mm_blk 236 5) [.ref 60, .int (vb_i b), .int (vb_i r), .int (vb_i c), .int (vb_i i)] [] (I1, P, J, S, nc, ns) (vb_R (some (.int (vb_i ((vx_msT ℓ x t).getD r 100)))) (fun I' => vb_fr vm_s8 I I') P J S nc ns)) 100 (by
    intro i hi ih I1 c hF1 hc heq
    have hR1 : vm_row ℓ (I1 76) b x t := by rw [hF1 76 (by simp only [vm_s8]; decide)]; exact hR
    have dM1 : vm_LD ℓ I1 := dM.fr hF1 (fun a h1 h2 h3 => by simp only [vm_s8] at h3; omega)
    refine mm_w1 rfl ?_
    refine mm_wv (vb_i 100) rfl (by decide) ?_
    refine mm_nicge (by omega) (by omega) ?_ ?_
    · intro h9
      refine mm_wv (vb_i 100) rfl (by decide) ?_
      refine mm_wr rfl rfl rfl ?_
      refine ⟨_, hF1, ?_⟩
      rw [vb_rs_end (by omega), List.getD_nil] at heq
      rw [← heq]
    · intro h9
      refine mm_w1 rfl ?_
      refine mm_w1 rfl ?_
      refine mm_w1 rfl ?_
      refine mm_w1 rfl ?_
      refine mm_wgr (vM_S60 hM) (by decide) (by decide) (vM_P60_38 hM) (vM_a76 hM) ?_
      refine mm_w1 rfl ?_
      refine mm_wv (vb_i 43) rfl (by decide) ?_
      refine mm_nadd ?_
      refine mm_wiav _ (vM_a76 hM) (vM_S76 hM) (by decide) (by omega) (vm_ru hR1) ?_
      refine mm_cvi (vb_cv (vM_S60 hM) rfl rfl rfl rfl) (by decide) (by omega) (m_mayDo hM dM1 hR1 (by omega) hli hlb hsj hfj hst (by omega) (by omega) (by omega)) ?_
      intro I2 hf2
      have hF2 : vb_fr vm_s8 I I2 := hF1.tr hf2
      have hR2 : vm_row ℓ (I2 76) b x t := by rw [hF2 76 (by simp only [vm_s8]; decide)]; exact hR
      have dM2 : vm_LD ℓ I2 := dM.fr hF2 (fun a h1 h2 h3 => by simp only [vm_s8] at h3; omega)
      have hmay : vm_may ℓ x t i = (vb_q ℓ (vx_s x t) (vx_s x (1 - t)) (vb_i (vx_e x))) i := by rw [vm_may, decide_eq_false (by omega), Bool.false_or]
      rw [vb_rs_cons (by omega), ← hmay] at heq
      refine mm_bifne ?_ ?_
      · intro h28
        rw [h28, if_pos rfl] at heq
        refine mm_w1 rfl ?_
        refine mm_nifne (by omega) ?_ ?_
        · intro h35
          refine mm_ndecL (ls' := [_, _, _, _, _]) 1 rfl (by decide) (by omega) rfl ?_
          refine mm_nincL (ls' := [_, _, _, _, _]) 1 rfl (by decide) rfl ?_
          refine mm_wgoto ?_
          obtain ⟨q, rfl⟩ : ∃ q, c = q + 1 := ⟨c - 1, by omega⟩
          rw [List.getD_cons_succ] at heq
          exact ih (by omega) _ q hF2 (by omega) heq
        · intro h35
          refine mm_w1 rfl ?_
          refine mm_wr rfl rfl rfl ?_
          refine ⟨_, hF2, ?_⟩
          rw [h35, List.getD_cons_zero] at heq
          rw [heq]
      · intro h28
        rw [h28, if_neg (by decide)] at heq
        refine mm_wgoto ?_
        refine mm_nincL (ls' := [_, _, _, _, _]) 1 rfl (by decide) rfl ?_
        refine mm_wgoto ?_
        exact ih (by omega) _ c hF2 hc heq 
    )
  show mm_W _ _ 236 (mm_blk 236 0) [.ref 60, .int (vb_i b), .int (vb_i r), .null, .null] [] _ _
  refine mm_w1 rfl ?_
  refine mm_w1 (ls' := [_, _, _, _, _]) rfl ?_
  refine mm_wv (vb_i 0) rfl (by decide) ?_
  refine mm_w1 (ls' := [_, _, _, _, _]) rfl ?_
  exact loop 0 (by omega) I r hF hr rfl
theorem m_draw {n : Nat} {z : Int32} (hM : vm_isM P S) (hz : I 60 48 = z) (hn : 1 ≤ n) (hn2 : n < 1000) : mm_C G d 235 [.ref 60, .int (vb_i n)] (I, P, J, S, nc, ns) (vb_R (some (.int (vb_i (q_dr (z * 1103515245 + vb_i 12345) % n)))) (fun I' => I' = mm_up I 60 48 (z * 1103515245 + vb_i 12345)) P J S nc ns) := by
  obtain ⟨hdr, hdl⟩ := q_dr_eq (z * 1103515245 + vb_i 12345)
  show mm_W _ _ 235 (mm_blk 235 0) [.ref 60, .int (vb_i n)] [] _ _
  refine mm_w1 rfl ?_
  refine mm_w1 rfl ?_
  refine mm_wgiv z (vM_S60 hM) (by decide) (by decide) hz ?_
  refine mm_w1 rfl ?_
  refine mm_w1 rfl ?_
  refine mm_wv (vb_i 12345) rfl (by decide) ?_
  refine mm_w1 rfl ?_
  refine mm_wpi (vM_S60 hM) (by decide) (by decide) ?_
  refine mm_w1 rfl ?_
  refine mm_wgiv (z * 1103515245 + vb_i 12345) (vM_S60 hM) (by decide) (by decide) (vb_up1 _ _ _ _) ?_
  refine mm_wv (vb_i 16) rfl (by decide) ?_
  refine mm_w1 rfl ?_
  refine mm_wv (vb_i 32767) rfl (by decide) ?_
  refine mm_wv (vb_i (q_dr (z * 1103515245 + vb_i 12345))) rfl ((q_ash _).trans hdr) ?_ 
  refine mm_w1 rfl ?_
  refine mm_nrem (by omega) (by omega) (by omega) ?_
  refine mm_wr rfl rfl rfl ?_
  exact ⟨_, rfl, rfl⟩
end NYEARS
section NYEARS2
variable {G : mm_G} {d : Nat} {I : Nat → Nat → Int32} {P : Nat → Nat → Nat} {J : Nat → Nat → Int64} {S : List (Nat × Nat)} {nc ns : Nat} {μ : mm_M} {σ : vb_St}
theorem vb_cnt_or {a b : Int32} (h : ∀ v, vb_has a v = true → vb_has b v = false) (n : Nat) : vb_cnt n (vb_has (a ||| b)) = vb_cnt n (vb_has a) + vb_cnt n (vb_has b) := by
  induction n with
  | zero => rfl
  | succ n ih =>
    simp only [vb_cnt, ih, vb_has_or]
    cases h1 : vb_has a n with
    | true => rw [h n h1]; simp; omega
    | false => simp; omega
theorem n_years (hM : vm_isM P S) (dN : vm_MD σ I) (hI : vs_inv σ) (hlb : vl_bel (vs_l σ)) (hd : 20 ≤ d) (sd k w : Int32) : mm_C G d 237 [.ref 60, .int sd, .int k, .int w] (I, P, J, S, nc, ns) (vm_RV (sp_years σ sd k w) (fun I' => vm_qf I I') P J S nc ns) := by
  obtain ⟨hli, hIx, hIa, hIi⟩ := hI
  obtain ⟨hok, hwf, he9⟩ := hIx
  have hsj := hwf.sj
  have hfj := hwf.fj
  have hst := hwf.ws
  have dM := vmd_l dN
  have hR := vmd_x dN
  have hn := vm_10 dM
  have ht := vx_t2 (vs_x σ)
  have hs3 := vm_sc3 dM
  cases hw : vb_idx 3 w with
  | none =>
    rw [show sp_years σ sd k w = .inr 0 by simp only [sp_years, hw]]
    show mm_W _ _ 237 (mm_blk 237 0) [.ref 60, .int sd, .int k, .int w, .null] [] _ _
    refine mm_w1 rfl ?_
    refine mm_wv (vb_i 0) rfl (by decide) ?_
    refine mm_wpiN (vM_S60 hM) (by decide) (by decide) ?_
    intro I1 hI1
    have hq1 : vm_qf I I1 := by rw [hI1]; exact vm_qf.thr _
    have dN1 := dN.qf hq1
    have dM1 := vmd_l dN1
    have hR1 := vmd_x dN1
    have thr1 : I1 60 0 = vb_i 0 := by rw [hI1, vb_up1]
    refine mm_w1 rfl ?_
    refine mm_w1 rfl ?_
    refine mm_wv (vb_i 2) rfl (by decide) ?_
    refine mm_cvi (vb_cv (vM_S60 hM) rfl rfl rfl rfl) (by decide) (by omega) (m_isW_f hM thr1 hw (by omega) (by omega)) ?_
    intro I2 hI2 
    refine mm_nifeq (by decide) (fun _ => ?_) (fun h => absurd rfl h)
    refine mm_wv (vb_i 0) rfl (by decide) ?_
    refine mm_wr rfl rfl rfl ?_
    exact ⟨_, _, rfl, hq1.tr (by rw [hI2]; exact vm_qf.thr _), by rw [hI2, vb_up1]⟩
  | some w_ =>
    obtain ⟨lw, rfl⟩ := vb_idx_some (by decide) hw
    cases hk : vb_idx 61 k with
    | none =>
      rw [show sp_years σ sd k (vb_i w_) = .inr 1 by simp only [sp_years, hw, hk]]
      show mm_W _ _ 237 (mm_blk 237 0) [.ref 60, .int sd, .int k, .int (vb_i w_), .null] [] _ _
      refine mm_w1 rfl ?_
      refine mm_wv (vb_i 0) rfl (by decide) ?_
      refine mm_wpiN (vM_S60 hM) (by decide) (by decide) ?_
      intro I1 hI1
      have hq1 : vm_qf I I1 := by rw [hI1]; exact vm_qf.thr _
      have dN1 := dN.qf hq1
      have dM1 := vmd_l dN1
      have hR1 := vmd_x dN1
      have thr1 : I1 60 0 = vb_i 0 := by rw [hI1, vb_up1]
      refine mm_w1 rfl ?_
      refine mm_w1 rfl ?_
      refine mm_wv (vb_i 2) rfl (by decide) ?_
      refine mm_cvp (vb_cv (vM_S60 hM) rfl rfl rfl rfl) (by decide) (by omega) (m_isW_t hM thr1 (by rw [hw]; rfl) (by decide) (by omega)) ?_
      refine mm_nifeq (by decide) (fun h => absurd h (by decide)) (fun _ => ?_)
      refine mm_w1 rfl ?_
      refine mm_w1 rfl ?_
      refine mm_wv (vb_i 0) rfl (by decide) ?_
      refine mm_wv (vb_i 60) rfl (by decide) ?_
      refine mm_csp rfl (by decide) (by omega) (m_within_f (by decide) hk) ?_
      refine mm_wv (vb_i 2) rfl (by decide) ?_
      refine mm_cvi (vb_cv (vM_S60 hM) rfl rfl rfl rfl) (by decide) (by omega) (m_right_f (w := 2) hM thr1 (by decide) (by decide)) ?_
      intro I2 hI2
      refine mm_nifne (by decide) (fun h => absurd rfl h) (fun _ => ?_)
      refine mm_wv (vb_i 0) rfl (by decide) ?_
      refine mm_wr rfl rfl rfl ?_
      exact ⟨_, _, rfl, hq1.tr (by rw [hI2]; exact vm_qf.thr _), by rw [hI2, vb_up1]⟩
    | some k_ =>
      obtain ⟨lk, rfl⟩ := vb_idx_some (by decide) hk
      rw [show sp_years σ sd (vb_i k_) (vb_i w_) = .inl (if w_ = 0 then vb_i (vb_cnt 10 (vb_has (vx_s (q_ys (vs_l σ) (vs_x σ) sd k_).1 0 ||| vx_s (q_ys (vs_l σ) (vs_x σ) sd k_).1 1))) else vx_t (q_ys (vs_l σ) (vs_x σ) sd k_).1 (w_ - 1)) by simp only [sp_years, hw, hk]]
      have loop := vb_down (p := fun j => ∀ (I1 : Nat → Nat → Int32), vm_qf I I1 → I1 60 0 = vb_i 0 → I1 60 48 = (q_ys (vs_l σ) (vs_x σ) sd j).2 → vm_row (vs_l σ) (I1 76) 46 (q_ys (vs_l σ) (vs_x σ) sd j).1 (vx_tn (q_ys (vs_l σ) (vs_x σ) sd j).1) → mm_W G d 237 (mm_blk 237 46) [.ref 60, .int sd, .int (vb_i k_), .int (vb_i w_), .int (vb_i j)] [] (I1, P, J, S, nc, ns) (vm_RV (.inl (if w_ = 0 then vb_i (vb_cnt 10 (vb_has (vx_s (q_ys (vs_l σ) (vs_x σ) sd k_).1 0 ||| vx_s (q_ys (vs_l σ) (vs_x σ) sd k_).1 1))) else vx_t (q_ys (vs_l σ) (vs_x σ) sd k_).1 (w_ - 1))) (fun I' => vm_qf I I') P J S nc ns)) k_ (by
        intro j hj ih I1 hq1 thr1 its1 hS1
        have dN1 := dN.qf hq1
        have dM1 := vmd_l dN1
        have hR1 := vmd_x dN1
        have hye := q_ys_e (vs_l σ) (vs_x σ) sd j
        have hwfS := q_ys_wf (sd := sd) hwf hn j
        have htS := vx_t2 (q_ys (vs_l σ) (vs_x σ) sd j).1
        have hml : (vx_msT (vs_l σ) (q_ys (vs_l σ) (vs_x σ) sd j).1 (vx_tn (q_ys (vs_l σ) (vs_x σ) sd j).1)).length ≤ 100 := by
          have h1 : (vx_msT (vs_l σ) (q_ys (vs_l σ) (vs_x σ) sd j).1 (vx_tn (q_ys (vs_l σ) (vs_x σ) sd j).1)).length ≤ (List.range' 0 100).length := List.length_filter_le _ _
          rw [List.length_range'] at h1; exact h1
        have hmod : q_dr ((q_ys (vs_l σ) (vs_x σ) sd j).2 * 1103515245 + vb_i 12345) % ((vx_msT (vs_l σ) (q_ys (vs_l σ) (vs_x σ) sd j).1 (vx_tn (q_ys (vs_l σ) (vs_x σ) sd j).1)).length + 1) < (vx_msT (vs_l σ) (q_ys (vs_l σ) (vs_x σ) sd j).1 (vx_tn (q_ys (vs_l σ) (vs_x σ) sd j).1)).length + 1 := Nat.mod_lt _ (by omega)
        have hm1 : vm_ok1 (vs_l σ) (q_ys (vs_l σ) (vs_x σ) sd j).1 (vx_tn (q_ys (vs_l σ) (vs_x σ) sd j).1) ((vx_msT (vs_l σ) (q_ys (vs_l σ) (vs_x σ) sd j).1 (vx_tn (q_ys (vs_l σ) (vs_x σ) sd j).1)).getD (q_dr ((q_ys (vs_l σ) (vs_x σ) sd j).2 * 1103515245 + vb_i 12345) % ((vx_msT (vs_l σ) (q_ys (vs_l σ) (vs_x σ) sd j).1 (vx_tn (q_ys (vs_l σ) (vs_x σ) sd j).1)).length + 1)) 100) := by
          by_cases hlt : q_dr ((q_ys (vs_l σ) (vs_x σ) sd j).2 * 1103515245 + vb_i 12345) % ((vx_msT (vs_l σ) (q_ys (vs_l σ) (vs_x σ) sd j).1 (vx_tn (q_ys (vs_l σ) (vs_x σ) sd j).1)).length + 1) < (vx_msT (vs_l σ) (q_ys (vs_l σ) (vs_x σ) sd j).1 (vx_tn (q_ys (vs_l σ) (vs_x σ) sd j).1)).length
          · have hz : (vx_msT (vs_l σ) (q_ys (vs_l σ) (vs_x σ) sd j).1 (vx_tn (q_ys (vs_l σ) (vs_x σ) sd j).1))[q_dr ((q_ys (vs_l σ) (vs_x σ) sd j).2 * 1103515245 + vb_i 12345) % ((vx_msT (vs_l σ) (q_ys (vs_l σ) (vs_x σ) sd j).1 (vx_tn (q_ys (vs_l σ) (vs_x σ) sd j).1)).length + 1)]? = some ((vx_msT (vs_l σ) (q_ys (vs_l σ) (vs_x σ) sd j).1 (vx_tn (q_ys (vs_l σ) (vs_x σ) sd j).1)).getD (q_dr ((q_ys (vs_l σ) (vs_x σ) sd j).2 * 1103515245 + vb_i 12345) % ((vx_msT (vs_l σ) (q_ys (vs_l σ) (vs_x σ) sd j).1 (vx_tn (q_ys (vs_l σ) (vs_x σ) sd j).1)).length + 1)) 100) := by rw [List.getD_eq_getElem?_getD, List.getElem?_eq_getElem hlt]; rfl
            exact vm_ms_ok1 hn hli hwfS.sj htS (List.mem_of_getElem? hz)
          · left; rw [List.getD_eq_getElem?_getD, List.getElem?_eq_none (by omega)]; rfl
        refine mm_w1 rfl ?_
        refine mm_w1 rfl ?_
        refine mm_nicge (by omega) (by omega) ?_ ?_
        · intro h49
          refine mm_w1 rfl ?_
          refine mm_nifne (by omega) ?_ ?_
          · intro h90
            refine mm_w1 rfl ?_
            refine mm_wgr (vM_S60 hM) (by decide) (by decide) (vM_P60_38 hM) (vM_a76 hM) ?_
            refine mm_wv (vb_i 86) rfl (by decide) ?_
            refine mm_w1 rfl ?_
            refine mm_nadd ?_
            refine mm_wv (vb_i 1) rfl (by decide) ?_
            refine mm_nsub (by omega) ?_ 
            refine mm_wiav (vx_t (q_ys (vs_l σ) (vs_x σ) sd j).1 (w_ - 1)) (vM_a76 hM) (vM_S76 hM) (by decide) (by omega) (by rw [show 86 + w_ - 1 = 46 + 40 + (w_ - 1) by omega]; exact vm_rt hS1 (by omega)) ?_
            refine mm_wr rfl rfl rfl ?_
            refine ⟨_, _, rfl, hq1, ?_, thr1⟩
            rw [show k_ = j by omega]
            first
              | (rw [if_pos h90, vb_cnt_or hwfS.sj]; done)
              | (rw [if_neg h90]; done)
          · intro h90
            refine mm_w1 rfl ?_
            refine mm_wv (vb_i 46) rfl (by decide) ?_
            refine mm_wv (vb_i 0) rfl (by decide) ?_
            refine mm_cvp (vb_cv (vM_S60 hM) rfl rfl rfl rfl) (by decide) (by omega) (m_stones hM dM1 hS1 (by decide) (by omega)) ?_
            rw [vm_st_eq hn hwfS.sj (by decide) (hwfS.1 _ (by decide)).1]
            refine mm_csp rfl (by decide) (by omega) m_bits ?_
            refine mm_w1 rfl ?_
            refine mm_wv (vb_i 46) rfl (by decide) ?_
            refine mm_wv (vb_i 1) rfl (by decide) ?_
            refine mm_cvp (vb_cv (vM_S60 hM) rfl rfl rfl rfl) (by decide) (by omega) (m_stones hM dM1 hS1 (by decide) (by omega)) ?_
            rw [vm_st_eq hn hwfS.sj (by decide) (hwfS.1 _ (by decide)).1]
            refine mm_csp rfl (by decide) (by omega) m_bits ?_
            refine mm_nadd ?_
            refine mm_wgoto ?_
            refine mm_wr rfl rfl rfl ?_
            refine ⟨_, _, rfl, hq1, ?_, thr1⟩
            rw [show k_ = j by omega]
            first
              | (rw [if_pos h90, vb_cnt_or hwfS.sj]; done)
              | (rw [if_neg h90]; done)
        · intro h49
          refine mm_w1 rfl ?_
          refine mm_wv (vb_i 46) rfl (by decide) ?_
          refine mm_w1 rfl ?_
          refine mm_wv (vb_i 46) rfl (by decide) ?_
          refine mm_w1 rfl ?_
          refine mm_w1 rfl ?_
          refine mm_wv (vb_i 46) rfl (by decide) ?_
          refine mm_w1 rfl ?_
          refine mm_wgr (vM_S60 hM) (by decide) (by decide) (vM_P60_38 hM) (vM_a76 hM) ?_
          refine mm_wv (vb_i 89) rfl (by decide) ?_
          refine mm_wiav (vb_i (vx_tn (q_ys (vs_l σ) (vs_x σ) sd j).1)) (vM_a76 hM) (vM_S76 hM) (by decide) (by omega) (vm_ru hS1) ?_
          refine mm_cvi (vb_cv (vM_S60 hM) rfl rfl rfl rfl) (by decide) (by omega) (m_moves (sd := vx_tn (q_ys (vs_l σ) (vs_x σ) sd j).1) hM dM1 hS1 (by decide) hli hlb hwfS.sj hwfS.fj hwfS.ws (by omega) htS) ?_
          intro I2 hf2
          have hq2 := hq1.tr (vm_qf.of8 hf2)
          have dN2 := dN.qf hq2
          have dM2 := vmd_l dN2
          have hR2 := vmd_x dN2
          have thr2 : I2 60 0 = vb_i 0 := by rw [hf2 60 (by simp only [vm_s8]; decide)]; exact thr1
          have hS2 : vm_row (vs_l σ) (I2 76) 46 (q_ys (vs_l σ) (vs_x σ) sd j).1 (vx_tn (q_ys (vs_l σ) (vs_x σ) sd j).1) := by rw [hf2 76 (by simp only [vm_s8]; decide)]; exact hS1
          have its2 : I2 60 48 = (q_ys (vs_l σ) (vs_x σ) sd j).2 := by rw [hf2 60 (by simp only [vm_s8]; decide)]; exact its1
          refine mm_wv (vb_i 1) rfl (by decide) ?_
          refine mm_nadd ?_
          refine mm_cvi (vb_cv (vM_S60 hM) rfl rfl rfl rfl) (by decide) (by omega) (m_draw hM its2 (by omega) (by omega)) ?_
          intro I3 hI3
          have hq3 : vm_qf I I3 := hq2.tr (by rw [hI3]; exact vm_qf.its _)
          have dN3 := dN.qf hq3
          have dM3 := vmd_l dN3
          have hR3 := vmd_x dN3
          have thr3 : I3 60 0 = vb_i 0 := by rw [hI3, vb_up2 _ _ (by decide)]; exact thr2
          have hS3 : vm_row (vs_l σ) (I3 76) 46 (q_ys (vs_l σ) (vs_x σ) sd j).1 (vx_tn (q_ys (vs_l σ) (vs_x σ) sd j).1) := by rw [hI3, vb_up3 _ _ (by decide)]; exact hS2
          have its3 : I3 60 48 = (q_ys (vs_l σ) (vs_x σ) sd (j + 1)).2 := by rw [hI3]; exact vb_up1 _ _ _ _
          refine mm_cvi (vb_cv (vM_S60 hM) rfl rfl rfl rfl) (by decide) (by omega) (m_moveOf hM dM3 hS3 (by decide) hli hlb hwfS.sj hwfS.fj hwfS.ws (by omega) (by omega)) ?_
          intro I4 hf4
          have hq4 := hq3.tr (vm_qf.of8 hf4)
          have dN4 := dN.qf hq4
          have dM4 := vmd_l dN4
          have hR4 := vmd_x dN4
          have thr4 : I4 60 0 = vb_i 0 := by rw [hf4 60 (by simp only [vm_s8]; decide)]; exact thr3
          have hS4 : vm_row (vs_l σ) (I4 76) 46 (q_ys (vs_l σ) (vs_x σ) sd j).1 (vx_tn (q_ys (vs_l σ) (vs_x σ) sd j).1) := by rw [hf4 76 (by simp only [vm_s8]; decide)]; exact hS3
          have its4 : I4 60 48 = (q_ys (vs_l σ) (vs_x σ) sd (j + 1)).2 := by rw [hf4 60 (by simp only [vm_s8]; decide)]; exact its3
          refine mm_cvn (vb_cv (vM_S60 hM) rfl rfl rfl rfl) (by decide) (by omega) (m_does hM dM4 hS4 (by decide) hwfS.sj (by omega) hm1 (by omega)) ?_
          intro I5 hq05
          obtain ⟨hS5, ho5, hf5⟩ := hq05
          have hq5 := hq4.tr (vm_qf.of76 hf5 (fun j hj => ho5 j (by omega)))
          have dN5 := dN.qf hq5
          have dM5 := vmd_l dN5
          have hR5 := vmd_x dN5
          have thr5 : I5 60 0 = vb_i 0 := by rw [hf5 60 (by decide)]; exact thr4
          have its5 : I5 60 48 = (q_ys (vs_l σ) (vs_x σ) sd (j + 1)).2 := by rw [hf5 60 (by decide)]; exact its4
          refine mm_nincL (ls' := [_, _, _, _, _]) 1 rfl (by decide) rfl ?_
          refine mm_wgoto ?_
          exact ih (by omega) _ hq5 thr5 its5 (by have := hS5; rw [show 1 - vx_tn (q_ys (vs_l σ) (vs_x σ) sd j).1 = vx_tn (q_ys (vs_l σ) (vs_x σ) sd (j + 1)).1 from (vx_tn_do _ _ _).symm] at this; exact this)
        )
      show mm_W _ _ 237 (mm_blk 237 0) [.ref 60, .int sd, .int (vb_i k_), .int (vb_i w_), .null] [] _ _
      refine mm_w1 rfl ?_
      refine mm_wv (vb_i 0) rfl (by decide) ?_
      refine mm_wpiN (vM_S60 hM) (by decide) (by decide) ?_
      intro I1 hI1
      have hq1 : vm_qf I I1 := by rw [hI1]; exact vm_qf.thr _
      have dN1 := dN.qf hq1
      have dM1 := vmd_l dN1
      have hR1 := vmd_x dN1
      have thr1 : I1 60 0 = vb_i 0 := by rw [hI1, vb_up1]
      refine mm_w1 rfl ?_
      refine mm_w1 rfl ?_
      refine mm_wv (vb_i 2) rfl (by decide) ?_
      refine mm_cvp (vb_cv (vM_S60 hM) rfl rfl rfl rfl) (by decide) (by omega) (m_isW_t hM thr1 (by rw [hw]; rfl) (by decide) (by omega)) ?_
      refine mm_nifeq (by decide) (fun h => absurd h (by decide)) (fun _ => ?_)
      refine mm_w1 rfl ?_
      refine mm_w1 rfl ?_
      refine mm_wv (vb_i 0) rfl (by decide) ?_
      refine mm_wv (vb_i 60) rfl (by decide) ?_
      refine mm_csp rfl (by decide) (by omega) (m_within_t (by decide) (by rw [hk]; rfl)) ?_
      refine mm_wv (vb_i 2) rfl (by decide) ?_
      refine mm_cvp (vb_cv (vM_S60 hM) rfl rfl rfl rfl) (by decide) (by omega) (m_right_t hM thr1) ?_
      refine mm_nifne (by decide) (fun _ => ?_) (fun h => absurd h (by decide))
      refine mm_w1 rfl ?_
      refine mm_wv (vb_i 0) rfl (by decide) ?_
      refine mm_wv (vb_i 46) rfl (by decide) ?_
      refine mm_cvn (vb_cv (vM_S60 hM) rfl rfl rfl rfl) (by decide) (by omega) (m_lays0 hM (by decide) (by decide) (by decide)) ?_
      intro I2 hq02
      obtain ⟨hc2, ho2, hf2⟩ := hq02
      have hq2 := hq1.tr (vm_qf.of76 hf2 (fun j hj => ho2 j (by omega)))
      have dN2 := dN.qf hq2
      have dM2 := vmd_l dN2
      have hR2 := vmd_x dN2
      have thr2 : I2 60 0 = vb_i 0 := by rw [hf2 60 (by decide)]; exact thr1
      have hS2 : vm_row (vs_l σ) (I2 76) 46 (vs_x σ) (vx_tn (vs_x σ)) := hR1.mv hn hc2
      refine mm_w1 rfl ?_
      refine mm_w1 rfl ?_
      refine mm_wpiN (vM_S60 hM) (by decide) (by decide) ?_
      intro I3 hI3
      have hq3 : vm_qf I I3 := hq2.tr (by rw [hI3]; exact vm_qf.its _)
      have dN3 := dN.qf hq3
      have dM3 := vmd_l dN3
      have hR3 := vmd_x dN3
      have thr3 : I3 60 0 = vb_i 0 := by rw [hI3, vb_up2 _ _ (by decide)]; exact thr2
      have hS3 : vm_row (vs_l σ) (I3 76) 46 (vs_x σ) (vx_tn (vs_x σ)) := by rw [hI3, vb_up3 _ _ (by decide)]; exact hS2
      have its3 : I3 60 48 = sd := by rw [hI3]; exact vb_up1 _ _ _ _
      refine mm_wv (vb_i 0) rfl (by decide) ?_
      refine mm_w1 (ls' := [_, _, _, _, _]) rfl ?_
      exact loop 0 (by omega) _ hq3 thr3 its3 hS3
end NYEARS2
