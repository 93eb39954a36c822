theorem q_nx_le10 {u : Nat → Nat} (hu : ∀ k, u k ≤ 10) : ∀ k, (q_nx u k).2 ≤ 10
  | 0 => Nat.zero_le _
  | k + 1 => by simp only [q_nx]; split; exact hu k; exact q_nx_le10 hu k
theorem vb_cnt_no (n : Nat) {p : Nat → Bool} (h : ∀ v, v < n → p v = false) : vb_cnt n p = 0 := by
  induction n with
  | zero => rfl
  | succ n ih => simp only [vb_cnt, ih (fun v hv => h v (by omega)), h n (by omega)]; rfl
def q_fp (ℓ : vb_L) (x : vb_X) (a w : Nat) : Bool := vb_has (vb_nb ℓ a) w && (vb_has (vx_f x 0) a && vb_has (vx_f x 1) w)
theorem q_fp_cnt {ℓ : vb_L} {x : vb_X} {a : Nat} (hn : vb_n ℓ ≤ 10) (hb : vb_below (vb_n ℓ) (vx_f x 1)) : vb_cnt (vb_n ℓ) (q_fp ℓ x a) = q_fr1 ℓ x a := by
  rw [q_fr1]
  cases h : vb_has (vx_f x 0) a with
  | false => rw [if_neg (by decide)]; exact vb_cnt_no _ (fun v _ => by rw [q_fp, h]; simp)
  | true =>
    rw [if_pos rfl, vb_cnt_up (n := vb_n ℓ) hn (fun v hv => by rw [vb_has_and, vb_has_below hb hv, Bool.and_false])]
    exact vb_cnt_congr (fun v _ => by rw [q_fp, h, vb_has_and, Bool.true_and])
section NOWE
variable {G : mm_G} {d : Nat} {I : Nat → Nat → Int32} {P : Nat → Nat → Nat} {J : Nat → Nat → Int64} {S : List (Nat × Nat)} {nc ns : Nat} {μ : mm_M} {σ : vb_St}
theorem n_whose (hM : vm_isM P S) (dN : vm_MD σ I) (hI : vs_inv σ) (hlb : vl_bel (vs_l σ)) (hd : 20 ≤ d) (v : Int32) : mm_C G d 246 [.ref 60, .int v] (I, P, J, S, nc, ns) (vm_RV (sp_whose σ v) (fun I' => vm_qf I I') P J S nc ns) := by
  obtain ⟨hli, hIx, hIa, hIi⟩ := hI
  obtain ⟨hok, hwf, he9⟩ := hIx
  have hsj := hwf.sj
  have hfj := hwf.fj
  have hst := hwf.ws
  have dM := vmd_l dN
  have hR := vmd_x dN
  have hn := vm_10 dM
  have ht := vx_t2 (vs_x σ)
  have hs3 := vm_sc3 dM
  cases hv : vb_idx (vb_n (vs_l σ)) v with
  | none =>
    rw [show sp_whose σ v = .inr 0 by simp only [sp_whose, hv]]
    show mm_W _ _ 246 (mm_blk 246 0) [.ref 60, .int v, .null, .null] [] _ _
    refine mm_w1 rfl ?_
    refine mm_wv (vb_i 0) rfl (by decide) ?_
    refine mm_wpiN (vM_S60 hM) (by decide) (by decide) ?_
    intro I1 hI1
    have hq1 : vm_qf I I1 := by rw [hI1]; exact vm_qf.thr _
    have dN1 := dN.qf hq1
    have dM1 := vmd_l dN1
    have hR1 := vmd_x dN1
    have thr1 : I1 60 0 = vb_i 0 := by rw [hI1, vb_up1]
    refine mm_w1 rfl ?_
    refine mm_w1 rfl ?_
    refine mm_cvi (vb_cv (vM_S60 hM) rfl rfl rfl rfl) (by decide) (by omega) (m_isV_f hM dM1 thr1 hv (by omega)) ?_
    intro I2 hI2 
    refine mm_nifne (by decide) (fun h => absurd rfl h) (fun _ => ?_)
    refine mm_wv (vb_i 0) rfl (by decide) ?_
    refine mm_wr rfl rfl rfl ?_
    exact ⟨_, _, rfl, hq1.tr (by rw [hI2]; exact vm_qf.thr _), by rw [hI2, vb_up1]⟩
  | some v_ =>
    obtain ⟨lv, rfl⟩ := vb_idx_some (by omega) hv
    rw [show sp_whose σ (vb_i v_) = .inl (q_whose (vs_x σ) v_) by simp only [sp_whose, hv]]
    show mm_W _ _ 246 (mm_blk 246 0) [.ref 60, .int (vb_i v_), .null, .null] [] _ _
    refine mm_w1 rfl ?_
    refine mm_wv (vb_i 0) rfl (by decide) ?_
    refine mm_wpiN (vM_S60 hM) (by decide) (by decide) ?_
    intro I1 hI1
    have hq1 : vm_qf I I1 := by rw [hI1]; exact vm_qf.thr _
    have dN1 := dN.qf hq1
    have dM1 := vmd_l dN1
    have hR1 := vmd_x dN1
    have thr1 : I1 60 0 = vb_i 0 := by rw [hI1, vb_up1]
    refine mm_w1 rfl ?_
    refine mm_w1 rfl ?_
    refine mm_cvp (vb_cv (vM_S60 hM) rfl rfl rfl rfl) (by decide) (by omega) (m_isV_t hM dM1 thr1 (by omega) (by omega)) ?_
    refine mm_nifne (by decide) (fun _ => ?_) (fun h => absurd h (by decide))
    refine mm_w1 rfl ?_
    refine mm_wgr (vM_S60 hM) (by decide) (by decide) (vM_P60_38 hM) (vM_a76 hM) ?_
    refine mm_wv (vb_i 20) rfl (by decide) ?_
    refine mm_w1 rfl ?_
    refine mm_nadd ?_
    refine mm_wiav (vx_b (vs_x σ) (v_)) (vM_a76 hM) (vM_S76 hM) (by decide) (by omega) (by rw [show 20 + v_ = 0 + 20 + (v_) by omega]; exact vm_rb hR1 (by omega)) ?_
    refine mm_w1 (ls' := [_, _, _, _]) rfl ?_
    refine mm_w1 rfl ?_
    refine mm_wgr (vM_S60 hM) (by decide) (by decide) (vM_P60_38 hM) (vM_a76 hM) ?_
    refine mm_wv (vb_i 30) rfl (by decide) ?_
    refine mm_w1 rfl ?_
    refine mm_nadd ?_
    refine mm_wiav (vx_b (vs_x σ) (10 + v_)) (vM_a76 hM) (vM_S76 hM) (by decide) (by omega) (by rw [show 30 + v_ = 0 + 20 + (10 + v_) by omega]; exact vm_rb hR1 (by omega)) ?_
    refine mm_w1 (ls' := [_, _, _, _]) rfl ?_
    refine mm_w1 rfl ?_
    refine mm_w1 rfl ?_
    refine mm_wicle ?_ ?_
    · intro h37
      refine mm_w1 rfl ?_
      refine mm_w1 rfl ?_
      refine mm_wicle ?_ ?_
      · intro h46
        refine mm_wv (vb_i 2) rfl (by decide) ?_
        refine mm_wr rfl rfl rfl ?_
        refine ⟨_, _, rfl, hq1, ?_, thr1⟩
        show vb_i _ = _
        rw [q_whose]
        first
          | rw [if_pos h37]
          | rw [if_neg h37, if_pos h46]
          | rw [if_neg h37, if_neg h46]
      · intro h46
        refine mm_wv (vb_i 1) rfl (by decide) ?_
        refine mm_wgoto ?_
        refine mm_wr rfl rfl rfl ?_
        refine ⟨_, _, rfl, hq1, ?_, thr1⟩
        show vb_i _ = _
        rw [q_whose]
        first
          | rw [if_pos h37]
          | rw [if_neg h37, if_pos h46]
          | rw [if_neg h37, if_neg h46]
    · intro h37
      refine mm_wv (vb_i 0) rfl (by decide) ?_
      refine mm_wgoto ?_
      refine mm_wr rfl rfl rfl ?_
      refine ⟨_, _, rfl, hq1, ?_, thr1⟩
      show vb_i _ = _
      rw [q_whose]
      first
        | rw [if_pos h37]
        | rw [if_neg h37, if_pos h46]
        | rw [if_neg h37, if_neg h46]
theorem n_owes (hM : vm_isM P S) (dN : vm_MD σ I) (hI : vs_inv σ) (hlb : vl_bel (vs_l σ)) (hd : 20 ≤ d) (s : Int32) : mm_C G d 238 [.ref 60, .int s] (I, P, J, S, nc, ns) (vm_RV (sp_owes σ s) (fun I' => vm_qf I I') P J S nc ns) := by
  obtain ⟨hli, hIx, hIa, hIi⟩ := hI
  obtain ⟨hok, hwf, he9⟩ := hIx
  have hsj := hwf.sj
  have hfj := hwf.fj
  have hst := hwf.ws
  have dM := vmd_l dN
  have hR := vmd_x dN
  have hn := vm_10 dM
  have ht := vx_t2 (vs_x σ)
  have hs3 := vm_sc3 dM
  cases hs : vb_idx 2 s with
  | none =>
    rw [show sp_owes σ s = .inr 0 by simp only [sp_owes, hs]]
    show mm_W _ _ 238 (mm_blk 238 0) [.ref 60, .int s, .null, .null] [] _ _
    refine mm_w1 rfl ?_
    refine mm_wv (vb_i 0) rfl (by decide) ?_
    refine mm_wpiN (vM_S60 hM) (by decide) (by decide) ?_
    intro I1 hI1
    have hq1 : vm_qf I I1 := by rw [hI1]; exact vm_qf.thr _
    have dN1 := dN.qf hq1
    have dM1 := vmd_l dN1
    have hR1 := vmd_x dN1
    have thr1 : I1 60 0 = vb_i 0 := by rw [hI1, vb_up1]
    refine mm_w1 rfl ?_
    refine mm_w1 rfl ?_
    refine mm_cvi (vb_cv (vM_S60 hM) rfl rfl rfl rfl) (by decide) (by omega) (m_isS_f hM thr1 hs (by omega)) ?_
    intro I2 hI2 
    refine mm_nifne (by decide) (fun h => absurd rfl h) (fun _ => ?_)
    refine mm_wv (vb_i 0) rfl (by decide) ?_
    refine mm_wr rfl rfl rfl ?_
    exact ⟨_, _, rfl, hq1.tr (by rw [hI2]; exact vm_qf.thr _), by rw [hI2, vb_up1]⟩
  | some s_ =>
    obtain ⟨ls, rfl⟩ := vb_idx_some (by omega) hs
    rw [show sp_owes σ (vb_i s_) = .inl (q_owes (vs_l σ) (vs_x σ) s_) by simp only [sp_owes, hs]]
    have loop := vb_down (p := fun i => ∀ (I1 : Nat → Nat → Int32), vm_qf I I1 → I1 60 0 = vb_i 0 → mm_W G d 238 (mm_blk 238 19) [.ref 60, .int (vb_i s_), .int (vb_sum i (fun v => if vb_has (vx_f (vs_x σ) s_) v then vb_wo (vs_l σ) v * vx_b (vs_x σ) (10 * (1 - s_) + v) else 0)), .int (vb_i i)] [] (I1, P, J, S, nc, ns) (vm_RV (.inl (q_owes (vs_l σ) (vs_x σ) s_)) (fun I' => vm_qf I I') P J S nc ns)) (vb_n (vs_l σ)) (by
      intro i hi ih I1 hq1 thr1
      have dN1 := dN.qf hq1
      have dM1 := vmd_l dN1
      have hR1 := vmd_x dN1
      have hin := vx_in2 (vx_f (vs_x σ)) i
      refine mm_w1 rfl ?_
      refine mm_w1 rfl ?_
      refine mm_wgiv _ (vM_S60 hM) (by decide) (by decide) (vm_n dM1) ?_
      refine mm_nicge (by omega) (by omega) ?_ ?_
      · intro h24
        refine mm_w1 rfl ?_
        refine mm_wr rfl rfl rfl ?_
        refine ⟨_, _, rfl, hq1, ?_, thr1⟩
        rw [show i = vb_n (vs_l σ) by omega]; rfl
      · intro h24
        refine mm_w1 rfl ?_
        refine mm_w1 rfl ?_
        refine mm_wgr (vM_S60 hM) (by decide) (by decide) (vM_P60_38 hM) (vM_a76 hM) ?_
        refine mm_wv (vb_i 10) rfl (by decide) ?_
        refine mm_w1 rfl ?_
        refine mm_nadd ?_
        refine mm_wiav (vb_i (vx_in (vx_f (vs_x σ)) i)) (vM_a76 hM) (vM_S76 hM) (by decide) (by omega) (by rw [show 10 + i = 0 + 10 + i by omega]; exact vm_rf hR1 (by omega)) ?_
        refine mm_w1 rfl ?_
        refine mm_nicne (by omega) (by omega) ?_ ?_
        · intro h38
          refine mm_wv (vb_i 0) rfl (by decide) ?_
          refine mm_w1 rfl ?_
          refine mm_w1 (ls' := [_, _, _, _]) rfl ?_
          refine mm_nincL (ls' := [_, _, _, _]) 1 rfl (by decide) rfl ?_
          refine mm_wgoto ?_
          have ih := ih (by omega) _ hq1 thr1
          have hss : vb_sum (i + 1) (fun v => if vb_has (vx_f (vs_x σ) s_) v then vb_wo (vs_l σ) v * vx_b (vs_x σ) (10 * (1 - s_) + v) else 0) = vb_sum i (fun v => if vb_has (vx_f (vs_x σ) s_) v then vb_wo (vs_l σ) v * vx_b (vs_x σ) (10 * (1 - s_) + v) else 0) + (fun v => if vb_has (vx_f (vs_x σ) s_) v then vb_wo (vs_l σ) v * vx_b (vs_x σ) (10 * (1 - s_) + v) else 0) i := rfl
          rw [hss] at ih
          first
            | (rw [show (fun v => if vb_has (vx_f (vs_x σ) s_) v then vb_wo (vs_l σ) v * vx_b (vs_x σ) (10 * (1 - s_) + v) else 0) i = vb_wo (vs_l σ) i * vx_b (vs_x σ) (10 * (1 - s_) + i) from if_pos ((vx_in_eq hfj ls).mp h38)] at ih; exact ih)
            | (rw [show (fun v => if vb_has (vx_f (vs_x σ) s_) v then vb_wo (vs_l σ) v * vx_b (vs_x σ) (10 * (1 - s_) + v) else 0) i = 0 from if_neg (fun e => h38 ((vx_in_eq hfj ls).mpr e))] at ih; exact ih)
        · intro h38
          refine mm_w1 rfl ?_
          refine mm_wgr (vM_S60 hM) (by decide) (by decide) (vM_P60_5 hM) (vM_a61 hM) ?_
          refine mm_w1 rfl ?_
          refine mm_wiav _ (vM_a61 hM) (vM_S61 hM) (by decide) (by omega) (vm_wo dM1 (by omega)) ?_
          refine mm_w1 rfl ?_
          refine mm_wgr (vM_S60 hM) (by decide) (by decide) (vM_P60_38 hM) (vM_a76 hM) ?_
          refine mm_wv (vb_i 20) rfl (by decide) ?_
          refine mm_wv (vb_i 10) rfl (by decide) ?_
          refine mm_wv (vb_i 1) rfl (by decide) ?_
          refine mm_w1 rfl ?_
          refine mm_nsub (by omega) ?_
          refine mm_nmul ?_
          refine mm_nadd ?_
          refine mm_w1 rfl ?_
          refine mm_nadd ?_
          refine mm_wiav (vx_b (vs_x σ) (10 * (1 - s_) + i)) (vM_a76 hM) (vM_S76 hM) (by decide) (by omega) (by rw [show 20 + 10 * (1 - s_) + i = 0 + 20 + (10 * (1 - s_) + i) by omega]; exact vm_rb hR1 (by omega)) ?_
          refine mm_w1 rfl ?_
          refine mm_wgoto ?_
          refine mm_w1 rfl ?_
          refine mm_w1 (ls' := [_, _, _, _]) rfl ?_
          refine mm_nincL (ls' := [_, _, _, _]) 1 rfl (by decide) rfl ?_
          refine mm_wgoto ?_
          have ih := ih (by omega) _ hq1 thr1
          have hss : vb_sum (i + 1) (fun v => if vb_has (vx_f (vs_x σ) s_) v then vb_wo (vs_l σ) v * vx_b (vs_x σ) (10 * (1 - s_) + v) else 0) = vb_sum i (fun v => if vb_has (vx_f (vs_x σ) s_) v then vb_wo (vs_l σ) v * vx_b (vs_x σ) (10 * (1 - s_) + v) else 0) + (fun v => if vb_has (vx_f (vs_x σ) s_) v then vb_wo (vs_l σ) v * vx_b (vs_x σ) (10 * (1 - s_) + v) else 0) i := rfl
          rw [hss] at ih
          first
            | (rw [show (fun v => if vb_has (vx_f (vs_x σ) s_) v then vb_wo (vs_l σ) v * vx_b (vs_x σ) (10 * (1 - s_) + v) else 0) i = vb_wo (vs_l σ) i * vx_b (vs_x σ) (10 * (1 - s_) + i) from if_pos ((vx_in_eq hfj ls).mp h38)] at ih; exact ih)
            | (rw [show (fun v => if vb_has (vx_f (vs_x σ) s_) v then vb_wo (vs_l σ) v * vx_b (vs_x σ) (10 * (1 - s_) + v) else 0) i = 0 from if_neg (fun e => h38 ((vx_in_eq hfj ls).mpr e))] at ih; exact ih)
      )
    show mm_W _ _ 238 (mm_blk 238 0) [.ref 60, .int (vb_i s_), .null, .null] [] _ _
    refine mm_w1 rfl ?_
    refine mm_wv (vb_i 0) rfl (by decide) ?_
    refine mm_wpiN (vM_S60 hM) (by decide) (by decide) ?_
    intro I1 hI1
    have hq1 : vm_qf I I1 := by rw [hI1]; exact vm_qf.thr _
    have dN1 := dN.qf hq1
    have dM1 := vmd_l dN1
    have hR1 := vmd_x dN1
    have thr1 : I1 60 0 = vb_i 0 := by rw [hI1, vb_up1]
    refine mm_w1 rfl ?_
    refine mm_w1 rfl ?_
    refine mm_cvp (vb_cv (vM_S60 hM) rfl rfl rfl rfl) (by decide) (by omega) (m_isS_t hM thr1 (by rw [hs]; rfl) (by omega)) ?_
    refine mm_nifne (by decide) (fun _ => ?_) (fun h => absurd h (by decide))
    refine mm_wv (vb_i 0) rfl (by decide) ?_
    refine mm_w1 (ls' := [_, _, _, _]) rfl ?_
    refine mm_wv (vb_i 0) rfl (by decide) ?_
    refine mm_w1 (ls' := [_, _, _, _]) rfl ?_
    exact loop 0 (by omega) _ hq1 thr1
theorem n_front (hM : vm_isM P S) (dN : vm_MD σ I) (hI : vs_inv σ) (hlb : vl_bel (vs_l σ)) (hd : 20 ≤ d) : mm_C G d 239 [.ref 60] (I, P, J, S, nc, ns) (vm_RV (sp_front σ) (fun I' => vm_qf I I') P J S nc ns) := by
  obtain ⟨hli, hIx, hIa, hIi⟩ := hI
  obtain ⟨hok, hwf, he9⟩ := hIx
  have hsj := hwf.sj
  have hfj := hwf.fj
  have hst := hwf.ws
  have dM := vmd_l dN
  have hR := vmd_x dN
  have hn := vm_10 dM
  have ht := vx_t2 (vs_x σ)
  have hs3 := vm_sc3 dM
  rw [show sp_front σ = .inl (vb_i (q_front (vs_l σ) (vs_x σ))) by simp only [sp_front]]
  have hf1 := (hwf.1 1 (by decide)).2
  have hns : ∀ a, a ≤ vb_n (vs_l σ) → vb_ns a (q_fr1 (vs_l σ) (vs_x σ)) ≤ 100 := fun a ha => by
    refine Nat.le_trans (vb_ns_le (c := 10) (fun v _ => ?_)) (by omega)
    rw [q_fr1]; split
    · exact vb_cnt_le _ _
    · exact Nat.zero_le _
  have outer := vb_down (p := fun a => ∀ (I1 : Nat → Nat → Int32) (y3 : Value), vm_qf I I1 → I1 60 0 = vb_i 0 → mm_W G d 239 (mm_blk 239 9) [.ref 60, .int (vb_i (vb_ns a (q_fr1 (vs_l σ) (vs_x σ)))), .int (vb_i a), y3] [] (I1, P, J, S, nc, ns) (vm_RV (.inl (vb_i (q_front (vs_l σ) (vs_x σ)))) (fun I' => vm_qf I I') P J S nc ns)) (vb_n (vs_l σ)) (by
    intro a ha ihO I1 y3 hq1 thr1
    have dN1 := dN.qf hq1
    have dM1 := vmd_l dN1
    have hR1 := vmd_x dN1
    have hna := hns a ha
    have hina := vx_in2 (vx_f (vs_x σ)) a
    have inner : a < vb_n (vs_l σ) → ∀ i, i ≤ vb_n (vs_l σ) → mm_W G d 239 (mm_blk 239 19) [.ref 60, .int (vb_i ((vb_ns a (q_fr1 (vs_l σ) (vs_x σ))) + vb_cnt i (q_fp (vs_l σ) (vs_x σ) a))), .int (vb_i a), .int (vb_i i)] [] (I1, P, J, S, nc, ns) (vm_RV (.inl (vb_i (q_front (vs_l σ) (vs_x σ)))) (fun I' => vm_qf I I') P J S nc ns) := by
      intro ha2
      refine vb_down (vb_n (vs_l σ)) ?_
      intro i hi ih
      have hci := vb_cnt_le i (q_fp (vs_l σ) (vs_x σ) a)
      have hin := vx_in2 (vx_f (vs_x σ)) i
      have hcs : vb_cnt (i + 1) (q_fp (vs_l σ) (vs_x σ) a) = vb_cnt i (q_fp (vs_l σ) (vs_x σ) a) + ((q_fp (vs_l σ) (vs_x σ) a) i).toNat := rfl
      refine mm_w1 rfl ?_
      refine mm_w1 rfl ?_
      refine mm_wgiv _ (vM_S60 hM) (by decide) (by decide) (vm_n dM1) ?_
      refine mm_nicge (by omega) (by omega) ?_ ?_
      · intro h24
        refine mm_nincL (ls' := [_, _, _, _]) 1 rfl (by decide) rfl ?_
        refine mm_wgoto ?_
        have ih := ihO (by omega) I1 (.int (vb_i i)) hq1 thr1
        have e : vb_ns (a + 1) (q_fr1 (vs_l σ) (vs_x σ)) = (vb_ns a (q_fr1 (vs_l σ) (vs_x σ))) + q_fr1 (vs_l σ) (vs_x σ) a := rfl
        rw [e, ← q_fp_cnt hn hf1] at ih
        rw [show i = vb_n (vs_l σ) by omega] at ih ⊢
        exact ih
      · intro h24
        refine mm_w1 rfl ?_
        refine mm_w1 rfl ?_
        refine mm_wgr (vM_S60 hM) (by decide) (by decide) (vM_P60_9 hM) (vM_a65 hM) ?_
        refine mm_wv (vb_i 10) rfl (by decide) ?_
        refine mm_w1 rfl ?_
        refine mm_nmul ?_
        refine mm_w1 rfl ?_
        refine mm_nadd ?_
        refine mm_wzav _ (vM_S65 hM) (by decide) (by omega) (vm_rd dM1 (by omega) (by omega)) ?_
        refine mm_bifeq ?_ ?_
        · intro h39
          refine mm_wv (vb_i 0) rfl (by decide) ?_
          refine mm_nadd ?_
          refine mm_w1 (ls' := [_, _, _, _]) rfl ?_
          refine mm_nincL (ls' := [_, _, _, _]) 1 rfl (by decide) rfl ?_
          refine mm_wgoto ?_
          have ih := ih (by omega)
          rw [hcs] at ih
          first
            | (rw [show (q_fp (vs_l σ) (vs_x σ) a) i = true by rw [q_fp, h39, (vx_in_eq hfj (by decide)).mp h51, (vx_in_eq hfj (by decide)).mp h64]; rfl] at ih; exact ih)
            | (rw [show (q_fp (vs_l σ) (vs_x σ) a) i = false by rw [q_fp, h39, Bool.false_and]] at ih; exact ih)
            | (rw [show (q_fp (vs_l σ) (vs_x σ) a) i = false by rw [q_fp, ← vx_in_dec hfj (s := 0) (by decide), decide_eq_false h51, Bool.false_and, Bool.and_false]] at ih; exact ih)
            | (rw [show (q_fp (vs_l σ) (vs_x σ) a) i = false by rw [q_fp, ← vx_in_dec hfj (s := 1) (by decide), decide_eq_false h64, Bool.and_false, Bool.and_false]] at ih; exact ih)
        · intro h39
          refine mm_w1 rfl ?_
          refine mm_wgr (vM_S60 hM) (by decide) (by decide) (vM_P60_38 hM) (vM_a76 hM) ?_
          refine mm_wv (vb_i 10) rfl (by decide) ?_
          refine mm_w1 rfl ?_
          refine mm_nadd ?_
          refine mm_wiav (vb_i (vx_in (vx_f (vs_x σ)) a)) (vM_a76 hM) (vM_S76 hM) (by decide) (by omega) (by rw [show 10 + a = 0 + 10 + a by omega]; exact vm_rf hR1 (by omega)) ?_
          refine mm_nifne (by omega) ?_ ?_
          · intro h51
            refine mm_wv (vb_i 0) rfl (by decide) ?_
            refine mm_nadd ?_
            refine mm_w1 (ls' := [_, _, _, _]) rfl ?_
            refine mm_nincL (ls' := [_, _, _, _]) 1 rfl (by decide) rfl ?_
            refine mm_wgoto ?_
            have ih := ih (by omega)
            rw [hcs] at ih
            first
              | (rw [show (q_fp (vs_l σ) (vs_x σ) a) i = true by rw [q_fp, h39, (vx_in_eq hfj (by decide)).mp h51, (vx_in_eq hfj (by decide)).mp h64]; rfl] at ih; exact ih)
              | (rw [show (q_fp (vs_l σ) (vs_x σ) a) i = false by rw [q_fp, h39, Bool.false_and]] at ih; exact ih)
              | (rw [show (q_fp (vs_l σ) (vs_x σ) a) i = false by rw [q_fp, ← vx_in_dec hfj (s := 0) (by decide), decide_eq_false h51, Bool.false_and, Bool.and_false]] at ih; exact ih)
              | (rw [show (q_fp (vs_l σ) (vs_x σ) a) i = false by rw [q_fp, ← vx_in_dec hfj (s := 1) (by decide), decide_eq_false h64, Bool.and_false, Bool.and_false]] at ih; exact ih)
          · intro h51
            refine mm_w1 rfl ?_
            refine mm_wgr (vM_S60 hM) (by decide) (by decide) (vM_P60_38 hM) (vM_a76 hM) ?_
            refine mm_wv (vb_i 10) rfl (by decide) ?_
            refine mm_w1 rfl ?_
            refine mm_nadd ?_
            refine mm_wiav (vb_i (vx_in (vx_f (vs_x σ)) i)) (vM_a76 hM) (vM_S76 hM) (by decide) (by omega) (by rw [show 10 + i = 0 + 10 + i by omega]; exact vm_rf hR1 (by omega)) ?_
            refine mm_wv (vb_i 1) rfl (by decide) ?_
            refine mm_nicne (by omega) (by omega) ?_ ?_
            · intro h64
              refine mm_wv (vb_i 0) rfl (by decide) ?_
              refine mm_nadd ?_
              refine mm_w1 (ls' := [_, _, _, _]) rfl ?_
              refine mm_nincL (ls' := [_, _, _, _]) 1 rfl (by decide) rfl ?_
              refine mm_wgoto ?_
              have ih := ih (by omega)
              rw [hcs] at ih
              first
                | (rw [show (q_fp (vs_l σ) (vs_x σ) a) i = true by rw [q_fp, h39, (vx_in_eq hfj (by decide)).mp h51, (vx_in_eq hfj (by decide)).mp h64]; rfl] at ih; exact ih)
                | (rw [show (q_fp (vs_l σ) (vs_x σ) a) i = false by rw [q_fp, h39, Bool.false_and]] at ih; exact ih)
                | (rw [show (q_fp (vs_l σ) (vs_x σ) a) i = false by rw [q_fp, ← vx_in_dec hfj (s := 0) (by decide), decide_eq_false h51, Bool.false_and, Bool.and_false]] at ih; exact ih)
                | (rw [show (q_fp (vs_l σ) (vs_x σ) a) i = false by rw [q_fp, ← vx_in_dec hfj (s := 1) (by decide), decide_eq_false h64, Bool.and_false, Bool.and_false]] at ih; exact ih)
            · intro h64
              refine mm_wv (vb_i 1) rfl (by decide) ?_
              refine mm_wgoto ?_
              refine mm_nadd ?_
              refine mm_w1 (ls' := [_, _, _, _]) rfl ?_
              refine mm_nincL (ls' := [_, _, _, _]) 1 rfl (by decide) rfl ?_
              refine mm_wgoto ?_
              have ih := ih (by omega)
              rw [hcs] at ih
              first
                | (rw [show (q_fp (vs_l σ) (vs_x σ) a) i = true by rw [q_fp, h39, (vx_in_eq hfj (by decide)).mp h51, (vx_in_eq hfj (by decide)).mp h64]; rfl] at ih; exact ih)
                | (rw [show (q_fp (vs_l σ) (vs_x σ) a) i = false by rw [q_fp, h39, Bool.false_and]] at ih; exact ih)
                | (rw [show (q_fp (vs_l σ) (vs_x σ) a) i = false by rw [q_fp, ← vx_in_dec hfj (s := 0) (by decide), decide_eq_false h51, Bool.false_and, Bool.and_false]] at ih; exact ih)
                | (rw [show (q_fp (vs_l σ) (vs_x σ) a) i = false by rw [q_fp, ← vx_in_dec hfj (s := 1) (by decide), decide_eq_false h64, Bool.and_false, Bool.and_false]] at ih; exact ih)
    refine mm_w1 rfl ?_
    refine mm_w1 rfl ?_
    refine mm_wgiv _ (vM_S60 hM) (by decide) (by decide) (vm_n dM1) ?_
    refine mm_nicge (by omega) (by omega) ?_ ?_
    · intro h14
      refine mm_w1 rfl ?_
      refine mm_wr rfl rfl rfl ?_
      refine ⟨_, _, rfl, hq1, ?_, thr1⟩
      rw [show a = vb_n (vs_l σ) by omega]; rfl
    · intro h14
      refine mm_wv (vb_i 0) rfl (by decide) ?_
      refine mm_w1 (ls' := [_, _, _, _]) rfl ?_
      exact inner (by omega) 0 (by omega)
    )
  show mm_W _ _ 239 (mm_blk 239 0) [.ref 60, .null, .null, .null] [] _ _
  refine mm_w1 rfl ?_
  refine mm_wv (vb_i 0) rfl (by decide) ?_
  refine mm_wpiN (vM_S60 hM) (by decide) (by decide) ?_
  intro I1 hI1
  have hq1 : vm_qf I I1 := by rw [hI1]; exact vm_qf.thr _
  have dN1 := dN.qf hq1
  have dM1 := vmd_l dN1
  have hR1 := vmd_x dN1
  have thr1 : I1 60 0 = vb_i 0 := by rw [hI1, vb_up1]
  refine mm_wv (vb_i 0) rfl (by decide) ?_
  refine mm_w1 (ls' := [_, _, _, _]) rfl ?_
  refine mm_wv (vb_i 0) rfl (by decide) ?_
  refine mm_w1 (ls' := [_, _, _, _]) rfl ?_
  exact outer 0 (by omega) _ _ hq1 thr1
theorem n_key (hM : vm_isM P S) (dN : vm_MD σ I) (hI : vs_inv σ) (hlb : vl_bel (vs_l σ)) (hd : 20 ≤ d) (s : Int32) : mm_C G d 243 [.ref 60, .int s] (I, P, J, S, nc, ns) (vm_RV (sp_key σ s) (fun I' => vm_qf I I') P J S nc ns) := by
  obtain ⟨hli, hIx, hIa, hIi⟩ := hI
  obtain ⟨hok, hwf, he9⟩ := hIx
  have hsj := hwf.sj
  have hfj := hwf.fj
  have hst := hwf.ws
  have dM := vmd_l dN
  have hR := vmd_x dN
  have hn := vm_10 dM
  have ht := vx_t2 (vs_x σ)
  have hs3 := vm_sc3 dM
  cases hs : vb_idx 2 s with
  | none =>
    rw [show sp_key σ s = .inr 0 by simp only [sp_key, hs]]
    show mm_W _ _ 243 (mm_blk 243 0) [.ref 60, .int s, .null, .null, .null, .null] [] _ _
    refine mm_w1 rfl ?_
    refine mm_wv (vb_i 0) rfl (by decide) ?_
    refine mm_wpiN (vM_S60 hM) (by decide) (by decide) ?_
    intro I1 hI1
    have hq1 : vm_qf I I1 := by rw [hI1]; exact vm_qf.thr _
    have dN1 := dN.qf hq1
    have dM1 := vmd_l dN1
    have hR1 := vmd_x dN1
    have thr1 : I1 60 0 = vb_i 0 := by rw [hI1, vb_up1]
    refine mm_w1 rfl ?_
    refine mm_w1 rfl ?_
    refine mm_cvi (vb_cv (vM_S60 hM) rfl rfl rfl rfl) (by decide) (by omega) (m_isS_f hM thr1 hs (by omega)) ?_
    intro I2 hI2 
    refine mm_nifne (by decide) (fun h => absurd rfl h) (fun _ => ?_)
    refine mm_wv (vb_i 0) rfl (by decide) ?_
    refine mm_wr rfl rfl rfl ?_
    exact ⟨_, _, rfl, hq1.tr (by rw [hI2]; exact vm_qf.thr _), by rw [hI2, vb_up1]⟩
  | some s_ =>
    obtain ⟨ls, rfl⟩ := vb_idx_some (by omega) hs
    rw [show sp_key σ (vb_i s_) = .inl (q_nx (q_hc (vs_l σ) (vs_x σ) s_) (vb_n (vs_l σ))).1 by simp only [sp_key, hs]]
    have hu : ∀ k, (q_hc (vs_l σ) (vs_x σ) s_) k ≤ 10 := fun k => by
      rw [q_hc]; split
      · exact vb_cnt_le _ _
      · exact Nat.zero_le _
    have loop := vb_down (p := fun i => ∀ (I1 : Nat → Nat → Int32) (y5 : Value), vm_qf I I1 → I1 60 0 = vb_i 0 → mm_W G d 243 (mm_blk 243 22) [.ref 60, .int (vb_i s_), .int (q_nx (q_hc (vs_l σ) (vs_x σ) s_) i).1, .int (vb_i (q_nx (q_hc (vs_l σ) (vs_x σ) s_) i).2), .int (vb_i i), y5] [] (I1, P, J, S, nc, ns) (vm_RV (.inl (q_nx (q_hc (vs_l σ) (vs_x σ) s_) (vb_n (vs_l σ))).1) (fun I' => vm_qf I I') P J S nc ns)) (vb_n (vs_l σ)) (by
      intro i hi ih I1 y5 hq1 thr1
      have dN1 := dN.qf hq1
      have dM1 := vmd_l dN1
      have hR1 := vmd_x dN1
      have hin := vx_in2 (vx_s (vs_x σ)) i
      have hm := q_nx_le10 hu i
      have hui := hu i
      have hst1 : q_nx (q_hc (vs_l σ) (vs_x σ) s_) (i + 1) = if (q_nx (q_hc (vs_l σ) (vs_x σ) s_) i).2 < (q_hc (vs_l σ) (vs_x σ) s_) i then (vb_i i, (q_hc (vs_l σ) (vs_x σ) s_) i) else q_nx (q_hc (vs_l σ) (vs_x σ) s_) i := rfl
      refine mm_w1 rfl ?_
      refine mm_w1 rfl ?_
      refine mm_wgiv _ (vM_S60 hM) (by decide) (by decide) (vm_n dM1) ?_
      refine mm_nicge (by omega) (by omega) ?_ ?_
      · intro h28
        refine mm_w1 rfl ?_
        refine mm_wr rfl rfl rfl ?_
        refine ⟨_, _, rfl, hq1, ?_, thr1⟩
        rw [show i = vb_n (vs_l σ) by omega]
      · intro h28
        refine mm_w1 rfl ?_
        refine mm_wgr (vM_S60 hM) (by decide) (by decide) (vM_P60_38 hM) (vM_a76 hM) ?_
        refine mm_wv (vb_i 0) rfl (by decide) ?_
        refine mm_w1 rfl ?_
        refine mm_nadd ?_
        refine mm_wiav (vb_i (vx_in (vx_s (vs_x σ)) i)) (vM_a76 hM) (vM_S76 hM) (by decide) (by omega) (vm_rs hR1 (by omega)) ?_
        refine mm_w1 rfl ?_
        refine mm_nicne (by omega) (by omega) ?_ ?_
        · intro h41
          refine mm_wv (vb_i 0) rfl (by decide) ?_
          refine mm_w1 (ls' := [_, _, _, _, _, _]) rfl ?_
          refine mm_w1 rfl ?_
          refine mm_w1 rfl ?_
          refine mm_nicgt (by omega) (by omega) ?_ ?_
          · intro h62
            refine mm_w1 rfl ?_
            refine mm_w1 (ls' := [_, _, _, _, _, _]) rfl ?_
            refine mm_w1 rfl ?_
            refine mm_w1 (ls' := [_, _, _, _, _, _]) rfl ?_
            refine mm_nincL (ls' := [_, _, _, _, _, _]) 1 rfl (by decide) rfl ?_
            refine mm_wgoto ?_
            have ih := fun y => ih (by omega) _ y hq1 thr1
            rw [hst1] at ih
            first
              | exact absurd h62 (Nat.not_lt_zero _)
              | (rw [if_pos h62] at ih; exact ih _)
              | (rw [if_neg h62] at ih; exact ih _)
              | (rw [if_neg (by rw [show (q_hc (vs_l σ) (vs_x σ) s_) i = 0 from if_neg (fun e => h41 ((vx_in_eq hsj ls).mpr e))]; exact Nat.not_lt_zero _)] at ih; exact ih _)
          · intro h62
            refine mm_wgoto ?_
            refine mm_nincL (ls' := [_, _, _, _, _, _]) 1 rfl (by decide) rfl ?_
            refine mm_wgoto ?_
            have ih := fun y => ih (by omega) _ y hq1 thr1
            rw [hst1] at ih
            first
              | exact absurd h62 (Nat.not_lt_zero _)
              | (rw [if_pos h62] at ih; exact ih _)
              | (rw [if_neg h62] at ih; exact ih _)
              | (rw [if_neg (by rw [show (q_hc (vs_l σ) (vs_x σ) s_) i = 0 from if_neg (fun e => h41 ((vx_in_eq hsj ls).mpr e))]; exact Nat.not_lt_zero _)] at ih; exact ih _)
        · intro h41
          refine mm_w1 rfl ?_
          refine mm_w1 rfl ?_
          refine mm_cvi (vb_cv (vM_S60 hM) rfl rfl rfl rfl) (by decide) (by omega) (m_hang hM dM1 hR1 hli hlb hsj hfj hst (by omega) (by omega)) ?_
          intro I2 hf2
          have hq2 := hq1.tr (vm_qf.of8 hf2)
          have dN2 := dN.qf hq2
          have dM2 := vmd_l dN2
          have hR2 := vmd_x dN2
          have thr2 : I2 60 0 = vb_i 0 := by rw [hf2 60 (by simp only [vm_s8]; decide)]; exact thr1
          refine mm_csp rfl (by decide) (by omega) m_bits ?_
          have hu1 : (q_hc (vs_l σ) (vs_x σ) s_) i = vb_cnt 10 (vb_has (q_hang (vs_l σ) (vs_x σ) i)) := if_pos ((vx_in_eq hsj ls).mp h41)
          rw [← hu1]
          refine mm_wgoto ?_
          refine mm_w1 (ls' := [_, _, _, _, _, _]) rfl ?_
          refine mm_w1 rfl ?_
          refine mm_w1 rfl ?_
          refine mm_nicgt (by omega) (by omega) ?_ ?_
          · intro h62
            refine mm_w1 rfl ?_
            refine mm_w1 (ls' := [_, _, _, _, _, _]) rfl ?_
            refine mm_w1 rfl ?_
            refine mm_w1 (ls' := [_, _, _, _, _, _]) rfl ?_
            refine mm_nincL (ls' := [_, _, _, _, _, _]) 1 rfl (by decide) rfl ?_
            refine mm_wgoto ?_
            have ih := fun y => ih (by omega) _ y hq2 thr2
            rw [hst1] at ih
            first
              | exact absurd h62 (Nat.not_lt_zero _)
              | (rw [if_pos h62] at ih; exact ih _)
              | (rw [if_neg h62] at ih; exact ih _)
              | (rw [if_neg (by rw [show (q_hc (vs_l σ) (vs_x σ) s_) i = 0 from if_neg (fun e => h41 ((vx_in_eq hsj ls).mpr e))]; exact Nat.not_lt_zero _)] at ih; exact ih _)
          · intro h62
            refine mm_wgoto ?_
            refine mm_nincL (ls' := [_, _, _, _, _, _]) 1 rfl (by decide) rfl ?_
            refine mm_wgoto ?_
            have ih := fun y => ih (by omega) _ y hq2 thr2
            rw [hst1] at ih
            first
              | exact absurd h62 (Nat.not_lt_zero _)
              | (rw [if_pos h62] at ih; exact ih _)
              | (rw [if_neg h62] at ih; exact ih _)
              | (rw [if_neg (by rw [show (q_hc (vs_l σ) (vs_x σ) s_) i = 0 from if_neg (fun e => h41 ((vx_in_eq hsj ls).mpr e))]; exact Nat.not_lt_zero _)] at ih; exact ih _)
      )
    show mm_W _ _ 243 (mm_blk 243 0) [.ref 60, .int (vb_i s_), .null, .null, .null, .null] [] _ _
    refine mm_w1 rfl ?_
    refine mm_wv (vb_i 0) rfl (by decide) ?_
    refine mm_wpiN (vM_S60 hM) (by decide) (by decide) ?_
    intro I1 hI1
    have hq1 : vm_qf I I1 := by rw [hI1]; exact vm_qf.thr _
    have dN1 := dN.qf hq1
    have dM1 := vmd_l dN1
    have hR1 := vmd_x dN1
    have thr1 : I1 60 0 = vb_i 0 := by rw [hI1, vb_up1]
    refine mm_w1 rfl ?_
    refine mm_w1 rfl ?_
    refine mm_cvp (vb_cv (vM_S60 hM) rfl rfl rfl rfl) (by decide) (by omega) (m_isS_t hM thr1 (by rw [hs]; rfl) (by omega)) ?_
    refine mm_nifne (by decide) (fun _ => ?_) (fun h => absurd h (by decide))
    refine mm_wv (-1) rfl (by decide) ?_
    refine mm_w1 (ls' := [_, _, _, _, _, _]) rfl ?_
    refine mm_wv (vb_i 0) rfl (by decide) ?_
    refine mm_w1 (ls' := [_, _, _, _, _, _]) rfl ?_
    refine mm_wv (vb_i 0) rfl (by decide) ?_
    refine mm_w1 (ls' := [_, _, _, _, _, _]) rfl ?_
    exact loop 0 (by omega) _ _ hq1 thr1
end NOWE
