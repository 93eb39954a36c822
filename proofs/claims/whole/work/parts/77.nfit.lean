def vf_s (x : vb_X) (c : Nat) : vb_X := vx_sty x (c / 3) (c % 3)
def vf_q (ℓ : vb_L) (x : vb_X) (ss : List (Nat × Nat)) (c : Nat) : Bool := decide (c / 3 < vb_sc ℓ) && decide (c % 3 < vb_sc ℓ) && ss.all (fun p => vx_mvs ℓ (vf_s x c) p.1 == p.2)
def vf_rs (ℓ : vb_L) (x : vb_X) (ss : List (Nat × Nat)) (c : Nat) : List Nat := (List.range' c (9 - c)).filter (vf_q ℓ x ss)
def vf_e (c : Nat) : Nat := 10 * (c / 3) + c % 3
theorem vf_cons {ℓ : vb_L} {x : vb_X} {ss : List (Nat × Nat)} {c : Nat} (hc : c < 9) : vf_rs ℓ x ss c = if vf_q ℓ x ss c then c :: vf_rs ℓ x ss (c + 1) else vf_rs ℓ x ss (c + 1) := by
  simp only [vf_rs]
  rw [show 9 - c = (9 - (c + 1)) + 1 by omega, List.range'_succ, List.filter_cons]
theorem vf_end {ℓ : vb_L} {x : vb_X} {ss : List (Nat × Nat)} {c : Nat} (hc : 9 ≤ c) : vf_rs ℓ x ss c = [] := by
  simp only [vf_rs]; rw [show 9 - c = 0 by omega]; rfl
theorem vc_q_f (ℓ : vb_L) (x : vb_X) (ss : List (Nat × Nat)) {c : Nat} (hc : c < 9) : vc_q ℓ x ss (vf_e c) = vf_q ℓ x ss c := by
  have e1 : vf_e c / 10 = c / 3 := by simp only [vf_e]; omega
  have e2 : vf_e c % 10 = c % 3 := by simp only [vf_e]; omega
  simp only [vc_q, vf_q, vf_s, e1, e2]
/-- both lists of couples are one -/
theorem vf_fit {ℓ : vb_L} {x : vb_X} {ss : List (Nat × Nat)} (h3 : vb_sc ℓ ≤ 3) : (vf_rs ℓ x ss 0).map vf_e = vc_fit ℓ x ss := by
  have skip : ∀ r, r < 3 → vb_rs (vc_q ℓ x ss) (10 * r + 3) = vb_rs (vc_q ℓ x ss) (10 * (r + 1)) := by
    intro r hr
    refine vb_rs_skip (by omega) (fun j h1 h2 => ?_)
    have : ¬ j % 10 < vb_sc ℓ := by omega
    simp [vc_q, this]
  have last : vb_rs (vc_q ℓ x ss) 30 = [] := by
    rw [vb_rs_skip (m' := 100) (by omega) (fun j h1 h2 => by
      have : ¬ j / 10 < vb_sc ℓ := by omega
      simp [vc_q, this]), vb_rs_end (by omega)]
  have step : ∀ c, c < 9 → c % 3 < 2 → (vf_rs ℓ x ss (c + 1)).map vf_e = vb_rs (vc_q ℓ x ss) (vf_e (c + 1)) → (vf_rs ℓ x ss c).map vf_e = vb_rs (vc_q ℓ x ss) (vf_e c) := by
    intro c hc h2 ih
    have hl : vf_e c < 100 := by simp only [vf_e]; omega
    have hn : vf_e (c + 1) = vf_e c + 1 := by simp only [vf_e]; omega
    rw [vf_cons hc, vb_rs_cons hl, vc_q_f _ _ _ hc, ← hn]
    split
    · rw [List.map_cons, ih]
    · exact ih
  have row : ∀ c, c < 9 → c % 3 = 2 → (vf_rs ℓ x ss (c + 1)).map vf_e = vb_rs (vc_q ℓ x ss) (10 * (c / 3 + 1)) → (vf_rs ℓ x ss c).map vf_e = vb_rs (vc_q ℓ x ss) (vf_e c) := by
    intro c hc h2 ih
    have hl : vf_e c < 100 := by simp only [vf_e]; omega
    have hn : vf_e c + 1 = 10 * (c / 3) + 3 := by simp only [vf_e]; omega
    rw [vf_cons hc, vb_rs_cons hl, vc_q_f _ _ _ hc, hn, skip _ (by omega)]
    split
    · rw [List.map_cons, ih]
    · exact ih
  have r8 := row 8 (by decide) (by decide) (by rw [vf_end (by decide), last]; rfl)
  have r7 := step 7 (by decide) (by decide) r8
  have r6 := step 6 (by decide) (by decide) r7
  have r5 := row 5 (by decide) (by decide) r6
  have r4 := step 4 (by decide) (by decide) r5
  have r3 := step 3 (by decide) (by decide) r4
  have r2 := row 2 (by decide) (by decide) r3
  have r1 := step 1 (by decide) (by decide) r2
  exact step 0 (by decide) (by decide) r1
theorem vb_cnt_filter (p : Nat → Bool) (n : Nat) : vb_cnt n p = ((List.range n).filter p).length := by
  induction n with
  | zero => rfl
  | succ n ih =>
    rw [List.range_succ, List.filter_append, List.length_append, ← ih]
    simp only [vb_cnt]
    congr 1
    cases h : p n <;> simp [h]
theorem vb_b_cat (q : Bool) : (Value.int (vb_b q)).category = 1 := rfl
theorem vm_qf.m82 {I : Nat → Nat → Int32} (j : Nat) (v : Int32) : vm_qf I (mm_up I 82 j v) := ⟨fun a ha => vb_up3 _ _ (by omega), fun s _ _ _ => by rw [vb_up3 _ _ (by decide)], fun i _ => by rw [vb_up3 _ _ (by decide)]⟩
section NFIT
variable {G : mm_G} {d : Nat} {I : Nat → Nat → Int32} {P : Nat → Nat → Nat} {J : Nat → Nat → Int64} {S : List (Nat × Nat)} {nc ns : Nat} {μ : mm_M} {σ : vb_St}
theorem m_fit (hM : vm_isM P S) (dN : vm_MD σ I) (hI : vs_inv σ) (hlb : vl_bel (vs_l σ)) (hd : 8 ≤ d) (thr : I 60 0 = vb_i 0) : mm_C G d 228 [.ref 60] (I, P, J, S, nc, ns) (vb_R (some (.int (vb_set 9 (vf_q (vs_l σ) (vs_x σ) (vs_t σ))))) (fun I' => vm_qf I I' ∧ I' 60 0 = vb_i 0 ∧ ∀ c, c < 9 → c / 3 < vb_sc (vs_l σ) → c % 3 < vb_sc (vs_l σ) → ∀ k, k < 30 → I' 82 (30 * c + k) = vb_i (vx_mvs (vs_l σ) (vf_s (vs_x σ) c) k)) P J S nc ns) := by
  obtain ⟨hli, hIx, hIa, hIi⟩ := hI
  obtain ⟨hok, hwf, he9⟩ := hIx
  have hsj := hwf.sj
  have hfj := hwf.fj
  have hst := hwf.ws
  have dM := vmd_l dN
  have hR := vmd_x dN
  have hn := vm_10 dM
  have ht := vx_t2 (vs_x σ)
  have hs3 := vm_sc3 dM
  have hq := vm_qf.rf (I := I)
  have outer := vb_down (p := fun c => ∀ (I1 : Nat → Nat → Int32) (y3 y4 : Value), y3.category = 1 → y4.category = 1 → vm_qf I I1 → I1 60 0 = vb_i 0 → (∀ c', c' < c → c' / 3 < vb_sc (vs_l σ) → c' % 3 < vb_sc (vs_l σ) → ∀ k, k < 30 → I1 82 (30 * c' + k) = vb_i (vx_mvs (vs_l σ) (vf_s (vs_x σ) c') k)) → mm_W G d 228 (mm_blk 228 4) [.ref 60, .int (vb_set c (vf_q (vs_l σ) (vs_x σ) (vs_t σ))), .int (vb_i c), y3, y4] [] (I1, P, J, S, nc, ns) (vb_R (some (.int (vb_set 9 (vf_q (vs_l σ) (vs_x σ) (vs_t σ))))) (fun I' => vm_qf I I' ∧ I' 60 0 = vb_i 0 ∧ ∀ c, c < 9 → c / 3 < vb_sc (vs_l σ) → c % 3 < vb_sc (vs_l σ) → ∀ k, k < 30 → I' 82 (30 * c + k) = vb_i (vx_mvs (vs_l σ) (vf_s (vs_x σ) c) k)) P J S nc ns)) 9 (by
    intro c hc9 ihO I1 y3 y4 hy3 hy4 hq1 thr1 hmv
    have dN1 := dN.qf hq1
    have dM1 := vmd_l dN1
    have hR1 := vmd_x dN1
    have h9 : ∀ I2, vm_qf I I2 → vm_MD σ I2 := fun I2 h => dN.qf h
    have seenL : c < 9 → c / 3 < vb_sc (vs_l σ) → c % 3 < vb_sc (vs_l σ) → ∀ i, i ≤ (vs_t σ).length → ∀ (I1 : Nat → Nat → Int32), vm_qf I I1 → I1 60 0 = vb_i 0 → (∀ c', c' < (c + 1) → c' / 3 < vb_sc (vs_l σ) → c' % 3 < vb_sc (vs_l σ) → ∀ k, k < 30 → I1 82 (30 * c' + k) = vb_i (vx_mvs (vs_l σ) (vf_s (vs_x σ) c') k)) → mm_W G d 228 (mm_blk 228 113) [.ref 60, .int (vb_set c (vf_q (vs_l σ) (vs_x σ) (vs_t σ))), .int (vb_i c), .int (vb_b (((vs_t σ).take i).all (fun p => (vx_mvs (vs_l σ) (vf_s (vs_x σ) c) p.1) == p.2))), .int (vb_i i)] [] (I1, P, J, S, nc, ns) (vb_R (some (.int (vb_set 9 (vf_q (vs_l σ) (vs_x σ) (vs_t σ))))) (fun I' => vm_qf I I' ∧ I' 60 0 = vb_i 0 ∧ ∀ c, c < 9 → c / 3 < vb_sc (vs_l σ) → c % 3 < vb_sc (vs_l σ) → ∀ k, k < 30 → I' 82 (30 * c + k) = vb_i (vx_mvs (vs_l σ) (vf_s (vs_x σ) c) k)) P J S nc ns) := by
      intro hc1 hc2 hc3
      refine vb_down (vs_t σ).length ?_
      intro i hi ih I1 hq1 thr1 hmv
      have dN1 := dN.qf hq1
      have dM1 := vmd_l dN1
      have hR1 := vmd_x dN1
      obtain ⟨s6, hse⟩ := vmd_t dN1
      have hvq : (vf_q (vs_l σ) (vs_x σ) (vs_t σ)) c = (vs_t σ).all (fun p => (vx_mvs (vs_l σ) (vf_s (vs_x σ) c) p.1) == p.2) := by simp only [vf_q, decide_eq_true hc2, decide_eq_true hc3, Bool.true_and]
      refine mm_w1 rfl ?_
      refine mm_w1 rfl ?_
      refine mm_wgiv _ (vM_S60 hM) (by decide) (by decide) (vmd_tn dN1) ?_
      refine mm_nicge (by omega) (by omega) ?_ ?_
      · intro h119
        have ei : i = (vs_t σ).length := by omega
        rw [ei, List.take_length, ← hvq]
        refine mm_w1 rfl ?_
        refine mm_w1 rfl ?_
        refine mm_bifeq ?_ ?_
        · intro h173
          refine mm_wv (vb_i 0) rfl (by decide) ?_
          refine mm_w1 rfl ?_
          rw [show ∀ z : Int32, z ||| vb_i 0 = z from fun z => by rw [show (vb_i 0 : Int32) = 0 from rfl, Int32.or_zero]]
          refine mm_w1 (ls' := [_, _, _, _, _]) rfl ?_
          refine mm_nincL (ls' := [_, _, _, _, _]) 1 rfl (by decide) rfl ?_
          refine mm_wgoto ?_
          have ih := ihO (by omega) I1 (.int (vb_b ((vf_q (vs_l σ) (vs_x σ) (vs_t σ)) c))) (.int (vb_i (vs_t σ).length)) rfl rfl hq1 thr1 hmv
          first
            | (rw [vb_set_s0 h173] at ih; exact ih)
            | (rw [vb_set_s1 h173] at ih; exact ih)
        · intro h173
          refine mm_wv (vb_i 1) rfl (by decide) ?_
          refine mm_w1 rfl ?_
          refine mm_nbit (by omega) ?_
          refine mm_wgoto ?_
          refine mm_w1 rfl ?_ 
          refine mm_w1 (ls' := [_, _, _, _, _]) rfl ?_
          refine mm_nincL (ls' := [_, _, _, _, _]) 1 rfl (by decide) rfl ?_
          refine mm_wgoto ?_
          have ih := ihO (by omega) I1 (.int (vb_b ((vf_q (vs_l σ) (vs_x σ) (vs_t σ)) c))) (.int (vb_i (vs_t σ).length)) rfl rfl hq1 thr1 hmv
          first
            | (rw [vb_set_s0 h173] at ih; exact ih)
            | (rw [vb_set_s1 h173] at ih; exact ih)
      · intro h119
        have hz : (vs_t σ)[i]? = some (vs_t σ)[i] := List.getElem?_eq_getElem h119
        obtain ⟨b1, b2, b3, b4⟩ := hse i _ hz
        have htk : (vs_t σ).take (i + 1) = (vs_t σ).take i ++ [(vs_t σ)[i]] := by rw [List.take_add_one, hz]; rfl
        have hst : ((vs_t σ).take (i + 1)).all (fun p => (vx_mvs (vs_l σ) (vf_s (vs_x σ) c) p.1) == p.2) = (((vs_t σ).take i).all (fun p => (vx_mvs (vs_l σ) (vf_s (vs_x σ) c) p.1) == p.2) && ((vx_mvs (vs_l σ) (vf_s (vs_x σ) c) (vs_t σ)[i].1) == (vs_t σ)[i].2)) := by rw [htk, List.all_append]; simp
        have hval := hmv c (by omega) hc2 hc3 (vs_t σ)[i].1 b3
        have hmle : (vx_mvs (vs_l σ) (vf_s (vs_x σ) c) (vs_t σ)[i].1) ≤ 100 := vx_by_le _ _
        refine mm_w1 rfl ?_
        refine mm_bifeq ?_ ?_
        · intro h123
          refine mm_wv (vb_i 0) rfl (by decide) ?_
          refine mm_w1 (ls' := [_, _, _, _, _]) rfl ?_
          refine mm_nincL (ls' := [_, _, _, _, _]) 1 rfl (by decide) rfl ?_
          refine mm_wgoto ?_
          have ih := ih (by omega) I1 hq1 thr1 hmv
          rw [hst] at ih
          first
            | (rw [h123, Bool.false_and] at ih; exact ih)
            | (rw [h123, Bool.true_and, show ((vx_mvs (vs_l σ) (vf_s (vs_x σ) c) (vs_t σ)[i].1) == (vs_t σ)[i].2) = true by rw [h156]; simp] at ih; exact ih)
            | (rw [h123, Bool.true_and, show ((vx_mvs (vs_l σ) (vf_s (vs_x σ) c) (vs_t σ)[i].1) == (vs_t σ)[i].2) = false from beq_eq_false_iff_ne.mpr h156] at ih; exact ih)
        · intro h123
          refine mm_w1 rfl ?_
          refine mm_wgr (vM_S60 hM) (by decide) (by decide) (vM_P60_47 hM) (vM_a82 hM) ?_
          refine mm_wv (vb_i 30) rfl (by decide) ?_
          refine mm_w1 rfl ?_
          refine mm_nmul ?_
          refine mm_w1 rfl ?_
          refine mm_wgr (vM_S60 hM) (by decide) (by decide) (vM_P60_46 hM) (vM_a81 hM) ?_
          refine mm_wv (vb_i 2) rfl (by decide) ?_
          refine mm_w1 rfl ?_
          refine mm_nmul ?_
          refine mm_wiav (vb_i (vs_t σ)[i].1) (vM_a81 hM) (vM_S81 hM) (by decide) (by omega) b1 ?_
          refine mm_nadd ?_
          refine mm_wiav _ (vM_a82 hM) (vM_S82 hM) (by decide) (by omega) hval ?_
          refine mm_w1 rfl ?_
          refine mm_wgr (vM_S60 hM) (by decide) (by decide) (vM_P60_46 hM) (vM_a81 hM) ?_
          refine mm_wv (vb_i 2) rfl (by decide) ?_
          refine mm_w1 rfl ?_
          refine mm_nmul ?_
          refine mm_wv (vb_i 1) rfl (by decide) ?_
          refine mm_nadd ?_
          refine mm_wiav (vb_i (vs_t σ)[i].2) (vM_a81 hM) (vM_S81 hM) (by decide) (by omega) b2 ?_
          refine mm_nicne (by omega) (by omega) ?_ ?_
          · intro h156
            refine mm_wv (vb_i 0) rfl (by decide) ?_
            refine mm_w1 (ls' := [_, _, _, _, _]) rfl ?_
            refine mm_nincL (ls' := [_, _, _, _, _]) 1 rfl (by decide) rfl ?_
            refine mm_wgoto ?_
            have ih := ih (by omega) I1 hq1 thr1 hmv
            rw [hst] at ih
            first
              | (rw [h123, Bool.false_and] at ih; exact ih)
              | (rw [h123, Bool.true_and, show ((vx_mvs (vs_l σ) (vf_s (vs_x σ) c) (vs_t σ)[i].1) == (vs_t σ)[i].2) = true by rw [h156]; simp] at ih; exact ih)
              | (rw [h123, Bool.true_and, show ((vx_mvs (vs_l σ) (vf_s (vs_x σ) c) (vs_t σ)[i].1) == (vs_t σ)[i].2) = false from beq_eq_false_iff_ne.mpr h156] at ih; exact ih)
          · intro h156
            refine mm_wv (vb_i 1) rfl (by decide) ?_
            refine mm_wgoto ?_
            refine mm_w1 (ls' := [_, _, _, _, _]) rfl ?_
            refine mm_nincL (ls' := [_, _, _, _, _]) 1 rfl (by decide) rfl ?_
            refine mm_wgoto ?_
            have ih := ih (by omega) I1 hq1 thr1 hmv
            rw [hst] at ih
            first
              | (rw [h123, Bool.false_and] at ih; exact ih)
              | (rw [h123, Bool.true_and, show ((vx_mvs (vs_l σ) (vf_s (vs_x σ) c) (vs_t σ)[i].1) == (vs_t σ)[i].2) = true by rw [h156]; simp] at ih; exact ih)
              | (rw [h123, Bool.true_and, show ((vx_mvs (vs_l σ) (vf_s (vs_x σ) c) (vs_t σ)[i].1) == (vs_t σ)[i].2) = false from beq_eq_false_iff_ne.mpr h156] at ih; exact ih) 
    have playL : c < 9 → c / 3 < vb_sc (vs_l σ) → c % 3 < vb_sc (vs_l σ) → ∀ j, j ≤ 30 → ∀ (I1 : Nat → Nat → Int32) (y4 : Value), y4.category = 1 → vm_qf I I1 → I1 60 0 = vb_i 0 → (∀ c', c' < c → c' / 3 < vb_sc (vs_l σ) → c' % 3 < vb_sc (vs_l σ) → ∀ k, k < 30 → I1 82 (30 * c' + k) = vb_i (vx_mvs (vs_l σ) (vf_s (vs_x σ) c') k)) → (∀ k, k < j → I1 82 (30 * c + k) = vb_i (vx_mvs (vs_l σ) (vf_s (vs_x σ) c) k)) → vm_row (vs_l σ) (I1 76) 46 (vx_seq (vs_l σ) (vf_s (vs_x σ) c) j) (vx_tn (vx_seq (vs_l σ) (vf_s (vs_x σ) c) j)) → mm_W G d 228 (mm_blk 228 62) [.ref 60, .int (vb_set c (vf_q (vs_l σ) (vs_x σ) (vs_t σ))), .int (vb_i c), .int (vb_i j), y4] [] (I1, P, J, S, nc, ns) (vb_R (some (.int (vb_set 9 (vf_q (vs_l σ) (vs_x σ) (vs_t σ))))) (fun I' => vm_qf I I' ∧ I' 60 0 = vb_i 0 ∧ ∀ c, c < 9 → c / 3 < vb_sc (vs_l σ) → c % 3 < vb_sc (vs_l σ) → ∀ k, k < 30 → I' 82 (30 * c + k) = vb_i (vx_mvs (vs_l σ) (vf_s (vs_x σ) c) k)) P J S nc ns) := by
      intro hc1 hc2 hc3
      refine vb_down 30 ?_
      intro j hj ih I1 y4 hy4 hq1 thr1 hmv hmk hS1
      have dN1 := dN.qf hq1
      have dM1 := vmd_l dN1
      have hR1 := vmd_x dN1
      have hwf0 : vx_wf (vs_l σ) (vf_s (vs_x σ) c) := hwf.sf rfl rfl
      have hse : vx_e (vx_seq (vs_l σ) (vf_s (vs_x σ) c) j) = vx_e (vs_x σ) + j := vx_seq_e _ _ _
      have hokS := (vx_sty_ok (x := vs_x σ) hc2 hc3).seq j
      have hwfS := vx_wf.seq hwf0 hn j
      refine mm_w1 rfl ?_
      refine mm_wv (vb_i 30) rfl (by decide) ?_
      refine mm_nicge (by omega) (by omega) ?_ ?_
      · intro h65
        refine mm_wv (vb_i 1) rfl (by decide) ?_
        refine mm_w1 (ls' := [_, _, _, _, _]) rfl ?_
        refine mm_wv (vb_i 0) rfl (by decide) ?_
        refine mm_w1 (ls' := [_, _, _, _, _]) rfl ?_
        have e30 : j = 30 := by omega
        refine seenL hc1 hc2 hc3 0 (by omega) I1 hq1 thr1 (fun c' h1 h2 h3 k hk => ?_)
        by_cases e : c' = c
        · rw [e]; exact hmk k (by omega)
        · exact hmv c' (by omega) h2 h3 k hk
      · intro h65
        refine mm_w1 rfl ?_
        refine mm_wgr (vM_S60 hM) (by decide) (by decide) (vM_P60_47 hM) (vM_a82 hM) ?_
        refine mm_wv (vb_i 30) rfl (by decide) ?_
        refine mm_w1 rfl ?_
        refine mm_nmul ?_
        refine mm_w1 rfl ?_
        refine mm_nadd ?_
        refine mm_w1 rfl ?_
        refine mm_wv (vb_i 46) rfl (by decide) ?_
        refine mm_cvi (vb_cv (vM_S60 hM) rfl rfl rfl rfl) (by decide) (by omega) (m_by hM dM1 hS1 (by decide) hli hlb hwfS.sj hwfS.fj hwfS.ws hokS (by omega)) ?_
        intro I2 hf2
        have hq2 := hq1.tr (vm_qf.of8 hf2)
        have dN2 := dN.qf hq2
        have dM2 := vmd_l dN2
        have hR2 := vmd_x dN2
        have thr2 : I2 60 0 = vb_i 0 := by rw [hf2 60 (by simp only [vm_s8]; decide)]; exact thr1
        have hS2 : vm_row (vs_l σ) (I2 76) 46 (vx_seq (vs_l σ) (vf_s (vs_x σ) c) j) (vx_tn (vx_seq (vs_l σ) (vf_s (vs_x σ) c) j)) := by rw [hf2 76 (by simp only [vm_s8]; decide)]; exact hS1
        have hble := vx_by_le (vs_l σ) (vx_seq (vs_l σ) (vf_s (vs_x σ) c) j)
        have hble : vx_byT (vs_l σ) (vx_seq (vs_l σ) (vf_s (vs_x σ) c) j) (vx_tn (vx_seq (vs_l σ) (vf_s (vs_x σ) c) j)) ≤ 100 := hble
        have e822 : I2 82 = I1 82 := hf2 82 (by simp only [vm_s8]; decide)
        refine mm_wisN (vM_S82 hM) (by decide) (by omega) ?_
        intro I3 hI3
        have hq3 : vm_qf I I3 := hq2.tr (by rw [hI3]; exact vm_qf.m82 _ _)
        have dN3 := dN.qf hq3
        have dM3 := vmd_l dN3
        have hR3 := vmd_x dN3
        have thr3 : I3 60 0 = vb_i 0 := by rw [hI3, vb_up3 _ _ (by decide)]; exact thr2
        have hS3 : vm_row (vs_l σ) (I3 76) 46 (vx_seq (vs_l σ) (vf_s (vs_x σ) c) j) (vx_tn (vx_seq (vs_l σ) (vf_s (vs_x σ) c) j)) := by rw [hI3, vb_up3 _ _ (by decide)]; exact hS2
        refine mm_w1 rfl ?_
        refine mm_wv (vb_i 46) rfl (by decide) ?_
        refine mm_w1 rfl ?_
        refine mm_wgr (vM_S60 hM) (by decide) (by decide) (vM_P60_47 hM) (vM_a82 hM) ?_
        refine mm_wv (vb_i 30) rfl (by decide) ?_
        refine mm_w1 rfl ?_
        refine mm_nmul ?_
        refine mm_w1 rfl ?_
        refine mm_nadd ?_
        refine mm_wiav (vb_i (vx_byT (vs_l σ) (vx_seq (vs_l σ) (vf_s (vs_x σ) c) j) (vx_tn (vx_seq (vs_l σ) (vf_s (vs_x σ) c) j)))) (vM_a82 hM) (vM_S82 hM) (by decide) (by omega) (by rw [hI3]; exact vb_up1 _ _ _ _) ?_
        refine mm_cvn (vb_cv (vM_S60 hM) rfl rfl rfl rfl) (by decide) (by omega) (m_does hM dM3 hS3 (by decide) hwfS.sj (by omega) (vm_by_ok1 hn hli hwfS) (by omega)) ?_
        intro I4 hq04
        obtain ⟨hS4, ho4, hf4⟩ := hq04
        have hq4 := hq3.tr (vm_qf.of76 hf4 (fun j hj => ho4 j (by omega)))
        have dN4 := dN.qf hq4
        have dM4 := vmd_l dN4
        have hR4 := vmd_x dN4
        have thr4 : I4 60 0 = vb_i 0 := by rw [hf4 60 (by decide)]; exact thr3
        have e824 : I4 82 = I3 82 := hf4 82 (by decide)
        refine mm_nincL (ls' := [_, _, _, _, _]) 1 rfl (by decide) rfl ?_
        refine mm_wgoto ?_
        refine ih (by omega) _ _ hy4 hq4 thr4 (fun c' h1 h2 h3 k hk => ?_) (fun k hk => ?_) (by have := hS4; rw [show 1 - vx_tn (vx_seq (vs_l σ) (vf_s (vs_x σ) c) j) = vx_tn (vx_seq (vs_l σ) (vf_s (vs_x σ) c) (j + 1)) from (vx_tn_play _ _).symm] at this; exact this)
        · rw [e824, hI3, vb_up2 _ _ (by omega), e822]; exact hmv c' h1 h2 h3 k hk
        · rw [e824, hI3]
          by_cases e : k = j
          · rw [e]; exact vb_up1 _ _ _ _
          · rw [vb_up2 _ _ (by omega), e822]; exact hmk k (by omega)
    refine mm_w1 rfl ?_
    refine mm_wv (vb_i 9) rfl (by decide) ?_
    refine mm_nicge (by omega) (by omega) ?_ ?_
    · intro h7
      refine mm_w1 rfl ?_
      refine mm_wr rfl rfl rfl ?_
      have e : c = 9 := by omega
      subst e
      exact ⟨_, ⟨hq1, thr1, hmv⟩, rfl⟩
    · intro h7
      refine mm_w1 rfl ?_
      refine mm_wv (vb_i 3) rfl (by decide) ?_
      refine mm_ndiv (by omega) (by omega) (by omega) ?_
      refine mm_w1 rfl ?_
      refine mm_wgiv _ (vM_S60 hM) (by decide) (by decide) (vm_sc dM1) ?_
      refine mm_nicge (by omega) (by omega) ?_ ?_
      · intro h17
        refine mm_nincL (ls' := [_, _, _, _, _]) 1 rfl (by decide) rfl ?_
        refine mm_wgoto ?_
        have hvf : (vf_q (vs_l σ) (vs_x σ) (vs_t σ)) c = false := by
          simp only [vf_q]
          first
            | rw [decide_eq_false h17]; rfl
            | rw [decide_eq_false h27, Bool.and_false]; rfl
        have ih := ihO (by omega) I1 _ _ hy3 hy4 hq1 thr1 (fun c' a1 a2 a3 k hk => ?_)
        · rw [vb_set_s0 hvf] at ih; exact ih
        · by_cases e : c' = c
          · subst e
            first
              | exact absurd a2 h17
              | exact absurd a3 h27
          · exact hmv c' (by omega) a2 a3 k hk
      · intro h17
        refine mm_w1 rfl ?_
        refine mm_wv (vb_i 3) rfl (by decide) ?_
        refine mm_nrem (by omega) (by omega) (by omega) ?_
        refine mm_w1 rfl ?_
        refine mm_wgiv _ (vM_S60 hM) (by decide) (by decide) (vm_sc dM1) ?_
        refine mm_niclt (by omega) (by omega) ?_ ?_
        · intro h27
          refine mm_w1 rfl ?_
          refine mm_wv (vb_i 0) rfl (by decide) ?_
          refine mm_wv (vb_i 46) rfl (by decide) ?_
          refine mm_cvn (vb_cv (vM_S60 hM) rfl rfl rfl rfl) (by decide) (by omega) (m_lays0 hM (by decide) (by decide) (by decide)) ?_
          intro I2 hq02
          obtain ⟨hc2, ho2, hf2⟩ := hq02
          have hq2 := hq1.tr (vm_qf.of76 hf2 (fun j hj => ho2 j (by omega)))
          have dN2 := dN.qf hq2
          have dM2 := vmd_l dN2
          have hR2 := vmd_x dN2
          have thr2 : I2 60 0 = vb_i 0 := by rw [hf2 60 (by decide)]; exact thr1
          have hS2 : vm_row (vs_l σ) (I2 76) 46 (vs_x σ) (vx_tn (vs_x σ)) := hR1.mv hn hc2
          refine mm_w1 rfl ?_
          refine mm_wgr (vM_S60 hM) (by decide) (by decide) (vM_P60_38 hM) (vM_a76 hM) ?_
          refine mm_wv (vb_i 90) rfl (by decide) ?_
          refine mm_w1 rfl ?_
          refine mm_wv (vb_i 3) rfl (by decide) ?_
          refine mm_ndiv (by omega) (by omega) (by omega) ?_
          refine mm_wis (vM_S76 hM) (by decide) (by omega) ?_
          refine mm_w1 rfl ?_
          refine mm_wgr (vM_S60 hM) (by decide) (by decide) (vM_P60_38 hM) (vM_a76 hM) ?_
          refine mm_wv (vb_i 91) rfl (by decide) ?_
          refine mm_w1 rfl ?_
          refine mm_wv (vb_i 3) rfl (by decide) ?_
          refine mm_nrem (by omega) (by omega) (by omega) ?_
          refine mm_wis (vM_S76 hM) (by decide) (by omega) ?_
          refine mm_wv (vb_i 0) rfl (by decide) ?_
          refine mm_w1 (ls' := [_, _, _, _, _]) rfl ?_
          obtain ⟨h1, h2, h3, h4, h5, h6, h7, h8, h9⟩ := hS2
          refine playL (by omega) h17 h27 0 (by omega) _ _ hy4 (hq2.tr (vm_qf.of76 ((vb_fr.rf.up1).up1) (fun j hj => by rw [vb_up2 _ _ (by omega), vb_up2 _ _ (by omega)]))) (by rw [vb_up3 _ _ (by decide), vb_up3 _ _ (by decide)]; exact thr2) (fun c' a1 a2 a3 k hk => by rw [vb_up3 _ _ (by decide), vb_up3 _ _ (by decide), hf2 82 (by decide)]; exact hmv c' a1 a2 a3 k hk) (fun k hk => absurd hk (by omega)) ⟨?_, ?_, ?_, ?_, ?_, ?_, ?_, h8, h9⟩
          · intro v hv; rw [vb_up2 _ _ (by omega), vb_up2 _ _ (by omega)]; exact h1 v hv
          · intro v hv; rw [vb_up2 _ _ (by omega), vb_up2 _ _ (by omega)]; exact h2 v hv
          · intro v hv; rw [vb_up2 _ _ (by omega), vb_up2 _ _ (by omega)]; exact h3 v hv
          · intro v hv; rw [vb_up2 _ _ (by omega), vb_up2 _ _ (by omega)]; exact h4 v hv
          · rw [vb_up2 _ _ (by omega), vb_up2 _ _ (by omega)]; exact h5
          · rw [vb_up2 _ _ (by omega), vb_up2 _ _ (by omega)]; exact h6
          · intro j hj
            by_cases h0 : j = 0
            · subst h0; rw [vb_up2 _ _ (by omega)]; exact vb_up1 _ _ _ _
            · have hj1 : j = 1 := by omega
              subst hj1; exact vb_up1 _ _ _ _
        · intro h27
          refine mm_wgoto ?_
          refine mm_nincL (ls' := [_, _, _, _, _]) 1 rfl (by decide) rfl ?_
          refine mm_wgoto ?_
          have hvf : (vf_q (vs_l σ) (vs_x σ) (vs_t σ)) c = false := by
            simp only [vf_q]
            first
              | rw [decide_eq_false h17]; rfl
              | rw [decide_eq_false h27, Bool.and_false]; rfl
          have ih := ihO (by omega) I1 _ _ hy3 hy4 hq1 thr1 (fun c' a1 a2 a3 k hk => ?_)
          · rw [vb_set_s0 hvf] at ih; exact ih
          · by_cases e : c' = c
            · subst e
              first
                | exact absurd a2 h17
                | exact absurd a3 h27
            · exact hmv c' (by omega) a2 a3 k hk
    )
  show mm_W _ _ 228 (mm_blk 228 0) [.ref 60, .null, .null, .null, .null] [] _ _
  refine mm_wv (vb_i 0) rfl (by decide) ?_
  refine mm_w1 (ls' := [_, _, _, _, _]) rfl ?_
  refine mm_wv (vb_i 0) rfl (by decide) ?_
  refine mm_w1 (ls' := [_, _, _, _, _]) rfl ?_
  exact outer 0 (by omega) I _ _ rfl rfl hq thr (fun c h => absurd h (by omega))
end NFIT
