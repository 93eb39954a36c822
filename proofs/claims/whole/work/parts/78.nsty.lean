theorem vb_b_eq1 {q : Bool} : vb_b q = vb_i 1 ↔ q = true := by cases q <;> decide
/-! unlike ones, counted one by one -/
def vf_hh (val : Nat → Int32) (l : List Nat) : Nat := vc_unl (fun i => val (l.getD i 0)) l.length
theorem vc_new_cg {f g : Nat → Int32} {n i : Nat} (hi : i < n) (h : ∀ j, j < n → f j = g j) : vc_new f i = vc_new g i := by
  simp only [vc_new]
  refine vb_all_cg (fun j hj => ?_)
  rw [List.mem_range] at hj
  rw [h j (by omega), h i hi]
theorem vc_unl_cg {f g : Nat → Int32} {n : Nat} (h : ∀ j, j < n → f j = g j) : vc_unl f n = vc_unl g n := vb_cnt_congr (fun i hi => vc_new_cg hi h)

theorem vb_range_all {p : Nat → Bool} : ∀ (l : List Nat), (List.range l.length).all (fun j => p (l.getD j 0)) = l.all p := by
  intro l
  rw [Bool.eq_iff_iff, List.all_eq_true, List.all_eq_true]
  constructor
  · intro h z hz
    obtain ⟨i, hi⟩ := List.mem_iff_getElem?.mp hz
    have hl : i < l.length := by
      by_cases hl : i < l.length
      · exact hl
      · rw [List.getElem?_eq_none (by omega)] at hi; cases hi
    have := h i (List.mem_range.mpr hl)
    rw [List.getD_eq_getElem?_getD, hi] at this; exact this
  · intro h i hi
    rw [List.mem_range] at hi
    refine h _ ?_
    rw [List.getD_eq_getElem?_getD, List.getElem?_eq_getElem hi]; exact List.getElem_mem hi
theorem vf_hh_app (val : Nat → Int32) (l : List Nat) (c : Nat) : vf_hh val (l ++ [c]) = vf_hh val l + (l.all (fun d => !(val d == val c))).toNat := by
  simp only [vf_hh, vc_unl, List.length_append, List.length_singleton, vb_cnt]
  have e1 : ∀ j, j < l.length → val ((l ++ [c]).getD j 0) = val (l.getD j 0) := by
    intro j hj
    rw [List.getD_eq_getElem?_getD, List.getD_eq_getElem?_getD, List.getElem?_append_left hj]
  have e2 : val ((l ++ [c]).getD l.length 0) = val c := by
    rw [List.getD_eq_getElem?_getD, List.getElem?_append_right (by omega), Nat.sub_self]; rfl
  congr 1
  · exact vb_cnt_congr (fun i hi => vc_new_cg hi e1)
  · congr 1
    simp only [vc_new]
    rw [← vb_range_all l]
    refine vb_all_cg (fun j hj => ?_)
    rw [List.mem_range] at hj
    rw [e1 j hj, e2]
def vf_new (q : Nat → Bool) (mv : Nat → Nat) (c : Nat) : Bool := q c && (List.range c).all (fun d => !q d || !(mv c == mv d))
theorem vf_all (q : Nat → Bool) (p : Nat → Bool) (c : Nat) : ((List.range c).filter q).all p = (List.range c).all (fun d => !q d || p d) := by
  rw [List.all_filter]
theorem vf_cnt (q : Nat → Bool) (mv : Nat → Nat) (hmv : ∀ c, mv c ≤ 100) : ∀ c, vb_cnt c (vf_new q mv) = vf_hh (fun c => vb_told (mv c)) ((List.range c).filter q) := by
  intro c
  induction c with
  | zero => rfl
  | succ c ih =>
    rw [List.range_succ, List.filter_append]
    simp only [vb_cnt, ih]
    cases h : q c with
    | false => simp [vf_new, h]
    | true =>
      have e : ([c].filter q) = [c] := by simp [h]
      rw [e, vf_hh_app]
      congr 2
      rw [vf_new, h, Bool.true_and, vf_all]
      refine vb_all_cg (fun d _ => ?_)
      congr 1
      by_cases e2 : mv c = mv d
      · rw [e2]; simp
      · rw [beq_eq_false_iff_ne.mpr e2, vb_neb (fun h => e2 ((vb_told_inj (hmv d) (hmv c)).mp h).symm)]
section NSTY
variable {G : mm_G} {d : Nat} {I : Nat → Nat → Int32} {P : Nat → Nat → Nat} {J : Nat → Nat → Int64} {S : List (Nat × Nat)} {nc ns : Nat} {μ : mm_M} {σ : vb_St}
theorem vf_unl {ℓ : vb_L} {x : vb_X} {ss : List (Nat × Nat)} (h3 : vb_sc ℓ ≤ 3) (k : Nat) : vb_cnt 9 (vf_new (vf_q ℓ x ss) (fun c => vx_mvs ℓ (vf_s x c) k)) = vc_unl (q_row ℓ x (vc_fit ℓ x ss) k) (vc_fit ℓ x ss).length := by
  rw [vf_cnt (vf_q ℓ x ss) (fun c => vx_mvs ℓ (vf_s x c) k) (fun c => vx_by_le _ _) 9, ← vf_fit h3]
  have e0 : vf_rs ℓ x ss 0 = (List.range 9).filter (vf_q ℓ x ss) := rfl
  rw [e0, vf_hh, List.length_map]
  refine vc_unl_cg (fun j hj => ?_)
  have hz : ((List.range 9).filter (vf_q ℓ x ss))[j]? = some (((List.range 9).filter (vf_q ℓ x ss)).getD j 0) := by
    rw [List.getD_eq_getElem?_getD, List.getElem?_eq_getElem hj]; rfl
  have hm := List.mem_of_getElem? hz
  rw [List.mem_filter, List.mem_range] at hm
  have hg : (((List.range 9).filter (vf_q ℓ x ss)).map vf_e).getD j 0 = vf_e (((List.range 9).filter (vf_q ℓ x ss)).getD j 0) := by
    rw [List.getD_eq_getElem?_getD, List.getElem?_map, hz]; rfl
  have e1 : vf_e (((List.range 9).filter (vf_q ℓ x ss)).getD j 0) / 10 = ((List.range 9).filter (vf_q ℓ x ss)).getD j 0 / 3 := by simp only [vf_e]; omega
  have e2 : vf_e (((List.range 9).filter (vf_q ℓ x ss)).getD j 0) % 10 = ((List.range 9).filter (vf_q ℓ x ss)).getD j 0 % 3 := by simp only [vf_e]; omega
  rw [q_row, hg, e1, e2]; rfl
theorem vf_len {ℓ : vb_L} {x : vb_X} {ss : List (Nat × Nat)} (h3 : vb_sc ℓ ≤ 3) : vb_cnt 10 (vb_has (vb_set 9 (vf_q ℓ x ss))) = (vc_fit ℓ x ss).length := by
  rw [vb_cnt_up (n := 9) (m := 10) (by decide) (fun v hv => vb_has_below (vb_set_below (by decide) _) hv), ← vf_fit h3, List.length_map]
  have e0 : vf_rs ℓ x ss 0 = (List.range 9).filter (vf_q ℓ x ss) := rfl
  rw [e0, ← vb_cnt_filter]
  exact vb_cnt_congr (fun v hv => by rw [vb_has_set _ (by decide), decide_eq_true hv, Bool.true_and])
theorem vf_has {q : Nat → Bool} {c : Nat} (hc : c < 9) : vb_has (vb_set 9 q) c = q c := by rw [vb_has_set _ (by decide), decide_eq_true hc, Bool.true_and]
theorem n_styles (hM : vm_isM P S) (dN : vm_MD σ I) (hI : vs_inv σ) (hlb : vl_bel (vs_l σ)) (hd : 20 ≤ d) (w : Int32) : mm_C G d 229 [.ref 60, .int w] (I, P, J, S, nc, ns) (vm_RV (sp_styles σ w) (fun I' => vm_qf I I') P J S nc ns) := by
  obtain ⟨hli, hIx, hIa, hIi⟩ := hI
  obtain ⟨hok, hwf, he9⟩ := hIx
  have hsj := hwf.sj
  have hfj := hwf.fj
  have hst := hwf.ws
  have dM := vmd_l dN
  have hR := vmd_x dN
  have hn := vm_10 dM
  have ht := vx_t2 (vs_x σ)
  have hs3 := vm_sc3 dM
  have hI0 : vs_inv σ := ⟨hli, ⟨hok, hwf, he9⟩, hIa, hIi⟩
  cases hw : vb_idx 2 w with
  | none =>
    rw [show sp_styles σ w = .inr 0 by simp only [sp_styles, hw]]
    show mm_W _ _ 229 (mm_blk 229 0) [.ref 60, .int w, .null, .null] [] _ _
    refine mm_w1 rfl ?_
    refine mm_wv (vb_i 0) rfl (by decide) ?_
    refine mm_wpiN (vM_S60 hM) (by decide) (by decide) ?_
    intro I1 hI1
    have hq1 : vm_qf I I1 := by rw [hI1]; exact vm_qf.thr _
    have dN1 := dN.qf hq1
    have dM1 := vmd_l dN1
    have hR1 := vmd_x dN1
    have thr1 : I1 60 0 = vb_i 0 := by rw [hI1, vb_up1]
    refine mm_w1 rfl ?_
    refine mm_w1 rfl ?_
    refine mm_wv (vb_i 1) rfl (by decide) ?_
    refine mm_cvi (vb_cv (vM_S60 hM) rfl rfl rfl rfl) (by decide) (by omega) (m_isW_f hM thr1 hw (by omega) (by omega)) ?_
    intro I2 hI2 
    refine mm_nifne (by decide) (fun h => absurd rfl h) (fun _ => ?_)
    refine mm_wv (vb_i 0) rfl (by decide) ?_
    refine mm_wr rfl rfl rfl ?_
    exact ⟨_, _, rfl, hq1.tr (by rw [hI2]; exact vm_qf.thr _), by rw [hI2, vb_up1]⟩
  | some w_ =>
    obtain ⟨lw, rfl⟩ := vb_idx_some (by decide) hw
    have hw2 : w_ = 0 ∨ w_ = 1 := by omega
    rcases hw2 with rfl | rfl
    · rw [show sp_styles σ (vb_i 0) = .inl (vb_i (vc_fit (vs_l σ) (vs_x σ) (vs_t σ)).length) by simp only [sp_styles, hw, if_true]]
      show mm_W _ _ 229 (mm_blk 229 0) [.ref 60, .int (vb_i 0), .null, .null] [] _ _
      refine mm_w1 rfl ?_
      refine mm_wv (vb_i 0) rfl (by decide) ?_
      refine mm_wpiN (vM_S60 hM) (by decide) (by decide) ?_
      intro I1 hI1
      have hq1 : vm_qf I I1 := by rw [hI1]; exact vm_qf.thr _
      have dN1 := dN.qf hq1
      have dM1 := vmd_l dN1
      have hR1 := vmd_x dN1
      have thr1 : I1 60 0 = vb_i 0 := by rw [hI1, vb_up1]
      refine mm_w1 rfl ?_
      refine mm_w1 rfl ?_
      refine mm_wv (vb_i 1) rfl (by decide) ?_
      refine mm_cvp (vb_cv (vM_S60 hM) rfl rfl rfl rfl) (by decide) (by omega) (m_isW_t hM thr1 (by rw [hw]; rfl) (by decide) (by omega)) ?_
      refine mm_nifne (by decide) (fun _ => ?_) (fun h => absurd h (by decide))
      refine mm_w1 rfl ?_
      refine mm_cvi (vb_cv (vM_S60 hM) rfl rfl rfl rfl) (by decide) (by omega) (m_fit hM dN1 hI0 hlb (by omega) thr1) ?_
      intro I2 hq02
      obtain ⟨hqq2, thr2, hmv2⟩ := hq02
      have hq2 := hq1.tr hqq2
      have dN2 := dN.qf hq2
      have dM2 := vmd_l dN2
      have hR2 := vmd_x dN2
      refine mm_w1 (ls' := [_, _, _, _]) rfl ?_
      refine mm_w1 rfl ?_
      refine mm_nifne (by decide) (fun h => absurd rfl h) (fun _ => ?_)
      refine mm_w1 rfl ?_
      refine mm_csp rfl (by decide) (by omega) m_bits ?_
      rw [vf_len hs3]
      refine mm_wr rfl rfl rfl ?_
      exact ⟨_, _, rfl, hq2, rfl, thr2⟩
    · rw [show sp_styles σ (vb_i 1) = .inl (vc_1st (vc_fit (vs_l σ) (vs_x σ) (vs_t σ))) by simp only [sp_styles, hw, Nat.one_ne_zero, if_false]]
      have loop := vb_down (p := fun c => ∀ (I1 : Nat → Nat → Int32), vm_qf I I1 → I1 60 0 = vb_i 0 → (vf_rs (vs_l σ) (vs_x σ) (vs_t σ) c).map vf_e = (vc_fit (vs_l σ) (vs_x σ) (vs_t σ)) → mm_W G d 229 (mm_blk 229 32) [.ref 60, .int (vb_i 1), .int (vb_set 9 (vf_q (vs_l σ) (vs_x σ) (vs_t σ))), .int (vb_i c)] [] (I1, P, J, S, nc, ns) (vm_RV (.inl (vc_1st (vc_fit (vs_l σ) (vs_x σ) (vs_t σ)))) (fun I' => vm_qf I I') P J S nc ns)) 9 (by
        intro c hc ih I1 hq1 thr1 heq
        refine mm_w1 rfl ?_
        refine mm_wv (vb_i 9) rfl (by decide) ?_
        refine mm_nicge (by omega) (by omega) ?_ ?_
        · intro h35
          refine mm_wv (-1) rfl (by decide) ?_
          refine mm_wr rfl rfl rfl ?_
          refine ⟨_, _, rfl, hq1, ?_, thr1⟩
          rw [vf_end (by omega)] at heq
          rw [← heq]; rfl
        · intro h35
          refine mm_w1 rfl ?_
          refine mm_w1 rfl ?_
          refine mm_w1 rfl ?_
          refine mm_wv (vb_i 1) rfl (by decide) ?_
          refine mm_wv (vb_b (vb_has _ _)) rfl (vb_shr1 _ (by omega)) ?_
          refine mm_wv (vb_i 1) rfl (by decide) ?_
          rw [vf_has (by omega)]
          rw [vf_cons (by omega)] at heq
          refine mm_wicne ?_ ?_
          · intro h44
            have hf : (vf_q (vs_l σ) (vs_x σ) (vs_t σ)) c = false := by
              cases e : (vf_q (vs_l σ) (vs_x σ) (vs_t σ)) c with
              | false => rfl
              | true => exact absurd (vb_b_eq1.mpr e) h44
            rw [hf, if_neg (by decide)] at heq
            refine mm_nincL (ls' := [_, _, _, _]) 1 rfl (by decide) rfl ?_
            refine mm_wgoto ?_
            exact ih (by omega) I1 hq1 thr1 heq
          · intro h44
            rw [vb_b_eq1.mp h44, if_pos rfl, List.map_cons] at heq
            refine mm_wv (vb_i 10) rfl (by decide) ?_
            refine mm_w1 rfl ?_
            refine mm_wv (vb_i 3) rfl (by decide) ?_
            refine mm_ndiv (by omega) (by omega) (by omega) ?_
            refine mm_nmul ?_
            refine mm_w1 rfl ?_
            refine mm_wv (vb_i 3) rfl (by decide) ?_
            refine mm_nrem (by omega) (by omega) (by omega) ?_
            refine mm_nadd ?_
            refine mm_wr rfl rfl rfl ?_
            refine ⟨_, _, rfl, hq1, ?_, thr1⟩
            rw [← heq]; rfl 
        )
      show mm_W _ _ 229 (mm_blk 229 0) [.ref 60, .int (vb_i 1), .null, .null] [] _ _
      refine mm_w1 rfl ?_
      refine mm_wv (vb_i 0) rfl (by decide) ?_
      refine mm_wpiN (vM_S60 hM) (by decide) (by decide) ?_
      intro I1 hI1
      have hq1 : vm_qf I I1 := by rw [hI1]; exact vm_qf.thr _
      have dN1 := dN.qf hq1
      have dM1 := vmd_l dN1
      have hR1 := vmd_x dN1
      have thr1 : I1 60 0 = vb_i 0 := by rw [hI1, vb_up1]
      refine mm_w1 rfl ?_
      refine mm_w1 rfl ?_
      refine mm_wv (vb_i 1) rfl (by decide) ?_
      refine mm_cvp (vb_cv (vM_S60 hM) rfl rfl rfl rfl) (by decide) (by omega) (m_isW_t hM thr1 (by rw [hw]; rfl) (by decide) (by omega)) ?_
      refine mm_nifne (by decide) (fun _ => ?_) (fun h => absurd h (by decide))
      refine mm_w1 rfl ?_
      refine mm_cvi (vb_cv (vM_S60 hM) rfl rfl rfl rfl) (by decide) (by omega) (m_fit hM dN1 hI0 hlb (by omega) thr1) ?_
      intro I2 hq02
      obtain ⟨hqq2, thr2, hmv2⟩ := hq02
      have hq2 := hq1.tr hqq2
      have dN2 := dN.qf hq2
      have dM2 := vmd_l dN2
      have hR2 := vmd_x dN2
      refine mm_w1 (ls' := [_, _, _, _]) rfl ?_
      refine mm_w1 rfl ?_
      refine mm_nifne (by decide) (fun _ => ?_) (fun h => absurd h (by decide))
      refine mm_wv (vb_i 0) rfl (by decide) ?_
      refine mm_w1 (ls' := [_, _, _, _]) rfl ?_
      exact loop 0 (by omega) _ hq2 thr2 (vf_fit hs3)
theorem n_next (hM : vm_isM P S) (dN : vm_MD σ I) (hI : vs_inv σ) (hlb : vl_bel (vs_l σ)) (hd : 20 ≤ d) (w : Int32) : mm_C G d 230 [.ref 60, .int w] (I, P, J, S, nc, ns) (vm_RV (sp_next σ w) (fun I' => vm_qf I I') P J S nc ns) := by
  obtain ⟨hli, hIx, hIa, hIi⟩ := hI
  obtain ⟨hok, hwf, he9⟩ := hIx
  have hsj := hwf.sj
  have hfj := hwf.fj
  have hst := hwf.ws
  have dM := vmd_l dN
  have hR := vmd_x dN
  have hn := vm_10 dM
  have ht := vx_t2 (vs_x σ)
  have hs3 := vm_sc3 dM
  have hI0 : vs_inv σ := ⟨hli, ⟨hok, hwf, he9⟩, hIa, hIi⟩
  cases hw : vb_idx 2 w with
  | none =>
    rw [show sp_next σ w = .inr 0 by simp only [sp_next, hw]]
    show mm_W _ _ 230 (mm_blk 230 0) [.ref 60, .int w, .null, .null, .null, .null, .null, .null, .null, .null] [] _ _
    refine mm_w1 rfl ?_
    refine mm_wv (vb_i 0) rfl (by decide) ?_
    refine mm_wpiN (vM_S60 hM) (by decide) (by decide) ?_
    intro I1 hI1
    have hq1 : vm_qf I I1 := by rw [hI1]; exact vm_qf.thr _
    have dN1 := dN.qf hq1
    have dM1 := vmd_l dN1
    have hR1 := vmd_x dN1
    have thr1 : I1 60 0 = vb_i 0 := by rw [hI1, vb_up1]
    refine mm_w1 rfl ?_
    refine mm_w1 rfl ?_
    refine mm_wv (vb_i 1) rfl (by decide) ?_
    refine mm_cvi (vb_cv (vM_S60 hM) rfl rfl rfl rfl) (by decide) (by omega) (m_isW_f hM thr1 hw (by omega) (by omega)) ?_
    intro I2 hI2 
    refine mm_nifne (by decide) (fun h => absurd rfl h) (fun _ => ?_)
    refine mm_wv (vb_i 0) rfl (by decide) ?_
    refine mm_wr rfl rfl rfl ?_
    exact ⟨_, _, rfl, hq1.tr (by rw [hI2]; exact vm_qf.thr _), by rw [hI2, vb_up1]⟩
  | some w_ =>
    obtain ⟨lw, rfl⟩ := vb_idx_some (by decide) hw
    have hw2 : w_ = 0 ∨ w_ = 1 := by omega
    rcases hw2 with rfl | rfl
    · rw [show sp_next σ (vb_i 0) = .inl (q_next (vs_l σ) (vs_x σ) (vs_t σ)).1 by simp only [sp_next, hw, if_true]]
      have hvq : ∀ c, (vf_q (vs_l σ) (vs_x σ) (vs_t σ)) c = true → c / 3 < vb_sc (vs_l σ) ∧ c % 3 < vb_sc (vs_l σ) := fun c h => by
        simp only [vf_q, Bool.and_eq_true, decide_eq_true_eq] at h
        exact h.1
      have hu9 : ∀ k, (fun k => vc_unl (q_row (vs_l σ) (vs_x σ) (vc_fit (vs_l σ) (vs_x σ) (vs_t σ)) k) (vc_fit (vs_l σ) (vs_x σ) (vs_t σ)).length) k ≤ 9 := fun k => by
        exact Nat.le_trans (Nat.le_of_eq (vf_unl hs3 k).symm) (vb_cnt_le _ _)
      have outer := vb_down (p := fun k => ∀ (I1 : Nat → Nat → Int32) (y6 y7 y8 y9 : Value), y6.category = 1 → y7.category = 1 → y8.category = 1 → vm_qf I I1 → I1 60 0 = vb_i 0 → (∀ c, c < 9 → c / 3 < vb_sc (vs_l σ) → c % 3 < vb_sc (vs_l σ) → ∀ k, k < 30 → I1 82 (30 * c + k) = vb_i (vx_mvs (vs_l σ) (vf_s (vs_x σ) c) k)) → mm_W G d 230 (mm_blk 230 29) [.ref 60, .int (vb_i 0), .int (vb_set 9 (vf_q (vs_l σ) (vs_x σ) (vs_t σ))), .int (q_nx (fun k => vc_unl (q_row (vs_l σ) (vs_x σ) (vc_fit (vs_l σ) (vs_x σ) (vs_t σ)) k) (vc_fit (vs_l σ) (vs_x σ) (vs_t σ)).length) k).1, .int (vb_i (q_nx (fun k => vc_unl (q_row (vs_l σ) (vs_x σ) (vc_fit (vs_l σ) (vs_x σ) (vs_t σ)) k) (vc_fit (vs_l σ) (vs_x σ) (vs_t σ)).length) k).2), .int (vb_i k), y6, y7, y8, y9] [] (I1, P, J, S, nc, ns) (vm_RV (.inl (q_next (vs_l σ) (vs_x σ) (vs_t σ)).1) (fun I' => vm_qf I I') P J S nc ns)) 30 (by
        intro k hk30 ihO I1 y6 y7 y8 y9 hy6 hy7 hy8 hq1 thr1 hmv
        have hm9 := q_nx_le hu9 k
        have hk9 : vb_cnt 9 (vf_new (vf_q (vs_l σ) (vs_x σ) (vs_t σ)) (fun c => vx_mvs (vs_l σ) (vf_s (vs_x σ) c) k)) ≤ 9 := vb_cnt_le _ _
        have huk : vb_cnt 9 (vf_new (vf_q (vs_l σ) (vs_x σ) (vs_t σ)) (fun c => vx_mvs (vs_l σ) (vf_s (vs_x σ) c) k)) = (fun k => vc_unl (q_row (vs_l σ) (vs_x σ) (vc_fit (vs_l σ) (vs_x σ) (vs_t σ)) k) (vc_fit (vs_l σ) (vs_x σ) (vs_t σ)).length) k := vf_unl hs3 k
        have hst : q_nx (fun k => vc_unl (q_row (vs_l σ) (vs_x σ) (vc_fit (vs_l σ) (vs_x σ) (vs_t σ)) k) (vc_fit (vs_l σ) (vs_x σ) (vs_t σ)).length) (k + 1) = if (q_nx (fun k => vc_unl (q_row (vs_l σ) (vs_x σ) (vc_fit (vs_l σ) (vs_x σ) (vs_t σ)) k) (vc_fit (vs_l σ) (vs_x σ) (vs_t σ)).length) k).2 < (fun k => vc_unl (q_row (vs_l σ) (vs_x σ) (vc_fit (vs_l σ) (vs_x σ) (vs_t σ)) k) (vc_fit (vs_l σ) (vs_x σ) (vs_t σ)).length) k then (vb_i k, (fun k => vc_unl (q_row (vs_l σ) (vs_x σ) (vc_fit (vs_l σ) (vs_x σ) (vs_t σ)) k) (vc_fit (vs_l σ) (vs_x σ) (vs_t σ)).length) k) else q_nx (fun k => vc_unl (q_row (vs_l σ) (vs_x σ) (vc_fit (vs_l σ) (vs_x σ) (vs_t σ)) k) (vc_fit (vs_l σ) (vs_x σ) (vs_t σ)).length) k := rfl
        rw [← huk] at hst
        have mid : k < 30 → ∀ c, c ≤ 9 → ∀ (y8 y9 : Value), y8.category = 1 → mm_W G d 230 (mm_blk 230 42) [.ref 60, .int (vb_i 0), .int (vb_set 9 (vf_q (vs_l σ) (vs_x σ) (vs_t σ))), .int (q_nx (fun k => vc_unl (q_row (vs_l σ) (vs_x σ) (vc_fit (vs_l σ) (vs_x σ) (vs_t σ)) k) (vc_fit (vs_l σ) (vs_x σ) (vs_t σ)).length) k).1, .int (vb_i (q_nx (fun k => vc_unl (q_row (vs_l σ) (vs_x σ) (vc_fit (vs_l σ) (vs_x σ) (vs_t σ)) k) (vc_fit (vs_l σ) (vs_x σ) (vs_t σ)).length) k).2), .int (vb_i k), .int (vb_i (vb_cnt c (vf_new (vf_q (vs_l σ) (vs_x σ) (vs_t σ)) (fun c => vx_mvs (vs_l σ) (vf_s (vs_x σ) c) k)))), .int (vb_i c), y8, y9] [] (I1, P, J, S, nc, ns) (vm_RV (.inl (q_next (vs_l σ) (vs_x σ) (vs_t σ)).1) (fun I' => vm_qf I I') P J S nc ns) := by
          intro hk
          refine vb_down 9 ?_
          intro c hc ihC y8 y9 hy8
          have hcc := vb_cnt_le c (vf_new (vf_q (vs_l σ) (vs_x σ) (vs_t σ)) (fun c => vx_mvs (vs_l σ) (vf_s (vs_x σ) c) k))
          have inn : c < 9 → (vf_q (vs_l σ) (vs_x σ) (vs_t σ)) c = true → ∀ d', d' ≤ c → mm_W G d 230 (mm_blk 230 67) [.ref 60, .int (vb_i 0), .int (vb_set 9 (vf_q (vs_l σ) (vs_x σ) (vs_t σ))), .int (q_nx (fun k => vc_unl (q_row (vs_l σ) (vs_x σ) (vc_fit (vs_l σ) (vs_x σ) (vs_t σ)) k) (vc_fit (vs_l σ) (vs_x σ) (vs_t σ)).length) k).1, .int (vb_i (q_nx (fun k => vc_unl (q_row (vs_l σ) (vs_x σ) (vc_fit (vs_l σ) (vs_x σ) (vs_t σ)) k) (vc_fit (vs_l σ) (vs_x σ) (vs_t σ)).length) k).2), .int (vb_i k), .int (vb_i (vb_cnt c (vf_new (vf_q (vs_l σ) (vs_x σ) (vs_t σ)) (fun c => vx_mvs (vs_l σ) (vf_s (vs_x σ) c) k)))), .int (vb_i c), .int (vb_b ((List.range d').all (fun d => !(vf_q (vs_l σ) (vs_x σ) (vs_t σ)) d || !((fun c => vx_mvs (vs_l σ) (vf_s (vs_x σ) c) k) c == (fun c => vx_mvs (vs_l σ) (vf_s (vs_x σ) c) k) d)))), .int (vb_i d')] [] (I1, P, J, S, nc, ns) (vm_RV (.inl (q_next (vs_l σ) (vs_x σ) (vs_t σ)).1) (fun I' => vm_qf I I') P J S nc ns) := by
            intro hc9 hqc
            refine vb_down c ?_
            intro e he ihE
            have hrs : (List.range (e + 1)).all (fun d => !(vf_q (vs_l σ) (vs_x σ) (vs_t σ)) d || !((fun c => vx_mvs (vs_l σ) (vf_s (vs_x σ) c) k) c == (fun c => vx_mvs (vs_l σ) (vf_s (vs_x σ) c) k) d)) = ((List.range e).all (fun d => !(vf_q (vs_l σ) (vs_x σ) (vs_t σ)) d || !((fun c => vx_mvs (vs_l σ) (vf_s (vs_x σ) c) k) c == (fun c => vx_mvs (vs_l σ) (vf_s (vs_x σ) c) k) d)) && (!(vf_q (vs_l σ) (vs_x σ) (vs_t σ)) e || !((fun c => vx_mvs (vs_l σ) (vf_s (vs_x σ) c) k) c == (fun c => vx_mvs (vs_l σ) (vf_s (vs_x σ) c) k) e))) := by
              rw [List.range_succ, List.all_append]; simp
            obtain ⟨q1, q2⟩ := hvq c hqc
            have hmc := hmv c hc9 q1 q2 k hk
            have hmlc : vx_mvs (vs_l σ) (vf_s (vs_x σ) c) k ≤ 100 := vx_by_le _ _
            have hmle : vx_mvs (vs_l σ) (vf_s (vs_x σ) e) k ≤ 100 := vx_by_le _ _
            refine mm_w1 rfl ?_
            refine mm_w1 rfl ?_
            refine mm_nicge (by omega) (by omega) ?_ ?_
            · intro h71
              refine mm_w1 rfl ?_
              refine mm_w1 rfl ?_
              refine mm_bifeq ?_ ?_
              · intro h134
                refine mm_wv (vb_i 0) rfl (by decide) ?_
                refine mm_nadd ?_
                refine mm_w1 (ls' := [_, _, _, _, _, _, _, _, _, _]) rfl ?_
                refine mm_nincL (ls' := [_, _, _, _, _, _, _, _, _, _]) 1 rfl (by decide) rfl ?_
                refine mm_wgoto ?_
                have ee : e = c := by omega
                have ih := fun y9 => ihC (by omega) (.int (vb_b ((List.range e).all (fun d => !(vf_q (vs_l σ) (vs_x σ) (vs_t σ)) d || !((fun c => vx_mvs (vs_l σ) (vf_s (vs_x σ) c) k) c == (fun c => vx_mvs (vs_l σ) (vf_s (vs_x σ) c) k) d))))) y9 rfl
                have hcs : vb_cnt (c + 1) (vf_new (vf_q (vs_l σ) (vs_x σ) (vs_t σ)) (fun c => vx_mvs (vs_l σ) (vf_s (vs_x σ) c) k)) = vb_cnt c (vf_new (vf_q (vs_l σ) (vs_x σ) (vs_t σ)) (fun c => vx_mvs (vs_l σ) (vf_s (vs_x σ) c) k)) + ((vf_new (vf_q (vs_l σ) (vs_x σ) (vs_t σ)) (fun c => vx_mvs (vs_l σ) (vf_s (vs_x σ) c) k)) c).toNat := rfl
                have hnc : (vf_new (vf_q (vs_l σ) (vs_x σ) (vs_t σ)) (fun c => vx_mvs (vs_l σ) (vf_s (vs_x σ) c) k)) c = (List.range e).all (fun d => !(vf_q (vs_l σ) (vs_x σ) (vs_t σ)) d || !((fun c => vx_mvs (vs_l σ) (vf_s (vs_x σ) c) k) c == (fun c => vx_mvs (vs_l σ) (vf_s (vs_x σ) c) k) d)) := by rw [vf_new, hqc, Bool.true_and, ee]
                rw [hcs, hnc, h134] at ih
                first
                  | exact ih _
                  | (rw [h134] at ih; exact ih _)
                  | (rw [h134]; exact ih _)
              · intro h134
                refine mm_wv (vb_i 1) rfl (by decide) ?_
                refine mm_wgoto ?_
                refine mm_nadd ?_
                refine mm_w1 (ls' := [_, _, _, _, _, _, _, _, _, _]) rfl ?_
                refine mm_nincL (ls' := [_, _, _, _, _, _, _, _, _, _]) 1 rfl (by decide) rfl ?_
                refine mm_wgoto ?_
                have ee : e = c := by omega
                have ih := fun y9 => ihC (by omega) (.int (vb_b ((List.range e).all (fun d => !(vf_q (vs_l σ) (vs_x σ) (vs_t σ)) d || !((fun c => vx_mvs (vs_l σ) (vf_s (vs_x σ) c) k) c == (fun c => vx_mvs (vs_l σ) (vf_s (vs_x σ) c) k) d))))) y9 rfl
                have hcs : vb_cnt (c + 1) (vf_new (vf_q (vs_l σ) (vs_x σ) (vs_t σ)) (fun c => vx_mvs (vs_l σ) (vf_s (vs_x σ) c) k)) = vb_cnt c (vf_new (vf_q (vs_l σ) (vs_x σ) (vs_t σ)) (fun c => vx_mvs (vs_l σ) (vf_s (vs_x σ) c) k)) + ((vf_new (vf_q (vs_l σ) (vs_x σ) (vs_t σ)) (fun c => vx_mvs (vs_l σ) (vf_s (vs_x σ) c) k)) c).toNat := rfl
                have hnc : (vf_new (vf_q (vs_l σ) (vs_x σ) (vs_t σ)) (fun c => vx_mvs (vs_l σ) (vf_s (vs_x σ) c) k)) c = (List.range e).all (fun d => !(vf_q (vs_l σ) (vs_x σ) (vs_t σ)) d || !((fun c => vx_mvs (vs_l σ) (vf_s (vs_x σ) c) k) c == (fun c => vx_mvs (vs_l σ) (vf_s (vs_x σ) c) k) d)) := by rw [vf_new, hqc, Bool.true_and, ee]
                rw [hcs, hnc, h134] at ih
                first
                  | exact ih _
                  | (rw [h134] at ih; exact ih _)
                  | (rw [h134]; exact ih _)
            · intro h71
              refine mm_w1 rfl ?_
              refine mm_bifeq ?_ ?_
              · intro h76
                refine mm_wv (vb_i 0) rfl (by decide) ?_
                refine mm_w1 (ls' := [_, _, _, _, _, _, _, _, _, _]) rfl ?_
                refine mm_nincL (ls' := [_, _, _, _, _, _, _, _, _, _]) 1 rfl (by decide) rfl ?_
                refine mm_wgoto ?_
                have ih := ihE (by omega)
                rw [hrs, h76] at ih
                exact ih
              · intro h76
                refine mm_w1 rfl ?_
                refine mm_w1 rfl ?_
                refine mm_w1 rfl ?_
                refine mm_wv (vb_i 1) rfl (by decide) ?_
                refine mm_wv (vb_b (vb_has _ _)) rfl (vb_shr1 _ (by omega)) ?_
                rw [vf_has (by omega)]
                refine mm_bifeq ?_ ?_
                · intro h85
                  refine mm_wv (vb_i 1) rfl (by decide) ?_
                  refine mm_wgoto ?_
                  refine mm_w1 (ls' := [_, _, _, _, _, _, _, _, _, _]) rfl ?_
                  refine mm_nincL (ls' := [_, _, _, _, _, _, _, _, _, _]) 1 rfl (by decide) rfl ?_
                  refine mm_wgoto ?_
                  have ih := ihE (by omega)
                  rw [hrs, h76, h85] at ih
                  exact ih
                · intro h85
                  obtain ⟨q3, q4⟩ := hvq e h85
                  have hme := hmv e (by omega) q3 q4 k hk
                  refine mm_w1 rfl ?_
                  refine mm_wgr (vM_S60 hM) (by decide) (by decide) (vM_P60_47 hM) (vM_a82 hM) ?_
                  refine mm_wv (vb_i 30) rfl (by decide) ?_
                  refine mm_w1 rfl ?_
                  refine mm_nmul ?_
                  refine mm_w1 rfl ?_
                  refine mm_nadd ?_
                  refine mm_wiav _ (vM_a82 hM) (vM_S82 hM) (by decide) (by omega) hmc ?_
                  refine mm_w1 rfl ?_
                  refine mm_wgr (vM_S60 hM) (by decide) (by decide) (vM_P60_47 hM) (vM_a82 hM) ?_
                  refine mm_wv (vb_i 30) rfl (by decide) ?_
                  refine mm_w1 rfl ?_
                  refine mm_nmul ?_
                  refine mm_w1 rfl ?_
                  refine mm_nadd ?_
                  refine mm_wiav _ (vM_a82 hM) (vM_S82 hM) (by decide) (by omega) hme ?_
                  refine mm_niceq (by omega) (by omega) ?_ ?_
                  · intro h114
                    refine mm_wv (vb_i 0) rfl (by decide) ?_
                    refine mm_w1 (ls' := [_, _, _, _, _, _, _, _, _, _]) rfl ?_
                    refine mm_nincL (ls' := [_, _, _, _, _, _, _, _, _, _]) 1 rfl (by decide) rfl ?_
                    refine mm_wgoto ?_
                    have ih := ihE (by omega)
                    rw [hrs, h76, h85] at ih
                    first
                      | (rw [show ((fun c => vx_mvs (vs_l σ) (vf_s (vs_x σ) c) k) c == (fun c => vx_mvs (vs_l σ) (vf_s (vs_x σ) c) k) e) = true by show (vx_mvs _ _ _ == vx_mvs _ _ _) = true; rw [h114]; simp] at ih; exact ih)
                      | (rw [show ((fun c => vx_mvs (vs_l σ) (vf_s (vs_x σ) c) k) c == (fun c => vx_mvs (vs_l σ) (vf_s (vs_x σ) c) k) e) = false from beq_eq_false_iff_ne.mpr h114] at ih; exact ih)
                  · intro h114
                    refine mm_wv (vb_i 1) rfl (by decide) ?_
                    refine mm_wgoto ?_
                    refine mm_w1 (ls' := [_, _, _, _, _, _, _, _, _, _]) rfl ?_
                    refine mm_nincL (ls' := [_, _, _, _, _, _, _, _, _, _]) 1 rfl (by decide) rfl ?_
                    refine mm_wgoto ?_
                    have ih := ihE (by omega)
                    rw [hrs, h76, h85] at ih
                    first
                      | (rw [show ((fun c => vx_mvs (vs_l σ) (vf_s (vs_x σ) c) k) c == (fun c => vx_mvs (vs_l σ) (vf_s (vs_x σ) c) k) e) = true by show (vx_mvs _ _ _ == vx_mvs _ _ _) = true; rw [h114]; simp] at ih; exact ih)
                      | (rw [show ((fun c => vx_mvs (vs_l σ) (vf_s (vs_x σ) c) k) c == (fun c => vx_mvs (vs_l σ) (vf_s (vs_x σ) c) k) e) = false from beq_eq_false_iff_ne.mpr h114] at ih; exact ih) 
          refine mm_w1 rfl ?_
          refine mm_wv (vb_i 9) rfl (by decide) ?_
          refine mm_nicge (by omega) (by omega) ?_ ?_
          · intro h46
            have ec : c = 9 := by omega
            subst ec
            refine mm_w1 rfl ?_
            refine mm_w1 rfl ?_
            refine mm_nicgt (by omega) (by omega) ?_ ?_
            · intro h155
              refine mm_w1 rfl ?_
              refine mm_w1 (ls' := [_, _, _, _, _, _, _, _, _, _]) rfl ?_
              refine mm_w1 rfl ?_
              refine mm_w1 (ls' := [_, _, _, _, _, _, _, _, _, _]) rfl ?_
              refine mm_nincL (ls' := [_, _, _, _, _, _, _, _, _, _]) 1 rfl (by decide) rfl ?_
              refine mm_wgoto ?_
              have ih := fun y6 y7 y8 y9 a b c => ihO (by omega) I1 y6 y7 y8 y9 a b c hq1 thr1 hmv
              rw [hst] at ih
              first
                | (rw [if_pos h155] at ih; exact ih _ _ _ _ rfl rfl hy8)
                | (rw [if_neg h155] at ih; exact ih _ _ _ _ rfl rfl hy8)
            · intro h155
              refine mm_wgoto ?_
              refine mm_nincL (ls' := [_, _, _, _, _, _, _, _, _, _]) 1 rfl (by decide) rfl ?_
              refine mm_wgoto ?_
              have ih := fun y6 y7 y8 y9 a b c => ihO (by omega) I1 y6 y7 y8 y9 a b c hq1 thr1 hmv
              rw [hst] at ih
              first
                | (rw [if_pos h155] at ih; exact ih _ _ _ _ rfl rfl hy8)
                | (rw [if_neg h155] at ih; exact ih _ _ _ _ rfl rfl hy8)
          · intro h46
            refine mm_w1 rfl ?_
            refine mm_w1 rfl ?_
            refine mm_w1 rfl ?_
            refine mm_wv (vb_i 1) rfl (by decide) ?_
            refine mm_wv (vb_b (vb_has _ _)) rfl (vb_shr1 _ (by omega)) ?_
            rw [vf_has (by omega)]
            refine mm_bifne ?_ ?_
            · intro h55
              refine mm_wv (vb_i 1) rfl (by decide) ?_
              refine mm_w1 (ls' := [_, _, _, _, _, _, _, _, _, _]) rfl ?_
              refine mm_wv (vb_i 0) rfl (by decide) ?_
              refine mm_w1 (ls' := [_, _, _, _, _, _, _, _, _, _]) rfl ?_
              exact inn (by omega) h55 0 (by omega)
            · intro h55
              refine mm_wgoto ?_
              refine mm_nincL (ls' := [_, _, _, _, _, _, _, _, _, _]) 1 rfl (by decide) rfl ?_
              refine mm_wgoto ?_
              have ih := ihC (by omega) y8 y9 hy8
              have hcs : vb_cnt (c + 1) (vf_new (vf_q (vs_l σ) (vs_x σ) (vs_t σ)) (fun c => vx_mvs (vs_l σ) (vf_s (vs_x σ) c) k)) = vb_cnt c (vf_new (vf_q (vs_l σ) (vs_x σ) (vs_t σ)) (fun c => vx_mvs (vs_l σ) (vf_s (vs_x σ) c) k)) + ((vf_new (vf_q (vs_l σ) (vs_x σ) (vs_t σ)) (fun c => vx_mvs (vs_l σ) (vf_s (vs_x σ) c) k)) c).toNat := rfl
              have hnc : (vf_new (vf_q (vs_l σ) (vs_x σ) (vs_t σ)) (fun c => vx_mvs (vs_l σ) (vf_s (vs_x σ) c) k)) c = false := by rw [vf_new, h55]; rfl
              rw [hcs, hnc] at ih
              exact ih  
        refine mm_w1 rfl ?_
        refine mm_wv (vb_i 30) rfl (by decide) ?_
        refine mm_nicge (by omega) (by omega) ?_ ?_
        · intro h33
          refine mm_w1 rfl ?_
          refine mm_nifne (by omega) ?_ ?_
          · intro h175
            exact absurd rfl h175
          · intro h175
            refine mm_w1 rfl ?_
            refine mm_wgoto ?_
            refine mm_wr rfl rfl rfl ?_
            have e : k = 30 := by omega
            subst e
            exact ⟨_, _, rfl, hq1, rfl, thr1⟩
        · intro h33
          refine mm_wv (vb_i 0) rfl (by decide) ?_
          refine mm_w1 (ls' := [_, _, _, _, _, _, _, _, _, _]) rfl ?_
          refine mm_wv (vb_i 0) rfl (by decide) ?_
          refine mm_w1 (ls' := [_, _, _, _, _, _, _, _, _, _]) rfl ?_
          exact mid (by omega) 0 (by omega) _ _ hy8
        )
      show mm_W _ _ 230 (mm_blk 230 0) [.ref 60, .int (vb_i 0), .null, .null, .null, .null, .null, .null, .null, .null] [] _ _
      refine mm_w1 rfl ?_
      refine mm_wv (vb_i 0) rfl (by decide) ?_
      refine mm_wpiN (vM_S60 hM) (by decide) (by decide) ?_
      intro I1 hI1
      have hq1 : vm_qf I I1 := by rw [hI1]; exact vm_qf.thr _
      have dN1 := dN.qf hq1
      have dM1 := vmd_l dN1
      have hR1 := vmd_x dN1
      have thr1 : I1 60 0 = vb_i 0 := by rw [hI1, vb_up1]
      refine mm_w1 rfl ?_
      refine mm_w1 rfl ?_
      refine mm_wv (vb_i 1) rfl (by decide) ?_
      refine mm_cvp (vb_cv (vM_S60 hM) rfl rfl rfl rfl) (by decide) (by omega) (m_isW_t hM thr1 (by rw [hw]; rfl) (by decide) (by omega)) ?_
      refine mm_nifne (by decide) (fun _ => ?_) (fun h => absurd h (by decide))
      refine mm_w1 rfl ?_
      refine mm_cvi (vb_cv (vM_S60 hM) rfl rfl rfl rfl) (by decide) (by omega) (m_fit hM dN1 hI0 hlb (by omega) thr1) ?_
      intro I2 hq02
      obtain ⟨hqq2, thr2, hmv2⟩ := hq02
      have hq2 := hq1.tr hqq2
      have dN2 := dN.qf hq2
      have dM2 := vmd_l dN2
      have hR2 := vmd_x dN2
      refine mm_w1 (ls' := [_, _, _, _, _, _, _, _, _, _]) rfl ?_
      refine mm_wv (-1) rfl (by decide) ?_
      refine mm_w1 (ls' := [_, _, _, _, _, _, _, _, _, _]) rfl ?_
      refine mm_wv (vb_i 0) rfl (by decide) ?_
      refine mm_w1 (ls' := [_, _, _, _, _, _, _, _, _, _]) rfl ?_
      refine mm_wv (vb_i 0) rfl (by decide) ?_
      refine mm_w1 (ls' := [_, _, _, _, _, _, _, _, _, _]) rfl ?_
      exact outer 0 (by omega) _ _ _ _ _ rfl rfl rfl hq2 thr2 hmv2
    · rw [show sp_next σ (vb_i 1) = .inl (vb_i (q_next (vs_l σ) (vs_x σ) (vs_t σ)).2) by simp only [sp_next, hw, Nat.one_ne_zero, if_false]]
      have hvq : ∀ c, (vf_q (vs_l σ) (vs_x σ) (vs_t σ)) c = true → c / 3 < vb_sc (vs_l σ) ∧ c % 3 < vb_sc (vs_l σ) := fun c h => by
        simp only [vf_q, Bool.and_eq_true, decide_eq_true_eq] at h
        exact h.1
      have hu9 : ∀ k, (fun k => vc_unl (q_row (vs_l σ) (vs_x σ) (vc_fit (vs_l σ) (vs_x σ) (vs_t σ)) k) (vc_fit (vs_l σ) (vs_x σ) (vs_t σ)).length) k ≤ 9 := fun k => by
        exact Nat.le_trans (Nat.le_of_eq (vf_unl hs3 k).symm) (vb_cnt_le _ _)
      have outer := vb_down (p := fun k => ∀ (I1 : Nat → Nat → Int32) (y6 y7 y8 y9 : Value), y6.category = 1 → y7.category = 1 → y8.category = 1 → vm_qf I I1 → I1 60 0 = vb_i 0 → (∀ c, c < 9 → c / 3 < vb_sc (vs_l σ) → c % 3 < vb_sc (vs_l σ) → ∀ k, k < 30 → I1 82 (30 * c + k) = vb_i (vx_mvs (vs_l σ) (vf_s (vs_x σ) c) k)) → mm_W G d 230 (mm_blk 230 29) [.ref 60, .int (vb_i 1), .int (vb_set 9 (vf_q (vs_l σ) (vs_x σ) (vs_t σ))), .int (q_nx (fun k => vc_unl (q_row (vs_l σ) (vs_x σ) (vc_fit (vs_l σ) (vs_x σ) (vs_t σ)) k) (vc_fit (vs_l σ) (vs_x σ) (vs_t σ)).length) k).1, .int (vb_i (q_nx (fun k => vc_unl (q_row (vs_l σ) (vs_x σ) (vc_fit (vs_l σ) (vs_x σ) (vs_t σ)) k) (vc_fit (vs_l σ) (vs_x σ) (vs_t σ)).length) k).2), .int (vb_i k), y6, y7, y8, y9] [] (I1, P, J, S, nc, ns) (vm_RV (.inl (vb_i (q_next (vs_l σ) (vs_x σ) (vs_t σ)).2)) (fun I' => vm_qf I I') P J S nc ns)) 30 (by
        intro k hk30 ihO I1 y6 y7 y8 y9 hy6 hy7 hy8 hq1 thr1 hmv
        have hm9 := q_nx_le hu9 k
        have hk9 : vb_cnt 9 (vf_new (vf_q (vs_l σ) (vs_x σ) (vs_t σ)) (fun c => vx_mvs (vs_l σ) (vf_s (vs_x σ) c) k)) ≤ 9 := vb_cnt_le _ _
        have huk : vb_cnt 9 (vf_new (vf_q (vs_l σ) (vs_x σ) (vs_t σ)) (fun c => vx_mvs (vs_l σ) (vf_s (vs_x σ) c) k)) = (fun k => vc_unl (q_row (vs_l σ) (vs_x σ) (vc_fit (vs_l σ) (vs_x σ) (vs_t σ)) k) (vc_fit (vs_l σ) (vs_x σ) (vs_t σ)).length) k := vf_unl hs3 k
        have hst : q_nx (fun k => vc_unl (q_row (vs_l σ) (vs_x σ) (vc_fit (vs_l σ) (vs_x σ) (vs_t σ)) k) (vc_fit (vs_l σ) (vs_x σ) (vs_t σ)).length) (k + 1) = if (q_nx (fun k => vc_unl (q_row (vs_l σ) (vs_x σ) (vc_fit (vs_l σ) (vs_x σ) (vs_t σ)) k) (vc_fit (vs_l σ) (vs_x σ) (vs_t σ)).length) k).2 < (fun k => vc_unl (q_row (vs_l σ) (vs_x σ) (vc_fit (vs_l σ) (vs_x σ) (vs_t σ)) k) (vc_fit (vs_l σ) (vs_x σ) (vs_t σ)).length) k then (vb_i k, (fun k => vc_unl (q_row (vs_l σ) (vs_x σ) (vc_fit (vs_l σ) (vs_x σ) (vs_t σ)) k) (vc_fit (vs_l σ) (vs_x σ) (vs_t σ)).length) k) else q_nx (fun k => vc_unl (q_row (vs_l σ) (vs_x σ) (vc_fit (vs_l σ) (vs_x σ) (vs_t σ)) k) (vc_fit (vs_l σ) (vs_x σ) (vs_t σ)).length) k := rfl
        rw [← huk] at hst
        have mid : k < 30 → ∀ c, c ≤ 9 → ∀ (y8 y9 : Value), y8.category = 1 → mm_W G d 230 (mm_blk 230 42) [.ref 60, .int (vb_i 1), .int (vb_set 9 (vf_q (vs_l σ) (vs_x σ) (vs_t σ))), .int (q_nx (fun k => vc_unl (q_row (vs_l σ) (vs_x σ) (vc_fit (vs_l σ) (vs_x σ) (vs_t σ)) k) (vc_fit (vs_l σ) (vs_x σ) (vs_t σ)).length) k).1, .int (vb_i (q_nx (fun k => vc_unl (q_row (vs_l σ) (vs_x σ) (vc_fit (vs_l σ) (vs_x σ) (vs_t σ)) k) (vc_fit (vs_l σ) (vs_x σ) (vs_t σ)).length) k).2), .int (vb_i k), .int (vb_i (vb_cnt c (vf_new (vf_q (vs_l σ) (vs_x σ) (vs_t σ)) (fun c => vx_mvs (vs_l σ) (vf_s (vs_x σ) c) k)))), .int (vb_i c), y8, y9] [] (I1, P, J, S, nc, ns) (vm_RV (.inl (vb_i (q_next (vs_l σ) (vs_x σ) (vs_t σ)).2)) (fun I' => vm_qf I I') P J S nc ns) := by
          intro hk
          refine vb_down 9 ?_
          intro c hc ihC y8 y9 hy8
          have hcc := vb_cnt_le c (vf_new (vf_q (vs_l σ) (vs_x σ) (vs_t σ)) (fun c => vx_mvs (vs_l σ) (vf_s (vs_x σ) c) k))
          have inn : c < 9 → (vf_q (vs_l σ) (vs_x σ) (vs_t σ)) c = true → ∀ d', d' ≤ c → mm_W G d 230 (mm_blk 230 67) [.ref 60, .int (vb_i 1), .int (vb_set 9 (vf_q (vs_l σ) (vs_x σ) (vs_t σ))), .int (q_nx (fun k => vc_unl (q_row (vs_l σ) (vs_x σ) (vc_fit (vs_l σ) (vs_x σ) (vs_t σ)) k) (vc_fit (vs_l σ) (vs_x σ) (vs_t σ)).length) k).1, .int (vb_i (q_nx (fun k => vc_unl (q_row (vs_l σ) (vs_x σ) (vc_fit (vs_l σ) (vs_x σ) (vs_t σ)) k) (vc_fit (vs_l σ) (vs_x σ) (vs_t σ)).length) k).2), .int (vb_i k), .int (vb_i (vb_cnt c (vf_new (vf_q (vs_l σ) (vs_x σ) (vs_t σ)) (fun c => vx_mvs (vs_l σ) (vf_s (vs_x σ) c) k)))), .int (vb_i c), .int (vb_b ((List.range d').all (fun d => !(vf_q (vs_l σ) (vs_x σ) (vs_t σ)) d || !((fun c => vx_mvs (vs_l σ) (vf_s (vs_x σ) c) k) c == (fun c => vx_mvs (vs_l σ) (vf_s (vs_x σ) c) k) d)))), .int (vb_i d')] [] (I1, P, J, S, nc, ns) (vm_RV (.inl (vb_i (q_next (vs_l σ) (vs_x σ) (vs_t σ)).2)) (fun I' => vm_qf I I') P J S nc ns) := by
            intro hc9 hqc
            refine vb_down c ?_
            intro e he ihE
            have hrs : (List.range (e + 1)).all (fun d => !(vf_q (vs_l σ) (vs_x σ) (vs_t σ)) d || !((fun c => vx_mvs (vs_l σ) (vf_s (vs_x σ) c) k) c == (fun c => vx_mvs (vs_l σ) (vf_s (vs_x σ) c) k) d)) = ((List.range e).all (fun d => !(vf_q (vs_l σ) (vs_x σ) (vs_t σ)) d || !((fun c => vx_mvs (vs_l σ) (vf_s (vs_x σ) c) k) c == (fun c => vx_mvs (vs_l σ) (vf_s (vs_x σ) c) k) d)) && (!(vf_q (vs_l σ) (vs_x σ) (vs_t σ)) e || !((fun c => vx_mvs (vs_l σ) (vf_s (vs_x σ) c) k) c == (fun c => vx_mvs (vs_l σ) (vf_s (vs_x σ) c) k) e))) := by
              rw [List.range_succ, List.all_append]; simp
            obtain ⟨q1, q2⟩ := hvq c hqc
            have hmc := hmv c hc9 q1 q2 k hk
            have hmlc : vx_mvs (vs_l σ) (vf_s (vs_x σ) c) k ≤ 100 := vx_by_le _ _
            have hmle : vx_mvs (vs_l σ) (vf_s (vs_x σ) e) k ≤ 100 := vx_by_le _ _
            refine mm_w1 rfl ?_
            refine mm_w1 rfl ?_
            refine mm_nicge (by omega) (by omega) ?_ ?_
            · intro h71
              refine mm_w1 rfl ?_
              refine mm_w1 rfl ?_
              refine mm_bifeq ?_ ?_
              · intro h134
                refine mm_wv (vb_i 0) rfl (by decide) ?_
                refine mm_nadd ?_
                refine mm_w1 (ls' := [_, _, _, _, _, _, _, _, _, _]) rfl ?_
                refine mm_nincL (ls' := [_, _, _, _, _, _, _, _, _, _]) 1 rfl (by decide) rfl ?_
                refine mm_wgoto ?_
                have ee : e = c := by omega
                have ih := fun y9 => ihC (by omega) (.int (vb_b ((List.range e).all (fun d => !(vf_q (vs_l σ) (vs_x σ) (vs_t σ)) d || !((fun c => vx_mvs (vs_l σ) (vf_s (vs_x σ) c) k) c == (fun c => vx_mvs (vs_l σ) (vf_s (vs_x σ) c) k) d))))) y9 rfl
                have hcs : vb_cnt (c + 1) (vf_new (vf_q (vs_l σ) (vs_x σ) (vs_t σ)) (fun c => vx_mvs (vs_l σ) (vf_s (vs_x σ) c) k)) = vb_cnt c (vf_new (vf_q (vs_l σ) (vs_x σ) (vs_t σ)) (fun c => vx_mvs (vs_l σ) (vf_s (vs_x σ) c) k)) + ((vf_new (vf_q (vs_l σ) (vs_x σ) (vs_t σ)) (fun c => vx_mvs (vs_l σ) (vf_s (vs_x σ) c) k)) c).toNat := rfl
                have hnc : (vf_new (vf_q (vs_l σ) (vs_x σ) (vs_t σ)) (fun c => vx_mvs (vs_l σ) (vf_s (vs_x σ) c) k)) c = (List.range e).all (fun d => !(vf_q (vs_l σ) (vs_x σ) (vs_t σ)) d || !((fun c => vx_mvs (vs_l σ) (vf_s (vs_x σ) c) k) c == (fun c => vx_mvs (vs_l σ) (vf_s (vs_x σ) c) k) d)) := by rw [vf_new, hqc, Bool.true_and, ee]
                rw [hcs, hnc, h134] at ih
                first
                  | exact ih _
                  | (rw [h134] at ih; exact ih _)
                  | (rw [h134]; exact ih _)
              · intro h134
                refine mm_wv (vb_i 1) rfl (by decide) ?_
                refine mm_wgoto ?_
                refine mm_nadd ?_
                refine mm_w1 (ls' := [_, _, _, _, _, _, _, _, _, _]) rfl ?_
                refine mm_nincL (ls' := [_, _, _, _, _, _, _, _, _, _]) 1 rfl (by decide) rfl ?_
                refine mm_wgoto ?_
                have ee : e = c := by omega
                have ih := fun y9 => ihC (by omega) (.int (vb_b ((List.range e).all (fun d => !(vf_q (vs_l σ) (vs_x σ) (vs_t σ)) d || !((fun c => vx_mvs (vs_l σ) (vf_s (vs_x σ) c) k) c == (fun c => vx_mvs (vs_l σ) (vf_s (vs_x σ) c) k) d))))) y9 rfl
                have hcs : vb_cnt (c + 1) (vf_new (vf_q (vs_l σ) (vs_x σ) (vs_t σ)) (fun c => vx_mvs (vs_l σ) (vf_s (vs_x σ) c) k)) = vb_cnt c (vf_new (vf_q (vs_l σ) (vs_x σ) (vs_t σ)) (fun c => vx_mvs (vs_l σ) (vf_s (vs_x σ) c) k)) + ((vf_new (vf_q (vs_l σ) (vs_x σ) (vs_t σ)) (fun c => vx_mvs (vs_l σ) (vf_s (vs_x σ) c) k)) c).toNat := rfl
                have hnc : (vf_new (vf_q (vs_l σ) (vs_x σ) (vs_t σ)) (fun c => vx_mvs (vs_l σ) (vf_s (vs_x σ) c) k)) c = (List.range e).all (fun d => !(vf_q (vs_l σ) (vs_x σ) (vs_t σ)) d || !((fun c => vx_mvs (vs_l σ) (vf_s (vs_x σ) c) k) c == (fun c => vx_mvs (vs_l σ) (vf_s (vs_x σ) c) k) d)) := by rw [vf_new, hqc, Bool.true_and, ee]
                rw [hcs, hnc, h134] at ih
                first
                  | exact ih _
                  | (rw [h134] at ih; exact ih _)
                  | (rw [h134]; exact ih _)
            · intro h71
              refine mm_w1 rfl ?_
              refine mm_bifeq ?_ ?_
              · intro h76
                refine mm_wv (vb_i 0) rfl (by decide) ?_
                refine mm_w1 (ls' := [_, _, _, _, _, _, _, _, _, _]) rfl ?_
                refine mm_nincL (ls' := [_, _, _, _, _, _, _, _, _, _]) 1 rfl (by decide) rfl ?_
                refine mm_wgoto ?_
                have ih := ihE (by omega)
                rw [hrs, h76] at ih
                exact ih
              · intro h76
                refine mm_w1 rfl ?_
                refine mm_w1 rfl ?_
                refine mm_w1 rfl ?_
                refine mm_wv (vb_i 1) rfl (by decide) ?_
                refine mm_wv (vb_b (vb_has _ _)) rfl (vb_shr1 _ (by omega)) ?_
                rw [vf_has (by omega)]
                refine mm_bifeq ?_ ?_
                · intro h85
                  refine mm_wv (vb_i 1) rfl (by decide) ?_
                  refine mm_wgoto ?_
                  refine mm_w1 (ls' := [_, _, _, _, _, _, _, _, _, _]) rfl ?_
                  refine mm_nincL (ls' := [_, _, _, _, _, _, _, _, _, _]) 1 rfl (by decide) rfl ?_
                  refine mm_wgoto ?_
                  have ih := ihE (by omega)
                  rw [hrs, h76, h85] at ih
                  exact ih
                · intro h85
                  obtain ⟨q3, q4⟩ := hvq e h85
                  have hme := hmv e (by omega) q3 q4 k hk
                  refine mm_w1 rfl ?_
                  refine mm_wgr (vM_S60 hM) (by decide) (by decide) (vM_P60_47 hM) (vM_a82 hM) ?_
                  refine mm_wv (vb_i 30) rfl (by decide) ?_
                  refine mm_w1 rfl ?_
                  refine mm_nmul ?_
                  refine mm_w1 rfl ?_
                  refine mm_nadd ?_
                  refine mm_wiav _ (vM_a82 hM) (vM_S82 hM) (by decide) (by omega) hmc ?_
                  refine mm_w1 rfl ?_
                  refine mm_wgr (vM_S60 hM) (by decide) (by decide) (vM_P60_47 hM) (vM_a82 hM) ?_
                  refine mm_wv (vb_i 30) rfl (by decide) ?_
                  refine mm_w1 rfl ?_
                  refine mm_nmul ?_
                  refine mm_w1 rfl ?_
                  refine mm_nadd ?_
                  refine mm_wiav _ (vM_a82 hM) (vM_S82 hM) (by decide) (by omega) hme ?_
                  refine mm_niceq (by omega) (by omega) ?_ ?_
                  · intro h114
                    refine mm_wv (vb_i 0) rfl (by decide) ?_
                    refine mm_w1 (ls' := [_, _, _, _, _, _, _, _, _, _]) rfl ?_
                    refine mm_nincL (ls' := [_, _, _, _, _, _, _, _, _, _]) 1 rfl (by decide) rfl ?_
                    refine mm_wgoto ?_
                    have ih := ihE (by omega)
                    rw [hrs, h76, h85] at ih
                    first
                      | (rw [show ((fun c => vx_mvs (vs_l σ) (vf_s (vs_x σ) c) k) c == (fun c => vx_mvs (vs_l σ) (vf_s (vs_x σ) c) k) e) = true by show (vx_mvs _ _ _ == vx_mvs _ _ _) = true; rw [h114]; simp] at ih; exact ih)
                      | (rw [show ((fun c => vx_mvs (vs_l σ) (vf_s (vs_x σ) c) k) c == (fun c => vx_mvs (vs_l σ) (vf_s (vs_x σ) c) k) e) = false from beq_eq_false_iff_ne.mpr h114] at ih; exact ih)
                  · intro h114
                    refine mm_wv (vb_i 1) rfl (by decide) ?_
                    refine mm_wgoto ?_
                    refine mm_w1 (ls' := [_, _, _, _, _, _, _, _, _, _]) rfl ?_
                    refine mm_nincL (ls' := [_, _, _, _, _, _, _, _, _, _]) 1 rfl (by decide) rfl ?_
                    refine mm_wgoto ?_
                    have ih := ihE (by omega)
                    rw [hrs, h76, h85] at ih
                    first
                      | (rw [show ((fun c => vx_mvs (vs_l σ) (vf_s (vs_x σ) c) k) c == (fun c => vx_mvs (vs_l σ) (vf_s (vs_x σ) c) k) e) = true by show (vx_mvs _ _ _ == vx_mvs _ _ _) = true; rw [h114]; simp] at ih; exact ih)
                      | (rw [show ((fun c => vx_mvs (vs_l σ) (vf_s (vs_x σ) c) k) c == (fun c => vx_mvs (vs_l σ) (vf_s (vs_x σ) c) k) e) = false from beq_eq_false_iff_ne.mpr h114] at ih; exact ih) 
          refine mm_w1 rfl ?_
          refine mm_wv (vb_i 9) rfl (by decide) ?_
          refine mm_nicge (by omega) (by omega) ?_ ?_
          · intro h46
            have ec : c = 9 := by omega
            subst ec
            refine mm_w1 rfl ?_
            refine mm_w1 rfl ?_
            refine mm_nicgt (by omega) (by omega) ?_ ?_
            · intro h155
              refine mm_w1 rfl ?_
              refine mm_w1 (ls' := [_, _, _, _, _, _, _, _, _, _]) rfl ?_
              refine mm_w1 rfl ?_
              refine mm_w1 (ls' := [_, _, _, _, _, _, _, _, _, _]) rfl ?_
              refine mm_nincL (ls' := [_, _, _, _, _, _, _, _, _, _]) 1 rfl (by decide) rfl ?_
              refine mm_wgoto ?_
              have ih := fun y6 y7 y8 y9 a b c => ihO (by omega) I1 y6 y7 y8 y9 a b c hq1 thr1 hmv
              rw [hst] at ih
              first
                | (rw [if_pos h155] at ih; exact ih _ _ _ _ rfl rfl hy8)
                | (rw [if_neg h155] at ih; exact ih _ _ _ _ rfl rfl hy8)
            · intro h155
              refine mm_wgoto ?_
              refine mm_nincL (ls' := [_, _, _, _, _, _, _, _, _, _]) 1 rfl (by decide) rfl ?_
              refine mm_wgoto ?_
              have ih := fun y6 y7 y8 y9 a b c => ihO (by omega) I1 y6 y7 y8 y9 a b c hq1 thr1 hmv
              rw [hst] at ih
              first
                | (rw [if_pos h155] at ih; exact ih _ _ _ _ rfl rfl hy8)
                | (rw [if_neg h155] at ih; exact ih _ _ _ _ rfl rfl hy8)
          · intro h46
            refine mm_w1 rfl ?_
            refine mm_w1 rfl ?_
            refine mm_w1 rfl ?_
            refine mm_wv (vb_i 1) rfl (by decide) ?_
            refine mm_wv (vb_b (vb_has _ _)) rfl (vb_shr1 _ (by omega)) ?_
            rw [vf_has (by omega)]
            refine mm_bifne ?_ ?_
            · intro h55
              refine mm_wv (vb_i 1) rfl (by decide) ?_
              refine mm_w1 (ls' := [_, _, _, _, _, _, _, _, _, _]) rfl ?_
              refine mm_wv (vb_i 0) rfl (by decide) ?_
              refine mm_w1 (ls' := [_, _, _, _, _, _, _, _, _, _]) rfl ?_
              exact inn (by omega) h55 0 (by omega)
            · intro h55
              refine mm_wgoto ?_
              refine mm_nincL (ls' := [_, _, _, _, _, _, _, _, _, _]) 1 rfl (by decide) rfl ?_
              refine mm_wgoto ?_
              have ih := ihC (by omega) y8 y9 hy8
              have hcs : vb_cnt (c + 1) (vf_new (vf_q (vs_l σ) (vs_x σ) (vs_t σ)) (fun c => vx_mvs (vs_l σ) (vf_s (vs_x σ) c) k)) = vb_cnt c (vf_new (vf_q (vs_l σ) (vs_x σ) (vs_t σ)) (fun c => vx_mvs (vs_l σ) (vf_s (vs_x σ) c) k)) + ((vf_new (vf_q (vs_l σ) (vs_x σ) (vs_t σ)) (fun c => vx_mvs (vs_l σ) (vf_s (vs_x σ) c) k)) c).toNat := rfl
              have hnc : (vf_new (vf_q (vs_l σ) (vs_x σ) (vs_t σ)) (fun c => vx_mvs (vs_l σ) (vf_s (vs_x σ) c) k)) c = false := by rw [vf_new, h55]; rfl
              rw [hcs, hnc] at ih
              exact ih  
        refine mm_w1 rfl ?_
        refine mm_wv (vb_i 30) rfl (by decide) ?_
        refine mm_nicge (by omega) (by omega) ?_ ?_
        · intro h33
          refine mm_w1 rfl ?_
          refine mm_nifne (by omega) ?_ ?_
          · intro h175
            refine mm_w1 rfl ?_
            refine mm_wr rfl rfl rfl ?_
            have e : k = 30 := by omega
            subst e
            exact ⟨_, _, rfl, hq1, rfl, thr1⟩
          · intro h175
            exact absurd h175 (by decide)
        · intro h33
          refine mm_wv (vb_i 0) rfl (by decide) ?_
          refine mm_w1 (ls' := [_, _, _, _, _, _, _, _, _, _]) rfl ?_
          refine mm_wv (vb_i 0) rfl (by decide) ?_
          refine mm_w1 (ls' := [_, _, _, _, _, _, _, _, _, _]) rfl ?_
          exact mid (by omega) 0 (by omega) _ _ hy8
        )
      show mm_W _ _ 230 (mm_blk 230 0) [.ref 60, .int (vb_i 1), .null, .null, .null, .null, .null, .null, .null, .null] [] _ _
      refine mm_w1 rfl ?_
      refine mm_wv (vb_i 0) rfl (by decide) ?_
      refine mm_wpiN (vM_S60 hM) (by decide) (by decide) ?_
      intro I1 hI1
      have hq1 : vm_qf I I1 := by rw [hI1]; exact vm_qf.thr _
      have dN1 := dN.qf hq1
      have dM1 := vmd_l dN1
      have hR1 := vmd_x dN1
      have thr1 : I1 60 0 = vb_i 0 := by rw [hI1, vb_up1]
      refine mm_w1 rfl ?_
      refine mm_w1 rfl ?_
      refine mm_wv (vb_i 1) rfl (by decide) ?_
      refine mm_cvp (vb_cv (vM_S60 hM) rfl rfl rfl rfl) (by decide) (by omega) (m_isW_t hM thr1 (by rw [hw]; rfl) (by decide) (by omega)) ?_
      refine mm_nifne (by decide) (fun _ => ?_) (fun h => absurd h (by decide))
      refine mm_w1 rfl ?_
      refine mm_cvi (vb_cv (vM_S60 hM) rfl rfl rfl rfl) (by decide) (by omega) (m_fit hM dN1 hI0 hlb (by omega) thr1) ?_
      intro I2 hq02
      obtain ⟨hqq2, thr2, hmv2⟩ := hq02
      have hq2 := hq1.tr hqq2
      have dN2 := dN.qf hq2
      have dM2 := vmd_l dN2
      have hR2 := vmd_x dN2
      refine mm_w1 (ls' := [_, _, _, _, _, _, _, _, _, _]) rfl ?_
      refine mm_wv (-1) rfl (by decide) ?_
      refine mm_w1 (ls' := [_, _, _, _, _, _, _, _, _, _]) rfl ?_
      refine mm_wv (vb_i 0) rfl (by decide) ?_
      refine mm_w1 (ls' := [_, _, _, _, _, _, _, _, _, _]) rfl ?_
      refine mm_wv (vb_i 0) rfl (by decide) ?_
      refine mm_w1 (ls' := [_, _, _, _, _, _, _, _, _, _]) rfl ?_
      exact outer 0 (by omega) _ _ _ _ _ rfl rfl rfl hq2 thr2 hmv2
end NSTY
