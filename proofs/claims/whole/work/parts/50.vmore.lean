def q_row (ℓ : vb_L) (x : vb_X) (fs : List Nat) (k i : Nat) : Int32 := vb_told (vx_mvs ℓ (vx_sty x (fs.getD i 0 / 10) (fs.getD i 0 % 10)) k)
def q_nx (u : Nat → Nat) : Nat → Int32 × Nat
  | 0 => (-1, 0)
  | k + 1 => if (q_nx u k).2 < u k then (vb_i k, u k) else q_nx u k
def q_next (ℓ : vb_L) (x : vb_X) (ss : List (Nat × Nat)) : Int32 × Nat := q_nx (fun k => vc_unl (q_row ℓ x (vc_fit ℓ x ss) k) (vc_fit ℓ x ss).length) 30
theorem q_nx_le {u : Nat → Nat} (hu : ∀ k, u k ≤ 9) : ∀ k, (q_nx u k).2 ≤ 9
  | 0 => Nat.zero_le _
  | k + 1 => by simp only [q_nx]; split; exact hu k; exact q_nx_le hu k
def q_keeps (ℓ : vb_L) (x : vb_X) (s : Nat) : Bool := (vb_ms ℓ (vx_s x s) (vx_s x (1 - s)) (vb_i (vx_e x))).all (fun m => !decide (q_la ℓ x s 100 1 < q_la ℓ x s m 1))
def q_owes (ℓ : vb_L) (x : vb_X) (s : Nat) : Int32 := vb_sum (vb_n ℓ) (fun v => if vb_has (vx_f x s) v then vb_wo ℓ v * vx_b x (10 * (1 - s) + v) else 0)
def vb_ns (n : Nat) (f : Nat → Nat) : Nat := match n with
  | 0 => 0
  | n + 1 => vb_ns n f + f n
theorem vb_ns_le {n : Nat} {f : Nat → Nat} {c : Nat} (h : ∀ v, v < n → f v ≤ c) : vb_ns n f ≤ n * c := by
  induction n with
  | zero => simp [vb_ns]
  | succ n ih =>
    simp only [vb_ns]
    have := ih (fun v hv => h v (by omega))
    have := h n (by omega)
    rw [Nat.succ_mul]; omega
def q_fr1 (ℓ : vb_L) (x : vb_X) (v : Nat) : Nat := if vb_has (vx_f x 0) v then vb_cnt 10 (vb_has (vb_nb ℓ v &&& vx_f x 1)) else 0
def q_front (ℓ : vb_L) (x : vb_X) : Nat := vb_ns (vb_n ℓ) (q_fr1 ℓ x)
def q_pt (ℓ : vb_L) (l0 : Int32) : Nat → Int32 × Nat
  | 0 => (l0, 0)
  | i + 1 => if vb_has (q_pt ℓ l0 i).1 i then ((q_pt ℓ l0 i).1 &&& ~~~ vb_grow ℓ (q_pt ℓ l0 i).1 10 (vb_bit i), (q_pt ℓ l0 i).2 + 1) else q_pt ℓ l0 i
theorem q_pt_le (ℓ : vb_L) (l0 : Int32) : ∀ i, (q_pt ℓ l0 i).2 ≤ i
  | 0 => Nat.le_refl _
  | i + 1 => by
    simp only [q_pt]
    have := q_pt_le ℓ l0 i
    split
    · show _ + 1 ≤ _; omega
    · omega
def sp_styles (σ : vb_St) (w : Int32) : Int32 ⊕ Nat := match vb_idx 2 w with
  | none => .inr 0
  | some w => .inl (if w = 0 then vb_i (vc_fit (vs_l σ) (vs_x σ) (vs_t σ)).length else vc_1st (vc_fit (vs_l σ) (vs_x σ) (vs_t σ)))
def sp_next (σ : vb_St) (w : Int32) : Int32 ⊕ Nat := match vb_idx 2 w with
  | none => .inr 0
  | some w => .inl (if w = 0 then (q_next (vs_l σ) (vs_x σ) (vs_t σ)).1 else vb_i (q_next (vs_l σ) (vs_x σ) (vs_t σ)).2)
def sp_treaty (σ : vb_St) : Int32 ⊕ Nat := .inl (vb_b (q_keeps (vs_l σ) (vs_x σ) 0 && q_keeps (vs_l σ) (vs_x σ) 1))
def sp_owes (σ : vb_St) (s : Int32) : Int32 ⊕ Nat := match vb_idx 2 s with
  | none => .inr 0
  | some s => .inl (q_owes (vs_l σ) (vs_x σ) s)
def sp_front (σ : vb_St) : Int32 ⊕ Nat := .inl (vb_i (q_front (vs_l σ) (vs_x σ)))
def sp_parts (σ : vb_St) (s : Int32) : Int32 ⊕ Nat := match vb_idx 2 s with
  | none => .inr 0
  | some s => .inl (vb_i (q_pt (vs_l σ) (vx_f (vs_x σ) s) (vb_n (vs_l σ))).2)
section MORE
variable {G : mm_G} {d : Nat} {I : Nat → Nat → Int32} {P : Nat → Nat → Nat} {J : Nat → Nat → Int64} {S : List (Nat × Nat)} {nc ns : Nat} {μ : mm_M} {σ : vb_St} {L : Nat}
theorem v_styles (hV : vb_isV P S L) (dV : vb_VD σ L I) (hI : vs_inv σ) (hd : 20 ≤ d) (w : Int32) : mm_C G d 101 [.ref 0, .int w] (I, P, J, S, nc, ns) (vb_RV (sp_styles σ w) (fun I' => vb_fr (vb_vs L) I I') P J S nc ns) := by
  have hL := vV_hL hV
  have hX := vV_hX hV
  have hY := vV_hY hV
  have hA := vV_hA hV
  have hT := vV_hT hV
  have hC := vV_hC hV
  have hL17 := vV_L17 hV
  have hF : vb_fr (vb_vs L) I I := vb_fr.rf
  have dL := vd_l dV
  have dX := vd_x dV
  have dA := vd_a dV
  have dT := vd_t dV
  have hn := vl_10 dL
  have he := vx_e2 dX
  have ht := vx_t2 (vs_x σ)
  obtain ⟨hIl, hIx, _⟩ := hI
  obtain ⟨hok, hwf, he9⟩ := hIx
  cases hw : vb_idx 2 w with
  | none =>
    rw [show sp_styles σ w = .inr 0 by simp only [sp_styles, hw]]
    show mm_W _ _ 101 (mm_blk 101 0) [.ref 0, .int w] [] _ _
    refine mm_w1 rfl ?_
    refine mm_wifeq ?_ ?_
    · intro h1
      rw [h1] at hw; exact absurd hw (by decide)
    · intro h1
      refine mm_w1 rfl ?_
      refine mm_wv (vb_i 1) rfl (by decide) ?_
      refine mm_wiceq ?_ ?_
      · intro h6
        rw [h6] at hw; exact absurd hw (by decide)
      · intro h6
        refine mm_wthr rfl rfl rfl rfl ?_
        exact ⟨I, hF, rfl⟩
  | some w_ =>
    obtain ⟨lw, rfl⟩ := vb_idx_some (by decide) hw
    have hw2 : w_ = 0 ∨ w_ = 1 := by omega
    rcases hw2 with rfl | rfl
    · rw [show sp_styles σ (vb_i 0) = .inl (vb_i (vc_fit (vs_l σ) (vs_x σ) (vs_t σ)).length) by simp only [sp_styles, hw, if_true]]
      show mm_W _ _ 101 (mm_blk 101 0) [.ref 0, .int (vb_i 0)] [] _ _
      refine mm_w1 rfl ?_
      refine mm_nifeq (by omega) ?_ ?_
      · intro h1
        refine mm_w1 rfl ?_
        refine mm_wgr (vV_S0 hV) (by decide) (by decide) (vV_P0_14 hV) (vC_a0 hC) ?_
        refine mm_w1 rfl ?_
        refine mm_wgr (vV_S0 hV) (by decide) (by decide) (vV_P0_5 hV) (vL_a0 hL) ?_
        refine mm_w1 rfl ?_
        refine mm_wgr (vV_S0 hV) (by decide) (by decide) (vV_P0_6 hV) (vX_a0 hX) ?_
        refine mm_w1 rfl ?_
        refine mm_wgr (vV_S0 hV) (by decide) (by decide) (vV_P0_7 hV) (vX_a0 hY) ?_
        refine mm_w1 rfl ?_
        refine mm_wgr (vV_S0 hV) (by decide) (by decide) (vV_P0_9 hV) (vT_a0 hT) ?_
        refine mm_cvn (vb_cv (vC_S0 hC) rfl rfl rfl rfl) (by decide) (by omega) (c_find (ℓ := vs_l σ) hC hL hX hY hT dL dX dT (by omega) (by omega) (by omega) (by omega) (by omega) (by omega) (by omega) (by omega) (by omega) (by omega) (by omega)) ?_
        intro I1 hq1
        obtain ⟨dC1, _, _, _, hf1⟩ := hq1
        have hF1 : vb_fr (vb_vs L) I I1 := hF.tr (hf1.mono (fun a h => by exact h.elim (fun h => h.elim Or.inl (fun h => Or.inr (Or.inl h))) (fun h => Or.inr (Or.inr (Or.inl h)))))
        have dV1 := dV.fr hL17 hF1
        have dL1 := vd_l dV1
        have dX1 := vd_x dV1
        refine mm_w1 rfl ?_
        refine mm_nifne (by omega) ?_ ?_
        · intro h44
          exact absurd rfl h44
        · intro h44
          refine mm_w1 rfl ?_
          refine mm_wgr (vV_S0 hV) (by decide) (by decide) (vV_P0_14 hV) (vC_a0 hC) ?_
          refine mm_wgiv (vb_i (vc_fit (vs_l σ) (vs_x σ) (vs_t σ)).length) (vC_S0 hC) (by decide) (by decide) dC1.1 ?_
          refine mm_wgoto ?_
          refine mm_wr rfl rfl rfl ?_
          exact ⟨_, hF1, rfl⟩
      · intro h1
        exact absurd rfl h1
    · rw [show sp_styles σ (vb_i 1) = .inl (vc_1st (vc_fit (vs_l σ) (vs_x σ) (vs_t σ))) by simp only [sp_styles, hw, Nat.one_ne_zero, if_false]]
      show mm_W _ _ 101 (mm_blk 101 0) [.ref 0, .int (vb_i 1)] [] _ _
      refine mm_w1 rfl ?_
      refine mm_nifeq (by omega) ?_ ?_
      · intro h1
        exact absurd h1 (by decide)
      · intro h1
        refine mm_w1 rfl ?_
        refine mm_wv (vb_i 1) rfl (by decide) ?_
        refine mm_niceq (by omega) (by omega) ?_ ?_
        · intro h6
          refine mm_w1 rfl ?_
          refine mm_wgr (vV_S0 hV) (by decide) (by decide) (vV_P0_14 hV) (vC_a0 hC) ?_
          refine mm_w1 rfl ?_
          refine mm_wgr (vV_S0 hV) (by decide) (by decide) (vV_P0_5 hV) (vL_a0 hL) ?_
          refine mm_w1 rfl ?_
          refine mm_wgr (vV_S0 hV) (by decide) (by decide) (vV_P0_6 hV) (vX_a0 hX) ?_
          refine mm_w1 rfl ?_
          refine mm_wgr (vV_S0 hV) (by decide) (by decide) (vV_P0_7 hV) (vX_a0 hY) ?_
          refine mm_w1 rfl ?_
          refine mm_wgr (vV_S0 hV) (by decide) (by decide) (vV_P0_9 hV) (vT_a0 hT) ?_
          refine mm_cvn (vb_cv (vC_S0 hC) rfl rfl rfl rfl) (by decide) (by omega) (c_find (ℓ := vs_l σ) hC hL hX hY hT dL dX dT (by omega) (by omega) (by omega) (by omega) (by omega) (by omega) (by omega) (by omega) (by omega) (by omega) (by omega)) ?_
          intro I1 hq1
          obtain ⟨dC1, _, _, _, hf1⟩ := hq1
          have hF1 : vb_fr (vb_vs L) I I1 := hF.tr (hf1.mono (fun a h => by exact h.elim (fun h => h.elim Or.inl (fun h => Or.inr (Or.inl h))) (fun h => Or.inr (Or.inr (Or.inl h)))))
          have dV1 := dV.fr hL17 hF1
          have dL1 := vd_l dV1
          have dX1 := vd_x dV1
          refine mm_w1 rfl ?_
          refine mm_nifne (by omega) ?_ ?_
          · intro h44
            refine mm_w1 rfl ?_
            refine mm_wgr (vV_S0 hV) (by decide) (by decide) (vV_P0_14 hV) (vC_a0 hC) ?_
            refine mm_wgiv _ (vC_S0 hC) (by decide) (by decide) dC1.2.2.1 ?_
            refine mm_wr rfl rfl rfl ?_
            exact ⟨_, hF1, rfl⟩
          · intro h44
            exact absurd h44 (by decide)
        · intro h6
          exact absurd rfl h6
theorem v_next (hV : vb_isV P S L) (dV : vb_VD σ L I) (hI : vs_inv σ) (hd : 20 ≤ d) (w : Int32) : mm_C G d 102 [.ref 0, .int w] (I, P, J, S, nc, ns) (vb_RV (sp_next σ w) (fun I' => vb_fr (vb_vs L) I I') P J S nc ns) := by
  have hL := vV_hL hV
  have hX := vV_hX hV
  have hY := vV_hY hV
  have hA := vV_hA hV
  have hT := vV_hT hV
  have hC := vV_hC hV
  have hL17 := vV_L17 hV
  have hF : vb_fr (vb_vs L) I I := vb_fr.rf
  have dL := vd_l dV
  have dX := vd_x dV
  have dA := vd_a dV
  have dT := vd_t dV
  have hn := vl_10 dL
  have he := vx_e2 dX
  have ht := vx_t2 (vs_x σ)
  obtain ⟨hIl, hIx, _⟩ := hI
  obtain ⟨hok, hwf, he9⟩ := hIx
  cases hw : vb_idx 2 w with
  | none =>
    rw [show sp_next σ w = .inr 0 by simp only [sp_next, hw]]
    show mm_W _ _ 102 (mm_blk 102 0) [.ref 0, .int w, .null, .null, .null, .null] [] _ _
    refine mm_w1 rfl ?_
    refine mm_wifeq ?_ ?_
    · intro h1
      rw [h1] at hw; exact absurd hw (by decide)
    · intro h1
      refine mm_w1 rfl ?_
      refine mm_wv (vb_i 1) rfl (by decide) ?_
      refine mm_wiceq ?_ ?_
      · intro h6
        rw [h6] at hw; exact absurd hw (by decide)
      · intro h6
        refine mm_wthr rfl rfl rfl rfl ?_
        exact ⟨I, hF, rfl⟩
  | some w_ =>
    obtain ⟨lw, rfl⟩ := vb_idx_some (by decide) hw
    have hw2 : w_ = 0 ∨ w_ = 1 := by omega
    rcases hw2 with rfl | rfl
    · rw [show sp_next σ (vb_i 0) = .inl (q_next (vs_l σ) (vs_x σ) (vs_t σ)).1 by simp only [sp_next, hw, if_true]]
      have loop : ∀ j, j ≤ 30 → ∀ (I1 : Nat → Nat → Int32) (y5 : Value), vb_fr (vb_vs L) I I1 → vb_CD (vs_l σ) (vs_x σ) (vc_fit (vs_l σ) (vs_x σ) (vs_t σ)) 57 I1 → mm_W G d 102 (mm_blk 102 50) [.ref 0, .int (vb_i 0), .int (q_nx (fun k => vc_unl (q_row (vs_l σ) (vs_x σ) (vc_fit (vs_l σ) (vs_x σ) (vs_t σ)) k) (vc_fit (vs_l σ) (vs_x σ) (vs_t σ)).length) j).1, .int (vb_i (q_nx (fun k => vc_unl (q_row (vs_l σ) (vs_x σ) (vc_fit (vs_l σ) (vs_x σ) (vs_t σ)) k) (vc_fit (vs_l σ) (vs_x σ) (vs_t σ)).length) j).2), .int (vb_i j), y5] [] (I1, P, J, S, nc, ns) (vb_RV (.inl (q_next (vs_l σ) (vs_x σ) (vs_t σ)).1) (fun I' => vb_fr (vb_vs L) I I') P J S nc ns) := by
        refine vb_down 30 ?_
        intro j hj ih I1 y5 hF1 dC1
        have hfl := dC1.2.1
        have hu9 : ∀ k, (fun k => vc_unl (q_row (vs_l σ) (vs_x σ) (vc_fit (vs_l σ) (vs_x σ) (vs_t σ)) k) (vc_fit (vs_l σ) (vs_x σ) (vs_t σ)).length) k ≤ 9 := fun k => Nat.le_trans (vb_cnt_le _ _) hfl
        have hm9 := q_nx_le hu9 j
        have hj9 : vc_unl (q_row (vs_l σ) (vs_x σ) (vc_fit (vs_l σ) (vs_x σ) (vs_t σ)) j) (vc_fit (vs_l σ) (vs_x σ) (vs_t σ)).length ≤ 9 := hu9 j
        have hst : q_nx (fun k => vc_unl (q_row (vs_l σ) (vs_x σ) (vc_fit (vs_l σ) (vs_x σ) (vs_t σ)) k) (vc_fit (vs_l σ) (vs_x σ) (vs_t σ)).length) (j + 1) = if (q_nx (fun k => vc_unl (q_row (vs_l σ) (vs_x σ) (vc_fit (vs_l σ) (vs_x σ) (vs_t σ)) k) (vc_fit (vs_l σ) (vs_x σ) (vs_t σ)).length) j).2 < (fun k => vc_unl (q_row (vs_l σ) (vs_x σ) (vc_fit (vs_l σ) (vs_x σ) (vs_t σ)) k) (vc_fit (vs_l σ) (vs_x σ) (vs_t σ)).length) j then (vb_i j, (fun k => vc_unl (q_row (vs_l σ) (vs_x σ) (vc_fit (vs_l σ) (vs_x σ) (vs_t σ)) k) (vc_fit (vs_l σ) (vs_x σ) (vs_t σ)).length) j) else q_nx (fun k => vc_unl (q_row (vs_l σ) (vs_x σ) (vc_fit (vs_l σ) (vs_x σ) (vs_t σ)) k) (vc_fit (vs_l σ) (vs_x σ) (vs_t σ)).length) j := rfl
        refine mm_w1 rfl ?_
        refine mm_wv (vb_i 30) rfl (by decide) ?_
        refine mm_nicge (by omega) (by omega) ?_ ?_
        · intro h54
          refine mm_w1 rfl ?_
          refine mm_nifne (by omega) ?_ ?_
          · intro h87
            exact absurd rfl h87
          · intro h87
            refine mm_w1 rfl ?_
            refine mm_wgoto ?_
            refine mm_wr rfl rfl rfl ?_
            refine ⟨_, hF1, ?_⟩
            have e : j = 30 := by omega
            subst e; rfl
        · intro h54
          refine mm_w1 rfl ?_
          refine mm_wgr (vV_S0 hV) (by decide) (by decide) (vV_P0_14 hV) (vC_a0 hC) ?_
          refine mm_w1 rfl ?_
          refine mm_cvp (vb_cv (vC_S0 hC) rfl rfl rfl rfl) (by decide) (by omega) (c_unl (ℓ := vs_l σ) (x := vs_x σ) (fs := vc_fit (vs_l σ) (vs_x σ) (vs_t σ)) (f := q_row (vs_l σ) (vs_x σ) (vc_fit (vs_l σ) (vs_x σ) (vs_t σ)) j) hC dC1 (by omega) (fun i hi => by
              have hz : (vc_fit (vs_l σ) (vs_x σ) (vs_t σ))[i]? = some ((vc_fit (vs_l σ) (vs_x σ) (vs_t σ)).getD i 0) := by rw [List.getD_eq_getElem?_getD, List.getElem?_eq_getElem hi]; rfl
              exact dC1.2.2.2 i _ hz j (by omega))) ?_
          refine mm_w1 (ls' := [_, _, _, _, _, _]) rfl ?_
          refine mm_w1 rfl ?_
          refine mm_w1 rfl ?_
          refine mm_nicle (by omega) (by omega) ?_ ?_
          · intro h71
            refine mm_nincL (ls' := [_, _, _, _, _, _]) 1 rfl (by decide) rfl ?_
            refine mm_wgoto ?_
            have ih := ih (by omega) I1 (.int (vb_i ((fun k => vc_unl (q_row (vs_l σ) (vs_x σ) (vc_fit (vs_l σ) (vs_x σ) (vs_t σ)) k) (vc_fit (vs_l σ) (vs_x σ) (vs_t σ)).length) j))) hF1 dC1
            rw [hst] at ih
            first
              | (rw [if_pos h71] at ih; exact ih)
              | (rw [if_neg h71] at ih; exact ih)
          · intro h71
            refine mm_w1 rfl ?_
            refine mm_w1 (ls' := [_, _, _, _, _, _]) rfl ?_
            refine mm_w1 rfl ?_
            refine mm_w1 (ls' := [_, _, _, _, _, _]) rfl ?_
            refine mm_nincL (ls' := [_, _, _, _, _, _]) 1 rfl (by decide) rfl ?_
            refine mm_wgoto ?_
            have ih := ih (by omega) I1 (.int (vb_i ((fun k => vc_unl (q_row (vs_l σ) (vs_x σ) (vc_fit (vs_l σ) (vs_x σ) (vs_t σ)) k) (vc_fit (vs_l σ) (vs_x σ) (vs_t σ)).length) j))) hF1 dC1
            rw [hst] at ih
            first
              | (rw [if_pos h71] at ih; exact ih)
              | (rw [if_neg h71] at ih; exact ih)
      show mm_W _ _ 102 (mm_blk 102 0) [.ref 0, .int (vb_i 0), .null, .null, .null, .null] [] _ _
      refine mm_w1 rfl ?_
      refine mm_nifeq (by omega) ?_ ?_
      · intro h1
        refine mm_w1 rfl ?_
        refine mm_wgr (vV_S0 hV) (by decide) (by decide) (vV_P0_14 hV) (vC_a0 hC) ?_
        refine mm_w1 rfl ?_
        refine mm_wgr (vV_S0 hV) (by decide) (by decide) (vV_P0_5 hV) (vL_a0 hL) ?_
        refine mm_w1 rfl ?_
        refine mm_wgr (vV_S0 hV) (by decide) (by decide) (vV_P0_6 hV) (vX_a0 hX) ?_
        refine mm_w1 rfl ?_
        refine mm_wgr (vV_S0 hV) (by decide) (by decide) (vV_P0_7 hV) (vX_a0 hY) ?_
        refine mm_w1 rfl ?_
        refine mm_wgr (vV_S0 hV) (by decide) (by decide) (vV_P0_9 hV) (vT_a0 hT) ?_
        refine mm_cvn (vb_cv (vC_S0 hC) rfl rfl rfl rfl) (by decide) (by omega) (c_find (ℓ := vs_l σ) hC hL hX hY hT dL dX dT (by omega) (by omega) (by omega) (by omega) (by omega) (by omega) (by omega) (by omega) (by omega) (by omega) (by omega)) ?_
        intro I1 hq1
        obtain ⟨dC1, _, _, _, hf1⟩ := hq1
        have hF1 : vb_fr (vb_vs L) I I1 := hF.tr (hf1.mono (fun a h => by exact h.elim (fun h => h.elim Or.inl (fun h => Or.inr (Or.inl h))) (fun h => Or.inr (Or.inr (Or.inl h)))))
        have dV1 := dV.fr hL17 hF1
        have dL1 := vd_l dV1
        have dX1 := vd_x dV1
        refine mm_wv (-1) rfl (by decide) ?_
        refine mm_w1 (ls' := [_, _, _, _, _, _]) rfl ?_
        refine mm_wv (vb_i 0) rfl (by decide) ?_
        refine mm_w1 (ls' := [_, _, _, _, _, _]) rfl ?_
        refine mm_wv (vb_i 0) rfl (by decide) ?_
        refine mm_w1 (ls' := [_, _, _, _, _, _]) rfl ?_
        exact loop 0 (by omega) _ _ hF1 dC1
      · intro h1
        exact absurd rfl h1
    · rw [show sp_next σ (vb_i 1) = .inl (vb_i (q_next (vs_l σ) (vs_x σ) (vs_t σ)).2) by simp only [sp_next, hw, Nat.one_ne_zero, if_false]]
      have loop : ∀ j, j ≤ 30 → ∀ (I1 : Nat → Nat → Int32) (y5 : Value), vb_fr (vb_vs L) I I1 → vb_CD (vs_l σ) (vs_x σ) (vc_fit (vs_l σ) (vs_x σ) (vs_t σ)) 57 I1 → mm_W G d 102 (mm_blk 102 50) [.ref 0, .int (vb_i 1), .int (q_nx (fun k => vc_unl (q_row (vs_l σ) (vs_x σ) (vc_fit (vs_l σ) (vs_x σ) (vs_t σ)) k) (vc_fit (vs_l σ) (vs_x σ) (vs_t σ)).length) j).1, .int (vb_i (q_nx (fun k => vc_unl (q_row (vs_l σ) (vs_x σ) (vc_fit (vs_l σ) (vs_x σ) (vs_t σ)) k) (vc_fit (vs_l σ) (vs_x σ) (vs_t σ)).length) j).2), .int (vb_i j), y5] [] (I1, P, J, S, nc, ns) (vb_RV (.inl (vb_i (q_next (vs_l σ) (vs_x σ) (vs_t σ)).2)) (fun I' => vb_fr (vb_vs L) I I') P J S nc ns) := by
        refine vb_down 30 ?_
        intro j hj ih I1 y5 hF1 dC1
        have hfl := dC1.2.1
        have hu9 : ∀ k, (fun k => vc_unl (q_row (vs_l σ) (vs_x σ) (vc_fit (vs_l σ) (vs_x σ) (vs_t σ)) k) (vc_fit (vs_l σ) (vs_x σ) (vs_t σ)).length) k ≤ 9 := fun k => Nat.le_trans (vb_cnt_le _ _) hfl
        have hm9 := q_nx_le hu9 j
        have hj9 : vc_unl (q_row (vs_l σ) (vs_x σ) (vc_fit (vs_l σ) (vs_x σ) (vs_t σ)) j) (vc_fit (vs_l σ) (vs_x σ) (vs_t σ)).length ≤ 9 := hu9 j
        have hst : q_nx (fun k => vc_unl (q_row (vs_l σ) (vs_x σ) (vc_fit (vs_l σ) (vs_x σ) (vs_t σ)) k) (vc_fit (vs_l σ) (vs_x σ) (vs_t σ)).length) (j + 1) = if (q_nx (fun k => vc_unl (q_row (vs_l σ) (vs_x σ) (vc_fit (vs_l σ) (vs_x σ) (vs_t σ)) k) (vc_fit (vs_l σ) (vs_x σ) (vs_t σ)).length) j).2 < (fun k => vc_unl (q_row (vs_l σ) (vs_x σ) (vc_fit (vs_l σ) (vs_x σ) (vs_t σ)) k) (vc_fit (vs_l σ) (vs_x σ) (vs_t σ)).length) j then (vb_i j, (fun k => vc_unl (q_row (vs_l σ) (vs_x σ) (vc_fit (vs_l σ) (vs_x σ) (vs_t σ)) k) (vc_fit (vs_l σ) (vs_x σ) (vs_t σ)).length) j) else q_nx (fun k => vc_unl (q_row (vs_l σ) (vs_x σ) (vc_fit (vs_l σ) (vs_x σ) (vs_t σ)) k) (vc_fit (vs_l σ) (vs_x σ) (vs_t σ)).length) j := rfl
        refine mm_w1 rfl ?_
        refine mm_wv (vb_i 30) rfl (by decide) ?_
        refine mm_nicge (by omega) (by omega) ?_ ?_
        · intro h54
          refine mm_w1 rfl ?_
          refine mm_nifne (by omega) ?_ ?_
          · intro h87
            refine mm_w1 rfl ?_
            refine mm_wr rfl rfl rfl ?_
            refine ⟨_, hF1, ?_⟩
            have e : j = 30 := by omega
            subst e; rfl
          · intro h87
            exact absurd h87 (by decide)
        · intro h54
          refine mm_w1 rfl ?_
          refine mm_wgr (vV_S0 hV) (by decide) (by decide) (vV_P0_14 hV) (vC_a0 hC) ?_
          refine mm_w1 rfl ?_
          refine mm_cvp (vb_cv (vC_S0 hC) rfl rfl rfl rfl) (by decide) (by omega) (c_unl (ℓ := vs_l σ) (x := vs_x σ) (fs := vc_fit (vs_l σ) (vs_x σ) (vs_t σ)) (f := q_row (vs_l σ) (vs_x σ) (vc_fit (vs_l σ) (vs_x σ) (vs_t σ)) j) hC dC1 (by omega) (fun i hi => by
              have hz : (vc_fit (vs_l σ) (vs_x σ) (vs_t σ))[i]? = some ((vc_fit (vs_l σ) (vs_x σ) (vs_t σ)).getD i 0) := by rw [List.getD_eq_getElem?_getD, List.getElem?_eq_getElem hi]; rfl
              exact dC1.2.2.2 i _ hz j (by omega))) ?_
          refine mm_w1 (ls' := [_, _, _, _, _, _]) rfl ?_
          refine mm_w1 rfl ?_
          refine mm_w1 rfl ?_
          refine mm_nicle (by omega) (by omega) ?_ ?_
          · intro h71
            refine mm_nincL (ls' := [_, _, _, _, _, _]) 1 rfl (by decide) rfl ?_
            refine mm_wgoto ?_
            have ih := ih (by omega) I1 (.int (vb_i ((fun k => vc_unl (q_row (vs_l σ) (vs_x σ) (vc_fit (vs_l σ) (vs_x σ) (vs_t σ)) k) (vc_fit (vs_l σ) (vs_x σ) (vs_t σ)).length) j))) hF1 dC1
            rw [hst] at ih
            first
              | (rw [if_pos h71] at ih; exact ih)
              | (rw [if_neg h71] at ih; exact ih)
          · intro h71
            refine mm_w1 rfl ?_
            refine mm_w1 (ls' := [_, _, _, _, _, _]) rfl ?_
            refine mm_w1 rfl ?_
            refine mm_w1 (ls' := [_, _, _, _, _, _]) rfl ?_
            refine mm_nincL (ls' := [_, _, _, _, _, _]) 1 rfl (by decide) rfl ?_
            refine mm_wgoto ?_
            have ih := ih (by omega) I1 (.int (vb_i ((fun k => vc_unl (q_row (vs_l σ) (vs_x σ) (vc_fit (vs_l σ) (vs_x σ) (vs_t σ)) k) (vc_fit (vs_l σ) (vs_x σ) (vs_t σ)).length) j))) hF1 dC1
            rw [hst] at ih
            first
              | (rw [if_pos h71] at ih; exact ih)
              | (rw [if_neg h71] at ih; exact ih)
      show mm_W _ _ 102 (mm_blk 102 0) [.ref 0, .int (vb_i 1), .null, .null, .null, .null] [] _ _
      refine mm_w1 rfl ?_
      refine mm_nifeq (by omega) ?_ ?_
      · intro h1
        exact absurd h1 (by decide)
      · intro h1
        refine mm_w1 rfl ?_
        refine mm_wv (vb_i 1) rfl (by decide) ?_
        refine mm_niceq (by omega) (by omega) ?_ ?_
        · intro h6
          refine mm_w1 rfl ?_
          refine mm_wgr (vV_S0 hV) (by decide) (by decide) (vV_P0_14 hV) (vC_a0 hC) ?_
          refine mm_w1 rfl ?_
          refine mm_wgr (vV_S0 hV) (by decide) (by decide) (vV_P0_5 hV) (vL_a0 hL) ?_
          refine mm_w1 rfl ?_
          refine mm_wgr (vV_S0 hV) (by decide) (by decide) (vV_P0_6 hV) (vX_a0 hX) ?_
          refine mm_w1 rfl ?_
          refine mm_wgr (vV_S0 hV) (by decide) (by decide) (vV_P0_7 hV) (vX_a0 hY) ?_
          refine mm_w1 rfl ?_
          refine mm_wgr (vV_S0 hV) (by decide) (by decide) (vV_P0_9 hV) (vT_a0 hT) ?_
          refine mm_cvn (vb_cv (vC_S0 hC) rfl rfl rfl rfl) (by decide) (by omega) (c_find (ℓ := vs_l σ) hC hL hX hY hT dL dX dT (by omega) (by omega) (by omega) (by omega) (by omega) (by omega) (by omega) (by omega) (by omega) (by omega) (by omega)) ?_
          intro I1 hq1
          obtain ⟨dC1, _, _, _, hf1⟩ := hq1
          have hF1 : vb_fr (vb_vs L) I I1 := hF.tr (hf1.mono (fun a h => by exact h.elim (fun h => h.elim Or.inl (fun h => Or.inr (Or.inl h))) (fun h => Or.inr (Or.inr (Or.inl h)))))
          have dV1 := dV.fr hL17 hF1
          have dL1 := vd_l dV1
          have dX1 := vd_x dV1
          refine mm_wv (-1) rfl (by decide) ?_
          refine mm_w1 (ls' := [_, _, _, _, _, _]) rfl ?_
          refine mm_wv (vb_i 0) rfl (by decide) ?_
          refine mm_w1 (ls' := [_, _, _, _, _, _]) rfl ?_
          refine mm_wv (vb_i 0) rfl (by decide) ?_
          refine mm_w1 (ls' := [_, _, _, _, _, _]) rfl ?_
          exact loop 0 (by omega) _ _ hF1 dC1
        · intro h6
          exact absurd rfl h6
theorem c_keeps (hV : vb_isV P S L) (dV : vb_VD σ L I) {s : Nat} (hs : s < 2) (hwf : vx_wf (vs_l σ) (vs_x σ)) (hd : 11 ≤ d) : mm_C G d 104 [.ref 0, .int (vb_i s)] (I, P, J, S, nc, ns) (vb_R (some (.int (vb_b (q_keeps (vs_l σ) (vs_x σ) s)))) (fun I' => vb_fr (vb_vs L) I I') P J S nc ns) := by
  have hL := vV_hL hV
  have hX := vV_hX hV
  have hY := vV_hY hV
  have hA := vV_hA hV
  have hT := vV_hT hV
  have hC := vV_hC hV
  have hL17 := vV_L17 hV
  have hF : vb_fr (vb_vs L) I I := vb_fr.rf
  have dL := vd_l dV
  have dX := vd_x dV
  have dA := vd_a dV
  have dT := vd_t dV
  have hn := vl_10 dL
  have he := vx_e2 dX
  have ht := vx_t2 (vs_x σ)
  have hlen : (vb_ms (vs_l σ) (vx_s (vs_x σ) s) (vx_s (vs_x σ) (1 - s)) (vb_i (vx_e (vs_x σ)))).length ≤ 36 := vb_ms_len hn (vl_deg dL)
  have loop := vb_down (p := fun i => ∀ (I1 : Nat → Nat → Int32), vb_fr (vb_vs L) I I1 → (∀ j z, (vb_ms (vs_l σ) (vx_s (vs_x σ) s) (vx_s (vs_x σ) (1 - s)) (vb_i (vx_e (vs_x σ))))[j]? = some z → I1 (L + 5) j = vb_i (vb_mv z)) → ((vb_ms (vs_l σ) (vx_s (vs_x σ) s) (vx_s (vs_x σ) (1 - s)) (vb_i (vx_e (vs_x σ)))).drop i).all (fun m => !decide (q_la (vs_l σ) (vs_x σ) s 100 1 < q_la (vs_l σ) (vs_x σ) s m 1)) = q_keeps (vs_l σ) (vs_x σ) s → mm_W G d 104 (mm_blk 104 46) [.ref 0, .int (vb_i s), .int (q_la (vs_l σ) (vs_x σ) s 100 1), .int (vb_i (vb_ms (vs_l σ) (vx_s (vs_x σ) s) (vx_s (vs_x σ) (1 - s)) (vb_i (vx_e (vs_x σ)))).length), .int (vb_i i)] [] (I1, P, J, S, nc, ns) (vb_R (some (.int (vb_b (q_keeps (vs_l σ) (vs_x σ) s)))) (fun I' => vb_fr (vb_vs L) I I') P J S nc ns)) (vb_ms (vs_l σ) (vx_s (vs_x σ) s) (vx_s (vs_x σ) (1 - s)) (vb_i (vx_e (vs_x σ)))).length (by
    intro i hi ih I1 hF1 hmv heq
    have dV1 := dV.fr hL17 hF1
    have dL1 := vd_l dV1
    have dX1 := vd_x dV1
    refine mm_w1 rfl ?_
    refine mm_w1 rfl ?_
    refine mm_nicge (by omega) (by omega) ?_ ?_
    · intro h49
      refine mm_wv (vb_i 1) rfl (by decide) ?_
      refine mm_wr rfl rfl rfl ?_
      rw [List.drop_eq_nil_of_le (by omega)] at heq
      refine ⟨_, hF1, ?_⟩
      rw [← heq]; rfl
    · intro h49
      have hz : (vb_ms (vs_l σ) (vx_s (vs_x σ) s) (vx_s (vs_x σ) (1 - s)) (vb_i (vx_e (vs_x σ))))[i]? = some (vb_ms (vs_l σ) (vx_s (vs_x σ) s) (vx_s (vs_x σ) (1 - s)) (vb_i (vx_e (vs_x σ))))[i] := List.getElem?_eq_getElem h49
      obtain ⟨hz1, hz2, hz3⟩ := vb_ms_lt (List.getElem_mem h49)
      have hI5 : I1 (L + 5) i = vb_told (vb_ms (vs_l σ) (vx_s (vs_x σ) s) (vx_s (vs_x σ) (1 - s)) (vb_i (vx_e (vs_x σ))))[i] := (hmv i _ hz).trans (vb_told_lt hz1).symm
      rw [List.drop_eq_getElem_cons h49, List.all_cons] at heq
      refine mm_w1 rfl ?_
      refine mm_w1 rfl ?_
      refine mm_w1 rfl ?_
      refine mm_wgr (vV_S0 hV) (by decide) (by decide) (vV_P0_5 hV) (vL_a0 hL) ?_
      refine mm_wgr (vL_S0 hL) (by decide) (by decide) (vL_P0_8 hL) (vL_a5 hL) ?_
      refine mm_w1 rfl ?_
      refine mm_wiav _ (vL_a5 hL) (vL_S5 hL) (by decide) (by omega) hI5 ?_
      refine mm_wv (vb_i 2) rfl (by decide) ?_
      refine mm_cvi (vb_cv (vV_S0 hV) rfl rfl rfl rfl) (by decide) (by omega) (c_la (σ := σ) (k := 1) hV dV1 hs (by omega) (by decide) hwf (by omega)) ?_
      intro I2 hf2
      have h52 : I2 (L + 5) = I1 (L + 5) := hf2 _ (by simp only [vb_sc2]; omega)
      have hF2 : vb_fr (vb_vs L) I I2 := hF1.tr (hf2.mono (fun a h => by exact Or.inl (Or.inr h)))
      have dV2 := dV.fr hL17 hF2
      have dL2 := vd_l dV2
      have dX2 := vd_x dV2
      refine mm_w1 rfl ?_
      refine mm_wicle ?_ ?_
      · intro h69
        refine mm_nincL (ls' := [_, _, _, _, _]) 1 rfl (by decide) rfl ?_
        refine mm_wgoto ?_
        refine ih (by omega) _ hF2 (fun j z hj => by rw [h52]; exact hmv j z hj) ?_
        rw [← heq, decide_eq_false h69]; rfl
      · intro h69
        refine mm_wv (vb_i 0) rfl (by decide) ?_
        refine mm_wr rfl rfl rfl ?_
        refine ⟨_, hF2, ?_⟩
        rw [← heq, decide_eq_true h69]; rfl 
    )
  show mm_W _ _ 104 (mm_blk 104 0) [.ref 0, .int (vb_i s), .null, .null, .null] [] _ _
  refine mm_w1 rfl ?_
  refine mm_w1 rfl ?_
  refine mm_wv (-1) rfl (by decide) ?_
  refine mm_wv (vb_i 2) rfl (by decide) ?_
  refine mm_cvi (vb_cv (vV_S0 hV) rfl rfl rfl rfl) (by decide) (by omega) (c_la (σ := σ) (m := 100) (k := 1) hV dV hs (by decide) (by decide) hwf (by omega)) ?_
  intro I1 hf1
  have hF1 : vb_fr (vb_vs L) I I1 := hF.tr (hf1.mono (fun a h => by exact Or.inl (Or.inr h)))
  have dV1 := dV.fr hL17 hF1
  have dL1 := vd_l dV1
  have dX1 := vd_x dV1
  refine mm_w1 (ls' := [_, _, _, _, _]) rfl ?_
  refine mm_w1 rfl ?_
  refine mm_wgr (vV_S0 hV) (by decide) (by decide) (vV_P0_5 hV) (vL_a0 hL) ?_
  refine mm_w1 rfl ?_
  refine mm_wgr (vV_S0 hV) (by decide) (by decide) (vV_P0_6 hV) (vX_a0 hX) ?_
  refine mm_wgr (vX_S0 hX) (by decide) (by decide) (vX_P0_0 hX) (vX_a1 hX) ?_
  refine mm_w1 rfl ?_
  refine mm_wiav _ (vX_a1 hX) (vX_S1 hX) (by decide) (by omega) (vx_hs dX1 (by omega)) ?_
  refine mm_w1 rfl ?_
  refine mm_wgr (vV_S0 hV) (by decide) (by decide) (vV_P0_6 hV) (vX_a0 hX) ?_
  refine mm_wgr (vX_S0 hX) (by decide) (by decide) (vX_P0_0 hX) (vX_a1 hX) ?_
  refine mm_wv (vb_i 1) rfl (by decide) ?_
  refine mm_w1 rfl ?_
  refine mm_nsub (by omega) ?_
  refine mm_wiav _ (vX_a1 hX) (vX_S1 hX) (by decide) (by omega) (vx_hs dX1 (by omega)) ?_
  refine mm_w1 rfl ?_
  refine mm_wgr (vV_S0 hV) (by decide) (by decide) (vV_P0_6 hV) (vX_a0 hX) ?_
  refine mm_wgiv _ (vX_S0 hX) (by decide) (by decide) (vx_he dX1) ?_
  refine mm_cvi (vb_cv (vL_S0 hL) rfl rfl rfl rfl) (by decide) (by omega) (c_list (ℓ := vs_l σ) hL dL1 (by omega)) ?_
  intro I2 hq2
  obtain ⟨hf2, hm2⟩ := hq2
  have hF2 : vb_fr (vb_vs L) I I2 := hF1.tr (hf2.mono (fun a h => by exact Or.inl h))
  have dV2 := dV.fr hL17 hF2
  have dL2 := vd_l dV2
  have dX2 := vd_x dV2
  refine mm_w1 (ls' := [_, _, _, _, _]) rfl ?_
  refine mm_wv (vb_i 0) rfl (by decide) ?_
  refine mm_w1 (ls' := [_, _, _, _, _]) rfl ?_
  exact loop 0 (by omega) _ hF2 hm2 rfl
theorem v_treaty (hV : vb_isV P S L) (dV : vb_VD σ L I) (hI : vs_inv σ) (hd : 20 ≤ d) : mm_C G d 103 [.ref 0] (I, P, J, S, nc, ns) (vb_RV (sp_treaty σ) (fun I' => vb_fr (vb_vs L) I I') P J S nc ns) := by
  have hL := vV_hL hV
  have hX := vV_hX hV
  have hY := vV_hY hV
  have hA := vV_hA hV
  have hT := vV_hT hV
  have hC := vV_hC hV
  have hL17 := vV_L17 hV
  have hF : vb_fr (vb_vs L) I I := vb_fr.rf
  have dL := vd_l dV
  have dX := vd_x dV
  have dA := vd_a dV
  have dT := vd_t dV
  have hn := vl_10 dL
  have he := vx_e2 dX
  have ht := vx_t2 (vs_x σ)
  obtain ⟨hIl, hIx, _⟩ := hI
  obtain ⟨hok, hwf, he9⟩ := hIx
  show mm_W _ _ 103 (mm_blk 103 0) [.ref 0] [] _ _
  refine mm_w1 rfl ?_
  refine mm_wv (vb_i 0) rfl (by decide) ?_
  refine mm_cvi (vb_cv (vV_S0 hV) rfl rfl rfl rfl) (by decide) (by omega) (c_keeps (σ := σ) hV dV (by decide) hwf (by omega)) ?_
  intro I1 hf1
  have hF1 : vb_fr (vb_vs L) I I1 := hF.tr (hf1.mono (fun a h => by exact h))
  have dV1 := dV.fr hL17 hF1
  have dL1 := vd_l dV1
  have dX1 := vd_x dV1
  refine mm_bifeq ?_ ?_
  · intro h5
    refine mm_wv (vb_i 0) rfl (by decide) ?_
    refine mm_wr rfl rfl rfl ?_
    refine ⟨_, hF1, ?_⟩
    first
      | (rw [h5, h13]; rfl)
      | (rw [h5]; rfl)
  · intro h5
    refine mm_w1 rfl ?_
    refine mm_wv (vb_i 1) rfl (by decide) ?_
    refine mm_cvi (vb_cv (vV_S0 hV) rfl rfl rfl rfl) (by decide) (by omega) (c_keeps (σ := σ) hV dV1 (by decide) hwf (by omega)) ?_
    intro I2 hf2
    have hF2 : vb_fr (vb_vs L) I I2 := hF1.tr (hf2.mono (fun a h => by exact h))
    have dV2 := dV.fr hL17 hF2
    have dL2 := vd_l dV2
    have dX2 := vd_x dV2
    refine mm_bifeq ?_ ?_
    · intro h13
      refine mm_wv (vb_i 0) rfl (by decide) ?_
      refine mm_wr rfl rfl rfl ?_
      refine ⟨_, hF2, ?_⟩
      first
        | (rw [h5, h13]; rfl)
        | (rw [h5]; rfl)
    · intro h13
      refine mm_wv (vb_i 1) rfl (by decide) ?_
      refine mm_wgoto ?_
      refine mm_wr rfl rfl rfl ?_
      refine ⟨_, hF2, ?_⟩
      first
        | (rw [h5, h13]; rfl)
        | (rw [h5]; rfl)
theorem v_owes (hV : vb_isV P S L) (dV : vb_VD σ L I) (hd : 20 ≤ d) (s : Int32) : mm_C G d 109 [.ref 0, .int s] (I, P, J, S, nc, ns) (vb_RV (sp_owes σ s) (fun I' => vb_fr (vb_vs L) I I') P J S nc ns) := by
  have hL := vV_hL hV
  have hX := vV_hX hV
  have hY := vV_hY hV
  have hA := vV_hA hV
  have hT := vV_hT hV
  have hC := vV_hC hV
  have hL17 := vV_L17 hV
  have hF : vb_fr (vb_vs L) I I := vb_fr.rf
  have dL := vd_l dV
  have dX := vd_x dV
  have dA := vd_a dV
  have dT := vd_t dV
  have hn := vl_10 dL
  have he := vx_e2 dX
  have ht := vx_t2 (vs_x σ)
  cases hs : vb_idx 2 s with
  | none =>
    rw [show sp_owes σ s = .inr 0 by simp only [sp_owes, hs]]
    show mm_W _ _ 109 (mm_blk 109 0) [.ref 0, .int s, .null, .null] [] _ _
    refine mm_w1 rfl ?_
    refine mm_w1 rfl ?_
    refine mm_wcthr (vb_cv (vV_S0 hV) rfl rfl rfl rfl) (by decide) (by omega) (c_needS_no hV hs) rfl ?_
    exact ⟨I, hF, rfl⟩ 
  | some s_ =>
    obtain ⟨ls, rfl⟩ := vb_idx_some (by omega) hs
    rw [show sp_owes σ (vb_i s_) = .inl (q_owes (vs_l σ) (vs_x σ) s_) by simp only [sp_owes, hs]]
    have loop := vb_down (p := fun i => mm_W G d 109 (mm_blk 109 9) [.ref 0, .int (vb_i s_), .int (vb_sum i (fun v => if vb_has (vx_f (vs_x σ) s_) v then vb_wo (vs_l σ) v * vx_b (vs_x σ) (10 * (1 - s_) + v) else 0)), .int (vb_i i)] [] (I, P, J, S, nc, ns) (vb_RV (.inl (q_owes (vs_l σ) (vs_x σ) s_)) (fun I' => vb_fr (vb_vs L) I I') P J S nc ns)) (vb_n (vs_l σ)) (by
      intro i hi ih
      refine mm_w1 rfl ?_
      refine mm_w1 rfl ?_
      refine mm_wgr (vV_S0 hV) (by decide) (by decide) (vV_P0_5 hV) (vL_a0 hL) ?_
      refine mm_wgiv _ (vL_S0 hL) (by decide) (by decide) (vl_n dL) ?_
      refine mm_nicge (by omega) (by omega) ?_ ?_
      · intro h17
        refine mm_w1 rfl ?_
        refine mm_wr rfl rfl rfl ?_
        refine ⟨_, hF, ?_⟩
        rw [show i = vb_n (vs_l σ) by omega]; rfl
      · intro h17
        refine mm_w1 rfl ?_
        refine mm_wgr (vV_S0 hV) (by decide) (by decide) (vV_P0_6 hV) (vX_a0 hX) ?_
        refine mm_wgr (vX_S0 hX) (by decide) (by decide) (vX_P0_1 hX) (vX_a2 hX) ?_
        refine mm_w1 rfl ?_
        refine mm_wiav _ (vX_a2 hX) (vX_S2 hX) (by decide) (by omega) (vx_hf dX (by omega)) ?_
        refine mm_w1 rfl ?_
        refine mm_csp rfl (by decide) (by omega) (c_has (by omega)) ?_
        refine mm_bifeq ?_ ?_
        · intro h33
          refine mm_nincL (ls' := [_, _, _, _]) 1 rfl (by decide) rfl ?_
          refine mm_wgoto ?_
          have ih := ih (by omega)
          simp only [vb_sum, h33] at ih
          first | exact ih | (simp only [Bool.false_eq_true, if_false, Int32.add_zero] at ih; exact ih)
        · intro h33
          refine mm_w1 rfl ?_
          refine mm_w1 rfl ?_
          refine mm_wgr (vV_S0 hV) (by decide) (by decide) (vV_P0_5 hV) (vL_a0 hL) ?_
          refine mm_wgr (vL_S0 hL) (by decide) (by decide) (vL_P0_4 hL) (vL_a1 hL) ?_
          refine mm_w1 rfl ?_
          refine mm_wiav _ (vL_a1 hL) (vL_S1 hL) (by decide) (by omega) (vl_wo dL (by omega)) ?_
          refine mm_w1 rfl ?_
          refine mm_wgr (vV_S0 hV) (by decide) (by decide) (vV_P0_6 hV) (vX_a0 hX) ?_
          refine mm_wgr (vX_S0 hX) (by decide) (by decide) (vX_P0_4 hX) (vX_a5 hX) ?_
          refine mm_wv (vb_i 10) rfl (by decide) ?_
          refine mm_wv (vb_i 1) rfl (by decide) ?_
          refine mm_w1 rfl ?_
          refine mm_nsub (by omega) ?_
          refine mm_nmul ?_
          refine mm_w1 rfl ?_
          refine mm_nadd ?_
          refine mm_wiav _ (vX_a5 hX) (vX_S5 hX) (by decide) (by omega) (vx_hb dX (by omega)) ?_
          refine mm_w1 rfl ?_
          refine mm_w1 rfl ?_
          refine mm_w1 (ls' := [_, _, _, _]) rfl ?_
          refine mm_nincL (ls' := [_, _, _, _]) 1 rfl (by decide) rfl ?_
          refine mm_wgoto ?_
          have ih := ih (by omega)
          simp only [vb_sum, h33] at ih
          first | exact ih | (simp only [Bool.false_eq_true, if_false, Int32.add_zero] at ih; exact ih)
      )
    show mm_W _ _ 109 (mm_blk 109 0) [.ref 0, .int (vb_i s_), .null, .null] [] _ _
    refine mm_w1 rfl ?_
    refine mm_w1 rfl ?_
    refine mm_cvp0 (vb_cv (vV_S0 hV) rfl rfl rfl rfl) (by decide) (by omega) (c_needS hV (by omega)) ?_
    refine mm_wv (vb_i 0) rfl (by decide) ?_
    refine mm_w1 (ls' := [_, _, _, _]) rfl ?_
    refine mm_wv (vb_i 0) rfl (by decide) ?_
    refine mm_w1 (ls' := [_, _, _, _]) rfl ?_
    exact loop 0 (by omega)
theorem v_front (hV : vb_isV P S L) (dV : vb_VD σ L I) (hd : 20 ≤ d) : mm_C G d 110 [.ref 0] (I, P, J, S, nc, ns) (vb_RV (sp_front σ) (fun I' => vb_fr (vb_vs L) I I') P J S nc ns) := by
  have hL := vV_hL hV
  have hX := vV_hX hV
  have hY := vV_hY hV
  have hA := vV_hA hV
  have hT := vV_hT hV
  have hC := vV_hC hV
  have hL17 := vV_L17 hV
  have hF : vb_fr (vb_vs L) I I := vb_fr.rf
  have dL := vd_l dV
  have dX := vd_x dV
  have dA := vd_a dV
  have dT := vd_t dV
  have hn := vl_10 dL
  have he := vx_e2 dX
  have ht := vx_t2 (vs_x σ)
  have hle : ∀ i, i ≤ vb_n (vs_l σ) → vb_ns i (q_fr1 (vs_l σ) (vs_x σ)) ≤ i * 10 := fun i _ => vb_ns_le (fun v _ => by simp only [q_fr1]; split; exact vb_cnt_le _ _; omega)
  have loop := vb_down (p := fun i => mm_W G d 110 (mm_blk 110 4) [.ref 0, .int (vb_i (vb_ns i (q_fr1 (vs_l σ) (vs_x σ)))), .int (vb_i i)] [] (I, P, J, S, nc, ns) (vb_RV (sp_front σ) (fun I' => vb_fr (vb_vs L) I I') P J S nc ns)) (vb_n (vs_l σ)) (by
    intro i hi ih
    have hb := hle i hi
    refine mm_w1 rfl ?_
    refine mm_w1 rfl ?_
    refine mm_wgr (vV_S0 hV) (by decide) (by decide) (vV_P0_5 hV) (vL_a0 hL) ?_
    refine mm_wgiv _ (vL_S0 hL) (by decide) (by decide) (vl_n dL) ?_
    refine mm_nicge (by omega) (by omega) ?_ ?_
    · intro h12
      refine mm_w1 rfl ?_
      refine mm_wr rfl rfl rfl ?_
      refine ⟨_, hF, ?_⟩
      rw [show i = vb_n (vs_l σ) by omega]; rfl
    · intro h12
      refine mm_w1 rfl ?_
      refine mm_wgr (vV_S0 hV) (by decide) (by decide) (vV_P0_6 hV) (vX_a0 hX) ?_
      refine mm_wgr (vX_S0 hX) (by decide) (by decide) (vX_P0_1 hX) (vX_a2 hX) ?_
      refine mm_wv (vb_i 0) rfl (by decide) ?_
      refine mm_wiav _ (vX_a2 hX) (vX_S2 hX) (by decide) (by omega) (vx_hf dX (by omega)) ?_
      refine mm_w1 rfl ?_
      refine mm_csp rfl (by decide) (by omega) (c_has (by omega)) ?_
      refine mm_bifeq ?_ ?_
      · intro h28
        refine mm_nincL (ls' := [_, _, _]) 1 rfl (by decide) rfl ?_
        refine mm_wgoto ?_
        have ih := ih (by omega)
        simp only [vb_ns, q_fr1, h28] at ih
        exact ih
      · intro h28
        refine mm_w1 rfl ?_
        refine mm_w1 rfl ?_
        refine mm_wgr (vV_S0 hV) (by decide) (by decide) (vV_P0_5 hV) (vL_a0 hL) ?_
        refine mm_wgr (vL_S0 hL) (by decide) (by decide) (vL_P0_6 hL) (vL_a3 hL) ?_
        refine mm_w1 rfl ?_
        refine mm_wiav _ (vL_a3 hL) (vL_S3 hL) (by decide) (by omega) (vl_nb dL (by omega)) ?_
        refine mm_w1 rfl ?_
        refine mm_wgr (vV_S0 hV) (by decide) (by decide) (vV_P0_6 hV) (vX_a0 hX) ?_
        refine mm_wgr (vX_S0 hX) (by decide) (by decide) (vX_P0_1 hX) (vX_a2 hX) ?_
        refine mm_wv (vb_i 1) rfl (by decide) ?_
        refine mm_wiav _ (vX_a2 hX) (vX_S2 hX) (by decide) (by omega) (vx_hf dX (by omega)) ?_
        refine mm_w1 rfl ?_
        refine mm_csp rfl (by decide) (by omega) (c_bc (vb_below_and10 hn (vl_nbb dL (by omega)))) ?_
        refine mm_nadd ?_
        refine mm_w1 (ls' := [_, _, _]) rfl ?_
        refine mm_nincL (ls' := [_, _, _]) 1 rfl (by decide) rfl ?_
        refine mm_wgoto ?_
        have ih := ih (by omega)
        simp only [vb_ns, q_fr1, h28] at ih
        exact ih
    )
  show mm_W _ _ 110 (mm_blk 110 0) [.ref 0, .null, .null] [] _ _
  refine mm_wv (vb_i 0) rfl (by decide) ?_
  refine mm_w1 (ls' := [_, _, _]) rfl ?_
  refine mm_wv (vb_i 0) rfl (by decide) ?_
  refine mm_w1 (ls' := [_, _, _]) rfl ?_
  exact loop 0 (by omega)
theorem v_parts (hV : vb_isV P S L) (dV : vb_VD σ L I) (hd : 20 ≤ d) (s : Int32) : mm_C G d 111 [.ref 0, .int s] (I, P, J, S, nc, ns) (vb_RV (sp_parts σ s) (fun I' => vb_fr (vb_vs L) I I') P J S nc ns) := by
  have hL := vV_hL hV
  have hX := vV_hX hV
  have hY := vV_hY hV
  have hA := vV_hA hV
  have hT := vV_hT hV
  have hC := vV_hC hV
  have hL17 := vV_L17 hV
  have hF : vb_fr (vb_vs L) I I := vb_fr.rf
  have dL := vd_l dV
  have dX := vd_x dV
  have dA := vd_a dV
  have dT := vd_t dV
  have hn := vl_10 dL
  have he := vx_e2 dX
  have ht := vx_t2 (vs_x σ)
  cases hs : vb_idx 2 s with
  | none =>
    rw [show sp_parts σ s = .inr 0 by simp only [sp_parts, hs]]
    show mm_W _ _ 111 (mm_blk 111 0) [.ref 0, .int s, .null, .null, .null] [] _ _
    refine mm_w1 rfl ?_
    refine mm_w1 rfl ?_
    refine mm_wcthr (vb_cv (vV_S0 hV) rfl rfl rfl rfl) (by decide) (by omega) (c_needS_no hV hs) rfl ?_
    exact ⟨I, hF, rfl⟩ 
  | some s_ =>
    obtain ⟨ls, rfl⟩ := vb_idx_some (by omega) hs
    rw [show sp_parts σ (vb_i s_) = .inl (vb_i (q_pt (vs_l σ) (vx_f (vs_x σ) s_) (vb_n (vs_l σ))).2) by simp only [sp_parts, hs]]
    have loop := vb_down (p := fun i => mm_W G d 111 (mm_blk 111 20) [.ref 0, .int (vb_i s_), .int (q_pt (vs_l σ) (vx_f (vs_x σ) s_) i).1, .int (vb_i (q_pt (vs_l σ) (vx_f (vs_x σ) s_) i).2), .int (vb_i i)] [] (I, P, J, S, nc, ns) (vb_RV (.inl (vb_i (q_pt (vs_l σ) (vx_f (vs_x σ) s_) (vb_n (vs_l σ))).2)) (fun I' => vb_fr (vb_vs L) I I') P J S nc ns)) (vb_n (vs_l σ)) (by
      intro i hi ih
      have hb := q_pt_le (vs_l σ) (vx_f (vs_x σ) s_) i
      refine mm_w1 rfl ?_
      refine mm_w1 rfl ?_
      refine mm_wgr (vV_S0 hV) (by decide) (by decide) (vV_P0_5 hV) (vL_a0 hL) ?_
      refine mm_wgiv _ (vL_S0 hL) (by decide) (by decide) (vl_n dL) ?_
      refine mm_nicge (by omega) (by omega) ?_ ?_
      · intro h29
        refine mm_w1 rfl ?_
        refine mm_wr rfl rfl rfl ?_
        refine ⟨_, hF, ?_⟩
        rw [show i = vb_n (vs_l σ) by omega]
      · intro h29
        refine mm_w1 rfl ?_
        refine mm_w1 rfl ?_
        refine mm_csp rfl (by decide) (by omega) (c_has (by omega)) ?_
        refine mm_bifeq ?_ ?_
        · intro h38
          refine mm_nincL (ls' := [_, _, _, _, _]) 1 rfl (by decide) rfl ?_
          refine mm_wgoto ?_
          have ih := ih (by omega)
          simp only [q_pt, h38] at ih
          exact ih
        · intro h38
          refine mm_nincL (ls' := [_, _, _, _, _]) 1 rfl (by decide) rfl ?_
          refine mm_w1 rfl ?_
          refine mm_w1 rfl ?_
          refine mm_wgr (vV_S0 hV) (by decide) (by decide) (vV_P0_5 hV) (vL_a0 hL) ?_
          refine mm_w1 rfl ?_
          refine mm_wv (vb_i 1) rfl (by decide) ?_
          refine mm_w1 rfl ?_
          refine mm_nbit (by omega) ?_
          refine mm_cvp (vb_cv (vL_S0 hL) rfl rfl rfl rfl) (by decide) (by omega) (c_reached hL dL (by omega)) ?_
          refine mm_wv (-1) rfl (by decide) ?_
          refine mm_nnot ?_
          refine mm_w1 rfl ?_
          refine mm_w1 (ls' := [_, _, _, _, _]) rfl ?_
          refine mm_nincL (ls' := [_, _, _, _, _]) 1 rfl (by decide) rfl ?_
          refine mm_wgoto ?_
          have ih := ih (by omega)
          simp only [q_pt, h38] at ih
          exact ih
      )
    show mm_W _ _ 111 (mm_blk 111 0) [.ref 0, .int (vb_i s_), .null, .null, .null] [] _ _
    refine mm_w1 rfl ?_
    refine mm_w1 rfl ?_
    refine mm_cvp0 (vb_cv (vV_S0 hV) rfl rfl rfl rfl) (by decide) (by omega) (c_needS hV (by omega)) ?_
    refine mm_w1 rfl ?_
    refine mm_wgr (vV_S0 hV) (by decide) (by decide) (vV_P0_6 hV) (vX_a0 hX) ?_
    refine mm_wgr (vX_S0 hX) (by decide) (by decide) (vX_P0_1 hX) (vX_a2 hX) ?_
    refine mm_w1 rfl ?_
    refine mm_wiav _ (vX_a2 hX) (vX_S2 hX) (by decide) (by omega) (vx_hf dX (by omega)) ?_
    refine mm_w1 (ls' := [_, _, _, _, _]) rfl ?_
    refine mm_wv (vb_i 0) rfl (by decide) ?_
    refine mm_w1 (ls' := [_, _, _, _, _]) rfl ?_
    refine mm_wv (vb_i 0) rfl (by decide) ?_
    refine mm_w1 (ls' := [_, _, _, _, _]) rfl ?_
    exact loop 0 (by omega)
end MORE
