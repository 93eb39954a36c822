/-! what holds of the state between calls -/
def vx_wf (ℓ : vb_L) (x : vb_X) : Prop := (∀ j, j < 2 → vb_below (vb_n ℓ) (vx_s x j) ∧ vb_below (vb_n ℓ) (vx_f x j)) ∧ (∀ v, vb_has (vx_f x 0) v = true → vb_has (vx_f x 1) v = false) ∧ ∀ j, j < 2 → ∀ v, vb_has (vx_s x j) v = true → vb_has (vx_f x j) v = true
def vx_inv (ℓ : vb_L) (x : vb_X) : Prop := vx_ok ℓ x ∧ vx_wf ℓ x ∧ vx_e x ≤ 999
def vl_inv (ℓ : vb_L) : Prop := ∀ a b, a < vb_n ℓ → b < vb_n ℓ → vb_has (vb_nb ℓ a) b = vb_has (vb_nb ℓ b) a ∧ vb_has (vb_nb ℓ a) a = false
def vs_inv (σ : vb_St) : Prop := vl_inv (vs_l σ) ∧ vx_inv (vs_l σ) (vs_x σ) ∧ (∀ y, y ∈ vs_a σ → vx_inv (vs_l σ) y) ∧ ∀ z, vs_i σ = some z → vx_inv (vs_l σ) z.1 ∧ ∀ y, y ∈ z.2.1 → vx_inv (vs_l σ) y
theorem vx_dis {ℓ : vb_L} {x : vb_X} (h : vx_wf ℓ x) {s : Nat} (hs : s < 2) : ∀ v, vb_has (vx_f x s) v = true → vb_has (vx_f x (1 - s)) v = false := by
  have e : s = 0 ∨ s = 1 := by omega
  rcases e with rfl | rfl
  · exact h.2.1
  · exact vb_dis_sw h.2.1
theorem vx_dis' {ℓ : vb_L} {x : vb_X} (h : vx_wf ℓ x) {s : Nat} (hs : s < 2) : ∀ v, vb_has (vx_f x (1 - s)) v = true → vb_has (vx_f x s) v = false := vb_dis_sw (vx_dis h hs)
/-! what lies ahead -/
def q_li (ℓ : vb_L) (x : vb_X) (s k : Nat) : Int32 := vb_lead ℓ k (vx_s x s) (vx_s x (1 - s)) (vx_f x s) (vx_f x (1 - s)) (vb_i (vx_e x))
def q_la (ℓ : vb_L) (x : vb_X) (s m k : Nat) : Int32 := if m = 100 then -(vb_lead ℓ k (vx_s x (1 - s)) (vx_s x s) (vx_f x (1 - s)) (vx_f x s) (vb_i (vx_e x + 1))) else -(vb_lead ℓ k (vx_s x (1 - s) &&& ~~~ vb_bit (m % 10)) (vb_mvd (vx_s x s) (m / 10) (m % 10)) (vx_f x (1 - s) &&& ~~~ vb_bit (m % 10)) (vx_f x s ||| vb_bit (m % 10)) (vb_i (vx_e x + 1)))
/-- the best move, the first of like ones, a pass last -/
def q_bm (ℓ : vb_L) (x : vb_X) (k : Nat) : Nat := match vx_ms ℓ x with
  | [] => 100
  | m :: l => if (vx_pick (fun m => q_la ℓ x (vx_tn x) m k) l (m, q_la ℓ x (vx_tn x) m k)).2 < q_la ℓ x (vx_tn x) 100 k then 100 else (vx_pick (fun m => q_la ℓ x (vx_tn x) m k) l (m, q_la ℓ x (vx_tn x) m k)).1
section AHEAD
variable {G : mm_G} {d : Nat} {I : Nat → Nat → Int32} {P : Nat → Nat → Nat} {J : Nat → Nat → Int64} {S : List (Nat × Nat)} {nc ns : Nat} {μ : mm_M} {σ : vb_St} {L : Nat}
theorem c_li (hV : vb_isV P S L) (dV : vb_VD σ L I) {s k : Nat} (hs : s < 2) (hk : k ≤ 3) (hwf : vx_wf (vs_l σ) (vs_x σ)) (hd : 10 ≤ d) : mm_C G d 130 [.ref 0, .int (vb_i s), .int (vb_i k)] (I, P, J, S, nc, ns) (vb_R (some (.int (q_li (vs_l σ) (vs_x σ) s k))) (fun I' => vb_fr (vb_sc2 L) I I') P J S nc ns) := by
  have hL := vV_hL hV
  have hX := vV_hX hV
  have hY := vV_hY hV
  have hA := vV_hA hV
  have hT := vV_hT hV
  have hC := vV_hC hV
  have hL17 := vV_L17 hV
  have hF : vb_fr (vb_vs L) I I := vb_fr.rf
  have dL := vd_l dV
  have dX := vd_x dV
  have dA := vd_a dV
  have dT := vd_t dV
  have hn := vl_10 dL
  have he := vx_e2 dX
  have ht := vx_t2 (vs_x σ)
  have hdis := vx_dis hwf hs
  show mm_W _ _ 130 (mm_blk 130 0) [.ref 0, .int (vb_i s), .int (vb_i k)] [] _ _
  refine mm_w1 rfl ?_
  refine mm_wgr (vV_S0 hV) (by decide) (by decide) (vV_P0_5 hV) (vL_a0 hL) ?_
  refine mm_w1 rfl ?_
  refine mm_wgr (vV_S0 hV) (by decide) (by decide) (vV_P0_6 hV) (vX_a0 hX) ?_
  refine mm_wgr (vX_S0 hX) (by decide) (by decide) (vX_P0_0 hX) (vX_a1 hX) ?_
  refine mm_w1 rfl ?_
  refine mm_wiav _ (vX_a1 hX) (vX_S1 hX) (by decide) (by omega) (vx_hs dX (by omega)) ?_
  refine mm_w1 rfl ?_
  refine mm_wgr (vV_S0 hV) (by decide) (by decide) (vV_P0_6 hV) (vX_a0 hX) ?_
  refine mm_wgr (vX_S0 hX) (by decide) (by decide) (vX_P0_0 hX) (vX_a1 hX) ?_
  refine mm_wv (vb_i 1) rfl (by decide) ?_
  refine mm_w1 rfl ?_
  refine mm_nsub (by omega) ?_
  refine mm_wiav _ (vX_a1 hX) (vX_S1 hX) (by decide) (by omega) (vx_hs dX (by omega)) ?_
  refine mm_w1 rfl ?_
  refine mm_wgr (vV_S0 hV) (by decide) (by decide) (vV_P0_6 hV) (vX_a0 hX) ?_
  refine mm_wgr (vX_S0 hX) (by decide) (by decide) (vX_P0_1 hX) (vX_a2 hX) ?_
  refine mm_w1 rfl ?_
  refine mm_wiav _ (vX_a2 hX) (vX_S2 hX) (by decide) (by omega) (vx_hf dX (by omega)) ?_
  refine mm_w1 rfl ?_
  refine mm_wgr (vV_S0 hV) (by decide) (by decide) (vV_P0_6 hV) (vX_a0 hX) ?_
  refine mm_wgr (vX_S0 hX) (by decide) (by decide) (vX_P0_1 hX) (vX_a2 hX) ?_
  refine mm_wv (vb_i 1) rfl (by decide) ?_
  refine mm_w1 rfl ?_
  refine mm_nsub (by omega) ?_
  refine mm_wiav _ (vX_a2 hX) (vX_S2 hX) (by decide) (by omega) (vx_hf dX (by omega)) ?_
  refine mm_w1 rfl ?_
  refine mm_wgr (vV_S0 hV) (by decide) (by decide) (vV_P0_6 hV) (vX_a0 hX) ?_
  refine mm_wgiv _ (vX_S0 hX) (by decide) (by decide) (vx_he dX) ?_
  refine mm_w1 rfl ?_
  refine mm_csi rfl (by decide) (by omega) (c_lead (ℓ := vs_l σ) hL _ _ _ _ _ _ _ _ (by omega) (by omega) dL (by assumption)) ?_
  intro I1 hf1
  have hF1 : vb_fr (vb_vs L) I I1 := hF.tr (hf1.mono (fun a h => by exact Or.inl (Or.inr h)))
  have dV1 := dV.fr hL17 hF1
  have dL1 := vd_l dV1
  have dX1 := vd_x dV1
  refine mm_wr rfl rfl rfl ?_
  exact ⟨_, hf1, rfl⟩
theorem c_la (hV : vb_isV P S L) (dV : vb_VD σ L I) {s m k : Nat} (hs : s < 2) (hm : m ≤ 100) (hk : k ≤ 2) (hwf : vx_wf (vs_l σ) (vs_x σ)) (hd : 10 ≤ d) : mm_C G d 131 [.ref 0, .int (vb_i s), .int (vb_told m), .int (vb_i (k + 1))] (I, P, J, S, nc, ns) (vb_R (some (.int (q_la (vs_l σ) (vs_x σ) s m k))) (fun I' => vb_fr (vb_sc2 L) I I') P J S nc ns) := by
  have hL := vV_hL hV
  have hX := vV_hX hV
  have hY := vV_hY hV
  have hA := vV_hA hV
  have hT := vV_hT hV
  have hC := vV_hC hV
  have hL17 := vV_L17 hV
  have hF : vb_fr (vb_vs L) I I := vb_fr.rf
  have dL := vd_l dV
  have dX := vd_x dV
  have dA := vd_a dV
  have dT := vd_t dV
  have hn := vl_10 dL
  have he := vx_e2 dX
  have ht := vx_t2 (vs_x σ)
  have hdis := vx_dis' hwf hs
  by_cases h100 : m = 100
  · subst h100
    show mm_W _ _ 131 (mm_blk 131 0) [.ref 0, .int (vb_i s), .int (-1), .int (vb_i (k + 1)), .null, .null, .null, .null, .null] [] _ _
    refine mm_w1 rfl ?_
    refine mm_wgr (vV_S0 hV) (by decide) (by decide) (vV_P0_6 hV) (vX_a0 hX) ?_
    refine mm_wgr (vX_S0 hX) (by decide) (by decide) (vX_P0_0 hX) (vX_a1 hX) ?_
    refine mm_w1 rfl ?_
    refine mm_wiav _ (vX_a1 hX) (vX_S1 hX) (by decide) (by omega) (vx_hs dX (by omega)) ?_
    refine mm_w1 (ls' := [_, _, _, _, _, _, _, _, _]) rfl ?_
    refine mm_w1 rfl ?_
    refine mm_wgr (vV_S0 hV) (by decide) (by decide) (vV_P0_6 hV) (vX_a0 hX) ?_
    refine mm_wgr (vX_S0 hX) (by decide) (by decide) (vX_P0_0 hX) (vX_a1 hX) ?_
    refine mm_wv (vb_i 1) rfl (by decide) ?_
    refine mm_w1 rfl ?_
    refine mm_nsub (by omega) ?_
    refine mm_wiav _ (vX_a1 hX) (vX_S1 hX) (by decide) (by omega) (vx_hs dX (by omega)) ?_
    refine mm_w1 (ls' := [_, _, _, _, _, _, _, _, _]) rfl ?_
    refine mm_w1 rfl ?_
    refine mm_wgr (vV_S0 hV) (by decide) (by decide) (vV_P0_6 hV) (vX_a0 hX) ?_
    refine mm_wgr (vX_S0 hX) (by decide) (by decide) (vX_P0_1 hX) (vX_a2 hX) ?_
    refine mm_w1 rfl ?_
    refine mm_wiav _ (vX_a2 hX) (vX_S2 hX) (by decide) (by omega) (vx_hf dX (by omega)) ?_
    refine mm_w1 (ls' := [_, _, _, _, _, _, _, _, _]) rfl ?_
    refine mm_w1 rfl ?_
    refine mm_wgr (vV_S0 hV) (by decide) (by decide) (vV_P0_6 hV) (vX_a0 hX) ?_
    refine mm_wgr (vX_S0 hX) (by decide) (by decide) (vX_P0_1 hX) (vX_a2 hX) ?_
    refine mm_wv (vb_i 1) rfl (by decide) ?_
    refine mm_w1 rfl ?_
    refine mm_nsub (by omega) ?_
    refine mm_wiav _ (vX_a2 hX) (vX_S2 hX) (by decide) (by omega) (vx_hf dX (by omega)) ?_
    refine mm_w1 (ls' := [_, _, _, _, _, _, _, _, _]) rfl ?_
    refine mm_w1 rfl ?_
    refine mm_wv (-1) rfl (by decide) ?_
    refine mm_wiceq ?_ ?_
    · intro h50
      refine mm_w1 rfl ?_
      refine mm_wgr (vV_S0 hV) (by decide) (by decide) (vV_P0_5 hV) (vL_a0 hL) ?_
      refine mm_w1 rfl ?_
      refine mm_w1 rfl ?_
      refine mm_w1 rfl ?_
      refine mm_w1 rfl ?_
      refine mm_w1 rfl ?_
      refine mm_wgr (vV_S0 hV) (by decide) (by decide) (vV_P0_6 hV) (vX_a0 hX) ?_
      refine mm_wgiv _ (vX_S0 hX) (by decide) (by decide) (vx_he dX) ?_
      refine mm_wv (vb_i 1) rfl (by decide) ?_
      refine mm_nadd ?_
      refine mm_w1 rfl ?_
      refine mm_wv (vb_i 1) rfl (by decide) ?_
      refine mm_nsub (by omega) ?_
      rw [Nat.add_sub_cancel] 
      refine mm_csi rfl (by decide) (by omega) (c_lead (ℓ := vs_l σ) hL _ _ _ _ _ _ _ _ (by omega) (by omega) dL (by assumption)) ?_
      intro I1 hf1
      have hF1 : vb_fr (vb_vs L) I I1 := hF.tr (hf1.mono (fun a h => by exact Or.inl (Or.inr h)))
      have dV1 := dV.fr hL17 hF1
      have dL1 := vd_l dV1
      have dX1 := vd_x dV1
      refine mm_w1 rfl ?_
      refine mm_wr rfl rfl rfl ?_
      exact ⟨_, hf1, rfl⟩
    · intro h50
      exact absurd rfl h50
  · have hml : m < 100 := by omega
    have hm1 := vb_told_m1 hml
    have hdis2 := vb_dis_mv (to := m % 10) (by omega) (vx_dis hwf hs)
    rw [vb_told_lt hml] at hm1 ⊢
    have hq : q_la (vs_l σ) (vs_x σ) s m k = -(vb_lead (vs_l σ) k (vx_s (vs_x σ) (1 - s) &&& ~~~ vb_bit (m % 10)) (vb_mvd (vx_s (vs_x σ) s) (m / 10) (m % 10)) (vx_f (vs_x σ) (1 - s) &&& ~~~ vb_bit (m % 10)) (vx_f (vs_x σ) s ||| vb_bit (m % 10)) (vb_i (vx_e (vs_x σ) + 1))) := if_neg h100
    rw [hq]
    obtain ⟨e1, e2⟩ := vb_m100 (a := m / 10) (b := m % 10) (by omega)
    show mm_W _ _ 131 (mm_blk 131 0) [.ref 0, .int (vb_i s), .int (vb_i (100 * (m / 10) + m % 10)), .int (vb_i (k + 1)), .null, .null, .null, .null, .null] [] _ _
    refine mm_w1 rfl ?_
    refine mm_wgr (vV_S0 hV) (by decide) (by decide) (vV_P0_6 hV) (vX_a0 hX) ?_
    refine mm_wgr (vX_S0 hX) (by decide) (by decide) (vX_P0_0 hX) (vX_a1 hX) ?_
    refine mm_w1 rfl ?_
    refine mm_wiav _ (vX_a1 hX) (vX_S1 hX) (by decide) (by omega) (vx_hs dX (by omega)) ?_
    refine mm_w1 (ls' := [_, _, _, _, _, _, _, _, _]) rfl ?_
    refine mm_w1 rfl ?_
    refine mm_wgr (vV_S0 hV) (by decide) (by decide) (vV_P0_6 hV) (vX_a0 hX) ?_
    refine mm_wgr (vX_S0 hX) (by decide) (by decide) (vX_P0_0 hX) (vX_a1 hX) ?_
    refine mm_wv (vb_i 1) rfl (by decide) ?_
    refine mm_w1 rfl ?_
    refine mm_nsub (by omega) ?_
    refine mm_wiav _ (vX_a1 hX) (vX_S1 hX) (by decide) (by omega) (vx_hs dX (by omega)) ?_
    refine mm_w1 (ls' := [_, _, _, _, _, _, _, _, _]) rfl ?_
    refine mm_w1 rfl ?_
    refine mm_wgr (vV_S0 hV) (by decide) (by decide) (vV_P0_6 hV) (vX_a0 hX) ?_
    refine mm_wgr (vX_S0 hX) (by decide) (by decide) (vX_P0_1 hX) (vX_a2 hX) ?_
    refine mm_w1 rfl ?_
    refine mm_wiav _ (vX_a2 hX) (vX_S2 hX) (by decide) (by omega) (vx_hf dX (by omega)) ?_
    refine mm_w1 (ls' := [_, _, _, _, _, _, _, _, _]) rfl ?_
    refine mm_w1 rfl ?_
    refine mm_wgr (vV_S0 hV) (by decide) (by decide) (vV_P0_6 hV) (vX_a0 hX) ?_
    refine mm_wgr (vX_S0 hX) (by decide) (by decide) (vX_P0_1 hX) (vX_a2 hX) ?_
    refine mm_wv (vb_i 1) rfl (by decide) ?_
    refine mm_w1 rfl ?_
    refine mm_nsub (by omega) ?_
    refine mm_wiav _ (vX_a2 hX) (vX_S2 hX) (by decide) (by omega) (vx_hf dX (by omega)) ?_
    refine mm_w1 (ls' := [_, _, _, _, _, _, _, _, _]) rfl ?_
    refine mm_w1 rfl ?_
    refine mm_wv (-1) rfl (by decide) ?_
    refine mm_wiceq ?_ ?_
    · intro h50
      exact absurd h50 hm1
    · intro h50
      refine mm_wv (vb_i 1) rfl (by decide) ?_
      refine mm_w1 rfl ?_
      refine mm_wv (vb_i 100) rfl (by decide) ?_
      refine mm_nrem (by omega) (by omega) (by omega) ?_
      rw [e2] 
      refine mm_nbit (by omega) ?_
      refine mm_w1 (ls' := [_, _, _, _, _, _, _, _, _]) rfl ?_
      refine mm_w1 rfl ?_
      refine mm_wv (vb_i 1) rfl (by decide) ?_
      refine mm_w1 rfl ?_
      refine mm_wv (vb_i 100) rfl (by decide) ?_
      refine mm_ndiv (by omega) (by omega) (by omega) ?_
      rw [e1] 
      refine mm_nbit (by omega) ?_
      refine mm_wv (-1) rfl (by decide) ?_
      refine mm_nnot ?_
      refine mm_w1 rfl ?_
      refine mm_w1 rfl ?_
      refine mm_w1 rfl ?_
      refine mm_w1 (ls' := [_, _, _, _, _, _, _, _, _]) rfl ?_
      refine mm_w1 rfl ?_
      refine mm_w1 rfl ?_
      refine mm_wv (-1) rfl (by decide) ?_
      refine mm_nnot ?_
      refine mm_w1 rfl ?_
      refine mm_w1 (ls' := [_, _, _, _, _, _, _, _, _]) rfl ?_
      refine mm_w1 rfl ?_
      refine mm_w1 rfl ?_
      refine mm_w1 rfl ?_
      refine mm_w1 (ls' := [_, _, _, _, _, _, _, _, _]) rfl ?_
      refine mm_w1 rfl ?_
      refine mm_w1 rfl ?_
      refine mm_wv (-1) rfl (by decide) ?_
      refine mm_nnot ?_
      refine mm_w1 rfl ?_
      refine mm_w1 (ls' := [_, _, _, _, _, _, _, _, _]) rfl ?_
      refine mm_w1 rfl ?_
      refine mm_wgr (vV_S0 hV) (by decide) (by decide) (vV_P0_5 hV) (vL_a0 hL) ?_
      refine mm_w1 rfl ?_
      refine mm_w1 rfl ?_
      refine mm_w1 rfl ?_
      refine mm_w1 rfl ?_
      refine mm_w1 rfl ?_
      refine mm_wgr (vV_S0 hV) (by decide) (by decide) (vV_P0_6 hV) (vX_a0 hX) ?_
      refine mm_wgiv _ (vX_S0 hX) (by decide) (by decide) (vx_he dX) ?_
      refine mm_wv (vb_i 1) rfl (by decide) ?_
      refine mm_nadd ?_
      refine mm_w1 rfl ?_
      refine mm_wv (vb_i 1) rfl (by decide) ?_
      refine mm_nsub (by omega) ?_
      rw [Nat.add_sub_cancel] 
      refine mm_csi rfl (by decide) (by omega) (c_lead (ℓ := vs_l σ) hL _ _ _ _ (vb_mvd (vx_s (vs_x σ) s) (m / 10) (m % 10)) _ _ _ (by omega) (by omega) dL hdis2) ?_
      intro I1 hf1
      have hF1 : vb_fr (vb_vs L) I I1 := hF.tr (hf1.mono (fun a h => by exact Or.inl (Or.inr h)))
      have dV1 := dV.fr hL17 hF1
      have dL1 := vd_l dV1
      have dX1 := vd_x dV1
      refine mm_w1 rfl ?_
      refine mm_wr rfl rfl rfl ?_
      exact ⟨_, hf1, rfl⟩
end AHEAD
