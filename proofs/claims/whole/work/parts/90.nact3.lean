section NACT3
variable {G : mm_G} {d : Nat} {I : Nat → Nat → Int32} {P : Nat → Nat → Nat} {J : Nat → Nat → Int64} {S : List (Nat × Nat)} {nc ns : Nat} {μ : mm_M} {σ : vb_St}
theorem vm_rows.init {ℓ : vb_L} {B : Nat → Int32} {xs : List vb_X} (h : vm_rows ℓ B xs) : vm_rows ℓ B xs.dropLast := by
  refine ⟨Nat.le_trans (by rw [List.length_dropLast]; exact Nat.sub_le _ _) h.1, fun i y hy => h.2 i y ?_⟩
  rw [List.getElem?_dropLast] at hy
  split at hy
  · exact hy
  · cases hy
theorem vm_MD.see {I' : Nat → Nat → Int32} {ss : List (Nat × Nat)} (h : vm_MD σ I) (k : ∀ a, a ≠ 60 → a ≠ 81 → I' a = I a) (k2 : ∀ s, s ≠ 0 → s ≠ 45 → I' 60 s = I 60 s) (h1 : I' 60 45 = vb_i ss.length) (h2 : vm_sees (I' 81) ss) : vm_MD (vs_see σ ss) I' := by
  obtain ⟨g1, g2, g3, g4, g5, g6, g7, g8, g9, g10, g11, g12, g13⟩ := h
  refine ⟨g1.k2 (fun s q1 q2 => k2 s (by omega) (by omega)) (fun a q1 q2 => k a (by omega) (by omega)), ?_, ?_, ?_, h1, h2, ?_, ?_, ?_, g10, ?_, ?_, ?_⟩
  · rw [k 76 (by decide) (by decide)]; exact g2
  · rw [k2 40 (by decide) (by decide)]; exact g3
  · rw [k 77 (by decide) (by decide)]; exact g4
  · rw [k2 49 (by decide) (by decide)]; exact g7
  · intro z hz
    rw [k2 50 (by decide) (by decide), k2 51 (by decide) (by decide), k 83 (by decide) (by decide), k 84 (by decide) (by decide), k 85 (by decide) (by decide)]
    exact g8 z hz
  · rw [k2 11 (by decide) (by decide)]; exact g9
  · rw [k 66 (by decide) (by decide)]; exact g11
  · rw [k2 13 (by decide) (by decide)]; exact g12
  · rw [k 67 (by decide) (by decide)]; exact g13
theorem vm_sees.snoc {B B' : Nat → Int32} {ss : List (Nat × Nat)} {p : Nat × Nat} (h : vm_sees B ss) (hl : ss.length < 6) (h1 : ∀ j, j < 2 * ss.length → B' j = B j) (h2 : B' (2 * ss.length) = vb_i p.1) (h3 : B' (2 * ss.length + 1) = vb_i p.2) (h4 : p.1 < 30) (h5 : p.2 ≤ 100) : vm_sees B' (ss ++ [p]) := by
  refine ⟨by rw [List.length_append]; simp; omega, fun i y hy => ?_⟩
  by_cases e : i < ss.length
  · rw [List.getElem?_append_left e] at hy
    obtain ⟨q1, q2, q3, q4⟩ := h.2 i y hy
    exact ⟨by rw [h1 _ (by omega)]; exact q1, by rw [h1 _ (by omega)]; exact q2, q3, q4⟩
  · rw [List.getElem?_append_right (by omega)] at hy
    have e2 : i - ss.length = 0 := by
      cases e3 : i - ss.length with
      | zero => rfl
      | succ k => rw [e3] at hy; simp at hy
    rw [e2] at hy
    have : p = y := by simpa using hy
    rw [← this, show i = ss.length by omega]; exact ⟨h2, h3, h4, h5⟩
theorem n_forget (hM : vm_isM P S) (dN : vm_MD σ I) : mm_C G d 227 [.ref 60] (I, P, J, S, nc, ns) (vb_R none (fun I' => vm_MD (vs_see σ []) I' ∧ I' 60 0 = vb_i 0) P J S nc ns) := by
  show mm_W _ _ 227 (mm_blk 227 0) [.ref 60] [] _ _
  refine mm_w1 rfl ?_
  refine mm_wv (vb_i 0) rfl (by decide) ?_
  refine mm_wpi (vM_S60 hM) (by decide) (by decide) ?_
  refine mm_w1 rfl ?_
  refine mm_wv (vb_i 0) rfl (by decide) ?_
  refine mm_wpi (vM_S60 hM) (by decide) (by decide) ?_
  refine mm_wr rfl rfl rfl ?_
  refine ⟨_, ⟨vm_MD.see dN (fun a h1 _ => ?_) (fun s h1 h2 => ?_) ?_ ?_, ?_⟩, rfl⟩
  · rw [vb_up3 _ _ h1, vb_up3 _ _ h1]
  · rw [vb_up2 _ _ (by omega), vb_up2 _ _ (by omega)]
  · rw [vb_up1]; rfl
  · exact ⟨by decide, fun i p h => by simp at h⟩
  · rw [vb_up2 _ _ (by omega), vb_up1]
theorem n_undo (hM : vm_isM P S) (dN : vm_MD σ I) (hI : vs_inv σ) (hlb : vl_bel (vs_l σ)) (hd : 20 ≤ d) : mm_C G d 174 [.ref 60] (I, P, J, S, nc, ns) (vm_RV (sp_undo σ) (fun I' => vm_MD (st_undo σ) I') P J S nc ns) := by
  obtain ⟨hli, hIx, hIa, hIi⟩ := hI
  obtain ⟨hok, hwf, he9⟩ := hIx
  have hsj := hwf.sj
  have hfj := hwf.fj
  have hst := hwf.ws
  have dM := vmd_l dN
  have hR := vmd_x dN
  have hn := vm_10 dM
  have ht := vx_t2 (vs_x σ)
  have hs3 := vm_sc3 dM
  have hA := vmd_a dN
  have hA40 := hA.1
  by_cases h0 : (vs_a σ).length = 0
  · have e0 : vs_a σ = [] := List.length_eq_zero_iff.mp h0
    rw [show sp_undo σ = .inl (-1) by simp only [sp_undo, if_pos h0], show st_undo σ = σ by simp only [st_undo, e0, List.getLast?_nil]]
    show mm_W _ _ 174 (mm_blk 174 0) [.ref 60, .null] [] _ _
    refine mm_w1 rfl ?_
    refine mm_wv (vb_i 0) rfl (by decide) ?_
    refine mm_wpiN (vM_S60 hM) (by decide) (by decide) ?_
    intro I1 hI1
    have hq1 : vm_qf I I1 := by rw [hI1]; exact vm_qf.thr _
    have dN1 := dN.qf hq1
    have dM1 := vmd_l dN1
    have hR1 := vmd_x dN1
    have thr1 : I1 60 0 = vb_i 0 := by rw [hI1, vb_up1]
    refine mm_w1 rfl ?_
    refine mm_wgiv (vb_i (vs_a σ).length) (vM_S60 hM) (by decide) (by decide) (vmd_an dN1) ?_
    refine mm_nifne (by omega) ?_ ?_
    · intro h9
      exact absurd h0 h9
    · intro h9
      refine mm_wv (-1) rfl (by decide) ?_
      refine mm_wr rfl rfl rfl ?_
      exact ⟨_, _, rfl, dN1, rfl, thr1⟩
  · obtain ⟨x, hx⟩ : ∃ x, (vs_a σ).getLast? = some x := by
      cases e : (vs_a σ).getLast? with
      | none => rw [List.getLast?_eq_none_iff] at e; rw [e] at h0; exact absurd rfl h0
      | some x => exact ⟨x, rfl⟩
    have hxi : (vs_a σ)[(vs_a σ).length - 1]? = some x := by rw [← List.getLast?_eq_getElem?]; exact hx
    have hrx := hA.2 _ x hxi
    have hdl : (vs_a σ).dropLast.length = (vs_a σ).length - 1 := List.length_dropLast
    rw [show sp_undo σ = .inl (vb_i ((vs_a σ).length - 1)) by simp only [sp_undo, if_neg h0], show st_undo σ = vs_act σ x (vs_a σ).dropLast by simp only [st_undo, hx]]
    have loop : ∀ (I1 : Nat → Nat → Int32), vm_MD (vs_act σ (vs_x σ) (vs_a σ).dropLast) I1 → I1 60 0 = vb_i 0 → I1 77 = I 77 → ∀ i, i ≤ 46 → ∀ (I2 : Nat → Nat → Int32), vb_fr (fun a => a = 76) I1 I2 → (∀ j, j < i → I2 76 j = I 77 (46 * ((vs_a σ).length - 1) + j)) → mm_W G d 174 (mm_blk 174 26) [.ref 60, .int (vb_i i)] [] (I2, P, J, S, nc, ns) (vm_RV (.inl (vb_i ((vs_a σ).length - 1))) (fun I' => vm_MD (vs_act σ x (vs_a σ).dropLast) I') P J S nc ns) := by
      intro I1 dN1 thr1 e77
      refine vb_down 46 ?_
      intro i hi ih I2 hf2 hc2
      have h40 : I2 60 40 = vb_i ((vs_a σ).length - 1) := by rw [hf2 60 (by decide), ← hdl]; exact dN1.2.2.1
      have e772 : I2 77 = I 77 := by rw [hf2 77 (by decide), e77]
      refine mm_w1 rfl ?_
      refine mm_wv (vb_i 46) rfl (by decide) ?_
      refine mm_nicge (by omega) (by omega) ?_ ?_
      · intro h29
        refine mm_w1 rfl ?_
        refine mm_wgiv (vb_i ((vs_a σ).length - 1)) (vM_S60 hM) (by decide) (by decide) h40 ?_
        refine mm_wr rfl rfl rfl ?_
        refine ⟨_, _, rfl, vm_MD.row (σ := vs_act σ (vs_x σ) (vs_a σ).dropLast) dN1 hf2 ?_, rfl, by rw [hf2 60 (by decide)]; exact thr1⟩
        exact hrx.mv hn (fun j hj => by rw [Nat.zero_add]; exact hc2 j (by omega))
      · intro h29
        refine mm_w1 rfl ?_
        refine mm_wgr (vM_S60 hM) (by decide) (by decide) (vM_P60_38 hM) (vM_a76 hM) ?_
        refine mm_w1 rfl ?_
        refine mm_w1 rfl ?_
        refine mm_wgr (vM_S60 hM) (by decide) (by decide) (vM_P60_39 hM) (vM_a77 hM) ?_
        refine mm_wv (vb_i 46) rfl (by decide) ?_
        refine mm_w1 rfl ?_
        refine mm_wgiv (vb_i ((vs_a σ).length - 1)) (vM_S60 hM) (by decide) (by decide) h40 ?_
        refine mm_nmul ?_
        refine mm_w1 rfl ?_
        refine mm_nadd ?_
        refine mm_wiav (I 77 (46 * ((vs_a σ).length - 1) + i)) (vM_a77 hM) (vM_S77 hM) (by decide) (by omega) (by rw [e772]) ?_
        refine mm_wisN (vM_S76 hM) (by decide) (by omega) ?_
        intro I3 hI3
        have hf3 : vb_fr (fun a => a = 76) I1 I3 := by rw [hI3]; exact hf2.up1
        refine mm_nincL (ls' := [_, _]) 1 rfl (by decide) rfl ?_
        refine mm_wgoto ?_
        refine ih (by omega) _ hf3 (fun j hj => ?_)
        by_cases e : j = i
        · rw [e, hI3, vb_up1]
        · rw [hI3, vb_up2 _ _ (by omega)]; exact hc2 j (by omega)
    show mm_W _ _ 174 (mm_blk 174 0) [.ref 60, .null] [] _ _
    refine mm_w1 rfl ?_
    refine mm_wv (vb_i 0) rfl (by decide) ?_
    refine mm_wpiN (vM_S60 hM) (by decide) (by decide) ?_
    intro I1 hI1
    have hq1 : vm_qf I I1 := by rw [hI1]; exact vm_qf.thr _
    have dN1 := dN.qf hq1
    have dM1 := vmd_l dN1
    have hR1 := vmd_x dN1
    have thr1 : I1 60 0 = vb_i 0 := by rw [hI1, vb_up1]
    refine mm_w1 rfl ?_
    refine mm_wgiv (vb_i (vs_a σ).length) (vM_S60 hM) (by decide) (by decide) (vmd_an dN1) ?_
    refine mm_nifne (by omega) ?_ ?_
    · intro h9
      refine mm_w1 rfl ?_
      refine mm_w1 rfl ?_
      refine mm_wgiv (vb_i (vs_a σ).length) (vM_S60 hM) (by decide) (by decide) (vmd_an dN1) ?_
      refine mm_wv (vb_i 1) rfl (by decide) ?_
      refine mm_nsub (by omega) ?_
      refine mm_wpiN (vM_S60 hM) (by decide) (by decide) ?_
      intro I2 hI2
      have hk2 : vm_kf I1 I2 := by rw [hI2]; exact vm_kf.rf.u40 _
      have e772 : I2 77 = I 77 := by rw [hI2, vb_up3 _ _ (by decide), hI1, vb_up3 _ _ (by decide)]
      have dU2 : vm_MD (vs_act σ (vs_x σ) (vs_a σ).dropLast) I2 := vm_kf.MD dN1 hk2 (by rw [hI2, vb_up1, hdl]) (by rw [e772]; exact hA.init) rfl
      have thr2 : I2 60 0 = vb_i 0 := (hk2.2 0 (by decide)).trans thr1
      refine mm_wv (vb_i 0) rfl (by decide) ?_
      refine mm_w1 (ls' := [_, _]) rfl ?_
      exact loop _ dU2 thr2 e772 0 (by omega) _ vb_fr.rf (fun j h => absurd h (by omega))
    · intro h9
      exact absurd h9 h0
end NACT3
