/-! THE REFERENCE'S STATE -/
def vm_rows (ℓ : vb_L) (B : Nat → Int32) (xs : List vb_X) : Prop := xs.length ≤ 40 ∧ ∀ i y, xs[i]? = some y → vm_row ℓ B (46 * i) y (vx_tn y)
def vm_sees (B : Nat → Int32) (ss : List (Nat × Nat)) : Prop := ss.length ≤ 6 ∧ ∀ i p, ss[i]? = some p → B (2 * i) = vb_i p.1 ∧ B (2 * i + 1) = vb_i p.2 ∧ p.1 < 30 ∧ p.2 ≤ 100
def vm_IM (ℓ : vb_L) (im : Option (vb_X × List vb_X × List (Nat × Nat))) (I : Nat → Nat → Int32) : Prop := ∀ z, im = some z → I 60 50 = vb_i z.2.1.length ∧ I 60 51 = vb_i z.2.2.length ∧ vm_row ℓ (I 83) 0 z.1 (vx_tn z.1) ∧ vm_rows ℓ (I 84) z.2.1 ∧ vm_sees (I 85) z.2.2
def vm_MD (σ : vb_St) (I : Nat → Nat → Int32) : Prop := vm_LD (vs_l σ) I ∧ vm_row (vs_l σ) (I 76) 0 (vs_x σ) (vx_tn (vs_x σ)) ∧ I 60 40 = vb_i (vs_a σ).length ∧ vm_rows (vs_l σ) (I 77) (vs_a σ) ∧ I 60 45 = vb_i (vs_t σ).length ∧ vm_sees (I 81) (vs_t σ) ∧ I 60 49 = vb_b (vs_i σ).isSome ∧ vm_IM (vs_l σ) (vs_i σ) I ∧ I 60 11 = vb_i (vs_p σ).length ∧ (vs_p σ).length ≤ 700 ∧ (∀ i b, (vs_p σ)[i]? = some b → I 66 i = b) ∧ I 60 13 = vs_f σ ∧ ∀ j, j < 3 → I 67 j = vs_r σ j
/-- what asking the reference leaves as it was -/
def vm_qf (I I' : Nat → Nat → Int32) : Prop := (∀ a, ¬ (a = 60 ∨ a = 76 ∨ a = 78 ∨ a = 79 ∨ a = 80 ∨ a = 82) → I' a = I a) ∧ (∀ s, s ≠ 0 → s ≠ 43 → s ≠ 48 → I' 60 s = I 60 s) ∧ ∀ j, j < 46 → I' 76 j = I 76 j
section
variable {σ : vb_St} {I I' I'' : Nat → Nat → Int32}
theorem vmd_l (h : vm_MD σ I) : vm_LD (vs_l σ) I := h.1
theorem vmd_x (h : vm_MD σ I) : vm_row (vs_l σ) (I 76) 0 (vs_x σ) (vx_tn (vs_x σ)) := h.2.1
theorem vmd_an (h : vm_MD σ I) : I 60 40 = vb_i (vs_a σ).length := h.2.2.1
theorem vmd_a (h : vm_MD σ I) : vm_rows (vs_l σ) (I 77) (vs_a σ) := h.2.2.2.1
theorem vmd_tn (h : vm_MD σ I) : I 60 45 = vb_i (vs_t σ).length := h.2.2.2.2.1
theorem vmd_t (h : vm_MD σ I) : vm_sees (I 81) (vs_t σ) := h.2.2.2.2.2.1
theorem vmd_im (h : vm_MD σ I) : I 60 49 = vb_b (vs_i σ).isSome := h.2.2.2.2.2.2.1
theorem vmd_i (h : vm_MD σ I) : vm_IM (vs_l σ) (vs_i σ) I := h.2.2.2.2.2.2.2.1
theorem vmd_pn (h : vm_MD σ I) : I 60 11 = vb_i (vs_p σ).length := h.2.2.2.2.2.2.2.2.1
theorem vmd_p7 (h : vm_MD σ I) : (vs_p σ).length ≤ 700 := h.2.2.2.2.2.2.2.2.2.1
theorem vmd_p (h : vm_MD σ I) : ∀ i b, (vs_p σ)[i]? = some b → I 66 i = b := h.2.2.2.2.2.2.2.2.2.2.1
theorem vmd_f (h : vm_MD σ I) : I 60 13 = vs_f σ := h.2.2.2.2.2.2.2.2.2.2.2.1
theorem vmd_r (h : vm_MD σ I) {j : Nat} (hj : j < 3) : I 67 j = vs_r σ j := h.2.2.2.2.2.2.2.2.2.2.2.2 j hj
theorem vm_qf.rf : vm_qf I I := ⟨fun _ _ => rfl, fun _ _ _ _ => rfl, fun _ _ => rfl⟩
theorem vm_qf.tr (h : vm_qf I I') (h' : vm_qf I' I'') : vm_qf I I'' := ⟨fun a ha => (h'.1 a ha).trans (h.1 a ha), fun s a b c => (h'.2.1 s a b c).trans (h.2.1 s a b c), fun j hj => (h'.2.2 j hj).trans (h.2.2 j hj)⟩
theorem vm_qf.thr (v : Int32) : vm_qf I (mm_up I 60 0 v) := ⟨fun a ha => vb_up3 _ _ (by omega), fun s h _ _ => vb_up2 _ _ (by omega), fun j _ => by rw [vb_up3 _ _ (by decide)]⟩
theorem vm_qf.bm (v : Int32) : vm_qf I (mm_up I 60 43 v) := ⟨fun a ha => vb_up3 _ _ (by omega), fun s _ h _ => vb_up2 _ _ (by omega), fun j _ => by rw [vb_up3 _ _ (by decide)]⟩
theorem vm_qf.its (v : Int32) : vm_qf I (mm_up I 60 48 v) := ⟨fun a ha => vb_up3 _ _ (by omega), fun s _ _ h => vb_up2 _ _ (by omega), fun j _ => by rw [vb_up3 _ _ (by decide)]⟩
theorem vm_qf.of8 (h : vb_fr vm_s8 I I') : vm_qf I I' := ⟨fun a ha => h a (by simp only [vm_s8]; omega), fun s _ _ _ => by rw [h 60 (by simp only [vm_s8]; decide)], fun j _ => by rw [h 76 (by simp only [vm_s8]; decide)]⟩
theorem vm_qf.of76 (h : vb_fr (fun a => a = 76) I I') (h2 : ∀ j, j < 46 → I' 76 j = I 76 j) : vm_qf I I' := ⟨fun a ha => h a (by omega), fun s _ _ _ => by rw [h 60 (by decide)], h2⟩
theorem vm_MD.qf (h : vm_MD σ I) (hq : vm_qf I I') : vm_MD σ I' := by
  obtain ⟨h1, h2, h3, h4, h5, h6, h7, h8, h9, h10, h11, h12, h13⟩ := h
  obtain ⟨q1, q2, q3⟩ := hq
  refine ⟨h1.k2 (fun s _ _ => q2 s (by omega) (by omega) (by omega)) (fun a _ _ => q1 a (by omega)), h2.kp (vm_10 h1) (fun j _ hj => q3 j (by omega)), ?_, ?_, ?_, ?_, ?_, ?_, ?_, h10, ?_, ?_, ?_⟩
  · rw [q2 40 (by decide) (by decide) (by decide)]; exact h3
  · rw [q1 77 (by decide)]; exact h4
  · rw [q2 45 (by decide) (by decide) (by decide)]; exact h5
  · rw [q1 81 (by decide)]; exact h6
  · rw [q2 49 (by decide) (by decide) (by decide)]; exact h7
  · simp only [vm_IM, q2 50 (by decide) (by decide) (by decide), q2 51 (by decide) (by decide) (by decide), q1 83 (by decide), q1 84 (by decide), q1 85 (by decide)]; exact h8
  · rw [q2 11 (by decide) (by decide) (by decide)]; exact h9
  · rw [q1 66 (by decide)]; exact h11
  · rw [q2 13 (by decide) (by decide) (by decide)]; exact h12
  · rw [q1 67 (by decide)]; exact h13
end
/-- an answer of the reference, and what it says of a throw -/
def vm_RV (o : Int32 ⊕ Nat) (Φ : (Nat → Nat → Int32) → Prop) (P : Nat → Nat → Nat) (J : Nat → Nat → Int64) (S : List (Nat × Nat)) (nc ns : Nat) : mm_R → Prop := fun r => ∃ v I', r = (.inl (some (.int v)), (I', P, J, S, nc, ns)) ∧ Φ I' ∧ (match o with
  | .inl w => v = w ∧ I' 60 0 = vb_i 0
  | .inr E => I' 60 0 = vb_i (E + 1))
section GUARD
variable {G : mm_G} {d : Nat} {I : Nat → Nat → Int32} {P : Nat → Nat → Nat} {J : Nat → Nat → Int64} {S : List (Nat × Nat)} {nc ns : Nat} {μ : mm_M} {ℓ : vb_L}
theorem m_within_t {h : Nat} {v : Int32} (hh : h + 1 < 2 ^ 31) (hv : (vb_idx (h + 1) v).isSome = true) : mm_Call G d 138 [.int v, .int (vb_i 0), .int (vb_i h)] μ (.inl (some (.int (vb_i 1))), μ) := by
  obtain ⟨j, hj⟩ := Option.isSome_iff_exists.mp hv
  obtain ⟨lj, rfl⟩ := vb_idx_some hh hj
  refine mm_C.call ?_
  show mm_W _ _ 138 (mm_blk 138 0) [.int (vb_i j), .int (vb_i 0), .int (vb_i h)] [] _ _
  refine mm_w1 rfl ?_
  refine mm_w1 rfl ?_
  refine mm_niclt (by omega) (by omega) ?_ ?_
  · intro h2
    exact absurd h2 (by omega)
  · intro h2
    refine mm_w1 rfl ?_
    refine mm_w1 rfl ?_
    refine mm_nicgt (by omega) (by omega) ?_ ?_
    · intro h7
      exact absurd h7 (by omega)
    · intro h7
      refine mm_wv (vb_i 1) rfl (by decide) ?_
      refine mm_wgoto ?_
      refine mm_wr rfl rfl rfl ?_
      exact rfl
theorem m_within_f {h : Nat} {v : Int32} (hh : h + 1 < 2 ^ 31) (hv : vb_idx (h + 1) v = none) : mm_Call G d 138 [.int v, .int (vb_i 0), .int (vb_i h)] μ (.inl (some (.int (vb_i 0))), μ) := by
  refine mm_C.call ?_
  show mm_W _ _ 138 (mm_blk 138 0) [.int v, .int (vb_i 0), .int (vb_i h)] [] _ _
  refine mm_w1 rfl ?_
  refine mm_w1 rfl ?_
  refine mm_wiclt ?_ ?_
  · intro h2
    refine mm_wv (vb_i 0) rfl (by decide) ?_
    refine mm_wr rfl rfl rfl ?_
    exact rfl
  · intro h2
    refine mm_w1 rfl ?_
    refine mm_w1 rfl ?_
    refine mm_wicgt ?_ ?_
    · intro h7
      refine mm_wv (vb_i 0) rfl (by decide) ?_
      refine mm_wr rfl rfl rfl ?_
      exact rfl
    · intro h7
      exact vb_idx_no hv h2 (vb_lt_le hh h7)
theorem m_right_t {w : Int32} (hM : vm_isM P S) (thr : I 60 0 = vb_i 0) : mm_Call G d 137 [.ref 60, .int (vb_i 1), .int w] (I, P, J, S, nc, ns) (.inl (some (.int (vb_i 1))), (I, P, J, S, nc, ns)) := by
  refine mm_C.call ?_
  show mm_W _ _ 137 (mm_blk 137 0) [.ref 60, .int (vb_i 1), .int w] [] _ _
  refine mm_w1 rfl ?_
  refine mm_wgiv (vb_i 0) (vM_S60 hM) (by decide) (by decide) thr ?_
  refine mm_nifne (by decide) (fun h => absurd rfl h) (fun _ => ?_)
  refine mm_w1 rfl ?_
  refine mm_nifne (by decide) (fun _ => ?_) (fun h => absurd h (by decide))
  refine mm_w1 rfl ?_
  refine mm_wgiv (vb_i 0) (vM_S60 hM) (by decide) (by decide) thr ?_
  refine mm_nifne (by decide) (fun h => absurd rfl h) (fun _ => ?_)
  refine mm_wv (vb_i 1) rfl (by decide) ?_
  refine mm_wgoto ?_
  refine mm_wr rfl rfl rfl ?_
  exact rfl
theorem m_right_f {w : Nat} (hM : vm_isM P S) (thr : I 60 0 = vb_i 0) (hw : 1 ≤ w) (hw2 : w < 100) : mm_C G d 137 [.ref 60, .int (vb_i 0), .int (vb_i w)] (I, P, J, S, nc, ns) (vb_R (some (.int (vb_i 0))) (fun I' => I' = mm_up I 60 0 (vb_i w)) P J S nc ns) := by
  show mm_W _ _ 137 (mm_blk 137 0) [.ref 60, .int (vb_i 0), .int (vb_i w)] [] _ _
  refine mm_w1 rfl ?_
  refine mm_wgiv (vb_i 0) (vM_S60 hM) (by decide) (by decide) thr ?_
  refine mm_nifne (by decide) (fun h => absurd rfl h) (fun _ => ?_)
  refine mm_w1 rfl ?_
  refine mm_nifne (by decide) (fun h => absurd rfl h) (fun _ => ?_)
  refine mm_w1 rfl ?_
  refine mm_w1 rfl ?_
  refine mm_wpi (vM_S60 hM) (by decide) (by decide) ?_
  refine mm_w1 rfl ?_
  refine mm_wgiv (vb_i w) (vM_S60 hM) (by decide) (by decide) (vb_up1 _ _ _ _) ?_
  refine mm_nifne (by omega) ?_ ?_
  · intro h20
    refine mm_wv (vb_i 0) rfl (by decide) ?_
    refine mm_wr rfl rfl rfl ?_
    exact ⟨_, rfl, rfl⟩
  · intro h20
    exact absurd h20 (by omega)
theorem m_isV_t {j : Nat} (hM : vm_isM P S) (dM : vm_LD ℓ I) (thr : I 60 0 = vb_i 0) (hj : j < vb_n ℓ) (hd : 1 ≤ d) : mm_Call G d 194 [.ref 60, .int (vb_i j)] (I, P, J, S, nc, ns) (.inl (some (.int (vb_i 1))), (I, P, J, S, nc, ns)) := by
  have hn := vm_10 dM
  refine mm_C.call ?_
  show mm_W _ _ 194 (mm_blk 194 0) [.ref 60, .int (vb_i j)] [] _ _
  refine mm_w1 rfl ?_
  refine mm_w1 rfl ?_
  refine mm_niflt (by omega) ?_
  refine mm_w1 rfl ?_
  refine mm_w1 rfl ?_
  refine mm_wgiv _ (vM_S60 hM) (by decide) (by decide) (vm_n dM) ?_
  refine mm_nicge (by omega) (by omega) ?_ ?_
  · intro h10
    exact absurd hj h10
  · intro h10
    refine mm_wv (vb_i 1) rfl (by decide) ?_
    refine mm_wgoto ?_
    refine mm_wv (vb_i 1) rfl (by decide) ?_
    refine mm_cvp (vb_cv (vM_S60 hM) rfl rfl rfl rfl) (by decide) (by omega) (m_right_t hM thr) ?_
    refine mm_wr rfl rfl rfl ?_
    exact rfl
theorem m_isV_f {v : Int32} (hM : vm_isM P S) (dM : vm_LD ℓ I) (thr : I 60 0 = vb_i 0) (hv : vb_idx (vb_n ℓ) v = none) (hd : 1 ≤ d) : mm_C G d 194 [.ref 60, .int v] (I, P, J, S, nc, ns) (vb_R (some (.int (vb_i 0))) (fun I' => I' = mm_up I 60 0 (vb_i 1)) P J S nc ns) := by
  have hn := vm_10 dM
  show mm_W _ _ 194 (mm_blk 194 0) [.ref 60, .int v] [] _ _
  refine mm_w1 rfl ?_
  refine mm_w1 rfl ?_
  refine mm_wiflt ?_ ?_
  · intro h2
    refine mm_wv (vb_i 0) rfl (by decide) ?_
    refine mm_wv (vb_i 1) rfl (by decide) ?_
    refine mm_cvi (vb_cv (vM_S60 hM) rfl rfl rfl rfl) (by decide) (by omega) (m_right_f (w := 1) hM thr (by decide) (by decide)) ?_
    intro I1 hI1
    refine mm_wr rfl rfl rfl ?_
    exact ⟨_, hI1, rfl⟩
  · intro h2
    refine mm_w1 rfl ?_
    refine mm_w1 rfl ?_
    refine mm_wgiv _ (vM_S60 hM) (by decide) (by decide) (vm_n dM) ?_
    refine mm_wicge ?_ ?_
    · intro h10
      refine mm_wv (vb_i 0) rfl (by decide) ?_
      refine mm_wv (vb_i 1) rfl (by decide) ?_
      refine mm_cvi (vb_cv (vM_S60 hM) rfl rfl rfl rfl) (by decide) (by omega) (m_right_f (w := 1) hM thr (by decide) (by decide)) ?_
      intro I1 hI1
      refine mm_wr rfl rfl rfl ?_
      exact ⟨_, hI1, rfl⟩
    · intro h10
      exact vb_idx_no hv h2 h10
theorem m_isS_t {v : Int32} (hM : vm_isM P S) (thr : I 60 0 = vb_i 0) (hv : (vb_idx 2 v).isSome = true) (hd : 1 ≤ d) : mm_Call G d 195 [.ref 60, .int v] (I, P, J, S, nc, ns) (.inl (some (.int (vb_i 1))), (I, P, J, S, nc, ns)) := by
  refine mm_C.call ?_
  show mm_W _ _ 195 (mm_blk 195 0) [.ref 60, .int v] [] _ _
  refine mm_w1 rfl ?_
  refine mm_w1 rfl ?_
  refine mm_wv (vb_i 0) rfl (by decide) ?_
  refine mm_wv (vb_i 1) rfl (by decide) ?_
  refine mm_csp rfl (by decide) (by omega) (m_within_t (by decide) hv) ?_
  refine mm_wv (vb_i 1) rfl (by decide) ?_
  refine mm_cvp (vb_cv (vM_S60 hM) rfl rfl rfl rfl) (by decide) (by omega) (m_right_t hM thr) ?_
  refine mm_wr rfl rfl rfl ?_
  exact rfl
theorem m_isS_f {v : Int32} (hM : vm_isM P S) (thr : I 60 0 = vb_i 0) (hv : vb_idx 2 v = none) (hd : 1 ≤ d) : mm_C G d 195 [.ref 60, .int v] (I, P, J, S, nc, ns) (vb_R (some (.int (vb_i 0))) (fun I' => I' = mm_up I 60 0 (vb_i 1)) P J S nc ns) := by
  show mm_W _ _ 195 (mm_blk 195 0) [.ref 60, .int v] [] _ _
  refine mm_w1 rfl ?_
  refine mm_w1 rfl ?_
  refine mm_wv (vb_i 0) rfl (by decide) ?_
  refine mm_wv (vb_i 1) rfl (by decide) ?_
  refine mm_csp rfl (by decide) (by omega) (m_within_f (by decide) hv) ?_
  refine mm_wv (vb_i 1) rfl (by decide) ?_
  refine mm_cvi (vb_cv (vM_S60 hM) rfl rfl rfl rfl) (by decide) (by omega) (m_right_f (w := 1) hM thr (by decide) (by decide)) ?_
  intro I1 hI1
  refine mm_wr rfl rfl rfl ?_
  exact ⟨_, hI1, rfl⟩
theorem m_isW_t {v : Int32} {h : Nat} (hM : vm_isM P S) (thr : I 60 0 = vb_i 0) (hv : (vb_idx (h + 1) v).isSome = true) (hh : h + 1 < 2 ^ 31) (hd : 1 ≤ d) : mm_Call G d 196 [.ref 60, .int v, .int (vb_i h)] (I, P, J, S, nc, ns) (.inl (some (.int (vb_i 1))), (I, P, J, S, nc, ns)) := by
  refine mm_C.call ?_
  show mm_W _ _ 196 (mm_blk 196 0) [.ref 60, .int v, .int (vb_i h)] [] _ _
  refine mm_w1 rfl ?_
  refine mm_w1 rfl ?_
  refine mm_wv (vb_i 0) rfl (by decide) ?_
  refine mm_w1 rfl ?_
  refine mm_csp rfl (by decide) (by omega) (m_within_t hh hv) ?_
  refine mm_wv (vb_i 1) rfl (by decide) ?_
  refine mm_cvp (vb_cv (vM_S60 hM) rfl rfl rfl rfl) (by decide) (by omega) (m_right_t hM thr) ?_
  refine mm_wr rfl rfl rfl ?_
  exact rfl
theorem m_isW_f {v : Int32} {h : Nat} (hM : vm_isM P S) (thr : I 60 0 = vb_i 0) (hv : vb_idx (h + 1) v = none) (hh : h + 1 < 2 ^ 31) (hd : 1 ≤ d) : mm_C G d 196 [.ref 60, .int v, .int (vb_i h)] (I, P, J, S, nc, ns) (vb_R (some (.int (vb_i 0))) (fun I' => I' = mm_up I 60 0 (vb_i 1)) P J S nc ns) := by
  show mm_W _ _ 196 (mm_blk 196 0) [.ref 60, .int v, .int (vb_i h)] [] _ _
  refine mm_w1 rfl ?_
  refine mm_w1 rfl ?_
  refine mm_wv (vb_i 0) rfl (by decide) ?_
  refine mm_w1 rfl ?_
  refine mm_csp rfl (by decide) (by omega) (m_within_f hh hv) ?_
  refine mm_wv (vb_i 1) rfl (by decide) ?_
  refine mm_cvi (vb_cv (vM_S60 hM) rfl rfl rfl rfl) (by decide) (by omega) (m_right_f (w := 1) hM thr (by decide) (by decide)) ?_
  intro I1 hI1
  refine mm_wr rfl rfl rfl ?_
  exact ⟨_, hI1, rfl⟩
theorem m_thrown {v : Int32} (hM : vm_isM P S) (thr : I 60 0 = v) : mm_Call G d 136 [.ref 60] (I, P, J, S, nc, ns) (.inl (some (.int v)), (I, P, J, S, nc, ns)) := by
  refine mm_C.call ?_
  show mm_W _ _ 136 (mm_blk 136 0) [.ref 60] [] _ _
  refine mm_w1 rfl ?_
  refine mm_wgiv v (vM_S60 hM) (by decide) (by decide) thr ?_
  refine mm_wr rfl rfl rfl ?_
  exact rfl
theorem m_roads {v : Nat} (hM : vm_isM P S) (dM : vm_LD ℓ I) (hv : v < vb_n ℓ) : mm_Call G d 197 [.ref 60, .int (vb_i v)] (I, P, J, S, nc, ns) (.inl (some (.int (vb_i (vb_cnt (vb_n ℓ) (vb_has (vb_nb ℓ v)))))), (I, P, J, S, nc, ns)) := by
  have hn := vm_10 dM
  refine mm_C.call ?_
  have loop := vb_down (p := fun i => mm_W G d 197 (mm_blk 197 4) [.ref 60, .int (vb_i v), .int (vb_i (vb_cnt i (vb_has (vb_nb ℓ v)))), .int (vb_i i)] [] (I, P, J, S, nc, ns) (fun q => q = (.inl (some (.int (vb_i (vb_cnt (vb_n ℓ) (vb_has (vb_nb ℓ v)))))), (I, P, J, S, nc, ns)))) (vb_n ℓ) (by
    intro i hi ih
    have hc := vb_cnt_le i (vb_has (vb_nb ℓ v))
    refine mm_w1 rfl ?_
    refine mm_w1 rfl ?_
    refine mm_wgiv _ (vM_S60 hM) (by decide) (by decide) (vm_n dM) ?_
    refine mm_nicge (by omega) (by omega) ?_ ?_
    · intro h9
      refine mm_w1 rfl ?_
      refine mm_wr rfl rfl rfl ?_
      rw [show i = vb_n ℓ by omega]
    · intro h9
      refine mm_w1 rfl ?_
      refine mm_w1 rfl ?_
      refine mm_wgr (vM_S60 hM) (by decide) (by decide) (vM_P60_9 hM) (vM_a65 hM) ?_
      refine mm_wv (vb_i 10) rfl (by decide) ?_
      refine mm_w1 rfl ?_
      refine mm_nmul ?_
      refine mm_w1 rfl ?_
      refine mm_nadd ?_
      refine mm_wzav _ (vM_S65 hM) (by decide) (by omega) (vm_rd dM (by omega) (by omega)) ?_
      refine mm_bifeq ?_ ?_
      · intro h24
        refine mm_wv (vb_i 0) rfl (by decide) ?_
        refine mm_nadd ?_
        refine mm_w1 (ls' := [_, _, _, _]) rfl ?_
        refine mm_nincL (ls' := [_, _, _, _]) 1 rfl (by decide) rfl ?_
        refine mm_wgoto ?_
        have ih := ih (by omega)
        simp only [vb_cnt, h24] at ih
        exact ih
      · intro h24
        refine mm_wv (vb_i 1) rfl (by decide) ?_
        refine mm_wgoto ?_
        refine mm_nadd ?_
        refine mm_w1 (ls' := [_, _, _, _]) rfl ?_
        refine mm_nincL (ls' := [_, _, _, _]) 1 rfl (by decide) rfl ?_
        refine mm_wgoto ?_
        have ih := ih (by omega)
        simp only [vb_cnt, h24] at ih
        exact ih
    )
  show mm_W _ _ 197 (mm_blk 197 0) [.ref 60, .int (vb_i v), .null, .null] [] _ _
  refine mm_wv (vb_i 0) rfl (by decide) ?_
  refine mm_w1 (ls' := [_, _, _, _]) rfl ?_
  refine mm_wv (vb_i 0) rfl (by decide) ?_
  refine mm_w1 (ls' := [_, _, _, _]) rfl ?_
  exact loop 0 (by omega)
end GUARD
section PIN
variable {G : mm_G} {d : Nat} {I : Nat → Nat → Int32} {P : Nat → Nat → Nat} {J : Nat → Nat → Int64} {S : List (Nat × Nat)} {nc ns : Nat} {μ : mm_M} {ℓ : vb_L} {x : vb_X} {b t : Nat}
theorem m_pin {s : Nat} (hM : vm_isM P S) (dM : vm_LD ℓ I) (hR : vm_row ℓ (I 76) 0 x t) (hli : vl_inv ℓ) (hlb : vl_bel ℓ) (hsj : vx_dj (vx_s x)) (hfj : vx_dj (vx_f x)) (hst : vx_ws x) (hs : s < 2) (hd : 6 ≤ d) : mm_C G d 199 [.ref 60, .int (vb_i s)] (I, P, J, S, nc, ns) (vb_R (some (.int (q_pin ℓ x s))) (fun I' => vb_fr vm_s8 I I') P J S nc ns) := by
  have hn := vm_10 dM
  have ht := vm_r2 hR
  have he := vm_e2 hR
  have hF : vb_fr vm_s8 I I := vb_fr.rf
  have loop := vb_down (p := fun i => ∀ (I1 : Nat → Nat → Int32), vb_fr vm_s8 I I1 → mm_W G d 199 (mm_blk 199 4) [.ref 60, .int (vb_i s), .int (vb_set i (fun v => vb_has (vx_s x s) v && !(q_hang ℓ x v == 0))), .int (vb_i i)] [] (I1, P, J, S, nc, ns) (vb_R (some (.int (q_pin ℓ x s))) (fun I' => vb_fr vm_s8 I I') P J S nc ns)) (vb_n ℓ) (by
    intro i hi ih I1 hF1
    have hR1 : vm_row ℓ (I1 76) 0 x t := by rw [hF1 76 (by simp only [vm_s8]; decide)]; exact hR
    have dM1 : vm_LD ℓ I1 := dM.fr hF1 (fun a h1 h2 h3 => by simp only [vm_s8] at h3; omega)
    have hin := vx_in2 (vx_s x) i
    refine mm_w1 rfl ?_
    refine mm_w1 rfl ?_
    refine mm_wgiv _ (vM_S60 hM) (by decide) (by decide) (vm_n dM1) ?_
    refine mm_nicge (by omega) (by omega) ?_ ?_
    · intro h9
      refine mm_w1 rfl ?_
      refine mm_wr rfl rfl rfl ?_
      refine ⟨_, hF1, ?_⟩
      rw [show i = vb_n ℓ by omega]; rfl
    · intro h9
      refine mm_w1 rfl ?_
      refine mm_w1 rfl ?_
      refine mm_wgr (vM_S60 hM) (by decide) (by decide) (vM_P60_38 hM) (vM_a76 hM) ?_
      refine mm_wv (vb_i 0) rfl (by decide) ?_
      refine mm_w1 rfl ?_
      refine mm_nadd ?_
      refine mm_wiav (vb_i (vx_in (vx_s x) i)) (vM_a76 hM) (vM_S76 hM) (by decide) (by omega) (vm_rs hR1 (by omega)) ?_
      refine mm_w1 rfl ?_
      refine mm_nicne (by omega) (by omega) ?_ ?_
      · intro h22
        refine mm_wv (vb_i 0) rfl (by decide) ?_
        refine mm_w1 rfl ?_
        rw [show ∀ z : Int32, z ||| vb_i 0 = z from fun z => by rw [show (vb_i 0 : Int32) = 0 from rfl, Int32.or_zero]]
        refine mm_w1 (ls' := [_, _, _, _]) rfl ?_
        refine mm_nincL (ls' := [_, _, _, _]) 1 rfl (by decide) rfl ?_
        refine mm_wgoto ?_
        have ih := ih (by omega) _ hF1
        first
          | (rw [vb_set_s0 (p := (fun v => vb_has (vx_s x s) v && !(q_hang ℓ x v == 0))) (by show (vb_has (vx_s x s) i && _) = false; rw [show vb_has (vx_s x s) i = false by rw [← vx_in_dec hsj hs]; exact decide_eq_false h22]; rfl)] at ih; exact ih)
          | (rw [vb_set_s1 (p := (fun v => vb_has (vx_s x s) v && !(q_hang ℓ x v == 0))) (by show (vb_has (vx_s x s) i && _) = true; rw [(vx_in_eq hsj hs).mp h22, vb_neb h30]; rfl)] at ih; exact ih)
          | (rw [vb_set_s0 (p := (fun v => vb_has (vx_s x s) v && !(q_hang ℓ x v == 0))) (by show (vb_has (vx_s x s) i && _) = false; rw [(vx_in_eq hsj hs).mp h22, vb_eqb h30]; rfl)] at ih; exact ih)
      · intro h22
        refine mm_w1 rfl ?_
        refine mm_w1 rfl ?_
        refine mm_cvi (vb_cv (vM_S60 hM) rfl rfl rfl rfl) (by decide) (by omega) (m_hang hM dM1 hR1 hli hlb hsj hfj hst (by omega) (by omega)) ?_
        intro I2 hf2
        have hF2 : vb_fr vm_s8 I I2 := hF1.tr hf2
        have hR2 : vm_row ℓ (I2 76) 0 x t := by rw [hF2 76 (by simp only [vm_s8]; decide)]; exact hR
        have dM2 : vm_LD ℓ I2 := dM.fr hF2 (fun a h1 h2 h3 => by simp only [vm_s8] at h3; omega)
        refine mm_wifeq ?_ ?_
        · intro h30
          refine mm_wv (vb_i 0) rfl (by decide) ?_
          refine mm_w1 rfl ?_
          rw [show ∀ z : Int32, z ||| vb_i 0 = z from fun z => by rw [show (vb_i 0 : Int32) = 0 from rfl, Int32.or_zero]]
          refine mm_w1 (ls' := [_, _, _, _]) rfl ?_
          refine mm_nincL (ls' := [_, _, _, _]) 1 rfl (by decide) rfl ?_
          refine mm_wgoto ?_
          have ih := ih (by omega) _ hF2
          first
            | (rw [vb_set_s0 (p := (fun v => vb_has (vx_s x s) v && !(q_hang ℓ x v == 0))) (by show (vb_has (vx_s x s) i && _) = false; rw [show vb_has (vx_s x s) i = false by rw [← vx_in_dec hsj hs]; exact decide_eq_false h22]; rfl)] at ih; exact ih)
            | (rw [vb_set_s1 (p := (fun v => vb_has (vx_s x s) v && !(q_hang ℓ x v == 0))) (by show (vb_has (vx_s x s) i && _) = true; rw [(vx_in_eq hsj hs).mp h22, vb_neb h30]; rfl)] at ih; exact ih)
            | (rw [vb_set_s0 (p := (fun v => vb_has (vx_s x s) v && !(q_hang ℓ x v == 0))) (by show (vb_has (vx_s x s) i && _) = false; rw [(vx_in_eq hsj hs).mp h22, vb_eqb h30]; rfl)] at ih; exact ih)
        · intro h30
          refine mm_wv (vb_i 1) rfl (by decide) ?_
          refine mm_w1 rfl ?_
          refine mm_nbit (by omega) ?_
          refine mm_wgoto ?_
          refine mm_w1 rfl ?_ 
          refine mm_w1 (ls' := [_, _, _, _]) rfl ?_
          refine mm_nincL (ls' := [_, _, _, _]) 1 rfl (by decide) rfl ?_
          refine mm_wgoto ?_
          have ih := ih (by omega) _ hF2
          first
            | (rw [vb_set_s0 (p := (fun v => vb_has (vx_s x s) v && !(q_hang ℓ x v == 0))) (by show (vb_has (vx_s x s) i && _) = false; rw [show vb_has (vx_s x s) i = false by rw [← vx_in_dec hsj hs]; exact decide_eq_false h22]; rfl)] at ih; exact ih)
            | (rw [vb_set_s1 (p := (fun v => vb_has (vx_s x s) v && !(q_hang ℓ x v == 0))) (by show (vb_has (vx_s x s) i && _) = true; rw [(vx_in_eq hsj hs).mp h22, vb_neb h30]; rfl)] at ih; exact ih)
            | (rw [vb_set_s0 (p := (fun v => vb_has (vx_s x s) v && !(q_hang ℓ x v == 0))) (by show (vb_has (vx_s x s) i && _) = false; rw [(vx_in_eq hsj hs).mp h22, vb_eqb h30]; rfl)] at ih; exact ih)
    )
  show mm_W _ _ 199 (mm_blk 199 0) [.ref 60, .int (vb_i s), .null, .null] [] _ _
  refine mm_wv (vb_i 0) rfl (by decide) ?_
  refine mm_w1 (ls' := [_, _, _, _]) rfl ?_
  refine mm_wv (vb_i 0) rfl (by decide) ?_
  refine mm_w1 (ls' := [_, _, _, _]) rfl ?_
  exact loop 0 (by omega) I hF
end PIN
