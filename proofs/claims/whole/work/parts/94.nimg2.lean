section NIMG2
variable {G : mm_G} {d : Nat} {I : Nat → Nat → Int32} {P : Nat → Nat → Nat} {J : Nat → Nat → Int64} {S : List (Nat × Nat)} {nc ns : Nat} {μ : mm_M} {σ : vb_St}
def vm_if (I I' : Nat → Nat → Int32) : Prop := (∀ a, a ≠ 60 → a ≠ 83 → a ≠ 84 → a ≠ 85 → I' a = I a) ∧ (∀ s, s ≠ 0 → s ≠ 49 → s ≠ 50 → s ≠ 51 → I' 60 s = I 60 s)
theorem vm_if.im {I' : Nat → Nat → Int32} (hn : vb_n (vs_l σ) ≤ 10) (h : vm_MD σ I) (k : vm_if I I') (h1 : I' 60 49 = vb_i 1) (h2 : I' 60 50 = vb_i (vs_a σ).length) (h3 : I' 60 51 = vb_i (vs_t σ).length) (h4 : ∀ j, j < 46 → I' 83 j = I 76 j) (h5 : ∀ j, j < 1840 → I' 84 j = I 77 j) (h6 : ∀ j, j < 12 → I' 85 j = I 81 j) : vm_MD (sp_image σ) I' := by
  obtain ⟨k1, k2⟩ := k
  obtain ⟨g1, g2, g3, g4, g5, g6, g7, g8, g9, g10, g11, g12, g13⟩ := h
  refine ⟨g1.k2 (fun s q1 q2 => k2 s (by omega) (by omega) (by omega) (by omega)) (fun a q1 q2 => k1 a (by omega) (by omega) (by omega) (by omega)), ?_, ?_, ?_, ?_, ?_, h1, ?_, ?_, g10, ?_, ?_, ?_⟩
  · rw [k1 76 (by decide) (by decide) (by decide) (by decide)]; exact g2
  · rw [k2 40 (by decide) (by decide) (by decide) (by decide)]; exact g3
  · rw [k1 77 (by decide) (by decide) (by decide) (by decide)]; exact g4
  · rw [k2 45 (by decide) (by decide) (by decide) (by decide)]; exact g5
  · rw [k1 81 (by decide) (by decide) (by decide) (by decide)]; exact g6
  · intro z hz
    have hz : some (vs_x σ, vs_a σ, vs_t σ) = some z := hz
    cases hz
    exact ⟨h2, h3, g2.mv hn (fun j hj => by rw [Nat.zero_add]; exact h4 j hj), g4.kp hn h5, g6.kp h6⟩
  · rw [k2 11 (by decide) (by decide) (by decide) (by decide)]; exact g9
  · rw [k1 66 (by decide) (by decide) (by decide) (by decide)]; exact g11
  · rw [k2 13 (by decide) (by decide) (by decide) (by decide)]; exact g12
  · rw [k1 67 (by decide) (by decide) (by decide) (by decide)]; exact g13
def vm_ig (I I' : Nat → Nat → Int32) : Prop := (∀ a, a ≠ 60 → a ≠ 76 → a ≠ 77 → a ≠ 81 → I' a = I a) ∧ (∀ s, s ≠ 0 → s ≠ 40 → s ≠ 45 → I' 60 s = I 60 s)
theorem vm_ig.re {I' : Nat → Nat → Int32} {z : vb_X × List vb_X × List (Nat × Nat)} (hn : vb_n (vs_l σ) ≤ 10) (h : vm_MD σ I) (k : vm_ig I I') (hz : vs_i σ = some z) (h2 : I' 60 40 = vb_i z.2.1.length) (h3 : I' 60 45 = vb_i z.2.2.length) (h4 : ∀ j, j < 46 → I' 76 j = I 83 j) (h5 : ∀ j, j < 1840 → I' 77 j = I 84 j) (h6 : ∀ j, j < 12 → I' 81 j = I 85 j) : vm_MD (st_restore σ) I' := by
  obtain ⟨k1, k2⟩ := k
  obtain ⟨g1, g2, g3, g4, g5, g6, g7, g8, g9, g10, g11, g12, g13⟩ := h
  rw [show st_restore σ = (vs_l σ, z.1, z.2.1, z.2.2, vs_i σ, vs_p σ, vs_f σ, vs_r σ) by simp only [st_restore, hz]]
  obtain ⟨q1, q2, q3, q4, q5⟩ := g8 z hz
  refine ⟨g1.k2 (fun s q1 q2 => k2 s (by omega) (by omega) (by omega)) (fun a q1 q2 => k1 a (by omega) (by omega) (by omega) (by omega)), q3.mv hn (fun j hj => by rw [Nat.zero_add]; exact h4 j hj), h2, q4.kp hn h5, h3, q5.kp h6, ?_, ?_, ?_, g10, ?_, ?_, ?_⟩
  · rw [k2 49 (by decide) (by decide) (by decide)]; exact g7
  · intro z' hz'
    rw [k2 50 (by decide) (by decide) (by decide), k2 51 (by decide) (by decide) (by decide), k1 83 (by decide) (by decide) (by decide) (by decide), k1 84 (by decide) (by decide) (by decide) (by decide), k1 85 (by decide) (by decide) (by decide) (by decide)]
    exact g8 z' hz'
  · rw [k2 11 (by decide) (by decide) (by decide)]; exact g9
  · rw [k1 66 (by decide) (by decide) (by decide) (by decide)]; exact g11
  · rw [k2 13 (by decide) (by decide) (by decide)]; exact g12
  · rw [k1 67 (by decide) (by decide) (by decide) (by decide)]; exact g13
theorem n_image (hM : vm_isM P S) (dN : vm_MD σ I) (hd : 20 ≤ d) : mm_C G d 247 [.ref 60] (I, P, J, S, nc, ns) (vb_R none (fun I' => vm_MD (sp_image σ) I' ∧ I' 60 0 = vb_i 0) P J S nc ns) := by
  have hn := vm_10 (vmd_l dN)
  have loop : ∀ i, i ≤ 46 → ∀ (I1 : Nat → Nat → Int32), vm_if I I1 → I1 60 0 = vb_i 0 → I1 60 49 = vb_i 1 → I1 60 50 = vb_i (vs_a σ).length → I1 60 51 = vb_i (vs_t σ).length → (∀ j, j < i → I1 83 j = I 76 j) → mm_W G d 247 (mm_blk 247 28) [.ref 60, .int (vb_i i)] [] (I1, P, J, S, nc, ns) (vb_R none (fun I' => vm_MD (sp_image σ) I' ∧ I' 60 0 = vb_i 0) P J S nc ns) := by
    refine vb_down 46 ?_
    intro i hi ih I1 k1 t1 u1 v1 w1 c1
    refine mm_w1 rfl ?_
    refine mm_wv (vb_i 46) rfl (by decide) ?_
    refine mm_nicge (by omega) (by omega) ?_ ?_
    · intro h31
      refine mm_w1 rfl ?_
      refine mm_w1 rfl ?_
      refine mm_wgr (vM_S60 hM) (by decide) (by decide) (vM_P60_39 hM) (vM_a77 hM) ?_
      refine mm_w1 rfl ?_
      refine mm_wgr (vM_S60 hM) (by decide) (by decide) (vM_P60_53 hM) (vM_a84 hM) ?_
      refine mm_cvn (vb_cv (vM_S60 hM) rfl rfl rfl rfl) (by decide) (by omega) (m_cp77 hM) ?_
      intro I2 hq02
      obtain ⟨c2, f2⟩ := hq02 
      refine mm_w1 rfl ?_
      refine mm_w1 rfl ?_
      refine mm_wgr (vM_S60 hM) (by decide) (by decide) (vM_P60_46 hM) (vM_a81 hM) ?_
      refine mm_w1 rfl ?_
      refine mm_wgr (vM_S60 hM) (by decide) (by decide) (vM_P60_54 hM) (vM_a85 hM) ?_
      refine mm_cvn (vb_cv (vM_S60 hM) rfl rfl rfl rfl) (by decide) (by omega) (m_cp81 hM) ?_
      intro I3 hq03
      obtain ⟨c3, f3⟩ := hq03 
      refine mm_wr rfl rfl rfl ?_
      have e603 : I3 60 = I1 60 := by rw [f3 60 (by decide), f2 60 (by decide)]
      refine ⟨_, ⟨vm_if.im hn dN ⟨fun a h1 h2 h3 h4 => ?_, fun s h1 h2 h3 h4 => ?_⟩ (by rw [e603]; exact u1) (by rw [e603]; exact v1) (by rw [e603]; exact w1) (fun j hj => ?_) (fun j hj => ?_) (fun j hj => ?_), by rw [e603]; exact t1⟩, rfl⟩
      · rw [f3 a h4, f2 a h3]; exact k1.1 a h1 h2 h3 h4
      · rw [e603]; exact k1.2 s h1 h2 h3 h4
      · rw [f3 83 (by decide), f2 83 (by decide)]; exact c1 j (by omega)
      · rw [f3 84 (by decide), c2 j hj, k1.1 77 (by decide) (by decide) (by decide) (by decide)]
      · rw [c3 j hj, f2 81 (by decide), k1.1 81 (by decide) (by decide) (by decide) (by decide)]
    · intro h31
      refine mm_w1 rfl ?_
      refine mm_wgr (vM_S60 hM) (by decide) (by decide) (vM_P60_52 hM) (vM_a83 hM) ?_
      refine mm_w1 rfl ?_
      refine mm_w1 rfl ?_
      refine mm_wgr (vM_S60 hM) (by decide) (by decide) (vM_P60_38 hM) (vM_a76 hM) ?_
      refine mm_w1 rfl ?_
      refine mm_wiav (I 76 i) (vM_a76 hM) (vM_S76 hM) (by decide) (by omega) (by rw [k1.1 76 (by decide) (by decide) (by decide) (by decide)]) ?_
      refine mm_wisN (vM_S83 hM) (by decide) (by omega) ?_
      intro I2 hI2
      have k2 : vm_if I I2 := ⟨fun a h1 h2 h3 h4 => by rw [hI2, vb_up3 _ _ h2]; exact k1.1 a h1 h2 h3 h4, fun s h1 h2 h3 h4 => by rw [hI2, vb_up3 _ _ (by decide)]; exact k1.2 s h1 h2 h3 h4⟩
      have e602 : I2 60 = I1 60 := by rw [hI2, vb_up3 _ _ (by decide)]
      refine mm_nincL (ls' := [_, _]) 1 rfl (by decide) rfl ?_
      refine mm_wgoto ?_
      refine ih (by omega) _ k2 (by rw [e602]; exact t1) (by rw [e602]; exact u1) (by rw [e602]; exact v1) (by rw [e602]; exact w1) (fun j hj => ?_)
      by_cases e : j = i
      · rw [e, hI2, vb_up1]
      · rw [hI2, vb_up2 _ _ (by omega)]; exact c1 j (by omega)
  show mm_W _ _ 247 (mm_blk 247 0) [.ref 60, .null] [] _ _
  refine mm_w1 rfl ?_
  refine mm_wv (vb_i 0) rfl (by decide) ?_
  refine mm_wpiN (vM_S60 hM) (by decide) (by decide) ?_
  intro I1 hI1
  refine mm_w1 rfl ?_
  refine mm_wv (vb_i 1) rfl (by decide) ?_
  refine mm_wpzN (vM_S60 hM) (by decide) (by decide) (Or.inr rfl) ?_
  intro I2 hI2
  refine mm_w1 rfl ?_
  refine mm_w1 rfl ?_
  refine mm_wgiv (vb_i (vs_a σ).length) (vM_S60 hM) (by decide) (by decide) (by rw [hI2, vb_up2 _ _ (by omega), hI1, vb_up2 _ _ (by omega)]; exact vmd_an dN) ?_
  refine mm_wpiN (vM_S60 hM) (by decide) (by decide) ?_
  intro I3 hI3
  refine mm_w1 rfl ?_
  refine mm_w1 rfl ?_
  refine mm_wgiv (vb_i (vs_t σ).length) (vM_S60 hM) (by decide) (by decide) (by rw [hI3, vb_up2 _ _ (by omega), hI2, vb_up2 _ _ (by omega), hI1, vb_up2 _ _ (by omega)]; exact vmd_tn dN) ?_
  refine mm_wpiN (vM_S60 hM) (by decide) (by decide) ?_
  intro I4 hI4
  refine mm_wv (vb_i 0) rfl (by decide) ?_
  refine mm_w1 (ls' := [_, _]) rfl ?_
  refine loop 0 (by omega) _ ⟨fun a h1 _ _ _ => ?_, fun s h1 h2 h3 h4 => ?_⟩ ?_ ?_ ?_ ?_ (fun j h => absurd h (by omega))
  · rw [hI4, vb_up3 _ _ h1, hI3, vb_up3 _ _ h1, hI2, vb_up3 _ _ h1, hI1, vb_up3 _ _ h1]
  · rw [hI4, vb_up2 _ _ (by omega), hI3, vb_up2 _ _ (by omega), hI2, vb_up2 _ _ (by omega), hI1, vb_up2 _ _ (by omega)]
  · rw [hI4, vb_up2 _ _ (by omega), hI3, vb_up2 _ _ (by omega), hI2, vb_up2 _ _ (by omega), hI1, vb_up1]
  · rw [hI4, vb_up2 _ _ (by omega), hI3, vb_up2 _ _ (by omega), hI2, vb_up1]
  · rw [hI4, vb_up2 _ _ (by omega), hI3, vb_up1]
  · rw [hI4, vb_up1]
end NIMG2
