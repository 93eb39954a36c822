/-! BOARD OF THE REFERENCE -/
section NBD
variable {G : mm_G} {d : Nat} {I : Nat → Nat → Int32} {P : Nat → Nat → Nat} {J : Nat → Nat → Int64} {S : List (Nat × Nat)} {nc ns : Nat} {μ : mm_M} {σ : vb_St}
theorem m_cn68 (hM : vm_isM P S) : mm_C G d 139 [.ref 60, .ref 68, .ref 61] (I, P, J, S, nc, ns) (vb_R none (fun I' => (∀ j, j < 10 → I' 61 j = I 68 j) ∧ vb_fr (fun a => a = 61) I I') P J S nc ns) := by
  have loop := vb_down (p := fun i => ∀ (I1 : Nat → Nat → Int32), (∀ j, j < i → I1 61 j = I 68 j) → vb_fr (fun a => a = 61) I I1 → mm_W G d 139 (mm_blk 139 2) [.ref 60, .ref 68, .ref 61, .int (vb_i i)] [] (I1, P, J, S, nc, ns) (vb_R none (fun I' => (∀ j, j < 10 → I' 61 j = I 68 j) ∧ vb_fr (fun a => a = 61) I I') P J S nc ns)) 10 (by
    intro i hi ih I1 hc1 hf1
    refine mm_w1 rfl ?_
    refine mm_w1 rfl ?_
    refine mm_wal (vM_a68 hM) (vM_S68 hM) (by decide) ?_
    refine mm_nicge (by omega) (by omega) ?_ ?_
    · intro h5
      refine mm_wr rfl rfl rfl ?_
      exact ⟨_, ⟨fun j hj => hc1 j (by omega), hf1⟩, rfl⟩
    · intro h5
      refine mm_w1 rfl ?_
      refine mm_w1 rfl ?_
      refine mm_w1 rfl ?_
      refine mm_w1 rfl ?_
      refine mm_wiav (I 68 i) (vM_a68 hM) (vM_S68 hM) (by decide) (by omega) (by rw [hf1 68 (by decide)]) ?_
      refine mm_wisN (vM_S61 hM) (by decide) (by omega) ?_
      intro I2 hI2
      have hf2 : vb_fr (fun a => a = 61) I I2 := by rw [hI2]; exact hf1.up1
      refine mm_nincL (ls' := [_, _, _, _]) 1 rfl (by decide) rfl ?_
      refine mm_wgoto ?_
      refine ih (by omega) _ (fun j hj => ?_) hf2
      by_cases e : j = i
      · rw [e, hI2, vb_up1]
      · rw [hI2, vb_up2 _ _ (by omega)]; exact hc1 j (by omega)
    )
  show mm_W _ _ 139 (mm_blk 139 0) [.ref 60, .ref 68, .ref 61, .null] [] _ _
  refine mm_wv (vb_i 0) rfl (by decide) ?_
  refine mm_w1 (ls' := [_, _, _, _]) rfl ?_
  exact loop 0 (by omega) _ (fun j h => absurd h (by omega)) vb_fr.rf
theorem m_cn69 (hM : vm_isM P S) : mm_C G d 139 [.ref 60, .ref 69, .ref 62] (I, P, J, S, nc, ns) (vb_R none (fun I' => (∀ j, j < 10 → I' 62 j = I 69 j) ∧ vb_fr (fun a => a = 62) I I') P J S nc ns) := by
  have loop := vb_down (p := fun i => ∀ (I1 : Nat → Nat → Int32), (∀ j, j < i → I1 62 j = I 69 j) → vb_fr (fun a => a = 62) I I1 → mm_W G d 139 (mm_blk 139 2) [.ref 60, .ref 69, .ref 62, .int (vb_i i)] [] (I1, P, J, S, nc, ns) (vb_R none (fun I' => (∀ j, j < 10 → I' 62 j = I 69 j) ∧ vb_fr (fun a => a = 62) I I') P J S nc ns)) 10 (by
    intro i hi ih I1 hc1 hf1
    refine mm_w1 rfl ?_
    refine mm_w1 rfl ?_
    refine mm_wal (vM_a69 hM) (vM_S69 hM) (by decide) ?_
    refine mm_nicge (by omega) (by omega) ?_ ?_
    · intro h5
      refine mm_wr rfl rfl rfl ?_
      exact ⟨_, ⟨fun j hj => hc1 j (by omega), hf1⟩, rfl⟩
    · intro h5
      refine mm_w1 rfl ?_
      refine mm_w1 rfl ?_
      refine mm_w1 rfl ?_
      refine mm_w1 rfl ?_
      refine mm_wiav (I 69 i) (vM_a69 hM) (vM_S69 hM) (by decide) (by omega) (by rw [hf1 69 (by decide)]) ?_
      refine mm_wisN (vM_S62 hM) (by decide) (by omega) ?_
      intro I2 hI2
      have hf2 : vb_fr (fun a => a = 62) I I2 := by rw [hI2]; exact hf1.up1
      refine mm_nincL (ls' := [_, _, _, _]) 1 rfl (by decide) rfl ?_
      refine mm_wgoto ?_
      refine ih (by omega) _ (fun j hj => ?_) hf2
      by_cases e : j = i
      · rw [e, hI2, vb_up1]
      · rw [hI2, vb_up2 _ _ (by omega)]; exact hc1 j (by omega)
    )
  show mm_W _ _ 139 (mm_blk 139 0) [.ref 60, .ref 69, .ref 62, .null] [] _ _
  refine mm_wv (vb_i 0) rfl (by decide) ?_
  refine mm_w1 (ls' := [_, _, _, _]) rfl ?_
  exact loop 0 (by omega) _ (fun j h => absurd h (by omega)) vb_fr.rf
theorem m_cn71 (hM : vm_isM P S) : mm_C G d 139 [.ref 60, .ref 71, .ref 63] (I, P, J, S, nc, ns) (vb_R none (fun I' => (∀ j, j < 3 → I' 63 j = I 71 j) ∧ vb_fr (fun a => a = 63) I I') P J S nc ns) := by
  have loop := vb_down (p := fun i => ∀ (I1 : Nat → Nat → Int32), (∀ j, j < i → I1 63 j = I 71 j) → vb_fr (fun a => a = 63) I I1 → mm_W G d 139 (mm_blk 139 2) [.ref 60, .ref 71, .ref 63, .int (vb_i i)] [] (I1, P, J, S, nc, ns) (vb_R none (fun I' => (∀ j, j < 3 → I' 63 j = I 71 j) ∧ vb_fr (fun a => a = 63) I I') P J S nc ns)) 3 (by
    intro i hi ih I1 hc1 hf1
    refine mm_w1 rfl ?_
    refine mm_w1 rfl ?_
    refine mm_wal (vM_a71 hM) (vM_S71 hM) (by decide) ?_
    refine mm_nicge (by omega) (by omega) ?_ ?_
    · intro h5
      refine mm_wr rfl rfl rfl ?_
      exact ⟨_, ⟨fun j hj => hc1 j (by omega), hf1⟩, rfl⟩
    · intro h5
      refine mm_w1 rfl ?_
      refine mm_w1 rfl ?_
      refine mm_w1 rfl ?_
      refine mm_w1 rfl ?_
      refine mm_wiav (I 71 i) (vM_a71 hM) (vM_S71 hM) (by decide) (by omega) (by rw [hf1 71 (by decide)]) ?_
      refine mm_wisN (vM_S63 hM) (by decide) (by omega) ?_
      intro I2 hI2
      have hf2 : vb_fr (fun a => a = 63) I I2 := by rw [hI2]; exact hf1.up1
      refine mm_nincL (ls' := [_, _, _, _]) 1 rfl (by decide) rfl ?_
      refine mm_wgoto ?_
      refine ih (by omega) _ (fun j hj => ?_) hf2
      by_cases e : j = i
      · rw [e, hI2, vb_up1]
      · rw [hI2, vb_up2 _ _ (by omega)]; exact hc1 j (by omega)
    )
  show mm_W _ _ 139 (mm_blk 139 0) [.ref 60, .ref 71, .ref 63, .null] [] _ _
  refine mm_wv (vb_i 0) rfl (by decide) ?_
  refine mm_w1 (ls' := [_, _, _, _]) rfl ?_
  exact loop 0 (by omega) _ (fun j h => absurd h (by omega)) vb_fr.rf
theorem m_cn72 (hM : vm_isM P S) : mm_C G d 139 [.ref 60, .ref 72, .ref 64] (I, P, J, S, nc, ns) (vb_R none (fun I' => (∀ j, j < 2800 → I' 64 j = I 72 j) ∧ vb_fr (fun a => a = 64) I I') P J S nc ns) := by
  have loop := vb_down (p := fun i => ∀ (I1 : Nat → Nat → Int32), (∀ j, j < i → I1 64 j = I 72 j) → vb_fr (fun a => a = 64) I I1 → mm_W G d 139 (mm_blk 139 2) [.ref 60, .ref 72, .ref 64, .int (vb_i i)] [] (I1, P, J, S, nc, ns) (vb_R none (fun I' => (∀ j, j < 2800 → I' 64 j = I 72 j) ∧ vb_fr (fun a => a = 64) I I') P J S nc ns)) 2800 (by
    intro i hi ih I1 hc1 hf1
    refine mm_w1 rfl ?_
    refine mm_w1 rfl ?_
    refine mm_wal (vM_a72 hM) (vM_S72 hM) (by decide) ?_
    refine mm_nicge (by omega) (by omega) ?_ ?_
    · intro h5
      refine mm_wr rfl rfl rfl ?_
      exact ⟨_, ⟨fun j hj => hc1 j (by omega), hf1⟩, rfl⟩
    · intro h5
      refine mm_w1 rfl ?_
      refine mm_w1 rfl ?_
      refine mm_w1 rfl ?_
      refine mm_w1 rfl ?_
      refine mm_wiav (I 72 i) (vM_a72 hM) (vM_S72 hM) (by decide) (by omega) (by rw [hf1 72 (by decide)]) ?_
      refine mm_wisN (vM_S64 hM) (by decide) (by omega) ?_
      intro I2 hI2
      have hf2 : vb_fr (fun a => a = 64) I I2 := by rw [hI2]; exact hf1.up1
      refine mm_nincL (ls' := [_, _, _, _]) 1 rfl (by decide) rfl ?_
      refine mm_wgoto ?_
      refine ih (by omega) _ (fun j hj => ?_) hf2
      by_cases e : j = i
      · rw [e, hI2, vb_up1]
      · rw [hI2, vb_up2 _ _ (by omega)]; exact hc1 j (by omega)
    )
  show mm_W _ _ 139 (mm_blk 139 0) [.ref 60, .ref 72, .ref 64, .null] [] _ _
  refine mm_wv (vb_i 0) rfl (by decide) ?_
  refine mm_w1 (ls' := [_, _, _, _]) rfl ?_
  exact loop 0 (by omega) _ (fun j h => absurd h (by omega)) vb_fr.rf
theorem m_bd2 {m sc : Nat} {v1 : Int32} (hM : vm_isM P S) (h1 : I 60 1 = vb_i m) (hm : m ≤ 10) (h3 : I 60 3 = vb_i sc) (hsc : sc ≤ 3) (h74 : ∀ j, j < 100 → ∃ z, I 74 j = vb_b z) : mm_W G d 170 (mm_blk 170 232) [.ref 60, .int v1, .int (vb_i 0)] [] (I, P, J, S, nc, ns) (vb_R (some (.int (vb_i 0))) (fun I' => (∀ j, j < 100 → I' 65 j = I 74 j) ∧ (∀ v, v < 10 → I' 76 v = if v < m then I 70 v else vb_i 2) ∧ (∀ v, v < 10 → I' 76 (10 + v) = if v < m then I 70 v else vb_i 2) ∧ (∀ j, 20 ≤ j → j < 44 → I' 76 j = vb_i 0) ∧ (∀ j, j < 2 → I' 76 (44 + j) = q_y0 sc j) ∧ I' 60 40 = vb_i 0 ∧ I' 60 45 = vb_i 0 ∧ I' 60 49 = vb_i 0 ∧ (∀ a, a ≠ 60 → a ≠ 65 → a ≠ 76 → I' a = I a) ∧ (∀ q, q ≠ 40 → q ≠ 45 → q ≠ 49 → I' 60 q = I 60 q)) P J S nc ns) := by
  have k334 : ∀ (I1 : Nat → Nat → Int32), (∀ j, j < 100 → I1 65 j = I 74 j) → (∀ a, a ≠ 65 → a ≠ 76 → I1 a = I a) → (∀ v, v < 10 → I1 76 v = if v < m then I 70 v else vb_i 2) → (∀ v, v < 10 → I1 76 (10 + v) = if v < m then I 70 v else vb_i 2) → (∀ j, 20 ≤ j → j < 46 → I1 76 j = vb_i 0) → ∀ i, mm_W G d 170 (mm_blk 170 334) [.ref 60, .int v1, i] [] (I1, P, J, S, nc, ns) (vb_R (some (.int (vb_i 0))) (fun I' => (∀ j, j < 100 → I' 65 j = I 74 j) ∧ (∀ v, v < 10 → I' 76 v = if v < m then I 70 v else vb_i 2) ∧ (∀ v, v < 10 → I' 76 (10 + v) = if v < m then I 70 v else vb_i 2) ∧ (∀ j, 20 ≤ j → j < 44 → I' 76 j = vb_i 0) ∧ (∀ j, j < 2 → I' 76 (44 + j) = q_y0 sc j) ∧ I' 60 40 = vb_i 0 ∧ I' 60 45 = vb_i 0 ∧ I' 60 49 = vb_i 0 ∧ (∀ a, a ≠ 60 → a ≠ 65 → a ≠ 76 → I' a = I a) ∧ (∀ q, q ≠ 40 → q ≠ 45 → q ≠ 49 → I' 60 q = I 60 q)) P J S nc ns) := by
    intro I1 g1 g2 g3 g4 g5 i
    have h31 : I1 60 3 = vb_i sc := by rw [g2 60 (by decide) (by decide)]; exact h3
    have hs : sc = 0 ∨ sc = 1 ∨ sc = 2 ∨ sc = 3 := by omega
    rcases hs with rfl | rfl | rfl | rfl
    · skip
      refine mm_w1 rfl ?_
      refine mm_wgr (vM_S60 hM) (by decide) (by decide) (vM_P60_38 hM) (vM_a76 hM) ?_
      refine mm_wv (vb_i 44) rfl (by decide) ?_
      refine mm_w1 rfl ?_
      refine mm_wgiv _ (vM_S60 hM) (by decide) (by decide) h31 ?_
      refine mm_nifle (by decide) (fun _ => ?_) (fun h => absurd h (by decide))
      refine mm_wv (-1) rfl (by decide) ?_
      refine mm_wisN (vM_S76 hM) (by decide) (by omega) ?_
      intro I2 hI2
      have h32 : I2 60 3 = vb_i 0 := by rw [hI2, vb_up3 _ _ (by decide)]; exact h31
      refine mm_w1 rfl ?_
      refine mm_wgr (vM_S60 hM) (by decide) (by decide) (vM_P60_38 hM) (vM_a76 hM) ?_
      refine mm_wv (vb_i 45) rfl (by decide) ?_
      refine mm_w1 rfl ?_
      refine mm_wgiv _ (vM_S60 hM) (by decide) (by decide) h32 ?_
      refine mm_wv (vb_i 1) rfl (by decide) ?_
      refine mm_nicle (by decide) (by decide) (fun _ => ?_) (fun h => absurd h (by decide))
      refine mm_w1 rfl ?_
      refine mm_wgr (vM_S60 hM) (by decide) (by decide) (vM_P60_38 hM) (vM_a76 hM) ?_
      refine mm_wv (vb_i 44) rfl (by decide) ?_
      refine mm_wiav _ (vM_a76 hM) (vM_S76 hM) (by decide) (by omega) (by rw [hI2, vb_up1]) ?_
      refine mm_wisN (vM_S76 hM) (by decide) (by omega) ?_
      intro I3 hI3
      have h33 : I3 60 3 = vb_i 0 := by rw [hI3, vb_up3 _ _ (by decide)]; exact h32
      refine mm_w1 rfl ?_
      refine mm_wv (vb_i 0) rfl (by decide) ?_
      refine mm_wpiN (vM_S60 hM) (by decide) (by decide) ?_
      intro I4 hI4
      have _u := hI4
      refine mm_w1 rfl ?_
      refine mm_wv (vb_i 0) rfl (by decide) ?_
      refine mm_wpiN (vM_S60 hM) (by decide) (by decide) ?_
      intro I5 hI5
      have _u := hI5
      refine mm_w1 rfl ?_
      refine mm_wv (vb_i 0) rfl (by decide) ?_
      refine mm_wpzN (vM_S60 hM) (by decide) (by decide) (Or.inl rfl) ?_
      intro I6 hI6
      have _u := hI6
      refine mm_wv (vb_i 0) rfl (by decide) ?_
      refine mm_wr rfl rfl rfl ?_
      refine ⟨I6, ⟨?_, ?_, ?_, ?_, ?_, ?_, ?_, ?_, ?_, ?_⟩, rfl⟩
      · intro j hj; rw [hI6, vb_up3 _ _ (by decide), hI5, vb_up3 _ _ (by decide), hI4, vb_up3 _ _ (by decide), hI3, vb_up3 _ _ (by decide), hI2, vb_up3 _ _ (by decide)]; exact g1 j hj
      · intro v hv; rw [hI6, vb_up3 _ _ (by decide), hI5, vb_up3 _ _ (by decide), hI4, vb_up3 _ _ (by decide), hI3, vb_up2 _ _ (by omega), hI2, vb_up2 _ _ (by omega)]; exact g3 v hv
      · intro v hv; rw [hI6, vb_up3 _ _ (by decide), hI5, vb_up3 _ _ (by decide), hI4, vb_up3 _ _ (by decide), hI3, vb_up2 _ _ (by omega), hI2, vb_up2 _ _ (by omega)]; exact g4 v hv
      · intro j h1 h2; rw [hI6, vb_up3 _ _ (by decide), hI5, vb_up3 _ _ (by decide), hI4, vb_up3 _ _ (by decide), hI3, vb_up2 _ _ (by omega), hI2, vb_up2 _ _ (by omega)]; exact g5 j h1 (by omega)
      · intro j hj
        rw [hI6, vb_up3 _ _ (by decide), hI5, vb_up3 _ _ (by decide), hI4, vb_up3 _ _ (by decide), hI3]
        by_cases e : j = 1
        · subst e; rw [vb_up1]; simp only [q_y0]; (try rfl)
        · have e : j = 0 := by omega
          subst e; rw [vb_up2 _ _ (by omega), hI2, vb_up1]; simp only [q_y0]; (try rfl)
      · rw [hI6, vb_up2 _ _ (by decide), hI5, vb_up2 _ _ (by decide), hI4, vb_up1]
      · rw [hI6, vb_up2 _ _ (by decide), hI5, vb_up1]
      · rw [hI6, vb_up1]
      · intro a k1 k2 k3; rw [hI6, vb_up3 _ _ k1, hI5, vb_up3 _ _ k1, hI4, vb_up3 _ _ k1, hI3, vb_up3 _ _ k3, hI2, vb_up3 _ _ k3]; exact g2 a k2 k3
      · intro q k1 k2 k3; rw [hI6, vb_up2 _ _ (by omega), hI5, vb_up2 _ _ (by omega), hI4, vb_up2 _ _ (by omega), hI3, vb_up3 _ _ (by decide), hI2, vb_up3 _ _ (by decide), g2 60 (by decide) (by decide)]
    · skip
      refine mm_w1 rfl ?_
      refine mm_wgr (vM_S60 hM) (by decide) (by decide) (vM_P60_38 hM) (vM_a76 hM) ?_
      refine mm_wv (vb_i 44) rfl (by decide) ?_
      refine mm_w1 rfl ?_
      refine mm_wgiv _ (vM_S60 hM) (by decide) (by decide) h31 ?_
      refine mm_nifle (by decide) (fun h => absurd h (by decide)) (fun _ => ?_)
      refine mm_wv (vb_i 0) rfl (by decide) ?_
      refine mm_wgoto ?_
      refine mm_wisN (vM_S76 hM) (by decide) (by omega) ?_
      intro I2 hI2
      have h32 : I2 60 3 = vb_i 1 := by rw [hI2, vb_up3 _ _ (by decide)]; exact h31
      refine mm_w1 rfl ?_
      refine mm_wgr (vM_S60 hM) (by decide) (by decide) (vM_P60_38 hM) (vM_a76 hM) ?_
      refine mm_wv (vb_i 45) rfl (by decide) ?_
      refine mm_w1 rfl ?_
      refine mm_wgiv _ (vM_S60 hM) (by decide) (by decide) h32 ?_
      refine mm_wv (vb_i 1) rfl (by decide) ?_
      refine mm_nicle (by decide) (by decide) (fun _ => ?_) (fun h => absurd h (by decide))
      refine mm_w1 rfl ?_
      refine mm_wgr (vM_S60 hM) (by decide) (by decide) (vM_P60_38 hM) (vM_a76 hM) ?_
      refine mm_wv (vb_i 44) rfl (by decide) ?_
      refine mm_wiav _ (vM_a76 hM) (vM_S76 hM) (by decide) (by omega) (by rw [hI2, vb_up1]) ?_
      refine mm_wisN (vM_S76 hM) (by decide) (by omega) ?_
      intro I3 hI3
      have h33 : I3 60 3 = vb_i 1 := by rw [hI3, vb_up3 _ _ (by decide)]; exact h32
      refine mm_w1 rfl ?_
      refine mm_wv (vb_i 0) rfl (by decide) ?_
      refine mm_wpiN (vM_S60 hM) (by decide) (by decide) ?_
      intro I4 hI4
      have _u := hI4
      refine mm_w1 rfl ?_
      refine mm_wv (vb_i 0) rfl (by decide) ?_
      refine mm_wpiN (vM_S60 hM) (by decide) (by decide) ?_
      intro I5 hI5
      have _u := hI5
      refine mm_w1 rfl ?_
      refine mm_wv (vb_i 0) rfl (by decide) ?_
      refine mm_wpzN (vM_S60 hM) (by decide) (by decide) (Or.inl rfl) ?_
      intro I6 hI6
      have _u := hI6
      refine mm_wv (vb_i 0) rfl (by decide) ?_
      refine mm_wr rfl rfl rfl ?_
      refine ⟨I6, ⟨?_, ?_, ?_, ?_, ?_, ?_, ?_, ?_, ?_, ?_⟩, rfl⟩
      · intro j hj; rw [hI6, vb_up3 _ _ (by decide), hI5, vb_up3 _ _ (by decide), hI4, vb_up3 _ _ (by decide), hI3, vb_up3 _ _ (by decide), hI2, vb_up3 _ _ (by decide)]; exact g1 j hj
      · intro v hv; rw [hI6, vb_up3 _ _ (by decide), hI5, vb_up3 _ _ (by decide), hI4, vb_up3 _ _ (by decide), hI3, vb_up2 _ _ (by omega), hI2, vb_up2 _ _ (by omega)]; exact g3 v hv
      · intro v hv; rw [hI6, vb_up3 _ _ (by decide), hI5, vb_up3 _ _ (by decide), hI4, vb_up3 _ _ (by decide), hI3, vb_up2 _ _ (by omega), hI2, vb_up2 _ _ (by omega)]; exact g4 v hv
      · intro j h1 h2; rw [hI6, vb_up3 _ _ (by decide), hI5, vb_up3 _ _ (by decide), hI4, vb_up3 _ _ (by decide), hI3, vb_up2 _ _ (by omega), hI2, vb_up2 _ _ (by omega)]; exact g5 j h1 (by omega)
      · intro j hj
        rw [hI6, vb_up3 _ _ (by decide), hI5, vb_up3 _ _ (by decide), hI4, vb_up3 _ _ (by decide), hI3]
        by_cases e : j = 1
        · subst e; rw [vb_up1]; simp only [q_y0]; (try rfl)
        · have e : j = 0 := by omega
          subst e; rw [vb_up2 _ _ (by omega), hI2, vb_up1]; simp only [q_y0]; (try rfl)
      · rw [hI6, vb_up2 _ _ (by decide), hI5, vb_up2 _ _ (by decide), hI4, vb_up1]
      · rw [hI6, vb_up2 _ _ (by decide), hI5, vb_up1]
      · rw [hI6, vb_up1]
      · intro a k1 k2 k3; rw [hI6, vb_up3 _ _ k1, hI5, vb_up3 _ _ k1, hI4, vb_up3 _ _ k1, hI3, vb_up3 _ _ k3, hI2, vb_up3 _ _ k3]; exact g2 a k2 k3
      · intro q k1 k2 k3; rw [hI6, vb_up2 _ _ (by omega), hI5, vb_up2 _ _ (by omega), hI4, vb_up2 _ _ (by omega), hI3, vb_up3 _ _ (by decide), hI2, vb_up3 _ _ (by decide), g2 60 (by decide) (by decide)]
    · skip
      refine mm_w1 rfl ?_
      refine mm_wgr (vM_S60 hM) (by decide) (by decide) (vM_P60_38 hM) (vM_a76 hM) ?_
      refine mm_wv (vb_i 44) rfl (by decide) ?_
      refine mm_w1 rfl ?_
      refine mm_wgiv _ (vM_S60 hM) (by decide) (by decide) h31 ?_
      refine mm_nifle (by decide) (fun h => absurd h (by decide)) (fun _ => ?_)
      refine mm_wv (vb_i 0) rfl (by decide) ?_
      refine mm_wgoto ?_
      refine mm_wisN (vM_S76 hM) (by decide) (by omega) ?_
      intro I2 hI2
      have h32 : I2 60 3 = vb_i 2 := by rw [hI2, vb_up3 _ _ (by decide)]; exact h31
      refine mm_w1 rfl ?_
      refine mm_wgr (vM_S60 hM) (by decide) (by decide) (vM_P60_38 hM) (vM_a76 hM) ?_
      refine mm_wv (vb_i 45) rfl (by decide) ?_
      refine mm_w1 rfl ?_
      refine mm_wgiv _ (vM_S60 hM) (by decide) (by decide) h32 ?_
      refine mm_wv (vb_i 1) rfl (by decide) ?_
      refine mm_nicle (by decide) (by decide) (fun h => absurd h (by decide)) (fun _ => ?_)
      refine mm_wv (vb_i 1) rfl (by decide) ?_
      refine mm_wgoto ?_
      refine mm_wisN (vM_S76 hM) (by decide) (by omega) ?_
      intro I3 hI3
      have h33 : I3 60 3 = vb_i 2 := by rw [hI3, vb_up3 _ _ (by decide)]; exact h32
      refine mm_w1 rfl ?_
      refine mm_wv (vb_i 0) rfl (by decide) ?_
      refine mm_wpiN (vM_S60 hM) (by decide) (by decide) ?_
      intro I4 hI4
      have _u := hI4
      refine mm_w1 rfl ?_
      refine mm_wv (vb_i 0) rfl (by decide) ?_
      refine mm_wpiN (vM_S60 hM) (by decide) (by decide) ?_
      intro I5 hI5
      have _u := hI5
      refine mm_w1 rfl ?_
      refine mm_wv (vb_i 0) rfl (by decide) ?_
      refine mm_wpzN (vM_S60 hM) (by decide) (by decide) (Or.inl rfl) ?_
      intro I6 hI6
      have _u := hI6
      refine mm_wv (vb_i 0) rfl (by decide) ?_
      refine mm_wr rfl rfl rfl ?_
      refine ⟨I6, ⟨?_, ?_, ?_, ?_, ?_, ?_, ?_, ?_, ?_, ?_⟩, rfl⟩
      · intro j hj; rw [hI6, vb_up3 _ _ (by decide), hI5, vb_up3 _ _ (by decide), hI4, vb_up3 _ _ (by decide), hI3, vb_up3 _ _ (by decide), hI2, vb_up3 _ _ (by decide)]; exact g1 j hj
      · intro v hv; rw [hI6, vb_up3 _ _ (by decide), hI5, vb_up3 _ _ (by decide), hI4, vb_up3 _ _ (by decide), hI3, vb_up2 _ _ (by omega), hI2, vb_up2 _ _ (by omega)]; exact g3 v hv
      · intro v hv; rw [hI6, vb_up3 _ _ (by decide), hI5, vb_up3 _ _ (by decide), hI4, vb_up3 _ _ (by decide), hI3, vb_up2 _ _ (by omega), hI2, vb_up2 _ _ (by omega)]; exact g4 v hv
      · intro j h1 h2; rw [hI6, vb_up3 _ _ (by decide), hI5, vb_up3 _ _ (by decide), hI4, vb_up3 _ _ (by decide), hI3, vb_up2 _ _ (by omega), hI2, vb_up2 _ _ (by omega)]; exact g5 j h1 (by omega)
      · intro j hj
        rw [hI6, vb_up3 _ _ (by decide), hI5, vb_up3 _ _ (by decide), hI4, vb_up3 _ _ (by decide), hI3]
        by_cases e : j = 1
        · subst e; rw [vb_up1]; simp only [q_y0]; (try rfl)
        · have e : j = 0 := by omega
          subst e; rw [vb_up2 _ _ (by omega), hI2, vb_up1]; simp only [q_y0]; (try rfl)
      · rw [hI6, vb_up2 _ _ (by decide), hI5, vb_up2 _ _ (by decide), hI4, vb_up1]
      · rw [hI6, vb_up2 _ _ (by decide), hI5, vb_up1]
      · rw [hI6, vb_up1]
      · intro a k1 k2 k3; rw [hI6, vb_up3 _ _ k1, hI5, vb_up3 _ _ k1, hI4, vb_up3 _ _ k1, hI3, vb_up3 _ _ k3, hI2, vb_up3 _ _ k3]; exact g2 a k2 k3
      · intro q k1 k2 k3; rw [hI6, vb_up2 _ _ (by omega), hI5, vb_up2 _ _ (by omega), hI4, vb_up2 _ _ (by omega), hI3, vb_up3 _ _ (by decide), hI2, vb_up3 _ _ (by decide), g2 60 (by decide) (by decide)]
    · skip
      refine mm_w1 rfl ?_
      refine mm_wgr (vM_S60 hM) (by decide) (by decide) (vM_P60_38 hM) (vM_a76 hM) ?_
      refine mm_wv (vb_i 44) rfl (by decide) ?_
      refine mm_w1 rfl ?_
      refine mm_wgiv _ (vM_S60 hM) (by decide) (by decide) h31 ?_
      refine mm_nifle (by decide) (fun h => absurd h (by decide)) (fun _ => ?_)
      refine mm_wv (vb_i 0) rfl (by decide) ?_
      refine mm_wgoto ?_
      refine mm_wisN (vM_S76 hM) (by decide) (by omega) ?_
      intro I2 hI2
      have h32 : I2 60 3 = vb_i 3 := by rw [hI2, vb_up3 _ _ (by decide)]; exact h31
      refine mm_w1 rfl ?_
      refine mm_wgr (vM_S60 hM) (by decide) (by decide) (vM_P60_38 hM) (vM_a76 hM) ?_
      refine mm_wv (vb_i 45) rfl (by decide) ?_
      refine mm_w1 rfl ?_
      refine mm_wgiv _ (vM_S60 hM) (by decide) (by decide) h32 ?_
      refine mm_wv (vb_i 1) rfl (by decide) ?_
      refine mm_nicle (by decide) (by decide) (fun h => absurd h (by decide)) (fun _ => ?_)
      refine mm_wv (vb_i 1) rfl (by decide) ?_
      refine mm_wgoto ?_
      refine mm_wisN (vM_S76 hM) (by decide) (by omega) ?_
      intro I3 hI3
      have h33 : I3 60 3 = vb_i 3 := by rw [hI3, vb_up3 _ _ (by decide)]; exact h32
      refine mm_w1 rfl ?_
      refine mm_wv (vb_i 0) rfl (by decide) ?_
      refine mm_wpiN (vM_S60 hM) (by decide) (by decide) ?_
      intro I4 hI4
      have _u := hI4
      refine mm_w1 rfl ?_
      refine mm_wv (vb_i 0) rfl (by decide) ?_
      refine mm_wpiN (vM_S60 hM) (by decide) (by decide) ?_
      intro I5 hI5
      have _u := hI5
      refine mm_w1 rfl ?_
      refine mm_wv (vb_i 0) rfl (by decide) ?_
      refine mm_wpzN (vM_S60 hM) (by decide) (by decide) (Or.inl rfl) ?_
      intro I6 hI6
      have _u := hI6
      refine mm_wv (vb_i 0) rfl (by decide) ?_
      refine mm_wr rfl rfl rfl ?_
      refine ⟨I6, ⟨?_, ?_, ?_, ?_, ?_, ?_, ?_, ?_, ?_, ?_⟩, rfl⟩
      · intro j hj; rw [hI6, vb_up3 _ _ (by decide), hI5, vb_up3 _ _ (by decide), hI4, vb_up3 _ _ (by decide), hI3, vb_up3 _ _ (by decide), hI2, vb_up3 _ _ (by decide)]; exact g1 j hj
      · intro v hv; rw [hI6, vb_up3 _ _ (by decide), hI5, vb_up3 _ _ (by decide), hI4, vb_up3 _ _ (by decide), hI3, vb_up2 _ _ (by omega), hI2, vb_up2 _ _ (by omega)]; exact g3 v hv
      · intro v hv; rw [hI6, vb_up3 _ _ (by decide), hI5, vb_up3 _ _ (by decide), hI4, vb_up3 _ _ (by decide), hI3, vb_up2 _ _ (by omega), hI2, vb_up2 _ _ (by omega)]; exact g4 v hv
      · intro j h1 h2; rw [hI6, vb_up3 _ _ (by decide), hI5, vb_up3 _ _ (by decide), hI4, vb_up3 _ _ (by decide), hI3, vb_up2 _ _ (by omega), hI2, vb_up2 _ _ (by omega)]; exact g5 j h1 (by omega)
      · intro j hj
        rw [hI6, vb_up3 _ _ (by decide), hI5, vb_up3 _ _ (by decide), hI4, vb_up3 _ _ (by decide), hI3]
        by_cases e : j = 1
        · subst e; rw [vb_up1]; simp only [q_y0]; (try rfl)
        · have e : j = 0 := by omega
          subst e; rw [vb_up2 _ _ (by omega), hI2, vb_up1]; simp only [q_y0]; (try rfl)
      · rw [hI6, vb_up2 _ _ (by decide), hI5, vb_up2 _ _ (by decide), hI4, vb_up1]
      · rw [hI6, vb_up2 _ _ (by decide), hI5, vb_up1]
      · rw [hI6, vb_up1]
      · intro a k1 k2 k3; rw [hI6, vb_up3 _ _ k1, hI5, vb_up3 _ _ k1, hI4, vb_up3 _ _ k1, hI3, vb_up3 _ _ k3, hI2, vb_up3 _ _ k3]; exact g2 a k2 k3
      · intro q k1 k2 k3; rw [hI6, vb_up2 _ _ (by omega), hI5, vb_up2 _ _ (by omega), hI4, vb_up2 _ _ (by omega), hI3, vb_up3 _ _ (by decide), hI2, vb_up3 _ _ (by decide), g2 60 (by decide) (by decide)]
  have k279 : ∀ i, i ≤ 10 → ∀ (I1 : Nat → Nat → Int32), (∀ j, j < 100 → I1 65 j = I 74 j) → (∀ a, a ≠ 65 → a ≠ 76 → I1 a = I a) → (∀ v, v < i → I1 76 v = if v < m then I 70 v else vb_i 2) → (∀ v, v < i → I1 76 (10 + v) = if v < m then I 70 v else vb_i 2) → (∀ j, 20 ≤ j → j < 46 → I1 76 j = vb_i 0) → mm_W G d 170 (mm_blk 170 279) [.ref 60, .int v1, .int (vb_i i)] [] (I1, P, J, S, nc, ns) (vb_R (some (.int (vb_i 0))) (fun I' => (∀ j, j < 100 → I' 65 j = I 74 j) ∧ (∀ v, v < 10 → I' 76 v = if v < m then I 70 v else vb_i 2) ∧ (∀ v, v < 10 → I' 76 (10 + v) = if v < m then I 70 v else vb_i 2) ∧ (∀ j, 20 ≤ j → j < 44 → I' 76 j = vb_i 0) ∧ (∀ j, j < 2 → I' 76 (44 + j) = q_y0 sc j) ∧ I' 60 40 = vb_i 0 ∧ I' 60 45 = vb_i 0 ∧ I' 60 49 = vb_i 0 ∧ (∀ a, a ≠ 60 → a ≠ 65 → a ≠ 76 → I' a = I a) ∧ (∀ q, q ≠ 40 → q ≠ 45 → q ≠ 49 → I' 60 q = I 60 q)) P J S nc ns) := by
    refine vb_down 10 ?_
    intro i hi ih I1 g1 g2 g3 g4 g5
    have h11 : I1 60 1 = vb_i m := by rw [g2 60 (by decide) (by decide)]; exact h1
    refine mm_w1 rfl ?_
    refine mm_wv (vb_i 10) rfl (by decide) ?_
    refine mm_nicge (by omega) (by omega) ?_ ?_
    · intro h282
      exact k334 I1 g1 g2 (fun w hw => g3 w (by omega)) (fun w hw => g4 w (by omega)) g5 _
    · intro h282
      refine mm_w1 rfl ?_
      refine mm_wgr (vM_S60 hM) (by decide) (by decide) (vM_P60_38 hM) (vM_a76 hM) ?_
      refine mm_wv (vb_i 0) rfl (by decide) ?_
      refine mm_w1 rfl ?_
      refine mm_nadd ?_
      refine mm_w1 rfl ?_
      refine mm_w1 rfl ?_
      refine mm_wgiv _ (vM_S60 hM) (by decide) (by decide) h11 ?_
      refine mm_nicge (by omega) (by omega) ?_ ?_
      · intro h297
        refine mm_wv (vb_i 2) rfl (by decide) ?_
        refine mm_wisN (vM_S76 hM) (by decide) (by omega) ?_
        intro I2 hI2
        have _u := hI2
        refine mm_w1 rfl ?_
        refine mm_wgr (vM_S60 hM) (by decide) (by decide) (vM_P60_38 hM) (vM_a76 hM) ?_
        refine mm_wv (vb_i 10) rfl (by decide) ?_
        refine mm_w1 rfl ?_
        refine mm_nadd ?_
        refine mm_w1 rfl ?_
        refine mm_wgr (vM_S60 hM) (by decide) (by decide) (vM_P60_38 hM) (vM_a76 hM) ?_
        refine mm_wv (vb_i 0) rfl (by decide) ?_
        refine mm_w1 rfl ?_
        refine mm_nadd ?_
        refine mm_wiav _ (vM_a76 hM) (vM_S76 hM) (by decide) (by omega) (by rw [hI2, vb_up1]) ?_
        refine mm_wisN (vM_S76 hM) (by decide) (by omega) ?_
        intro I3 hI3
        have _u := hI3
        refine mm_nincL (ls' := [_, _, _]) 1 rfl (by decide) rfl ?_
        refine mm_wgoto ?_
        refine ih (by omega) _ (fun j hj => ?_) (fun a k1 k2 => ?_) (fun w hw => ?_) (fun w hw => ?_) (fun j k1 k2 => ?_)
        · rw [hI3, vb_up3 _ _ (by decide), hI2, vb_up3 _ _ (by decide)]; exact g1 j hj
        · rw [hI3, vb_up3 _ _ k2, hI2, vb_up3 _ _ k2]; exact g2 a k1 k2
        · rw [hI3, vb_up2 _ _ (by omega), hI2]
          by_cases e : w = i
          · subst e; rw [Nat.zero_add, vb_up1]; first | rw [if_pos (by assumption)] | rw [if_neg (by assumption)]
          · rw [vb_up2 _ _ (by omega)]; exact g3 w (by omega)
        · rw [hI3]
          by_cases e : w = i
          · subst e; rw [vb_up1]; first | rw [if_pos (by assumption)] | rw [if_neg (by assumption)]
          · rw [vb_up2 _ _ (by omega), hI2, vb_up2 _ _ (by omega)]; exact g4 w (by omega)
        · rw [hI3, vb_up2 _ _ (by omega), hI2, vb_up2 _ _ (by omega)]; exact g5 j k1 k2
      · intro h297
        refine mm_w1 rfl ?_
        refine mm_wgr (vM_S60 hM) (by decide) (by decide) (vM_P60_32 hM) (vM_a70 hM) ?_
        refine mm_w1 rfl ?_
        refine mm_wiav (I 70 i) (vM_a70 hM) (vM_S70 hM) (by decide) (by omega) (by rw [g2 70 (by decide) (by decide)]) ?_
        refine mm_wgoto ?_
        refine mm_wisN (vM_S76 hM) (by decide) (by omega) ?_
        intro I2 hI2
        have _u := hI2
        refine mm_w1 rfl ?_
        refine mm_wgr (vM_S60 hM) (by decide) (by decide) (vM_P60_38 hM) (vM_a76 hM) ?_
        refine mm_wv (vb_i 10) rfl (by decide) ?_
        refine mm_w1 rfl ?_
        refine mm_nadd ?_
        refine mm_w1 rfl ?_
        refine mm_wgr (vM_S60 hM) (by decide) (by decide) (vM_P60_38 hM) (vM_a76 hM) ?_
        refine mm_wv (vb_i 0) rfl (by decide) ?_
        refine mm_w1 rfl ?_
        refine mm_nadd ?_
        refine mm_wiav _ (vM_a76 hM) (vM_S76 hM) (by decide) (by omega) (by rw [hI2, vb_up1]) ?_
        refine mm_wisN (vM_S76 hM) (by decide) (by omega) ?_
        intro I3 hI3
        have _u := hI3
        refine mm_nincL (ls' := [_, _, _]) 1 rfl (by decide) rfl ?_
        refine mm_wgoto ?_
        refine ih (by omega) _ (fun j hj => ?_) (fun a k1 k2 => ?_) (fun w hw => ?_) (fun w hw => ?_) (fun j k1 k2 => ?_)
        · rw [hI3, vb_up3 _ _ (by decide), hI2, vb_up3 _ _ (by decide)]; exact g1 j hj
        · rw [hI3, vb_up3 _ _ k2, hI2, vb_up3 _ _ k2]; exact g2 a k1 k2
        · rw [hI3, vb_up2 _ _ (by omega), hI2]
          by_cases e : w = i
          · subst e; rw [Nat.zero_add, vb_up1]; first | rw [if_pos (by assumption)] | rw [if_neg (by assumption)]
          · rw [vb_up2 _ _ (by omega)]; exact g3 w (by omega)
        · rw [hI3]
          by_cases e : w = i
          · subst e; rw [vb_up1]; first | rw [if_pos (by assumption)] | rw [if_neg (by assumption)]
          · rw [vb_up2 _ _ (by omega), hI2, vb_up2 _ _ (by omega)]; exact g4 w (by omega)
        · rw [hI3, vb_up2 _ _ (by omega), hI2, vb_up2 _ _ (by omega)]; exact g5 j k1 k2
  have k258 : ∀ i, i ≤ 46 → ∀ (I1 : Nat → Nat → Int32), (∀ j, j < 100 → I1 65 j = I 74 j) → (∀ a, a ≠ 65 → a ≠ 76 → I1 a = I a) → (∀ j, j < i → I1 76 j = vb_i 0) → mm_W G d 170 (mm_blk 170 258) [.ref 60, .int v1, .int (vb_i i)] [] (I1, P, J, S, nc, ns) (vb_R (some (.int (vb_i 0))) (fun I' => (∀ j, j < 100 → I' 65 j = I 74 j) ∧ (∀ v, v < 10 → I' 76 v = if v < m then I 70 v else vb_i 2) ∧ (∀ v, v < 10 → I' 76 (10 + v) = if v < m then I 70 v else vb_i 2) ∧ (∀ j, 20 ≤ j → j < 44 → I' 76 j = vb_i 0) ∧ (∀ j, j < 2 → I' 76 (44 + j) = q_y0 sc j) ∧ I' 60 40 = vb_i 0 ∧ I' 60 45 = vb_i 0 ∧ I' 60 49 = vb_i 0 ∧ (∀ a, a ≠ 60 → a ≠ 65 → a ≠ 76 → I' a = I a) ∧ (∀ q, q ≠ 40 → q ≠ 45 → q ≠ 49 → I' 60 q = I 60 q)) P J S nc ns) := by
    refine vb_down 46 ?_
    intro i hi ih I1 g1 g2 g3
    refine mm_w1 rfl ?_
    refine mm_wv (vb_i 46) rfl (by decide) ?_
    refine mm_nicge (by omega) (by omega) ?_ ?_
    · intro h261
      refine mm_wv (vb_i 0) rfl (by decide) ?_
      refine mm_w1 (ls' := [_, _, _]) rfl ?_
      exact k279 0 (by decide) I1 g1 g2 (fun w hw => absurd hw (Nat.not_lt_zero w)) (fun w hw => absurd hw (Nat.not_lt_zero w)) (fun j k1 k2 => g3 j (by omega))
    · intro h261
      refine mm_w1 rfl ?_
      refine mm_wgr (vM_S60 hM) (by decide) (by decide) (vM_P60_38 hM) (vM_a76 hM) ?_
      refine mm_w1 rfl ?_
      refine mm_wv (vb_i 0) rfl (by decide) ?_
      refine mm_wisN (vM_S76 hM) (by decide) (by omega) ?_
      intro I2 hI2
      have _u := hI2
      refine mm_nincL (ls' := [_, _, _]) 1 rfl (by decide) rfl ?_
      refine mm_wgoto ?_
      refine ih (by omega) _ (fun j hj => ?_) (fun a k1 k2 => ?_) (fun j hj => ?_)
      · rw [hI2, vb_up3 _ _ (by decide)]; exact g1 j hj
      · rw [hI2, vb_up3 _ _ k2]; exact g2 a k1 k2
      · rw [hI2]
        by_cases e : j = i
        · subst e; rw [vb_up1]
        · rw [vb_up2 _ _ (by omega)]; exact g3 j (by omega)
  have k232 : ∀ i, i ≤ 100 → ∀ (I1 : Nat → Nat → Int32), (∀ j, j < i → I1 65 j = I 74 j) → (∀ a, a ≠ 65 → I1 a = I a) → mm_W G d 170 (mm_blk 170 232) [.ref 60, .int v1, .int (vb_i i)] [] (I1, P, J, S, nc, ns) (vb_R (some (.int (vb_i 0))) (fun I' => (∀ j, j < 100 → I' 65 j = I 74 j) ∧ (∀ v, v < 10 → I' 76 v = if v < m then I 70 v else vb_i 2) ∧ (∀ v, v < 10 → I' 76 (10 + v) = if v < m then I 70 v else vb_i 2) ∧ (∀ j, 20 ≤ j → j < 44 → I' 76 j = vb_i 0) ∧ (∀ j, j < 2 → I' 76 (44 + j) = q_y0 sc j) ∧ I' 60 40 = vb_i 0 ∧ I' 60 45 = vb_i 0 ∧ I' 60 49 = vb_i 0 ∧ (∀ a, a ≠ 60 → a ≠ 65 → a ≠ 76 → I' a = I a) ∧ (∀ q, q ≠ 40 → q ≠ 45 → q ≠ 49 → I' 60 q = I 60 q)) P J S nc ns) := by
    refine vb_down 100 ?_
    intro i hi ih I1 g1 g2
    by_cases hi2 : i < 100
    · obtain ⟨z, hz⟩ := h74 i hi2
      refine mm_w1 rfl ?_
      refine mm_wv (vb_i 100) rfl (by decide) ?_
      refine mm_nicge (by omega) (by omega) ?_ ?_
      · intro h235
        omega
      · intro h235
        refine mm_w1 rfl ?_
        refine mm_wgr (vM_S60 hM) (by decide) (by decide) (vM_P60_9 hM) (vM_a65 hM) ?_
        refine mm_w1 rfl ?_
        refine mm_w1 rfl ?_
        refine mm_wgr (vM_S60 hM) (by decide) (by decide) (vM_P60_36 hM) (vM_a74 hM) ?_
        refine mm_w1 rfl ?_
        refine mm_wzav (vb_b z) (vM_S74 hM) (by decide) (by omega) (by rw [g2 74 (by decide)]; exact hz) ?_
        refine mm_wzsN (vM_S65 hM) (by decide) (by omega) (vb_b01 _) ?_
        intro I2 hI2
        have _u := hI2
        refine mm_nincL (ls' := [_, _, _]) 1 rfl (by decide) rfl ?_
        refine mm_wgoto ?_
        refine ih (by omega) _ (fun j hj => ?_) (fun a k1 => ?_)
        · rw [hI2]
          by_cases e : j = i
          · subst e; rw [vb_up1]; exact hz.symm
          · rw [vb_up2 _ _ (by omega)]; exact g1 j (by omega)
        · rw [hI2, vb_up3 _ _ k1]; exact g2 a k1
    · skip
      refine mm_w1 rfl ?_
      refine mm_wv (vb_i 100) rfl (by decide) ?_
      refine mm_nicge (by omega) (by omega) ?_ ?_
      · intro h235
        refine mm_wv (vb_i 0) rfl (by decide) ?_
        refine mm_w1 (ls' := [_, _, _]) rfl ?_
        exact k258 0 (by decide) I1 (fun j hj => g1 j (by omega)) (fun a k1 _ => g2 a k1) (fun j hj => absurd hj (Nat.not_lt_zero j))
      · intro h235
        omega
  exact k232 0 (by decide) I (fun j hj => absurd hj (Nat.not_lt_zero j)) (fun _ _ => rfl)
end NBD
