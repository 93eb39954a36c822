section NIMG
variable {G : mm_G} {d : Nat} {I : Nat → Nat → Int32} {P : Nat → Nat → Nat} {J : Nat → Nat → Int64} {S : List (Nat × Nat)} {nc ns : Nat} {μ : mm_M} {σ : vb_St}
theorem vm_rows.kp {ℓ : vb_L} {B B' : Nat → Int32} {xs : List vb_X} (hn : vb_n ℓ ≤ 10) (h : vm_rows ℓ B xs) (e : ∀ j, j < 1840 → B' j = B j) : vm_rows ℓ B' xs := by
  refine ⟨h.1, fun i y hy => ?_⟩
  have hl : i < xs.length := by
    by_cases e : i < xs.length
    · exact e
    · rw [List.getElem?_eq_none (by omega)] at hy; cases hy
  have := h.1
  exact (h.2 i y hy).kp hn (fun j _ hj => e j (by omega))
theorem vm_sees.kp {B B' : Nat → Int32} {ss : List (Nat × Nat)} (h : vm_sees B ss) (e : ∀ j, j < 12 → B' j = B j) : vm_sees B' ss := by
  refine ⟨h.1, fun i p hp => ?_⟩
  have hl : i < ss.length := by
    by_cases e : i < ss.length
    · exact e
    · rw [List.getElem?_eq_none (by omega)] at hp; cases hp
  have := h.1
  rw [e _ (by omega), e _ (by omega)]; exact h.2 i p hp
theorem m_cp77 (hM : vm_isM P S) : mm_C G d 139 [.ref 60, .ref 77, .ref 84] (I, P, J, S, nc, ns) (vb_R none (fun I' => (∀ j, j < 1840 → I' 84 j = I 77 j) ∧ vb_fr (fun a => a = 84) I I') P J S nc ns) := by
  have loop := vb_down (p := fun i => ∀ (I1 : Nat → Nat → Int32), (∀ j, j < i → I1 84 j = I 77 j) → vb_fr (fun a => a = 84) I I1 → mm_W G d 139 (mm_blk 139 2) [.ref 60, .ref 77, .ref 84, .int (vb_i i)] [] (I1, P, J, S, nc, ns) (vb_R none (fun I' => (∀ j, j < 1840 → I' 84 j = I 77 j) ∧ vb_fr (fun a => a = 84) I I') P J S nc ns)) 1840 (by
    intro i hi ih I1 hc1 hf1
    refine mm_w1 rfl ?_
    refine mm_w1 rfl ?_
    refine mm_wal (vM_a77 hM) (vM_S77 hM) (by decide) ?_
    refine mm_nicge (by omega) (by omega) ?_ ?_
    · intro h5
      refine mm_wr rfl rfl rfl ?_
      exact ⟨_, ⟨fun j hj => hc1 j (by omega), hf1⟩, rfl⟩
    · intro h5
      refine mm_w1 rfl ?_
      refine mm_w1 rfl ?_
      refine mm_w1 rfl ?_
      refine mm_w1 rfl ?_
      refine mm_wiav (I 77 i) (vM_a77 hM) (vM_S77 hM) (by decide) (by omega) (by rw [hf1 77 (by decide)]) ?_
      refine mm_wisN (vM_S84 hM) (by decide) (by omega) ?_
      intro I2 hI2
      have hf2 : vb_fr (fun a => a = 84) I I2 := by rw [hI2]; exact hf1.up1
      refine mm_nincL (ls' := [_, _, _, _]) 1 rfl (by decide) rfl ?_
      refine mm_wgoto ?_
      refine ih (by omega) _ (fun j hj => ?_) hf2
      by_cases e : j = i
      · rw [e, hI2, vb_up1]
      · rw [hI2, vb_up2 _ _ (by omega)]; exact hc1 j (by omega)
    )
  show mm_W _ _ 139 (mm_blk 139 0) [.ref 60, .ref 77, .ref 84, .null] [] _ _
  refine mm_wv (vb_i 0) rfl (by decide) ?_
  refine mm_w1 (ls' := [_, _, _, _]) rfl ?_
  exact loop 0 (by omega) _ (fun j h => absurd h (by omega)) vb_fr.rf
theorem m_cp81 (hM : vm_isM P S) : mm_C G d 139 [.ref 60, .ref 81, .ref 85] (I, P, J, S, nc, ns) (vb_R none (fun I' => (∀ j, j < 12 → I' 85 j = I 81 j) ∧ vb_fr (fun a => a = 85) I I') P J S nc ns) := by
  have loop := vb_down (p := fun i => ∀ (I1 : Nat → Nat → Int32), (∀ j, j < i → I1 85 j = I 81 j) → vb_fr (fun a => a = 85) I I1 → mm_W G d 139 (mm_blk 139 2) [.ref 60, .ref 81, .ref 85, .int (vb_i i)] [] (I1, P, J, S, nc, ns) (vb_R none (fun I' => (∀ j, j < 12 → I' 85 j = I 81 j) ∧ vb_fr (fun a => a = 85) I I') P J S nc ns)) 12 (by
    intro i hi ih I1 hc1 hf1
    refine mm_w1 rfl ?_
    refine mm_w1 rfl ?_
    refine mm_wal (vM_a81 hM) (vM_S81 hM) (by decide) ?_
    refine mm_nicge (by omega) (by omega) ?_ ?_
    · intro h5
      refine mm_wr rfl rfl rfl ?_
      exact ⟨_, ⟨fun j hj => hc1 j (by omega), hf1⟩, rfl⟩
    · intro h5
      refine mm_w1 rfl ?_
      refine mm_w1 rfl ?_
      refine mm_w1 rfl ?_
      refine mm_w1 rfl ?_
      refine mm_wiav (I 81 i) (vM_a81 hM) (vM_S81 hM) (by decide) (by omega) (by rw [hf1 81 (by decide)]) ?_
      refine mm_wisN (vM_S85 hM) (by decide) (by omega) ?_
      intro I2 hI2
      have hf2 : vb_fr (fun a => a = 85) I I2 := by rw [hI2]; exact hf1.up1
      refine mm_nincL (ls' := [_, _, _, _]) 1 rfl (by decide) rfl ?_
      refine mm_wgoto ?_
      refine ih (by omega) _ (fun j hj => ?_) hf2
      by_cases e : j = i
      · rw [e, hI2, vb_up1]
      · rw [hI2, vb_up2 _ _ (by omega)]; exact hc1 j (by omega)
    )
  show mm_W _ _ 139 (mm_blk 139 0) [.ref 60, .ref 81, .ref 85, .null] [] _ _
  refine mm_wv (vb_i 0) rfl (by decide) ?_
  refine mm_w1 (ls' := [_, _, _, _]) rfl ?_
  exact loop 0 (by omega) _ (fun j h => absurd h (by omega)) vb_fr.rf
theorem m_cp84 (hM : vm_isM P S) : mm_C G d 139 [.ref 60, .ref 84, .ref 77] (I, P, J, S, nc, ns) (vb_R none (fun I' => (∀ j, j < 1840 → I' 77 j = I 84 j) ∧ vb_fr (fun a => a = 77) I I') P J S nc ns) := by
  have loop := vb_down (p := fun i => ∀ (I1 : Nat → Nat → Int32), (∀ j, j < i → I1 77 j = I 84 j) → vb_fr (fun a => a = 77) I I1 → mm_W G d 139 (mm_blk 139 2) [.ref 60, .ref 84, .ref 77, .int (vb_i i)] [] (I1, P, J, S, nc, ns) (vb_R none (fun I' => (∀ j, j < 1840 → I' 77 j = I 84 j) ∧ vb_fr (fun a => a = 77) I I') P J S nc ns)) 1840 (by
    intro i hi ih I1 hc1 hf1
    refine mm_w1 rfl ?_
    refine mm_w1 rfl ?_
    refine mm_wal (vM_a84 hM) (vM_S84 hM) (by decide) ?_
    refine mm_nicge (by omega) (by omega) ?_ ?_
    · intro h5
      refine mm_wr rfl rfl rfl ?_
      exact ⟨_, ⟨fun j hj => hc1 j (by omega), hf1⟩, rfl⟩
    · intro h5
      refine mm_w1 rfl ?_
      refine mm_w1 rfl ?_
      refine mm_w1 rfl ?_
      refine mm_w1 rfl ?_
      refine mm_wiav (I 84 i) (vM_a84 hM) (vM_S84 hM) (by decide) (by omega) (by rw [hf1 84 (by decide)]) ?_
      refine mm_wisN (vM_S77 hM) (by decide) (by omega) ?_
      intro I2 hI2
      have hf2 : vb_fr (fun a => a = 77) I I2 := by rw [hI2]; exact hf1.up1
      refine mm_nincL (ls' := [_, _, _, _]) 1 rfl (by decide) rfl ?_
      refine mm_wgoto ?_
      refine ih (by omega) _ (fun j hj => ?_) hf2
      by_cases e : j = i
      · rw [e, hI2, vb_up1]
      · rw [hI2, vb_up2 _ _ (by omega)]; exact hc1 j (by omega)
    )
  show mm_W _ _ 139 (mm_blk 139 0) [.ref 60, .ref 84, .ref 77, .null] [] _ _
  refine mm_wv (vb_i 0) rfl (by decide) ?_
  refine mm_w1 (ls' := [_, _, _, _]) rfl ?_
  exact loop 0 (by omega) _ (fun j h => absurd h (by omega)) vb_fr.rf
theorem m_cp85 (hM : vm_isM P S) : mm_C G d 139 [.ref 60, .ref 85, .ref 81] (I, P, J, S, nc, ns) (vb_R none (fun I' => (∀ j, j < 12 → I' 81 j = I 85 j) ∧ vb_fr (fun a => a = 81) I I') P J S nc ns) := by
  have loop := vb_down (p := fun i => ∀ (I1 : Nat → Nat → Int32), (∀ j, j < i → I1 81 j = I 85 j) → vb_fr (fun a => a = 81) I I1 → mm_W G d 139 (mm_blk 139 2) [.ref 60, .ref 85, .ref 81, .int (vb_i i)] [] (I1, P, J, S, nc, ns) (vb_R none (fun I' => (∀ j, j < 12 → I' 81 j = I 85 j) ∧ vb_fr (fun a => a = 81) I I') P J S nc ns)) 12 (by
    intro i hi ih I1 hc1 hf1
    refine mm_w1 rfl ?_
    refine mm_w1 rfl ?_
    refine mm_wal (vM_a85 hM) (vM_S85 hM) (by decide) ?_
    refine mm_nicge (by omega) (by omega) ?_ ?_
    · intro h5
      refine mm_wr rfl rfl rfl ?_
      exact ⟨_, ⟨fun j hj => hc1 j (by omega), hf1⟩, rfl⟩
    · intro h5
      refine mm_w1 rfl ?_
      refine mm_w1 rfl ?_
      refine mm_w1 rfl ?_
      refine mm_w1 rfl ?_
      refine mm_wiav (I 85 i) (vM_a85 hM) (vM_S85 hM) (by decide) (by omega) (by rw [hf1 85 (by decide)]) ?_
      refine mm_wisN (vM_S81 hM) (by decide) (by omega) ?_
      intro I2 hI2
      have hf2 : vb_fr (fun a => a = 81) I I2 := by rw [hI2]; exact hf1.up1
      refine mm_nincL (ls' := [_, _, _, _]) 1 rfl (by decide) rfl ?_
      refine mm_wgoto ?_
      refine ih (by omega) _ (fun j hj => ?_) hf2
      by_cases e : j = i
      · rw [e, hI2, vb_up1]
      · rw [hI2, vb_up2 _ _ (by omega)]; exact hc1 j (by omega)
    )
  show mm_W _ _ 139 (mm_blk 139 0) [.ref 60, .ref 85, .ref 81, .null] [] _ _
  refine mm_wv (vb_i 0) rfl (by decide) ?_
  refine mm_w1 (ls' := [_, _, _, _]) rfl ?_
  exact loop 0 (by omega) _ (fun j h => absurd h (by omega)) vb_fr.rf
end NIMG
