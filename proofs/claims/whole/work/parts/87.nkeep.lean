section NKEEP
variable {G : mm_G} {d : Nat} {I : Nat → Nat → Int32} {P : Nat → Nat → Nat} {J : Nat → Nat → Int64} {S : List (Nat × Nat)} {nc ns : Nat} {μ : mm_M} {σ : vb_St}
def vm_kf (I I' : Nat → Nat → Int32) : Prop := (∀ a, a ≠ 60 → a ≠ 77 → I' a = I a) ∧ ∀ s, s ≠ 40 → I' 60 s = I 60 s
theorem vm_kf.rf {I : Nat → Nat → Int32} : vm_kf I I := ⟨fun _ _ _ => rfl, fun _ _ => rfl⟩
theorem vm_kf.u77 {I I' : Nat → Nat → Int32} (h : vm_kf I I') (j : Nat) (v : Int32) : vm_kf I (mm_up I' 77 j v) := ⟨fun a h1 h2 => by rw [vb_up3 _ _ h2]; exact h.1 a h1 h2, fun s hs => by rw [vb_up3 _ _ (by decide)]; exact h.2 s hs⟩
theorem vm_kf.u40 {I I' : Nat → Nat → Int32} (h : vm_kf I I') (v : Int32) : vm_kf I (mm_up I' 60 40 v) := ⟨fun a h1 h2 => by rw [vb_up3 _ _ h1]; exact h.1 a h1 h2, fun s hs => by rw [vb_up2 _ _ (by omega)]; exact h.2 s hs⟩
theorem vm_kf.LD {ℓ : vb_L} {I I' : Nat → Nat → Int32} (h : vm_LD ℓ I) (k : vm_kf I I') : vm_LD ℓ I' := by
  unfold vm_LD at h ⊢
  rw [k.2 1 (by decide), k.2 2 (by decide), k.2 3 (by decide), k.2 4 (by decide), k.1 61 (by decide) (by decide), k.1 62 (by decide) (by decide), k.1 63 (by decide) (by decide), k.1 64 (by decide) (by decide), k.1 65 (by decide) (by decide)]
  exact h
theorem vm_kf.MD {I' : Nat → Nat → Int32} {x : vb_X} {xs : List vb_X} (h : vm_MD σ I) (k : vm_kf I I') (h1 : I' 60 40 = vb_i xs.length) (h2 : vm_rows (vs_l σ) (I' 77) xs) (hx : x = vs_x σ) : vm_MD (vs_act σ x xs) I' := by
  subst hx
  obtain ⟨g1, g2, g3, g4, g5, g6, g7, g8, g9, g10, g11, g12, g13⟩ := h
  refine ⟨vm_kf.LD g1 k, ?_, h1, h2, ?_, ?_, ?_, ?_, ?_, g10, ?_, ?_, ?_⟩
  · rw [k.1 76 (by decide) (by decide)]; exact g2
  · rw [k.2 45 (by decide)]; exact g5
  · rw [k.1 81 (by decide) (by decide)]; exact g6
  · rw [k.2 49 (by decide)]; exact g7
  · intro z hz
    rw [k.2 50 (by decide), k.2 51 (by decide), k.1 83 (by decide) (by decide), k.1 84 (by decide) (by decide), k.1 85 (by decide) (by decide)]
    exact g8 z hz
  · rw [k.2 11 (by decide)]; exact g9
  · rw [k.1 66 (by decide) (by decide)]; exact g11
  · rw [k.2 13 (by decide)]; exact g12
  · rw [k.1 67 (by decide) (by decide)]; exact g13
theorem vm_rows.snoc {ℓ : vb_L} {B B' : Nat → Int32} {ys : List vb_X} {x : vb_X} (hn : vb_n ℓ ≤ 10) (h : vm_rows ℓ B ys) (hl : ys.length < 40) (h1 : ∀ j, j < 46 * ys.length → B' j = B j) (h2 : vm_row ℓ B' (46 * ys.length) x (vx_tn x)) : vm_rows ℓ B' (ys ++ [x]) := by
  refine ⟨by rw [List.length_append]; simp; omega, fun i y hy => ?_⟩
  by_cases e : i < ys.length
  · rw [List.getElem?_append_left e] at hy
    exact (h.2 i y hy).kp hn (fun j _ hj => h1 j (by omega))
  · rw [List.getElem?_append_right (by omega)] at hy
    have e2 : i - ys.length = 0 := by
      cases e3 : i - ys.length with
      | zero => rfl
      | succ k => rw [e3] at hy; simp at hy
    rw [e2] at hy
    have : x = y := by simpa using hy
    rw [← this, show i = ys.length by omega]; exact h2
theorem vm_rows.shift {ℓ : vb_L} {B B' : Nat → Int32} {xs : List vb_X} (hn : vb_n ℓ ≤ 10) (h : vm_rows ℓ B xs) (h1 : ∀ j, j < 1794 → B' j = B (j + 46)) : vm_rows ℓ B' (xs.drop 1) := by
  refine ⟨Nat.le_trans (by rw [List.length_drop]; exact Nat.sub_le _ _) h.1, fun i y hy => ?_⟩
  rw [List.getElem?_drop] at hy
  have hl : 1 + i < xs.length := by
    by_cases e : 1 + i < xs.length
    · exact e
    · rw [List.getElem?_eq_none (by omega)] at hy; cases hy
  have := h.1
  refine (h.2 (1 + i) y hy).mv hn (fun j hj => ?_)
  rw [h1 _ (by omega)]; congr 1; omega
theorem m_keeps (hM : vm_isM P S) (dN : vm_MD σ I) : mm_C G d 172 [.ref 60] (I, P, J, S, nc, ns) (vb_R none (fun I' => vm_MD (vs_act σ (vs_x σ) (vb_keep (vs_a σ) (vs_x σ))) I' ∧ I' 60 0 = I 60 0) P J S nc ns) := by
  have dM := vmd_l dN
  have hR := vmd_x dN
  have hn := vm_10 dM
  have h40 := vmd_an dN
  have hrows : vm_rows (vs_l σ) (I 77) (vs_a σ) := dN.2.2.2.1
  have hl40 := hrows.1
  have tail : ∀ (I1 : Nat → Nat → Int32) (ys : List vb_X), vm_kf I I1 → I1 60 40 = vb_i ys.length → ys.length < 40 → vm_rows (vs_l σ) (I1 77) ys → ys ++ [vs_x σ] = vb_keep (vs_a σ) (vs_x σ) → ∀ i, i ≤ 46 → ∀ (I2 : Nat → Nat → Int32), vm_kf I I2 → I2 60 40 = vb_i ys.length → (∀ j, j < i → I2 77 (46 * ys.length + j) = I 76 j) → (∀ j, j < 46 * ys.length → I2 77 j = I1 77 j) → mm_W G d 172 (mm_blk 172 52) [.ref 60, .int (vb_i i)] [] (I2, P, J, S, nc, ns) (vb_R none (fun I' => vm_MD (vs_act σ (vs_x σ) (vb_keep (vs_a σ) (vs_x σ))) I' ∧ I' 60 0 = I 60 0) P J S nc ns) := by
    intro I1 ys hk1 ha1 hl hr1 hys
    refine vb_down 46 ?_
    intro i hi ih I2 hk2 ha2 hc2 ho2
    have e76 : I2 76 = I 76 := hk2.1 76 (by decide) (by decide)
    refine mm_w1 rfl ?_
    refine mm_wv (vb_i 46) rfl (by decide) ?_
    refine mm_nicge (by omega) (by omega) ?_ ?_
    · intro h55
      refine mm_w1 rfl ?_
      refine mm_w1 rfl ?_
      refine mm_wgiv (vb_i ys.length) (vM_S60 hM) (by decide) (by decide) ha2 ?_
      refine mm_wv (vb_i 1) rfl (by decide) ?_
      refine mm_nadd ?_
      refine mm_wpiN (vM_S60 hM) (by decide) (by decide) ?_
      intro I3 hI3
      have hk3 : vm_kf I I3 := by rw [hI3]; exact hk2.u40 _
      refine mm_wr rfl rfl rfl ?_
      refine ⟨_, ⟨vm_kf.MD dN hk3 (by rw [hI3, vb_up1, ← hys, List.length_append]; rfl) (by
        rw [← hys]
        have e77 : I3 77 = I2 77 := by rw [hI3, vb_up3 _ _ (by decide)]
        rw [e77]
        exact vm_rows.snoc hn hr1 hl ho2 (hR.mv hn (fun j hj => by rw [hc2 j (by omega), Nat.zero_add]))) rfl, hk3.2 0 (by decide)⟩, rfl⟩
    · intro h55
      refine mm_w1 rfl ?_
      refine mm_wgr (vM_S60 hM) (by decide) (by decide) (vM_P60_39 hM) (vM_a77 hM) ?_
      refine mm_wv (vb_i 46) rfl (by decide) ?_
      refine mm_w1 rfl ?_
      refine mm_wgiv (vb_i ys.length) (vM_S60 hM) (by decide) (by decide) ha2 ?_
      refine mm_nmul ?_
      refine mm_w1 rfl ?_
      refine mm_nadd ?_
      refine mm_w1 rfl ?_
      refine mm_wgr (vM_S60 hM) (by decide) (by decide) (vM_P60_38 hM) (vM_a76 hM) ?_
      refine mm_w1 rfl ?_
      refine mm_wiav (I 76 i) (vM_a76 hM) (vM_S76 hM) (by decide) (by omega) (by rw [e76]) ?_
      refine mm_wisN (vM_S77 hM) (by decide) (by omega) ?_
      intro I3 hI3
      have hk3 : vm_kf I I3 := by rw [hI3]; exact hk2.u77 _ _
      refine mm_nincL (ls' := [_, _]) 1 rfl (by decide) rfl ?_
      refine mm_wgoto ?_
      refine ih (by omega) _ hk3 (by rw [hI3, vb_up3 _ _ (by decide)]; exact ha2) (fun j hj => ?_) (fun j hj => ?_)
      · by_cases e : j = i
        · rw [e, hI3, vb_up1]
        · rw [hI3, vb_up2 _ _ (by omega)]; exact hc2 j (by omega)
      · rw [hI3, vb_up2 _ _ (by omega)]; exact ho2 j hj
  by_cases hfull : (vs_a σ).length = 40
  · have shift : ∀ i, i ≤ 1840 → 46 ≤ i → ∀ (I1 : Nat → Nat → Int32), vm_kf I I1 → I1 60 40 = vb_i (vs_a σ).length → (∀ j, j < i - 46 → I1 77 j = I 77 (j + 46)) → (∀ j, i - 46 ≤ j → I1 77 j = I 77 j) → mm_W G d 172 (mm_blk 172 12) [.ref 60, .int (vb_i i)] [] (I1, P, J, S, nc, ns) (vb_R none (fun I' => vm_MD (vs_act σ (vs_x σ) (vb_keep (vs_a σ) (vs_x σ))) I' ∧ I' 60 0 = I 60 0) P J S nc ns) := by
      refine vb_down 1840 ?_
      intro i hi ih h46 I1 hk1 ha1 hs1 ho1
      have hkp : (vs_a σ).drop 1 ++ [vs_x σ] = vb_keep (vs_a σ) (vs_x σ) := by rw [vb_keep]; simp [hfull]
      refine mm_w1 rfl ?_
      refine mm_wv (vb_i 1840) rfl (by decide) ?_
      refine mm_nicge (by omega) (by omega) ?_ ?_
      · intro h16
        refine mm_w1 rfl ?_
        refine mm_w1 rfl ?_
        refine mm_wgiv (vb_i (vs_a σ).length) (vM_S60 hM) (by decide) (by decide) ha1 ?_
        refine mm_wv (vb_i 1) rfl (by decide) ?_
        refine mm_nsub (by omega) ?_
        refine mm_wpiN (vM_S60 hM) (by decide) (by decide) ?_
        intro I2 hI2
        have hk2 : vm_kf I I2 := by rw [hI2]; exact hk1.u40 _
        refine mm_wv (vb_i 0) rfl (by decide) ?_
        refine mm_w1 (ls' := [_, _]) rfl ?_
        have hd1 : ((vs_a σ).drop 1).length = 39 := by rw [List.length_drop, hfull]
        have ha2 : I2 60 40 = vb_i ((vs_a σ).drop 1).length := by rw [hI2, vb_up1, hd1, hfull]
        refine tail I2 ((vs_a σ).drop 1) hk2 ha2 (by omega) ?_ hkp 0 (by omega) _ hk2 ha2 (fun j h => absurd h (by omega)) (fun j _ => rfl)
        refine vm_rows.shift hn hrows (fun j hj => ?_)
        rw [hI2, vb_up3 _ _ (by decide)]
        exact hs1 j (by omega)
      · intro h16
        refine mm_w1 rfl ?_
        refine mm_wgr (vM_S60 hM) (by decide) (by decide) (vM_P60_39 hM) (vM_a77 hM) ?_
        refine mm_w1 rfl ?_
        refine mm_wv (vb_i 46) rfl (by decide) ?_
        refine mm_nsub (by omega) ?_
        refine mm_w1 rfl ?_
        refine mm_wgr (vM_S60 hM) (by decide) (by decide) (vM_P60_39 hM) (vM_a77 hM) ?_
        refine mm_w1 rfl ?_
        refine mm_wiav (I 77 i) (vM_a77 hM) (vM_S77 hM) (by decide) (by omega) (ho1 i (by omega)) ?_
        refine mm_wisN (vM_S77 hM) (by decide) (by omega) ?_
        intro I2 hI2
        have hk2 : vm_kf I I2 := by rw [hI2]; exact hk1.u77 _ _
        refine mm_nincL (ls' := [_, _]) 1 rfl (by decide) rfl ?_
        refine mm_wgoto ?_
        refine ih (by omega) (by omega) _ hk2 (by rw [hI2, vb_up3 _ _ (by decide)]; exact ha1) (fun j hj => ?_) (fun j hj => ?_)
        · by_cases e : j = i - 46
          · rw [e, hI2, vb_up1, show i - 46 + 46 = i by omega]
          · rw [hI2, vb_up2 _ _ (by omega)]; exact hs1 j (by omega)
        · rw [hI2, vb_up2 _ _ (by omega)]; exact ho1 j (by omega)
    show mm_W _ _ 172 (mm_blk 172 0) [.ref 60, .null] [] _ _
    refine mm_w1 rfl ?_
    refine mm_wgiv (vb_i (vs_a σ).length) (vM_S60 hM) (by decide) (by decide) h40 ?_
    refine mm_wv (vb_i 40) rfl (by decide) ?_
    refine mm_nicne (by omega) (by omega) ?_ ?_
    · intro h6
      exact absurd hfull h6
    · intro h6
      refine mm_wv (vb_i 46) rfl (by decide) ?_
      refine mm_w1 (ls' := [_, _]) rfl ?_
      exact shift 46 (by decide) (by decide) _ vm_kf.rf h40 (fun j h => absurd h (by omega)) (fun j _ => rfl)
  · have hkp : vs_a σ ++ [vs_x σ] = vb_keep (vs_a σ) (vs_x σ) := by rw [vb_keep, if_pos (by omega)]
    show mm_W _ _ 172 (mm_blk 172 0) [.ref 60, .null] [] _ _
    refine mm_w1 rfl ?_
    refine mm_wgiv (vb_i (vs_a σ).length) (vM_S60 hM) (by decide) (by decide) h40 ?_
    refine mm_wv (vb_i 40) rfl (by decide) ?_
    refine mm_nicne (by omega) (by omega) ?_ ?_
    · intro h6
      refine mm_wv (vb_i 0) rfl (by decide) ?_
      refine mm_w1 (ls' := [_, _]) rfl ?_
      exact tail I _ vm_kf.rf h40 (by omega) hrows hkp 0 (by omega) _ vm_kf.rf h40 (fun j h => absurd h (by omega)) (fun j _ => rfl)
    · intro h6
      exact absurd h6 hfull
end NKEEP
