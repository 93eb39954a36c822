section POS3
variable {G : mm_G} {d : Nat} {I : Nat → Nat → Int32} {P : Nat → Nat → Nat} {J : Nat → Nat → Int64} {S : List (Nat × Nat)} {nc ns : Nat} {μ : mm_M} {ℓ : vb_L} {L : Nat}
variable {x y : vb_X} {X Y A : Nat}
theorem vb_max1 (n : Nat) (hn : n < 1000) : (if vb_i 1 < vb_i (n + 1) then vb_i (n + 1) else vb_i 1) = vb_i (n + 1) := by
  by_cases h : n = 0
  · subst h; rfl
  · rw [if_pos ((vb_lt (by omega) (by omega)).mpr (by omega))]
theorem c_draw {q : Nat} (hX : vb_isX P S X) (hL : vb_isL P S L) (dX : vb_XD x X I) (dL : vb_LD ℓ L I) (hd : 6 ≤ d) (hLX : L + 12 ≤ X ∨ X + 6 ≤ L) (he : vx_e x < 2000) (hq : q < 65536) : mm_C G d 42 [.ref X, .ref L, .int (vb_i q)] (I, P, J, S, nc, ns) (vb_R none (fun I' => vb_XD (vx_do ℓ x ((vx_ms ℓ x).getD (q % ((vx_ms ℓ x).length + 1)) 100)) X I' ∧ vb_LD ℓ L I' ∧ vb_fr (vb_pc L X) I I') P J S nc ns) := by
  have hn := vl_10 dL
  have ht := vx_t2 x
  have he2 := vx_e2 dX
  have hlen := vb_ms_len (own := vx_s x (vx_tn x)) (foe := vx_s x (1 - vx_tn x)) (ev := vb_i (vx_e x)) hn (vl_deg dL)
  have hlen : (vx_ms ℓ x).length ≤ 36 := hlen
  have hml : q % ((vx_ms ℓ x).length + 1) < (vx_ms ℓ x).length + 1 := Nat.mod_lt _ (by omega)
  show mm_W _ _ 42 (mm_blk 42 0) [.ref X, .ref L, .int (vb_i q), .null, .null] [] _ _
  refine mm_w1 rfl ?_
  refine mm_w1 rfl ?_
  refine mm_wgr (vX_S0 hX) (by decide) (by decide) (vX_P0_0 hX) (vX_a1 hX) ?_
  refine mm_w1 rfl ?_
  refine mm_cvp (vb_cv (vX_S0 hX) rfl rfl rfl rfl) (by decide) (by omega) (c_turn hX dX) ?_
  refine mm_wiav _ (vX_a1 hX) (vX_S1 hX) (by decide) (by omega) (vx_hs dX (by omega)) ?_
  refine mm_w1 rfl ?_
  refine mm_wgr (vX_S0 hX) (by decide) (by decide) (vX_P0_0 hX) (vX_a1 hX) ?_
  refine mm_wv (vb_i 1) rfl (by decide) ?_
  refine mm_w1 rfl ?_
  refine mm_cvp (vb_cv (vX_S0 hX) rfl rfl rfl rfl) (by decide) (by omega) (c_turn hX dX) ?_
  refine mm_nsub (by omega) ?_
  refine mm_wiav _ (vX_a1 hX) (vX_S1 hX) (by decide) (by omega) (vx_hs dX (by omega)) ?_
  refine mm_w1 rfl ?_
  refine mm_wgiv _ (vX_S0 hX) (by decide) (by decide) (vx_he dX) ?_
  refine mm_cvi (vb_cv (vL_S0 hL) rfl rfl rfl rfl) (by decide) (by omega) (c_list (ℓ := ℓ) hL dL (by omega)) ?_
  intro I1 hq1
  obtain ⟨hf1, hm1⟩ := hq1
  have dL1 := dL.fr hf1
  have dX1 : vb_XD x X I1 := dX.fr hf1 (fun j h1 h2 => by simp only [vb_scr] at h2; omega)
  change mm_W _ _ _ _ _ (.int (vb_i (vx_ms ℓ x).length) :: _) _ _ 
  refine mm_w1 (ls' := [_, _, _, _, _]) rfl ?_
  refine mm_w1 rfl ?_
  refine mm_wv (vb_i 1) rfl (by decide) ?_
  refine mm_w1 rfl ?_
  refine mm_wv (vb_i 1) rfl (by decide) ?_
  refine mm_nadd ?_
  refine mm_wv (vb_i ((vx_ms ℓ x).length + 1)) rfl (vb_max1 _ (by omega)) ?_ 
  refine mm_nrem (by omega) (by omega) (by omega) ?_
  refine mm_w1 (ls' := [_, _, _, _, _]) rfl ?_
  refine mm_w1 rfl ?_
  refine mm_niflt (by omega) ?_
  refine mm_w1 rfl ?_
  refine mm_w1 rfl ?_
  refine mm_nicge (by omega) (by omega) ?_ ?_
  · intro h48
    have hgd : (vx_ms ℓ x).getD (q % ((vx_ms ℓ x).length + 1)) 100 = 100 := by rw [List.getD_eq_getElem?_getD, List.getElem?_eq_none (by omega)]; rfl
    refine mm_w1 rfl ?_
    refine mm_w1 rfl ?_
    refine mm_cvn (vb_cv (vX_S0 hX) rfl rfl rfl rfl) (by decide) (by omega) (c_end hX hL dX1 dL1 (by omega) (by omega) he) ?_
    intro I2 hq2
    obtain ⟨dX2, hf2⟩ := hq2 
    refine mm_wr rfl rfl rfl ?_
    refine ⟨_, ⟨?_, ?_, ?_⟩, rfl⟩
    · simp only [vx_do]; rw [hgd, if_pos rfl]; exact dX2
    · exact dL1.kp hf2 (fun j h1 h2 => by simp only [vb_xc] at h2; omega)
    · intro a ha
      have n1 : ¬ vb_scr L a := fun h => ha (Or.inl h)
      have n2 : ¬ vb_xc X a := fun h => ha (Or.inr h)
      rw [hf2 a n2, hf1 a n1]
  · intro h48
    have hz : (vx_ms ℓ x)[q % ((vx_ms ℓ x).length + 1)]? = some ((vx_ms ℓ x).getD (q % ((vx_ms ℓ x).length + 1)) 100) := by rw [List.getD_eq_getElem?_getD, List.getElem?_eq_getElem h48]; rfl
    have hI5 := hm1 _ _ hz
    obtain ⟨hz1, hz2, hz3⟩ := vb_ms_lt (List.mem_of_getElem? hz)
    refine mm_w1 rfl ?_
    refine mm_w1 rfl ?_
    refine mm_cvp (vb_cv (vX_S0 hX) rfl rfl rfl rfl) (by decide) (by omega) (c_turn hX dX1) ?_
    refine mm_w1 rfl ?_
    refine mm_wgr (vL_S0 hL) (by decide) (by decide) (vL_P0_8 hL) (vL_a5 hL) ?_
    refine mm_w1 rfl ?_
    refine mm_wiav _ (vL_a5 hL) (vL_S5 hL) (by decide) (by omega) hI5 ?_
    refine mm_cvn (vb_cv (vX_S0 hX) rfl rfl rfl rfl) (by decide) (by omega) (c_bring hX dX1 (by omega) (by omega) (by omega)) ?_
    intro I2 hq2
    obtain ⟨dX2, hf2⟩ := hq2
    have dL2 : vb_LD ℓ L I2 := dL1.kp hf2 (fun j h1 h2 => by simp only [vb_xc] at h2; omega) 
    refine mm_w1 rfl ?_
    refine mm_w1 rfl ?_
    refine mm_cvn (vb_cv (vX_S0 hX) rfl rfl rfl rfl) (by decide) (by omega) (c_end hX hL dX2 dL2 (by omega) (by omega) he) ?_
    intro I3 hq3
    obtain ⟨dX3, hf3⟩ := hq3 
    refine mm_wr rfl rfl rfl ?_
    refine ⟨_, ⟨?_, ?_, ?_⟩, rfl⟩
    · simp only [vx_do]; rw [if_neg (by omega : ¬ (vx_ms ℓ x).getD (q % ((vx_ms ℓ x).length + 1)) 100 = 100)]; exact dX3
    · exact dL2.kp hf3 (fun j h1 h2 => by simp only [vb_xc] at h2; omega)
    · intro a ha
      have n1 : ¬ vb_scr L a := fun h => ha (Or.inl h)
      have n2 : ¬ vb_xc X a := fun h => ha (Or.inr h)
      rw [hf3 a n2, hf2 a n2, hf1 a n1] 
theorem c_copyX (hX : vb_isX P S X) (hY : vb_isX P S Y) (dY : vb_XD y Y I) (hXY : X + 6 ≤ Y ∨ Y + 6 ≤ X) : mm_C G d 31 [.ref X, .ref Y] (I, P, J, S, nc, ns) (vb_R none (fun I' => vb_XD y X I' ∧ vb_fr (vb_xc X) I I') P J S nc ns) := by
  obtain ⟨a1, a2, a3, a4, a5, a6, a7⟩ := dY
  show mm_W _ _ 31 (mm_blk 31 0) [.ref X, .ref Y] [] _ _
  refine mm_w1 rfl ?_
  refine mm_wgr (vX_S0 hY) (by decide) (by decide) (vX_P0_0 hY) (vX_a1 hY) ?_
  refine mm_wv (vb_i 0) rfl (by decide) ?_
  refine mm_w1 rfl ?_
  refine mm_wgr (vX_S0 hX) (by decide) (by decide) (vX_P0_0 hX) (vX_a1 hX) ?_
  refine mm_wv (vb_i 0) rfl (by decide) ?_
  refine mm_wv (vb_i 2) rfl (by decide) ?_
  refine mm_wcpyN (vX_S1 hY) (vX_S1 hX) (by decide) (by decide) (by omega) (by omega) (of_decide_eq_true rfl) ?_
  intro I1 hI1
  refine mm_w1 rfl ?_
  refine mm_wgr (vX_S0 hY) (by decide) (by decide) (vX_P0_1 hY) (vX_a2 hY) ?_
  refine mm_wv (vb_i 0) rfl (by decide) ?_
  refine mm_w1 rfl ?_
  refine mm_wgr (vX_S0 hX) (by decide) (by decide) (vX_P0_1 hX) (vX_a2 hX) ?_
  refine mm_wv (vb_i 0) rfl (by decide) ?_
  refine mm_wv (vb_i 2) rfl (by decide) ?_
  refine mm_wcpyN (vX_S2 hY) (vX_S2 hX) (by decide) (by decide) (by omega) (by omega) (of_decide_eq_true rfl) ?_
  intro I2 hI2
  refine mm_w1 rfl ?_
  refine mm_wgr (vX_S0 hY) (by decide) (by decide) (vX_P0_2 hY) (vX_a3 hY) ?_
  refine mm_wv (vb_i 0) rfl (by decide) ?_
  refine mm_w1 rfl ?_
  refine mm_wgr (vX_S0 hX) (by decide) (by decide) (vX_P0_2 hX) (vX_a3 hX) ?_
  refine mm_wv (vb_i 0) rfl (by decide) ?_
  refine mm_wv (vb_i 2) rfl (by decide) ?_
  refine mm_wcpyN (vX_S3 hY) (vX_S3 hX) (by decide) (by decide) (by omega) (by omega) (of_decide_eq_true rfl) ?_
  intro I3 hI3
  refine mm_w1 rfl ?_
  refine mm_wgr (vX_S0 hY) (by decide) (by decide) (vX_P0_3 hY) (vX_a4 hY) ?_
  refine mm_wv (vb_i 0) rfl (by decide) ?_
  refine mm_w1 rfl ?_
  refine mm_wgr (vX_S0 hX) (by decide) (by decide) (vX_P0_3 hX) (vX_a4 hX) ?_
  refine mm_wv (vb_i 0) rfl (by decide) ?_
  refine mm_wv (vb_i 2) rfl (by decide) ?_
  refine mm_wcpyN (vX_S4 hY) (vX_S4 hX) (by decide) (by decide) (by omega) (by omega) (of_decide_eq_true rfl) ?_
  intro I4 hI4
  refine mm_w1 rfl ?_
  refine mm_wgr (vX_S0 hY) (by decide) (by decide) (vX_P0_4 hY) (vX_a5 hY) ?_
  refine mm_wv (vb_i 0) rfl (by decide) ?_
  refine mm_w1 rfl ?_
  refine mm_wgr (vX_S0 hX) (by decide) (by decide) (vX_P0_4 hX) (vX_a5 hX) ?_
  refine mm_wv (vb_i 0) rfl (by decide) ?_
  refine mm_wv (vb_i 20) rfl (by decide) ?_
  refine mm_wcpyN (vX_S5 hY) (vX_S5 hX) (by decide) (by decide) (by omega) (by omega) (of_decide_eq_true rfl) ?_
  intro I5 hI5
  refine mm_w1 rfl ?_
  refine mm_w1 rfl ?_
  refine mm_wgi (vX_S0 hY) (by decide) (by decide) ?_ 
  refine mm_wpi (vX_S0 hX) (by decide) (by decide) ?_
  refine mm_wr rfl rfl rfl ?_
  refine ⟨_, ⟨⟨?_, ?_, ?_, ?_, ?_, ?_, a7⟩, ?_⟩, rfl⟩
  · intro j hj; rw [vb_up3 _ _ (by omega), hI5.2.2 (X + 1) (by omega), hI4.2.2 (X + 1) (by omega), hI3.2.2 (X + 1) (by omega), hI2.2.2 (X + 1) (by omega), hI1.1 j (by omega) (by omega), Nat.zero_add, Nat.sub_zero]; exact a1 j hj
  · intro j hj; rw [vb_up3 _ _ (by omega), hI5.2.2 (X + 2) (by omega), hI4.2.2 (X + 2) (by omega), hI3.2.2 (X + 2) (by omega), hI2.1 j (by omega) (by omega), hI1.2.2 (Y + 2) (by omega), Nat.zero_add, Nat.sub_zero]; exact a2 j hj
  · intro j hj; rw [vb_up3 _ _ (by omega), hI5.2.2 (X + 3) (by omega), hI4.2.2 (X + 3) (by omega), hI3.1 j (by omega) (by omega), hI2.2.2 (Y + 3) (by omega), hI1.2.2 (Y + 3) (by omega), Nat.zero_add, Nat.sub_zero]; exact a3 j hj
  · intro j hj; rw [vb_up3 _ _ (by omega), hI5.2.2 (X + 4) (by omega), hI4.1 j (by omega) (by omega), hI3.2.2 (Y + 4) (by omega), hI2.2.2 (Y + 4) (by omega), hI1.2.2 (Y + 4) (by omega), Nat.zero_add, Nat.sub_zero]; exact a4 j hj
  · intro j hj; rw [vb_up3 _ _ (by omega), hI5.1 j (by omega) (by omega), hI4.2.2 (Y + 5) (by omega), hI3.2.2 (Y + 5) (by omega), hI2.2.2 (Y + 5) (by omega), hI1.2.2 (Y + 5) (by omega), Nat.zero_add, Nat.sub_zero]; exact a5 j hj
  · rw [vb_up1, hI5.2.2 Y (by omega), hI4.2.2 Y (by omega), hI3.2.2 Y (by omega), hI2.2.2 Y (by omega), hI1.2.2 Y (by omega)]; exact a6
  · intro a ha
    simp only [vb_xc] at ha
    rw [vb_up3 _ _ (by omega), hI5.2.2 a (by omega), hI4.2.2 a (by omega), hI3.2.2 a (by omega), hI2.2.2 a (by omega), hI1.2.2 a (by omega)]
/-- a position in a row -/
def vx_row (R : Nat → Int32) (a : Nat) (x : vb_X) : Prop := (∀ j, j < 2 → R (a + j) = vx_s x j) ∧ (∀ j, j < 2 → R (a + 2 + j) = vx_f x j) ∧ (∀ j, j < 2 → R (a + 4 + j) = vx_t x j) ∧ (∀ j, j < 2 → R (a + 6 + j) = vx_y x j) ∧ (∀ j, j < 20 → R (a + 9 + j) = vx_b x j) ∧ R (a + 8) = vb_i (vx_e x) ∧ vx_e x ≤ 2000
theorem vx_row.kp {R R' : Nat → Int32} {a : Nat} {x : vb_X} (h : vx_row R a x) (e : ∀ j, a ≤ j → j < a + 29 → R' j = R j) : vx_row R' a x := by
  obtain ⟨a1, a2, a3, a4, a5, a6, a7⟩ := h
  exact ⟨fun j hj => by rw [e _ (by omega) (by omega), a1 j hj], fun j hj => by rw [e _ (by omega) (by omega), a2 j hj], fun j hj => by rw [e _ (by omega) (by omega), a3 j hj], fun j hj => by rw [e _ (by omega) (by omega), a4 j hj], fun j hj => by rw [e _ (by omega) (by omega), a5 j hj], by rw [e _ (by omega) (by omega), a6], a7⟩
theorem c_save {r : Nat} (hX : vb_isX P S X) (hA : vb_isA P S A) (dX : vb_XD x X I) (hr : r + 29 ≤ 1160) (hAX : A + 2 ≤ X ∨ X + 6 ≤ A) : mm_C G d 32 [.ref X, .ref (A + 1), .int (vb_i r)] (I, P, J, S, nc, ns) (vb_R none (fun I' => vx_row (I' (A + 1)) r x ∧ (∀ j, ¬ (r ≤ j ∧ j < r + 29) → I' (A + 1) j = I (A + 1) j) ∧ vb_fr (fun a => a = A + 1) I I') P J S nc ns) := by
  obtain ⟨a1, a2, a3, a4, a5, a6, a7⟩ := dX
  show mm_W _ _ 32 (mm_blk 32 0) [.ref X, .ref (A + 1), .int (vb_i r)] [] _ _
  refine mm_w1 rfl ?_
  refine mm_niflt (by omega) ?_
  refine mm_w1 rfl ?_
  refine mm_w1 rfl ?_
  refine mm_wal (vA_a1 hA) (vA_S1 hA) (by decide) ?_
  refine mm_wv (vb_i 29) rfl (by decide) ?_
  refine mm_nsub (by omega) ?_
  refine mm_nicle (by omega) (by omega) ?_ ?_
  · intro h10
    refine mm_w1 rfl ?_
    refine mm_wgr (vX_S0 hX) (by decide) (by decide) (vX_P0_0 hX) (vX_a1 hX) ?_
    refine mm_wv (vb_i 0) rfl (by decide) ?_
    refine mm_w1 rfl ?_
    refine mm_w1 rfl ?_
    refine mm_wv (vb_i 2) rfl (by decide) ?_
    refine mm_wcpyN (vX_S1 hX) (vA_S1 hA) (by decide) (by decide) (by omega) (by omega) (of_decide_eq_true rfl) ?_
    intro I1 hI1
    refine mm_w1 rfl ?_
    refine mm_wgr (vX_S0 hX) (by decide) (by decide) (vX_P0_1 hX) (vX_a2 hX) ?_
    refine mm_wv (vb_i 0) rfl (by decide) ?_
    refine mm_w1 rfl ?_
    refine mm_w1 rfl ?_
    refine mm_wv (vb_i 2) rfl (by decide) ?_
    refine mm_nadd ?_
    refine mm_wv (vb_i 2) rfl (by decide) ?_
    refine mm_wcpyN (vX_S2 hX) (vA_S1 hA) (by decide) (by decide) (by omega) (by omega) (of_decide_eq_true rfl) ?_
    intro I2 hI2
    refine mm_w1 rfl ?_
    refine mm_wgr (vX_S0 hX) (by decide) (by decide) (vX_P0_2 hX) (vX_a3 hX) ?_
    refine mm_wv (vb_i 0) rfl (by decide) ?_
    refine mm_w1 rfl ?_
    refine mm_w1 rfl ?_
    refine mm_wv (vb_i 4) rfl (by decide) ?_
    refine mm_nadd ?_
    refine mm_wv (vb_i 2) rfl (by decide) ?_
    refine mm_wcpyN (vX_S3 hX) (vA_S1 hA) (by decide) (by decide) (by omega) (by omega) (of_decide_eq_true rfl) ?_
    intro I3 hI3
    refine mm_w1 rfl ?_
    refine mm_wgr (vX_S0 hX) (by decide) (by decide) (vX_P0_3 hX) (vX_a4 hX) ?_
    refine mm_wv (vb_i 0) rfl (by decide) ?_
    refine mm_w1 rfl ?_
    refine mm_w1 rfl ?_
    refine mm_wv (vb_i 6) rfl (by decide) ?_
    refine mm_nadd ?_
    refine mm_wv (vb_i 2) rfl (by decide) ?_
    refine mm_wcpyN (vX_S4 hX) (vA_S1 hA) (by decide) (by decide) (by omega) (by omega) (of_decide_eq_true rfl) ?_
    intro I4 hI4
    refine mm_w1 rfl ?_
    refine mm_w1 rfl ?_
    refine mm_wv (vb_i 8) rfl (by decide) ?_
    refine mm_nadd ?_
    refine mm_w1 rfl ?_
    refine mm_wgiv (vb_i (vx_e x)) (vX_S0 hX) (by decide) (by decide) (by rw [hI4.2.2 X (by omega), hI3.2.2 X (by omega), hI2.2.2 X (by omega), hI1.2.2 X (by omega)]; exact a6) ?_ 
    refine mm_wisN (vA_S1 hA) (by decide) (by omega) ?_
    intro I5 hI5
    refine mm_w1 rfl ?_
    refine mm_wgr (vX_S0 hX) (by decide) (by decide) (vX_P0_4 hX) (vX_a5 hX) ?_
    refine mm_wv (vb_i 0) rfl (by decide) ?_
    refine mm_w1 rfl ?_
    refine mm_w1 rfl ?_
    refine mm_wv (vb_i 9) rfl (by decide) ?_
    refine mm_nadd ?_
    refine mm_wv (vb_i 20) rfl (by decide) ?_
    refine mm_wcpyN (vX_S5 hX) (vA_S1 hA) (by decide) (by decide) (by omega) (by omega) (of_decide_eq_true rfl) ?_
    intro I6 hI6
    refine mm_wr rfl rfl rfl ?_
    refine ⟨_, ⟨⟨?_, ?_, ?_, ?_, ?_, ?_, a7⟩, ?_, ?_⟩, rfl⟩
    · intro j hj
      rw [hI6.2.1 _ (by omega), hI5, vb_up2 _ _ (by omega), hI4.2.1 _ (by omega), hI3.2.1 _ (by omega), hI2.2.1 _ (by omega), hI1.1 _ (by omega) (by omega), ← a1 j hj]
      congr 1; omega
    · intro j hj
      rw [hI6.2.1 _ (by omega), hI5, vb_up2 _ _ (by omega), hI4.2.1 _ (by omega), hI3.2.1 _ (by omega), hI2.1 _ (by omega) (by omega), hI1.2.2 (X + 2) (by omega), ← a2 j hj]
      congr 1; omega
    · intro j hj
      rw [hI6.2.1 _ (by omega), hI5, vb_up2 _ _ (by omega), hI4.2.1 _ (by omega), hI3.1 _ (by omega) (by omega), hI2.2.2 (X + 3) (by omega), hI1.2.2 (X + 3) (by omega), ← a3 j hj]
      congr 1; omega
    · intro j hj
      rw [hI6.2.1 _ (by omega), hI5, vb_up2 _ _ (by omega), hI4.1 _ (by omega) (by omega), hI3.2.2 (X + 4) (by omega), hI2.2.2 (X + 4) (by omega), hI1.2.2 (X + 4) (by omega), ← a4 j hj]
      congr 1; omega
    · intro j hj
      rw [hI6.1 _ (by omega) (by omega), hI5, vb_up3 _ _ (by omega), hI4.2.2 (X + 5) (by omega), hI3.2.2 (X + 5) (by omega), hI2.2.2 (X + 5) (by omega), hI1.2.2 (X + 5) (by omega), ← a5 j hj]
      congr 1; omega
    · rw [hI6.2.1 _ (by omega), hI5, vb_up1]
    · intro j hj; rw [hI6.2.1 _ (by omega), hI5, vb_up2 _ _ (by omega), hI4.2.1 _ (by omega), hI3.2.1 _ (by omega), hI2.2.1 _ (by omega), hI1.2.1 _ (by omega)]
    · intro a ha
      have ha : a ≠ A + 1 := ha
      rw [hI6.2.2 _ ha, hI5, vb_up3 _ _ ha, hI4.2.2 _ ha, hI3.2.2 _ ha, hI2.2.2 _ ha, hI1.2.2 _ ha]
  · intro h10
    exact absurd h10 (by omega)
theorem c_load {r : Nat} (hX : vb_isX P S X) (hA : vb_isA P S A) (hR : vx_row (I (A + 1)) r x) (hr : r + 29 ≤ 1160) (hAX : A + 2 ≤ X ∨ X + 6 ≤ A) : mm_C G d 33 [.ref X, .ref (A + 1), .int (vb_i r)] (I, P, J, S, nc, ns) (vb_R none (fun I' => vb_XD x X I' ∧ vb_fr (vb_xc X) I I') P J S nc ns) := by
  obtain ⟨a1, a2, a3, a4, a5, a6, a7⟩ := hR
  show mm_W _ _ 33 (mm_blk 33 0) [.ref X, .ref (A + 1), .int (vb_i r)] [] _ _
  refine mm_w1 rfl ?_
  refine mm_niflt (by omega) ?_
  refine mm_w1 rfl ?_
  refine mm_w1 rfl ?_
  refine mm_wal (vA_a1 hA) (vA_S1 hA) (by decide) ?_
  refine mm_wv (vb_i 29) rfl (by decide) ?_
  refine mm_nsub (by omega) ?_
  refine mm_nicle (by omega) (by omega) ?_ ?_
  · intro h10
    refine mm_w1 rfl ?_
    refine mm_w1 rfl ?_
    refine mm_w1 rfl ?_
    refine mm_wgr (vX_S0 hX) (by decide) (by decide) (vX_P0_0 hX) (vX_a1 hX) ?_
    refine mm_wv (vb_i 0) rfl (by decide) ?_
    refine mm_wv (vb_i 2) rfl (by decide) ?_
    refine mm_wcpyN (vA_S1 hA) (vX_S1 hX) (by decide) (by decide) (by omega) (by omega) (of_decide_eq_true rfl) ?_
    intro I1 hI1
    refine mm_w1 rfl ?_
    refine mm_w1 rfl ?_
    refine mm_wv (vb_i 2) rfl (by decide) ?_
    refine mm_nadd ?_
    refine mm_w1 rfl ?_
    refine mm_wgr (vX_S0 hX) (by decide) (by decide) (vX_P0_1 hX) (vX_a2 hX) ?_
    refine mm_wv (vb_i 0) rfl (by decide) ?_
    refine mm_wv (vb_i 2) rfl (by decide) ?_
    refine mm_wcpyN (vA_S1 hA) (vX_S2 hX) (by decide) (by decide) (by omega) (by omega) (of_decide_eq_true rfl) ?_
    intro I2 hI2
    refine mm_w1 rfl ?_
    refine mm_w1 rfl ?_
    refine mm_wv (vb_i 4) rfl (by decide) ?_
    refine mm_nadd ?_
    refine mm_w1 rfl ?_
    refine mm_wgr (vX_S0 hX) (by decide) (by decide) (vX_P0_2 hX) (vX_a3 hX) ?_
    refine mm_wv (vb_i 0) rfl (by decide) ?_
    refine mm_wv (vb_i 2) rfl (by decide) ?_
    refine mm_wcpyN (vA_S1 hA) (vX_S3 hX) (by decide) (by decide) (by omega) (by omega) (of_decide_eq_true rfl) ?_
    intro I3 hI3
    refine mm_w1 rfl ?_
    refine mm_w1 rfl ?_
    refine mm_wv (vb_i 6) rfl (by decide) ?_
    refine mm_nadd ?_
    refine mm_w1 rfl ?_
    refine mm_wgr (vX_S0 hX) (by decide) (by decide) (vX_P0_3 hX) (vX_a4 hX) ?_
    refine mm_wv (vb_i 0) rfl (by decide) ?_
    refine mm_wv (vb_i 2) rfl (by decide) ?_
    refine mm_wcpyN (vA_S1 hA) (vX_S4 hX) (by decide) (by decide) (by omega) (by omega) (of_decide_eq_true rfl) ?_
    intro I4 hI4
    refine mm_w1 rfl ?_
    refine mm_w1 rfl ?_
    refine mm_w1 rfl ?_
    refine mm_wv (vb_i 8) rfl (by decide) ?_
    refine mm_nadd ?_
    refine mm_wia (vA_a1 hA) (vA_S1 hA) (by decide) (by omega) ?_
    refine mm_wpiN (vX_S0 hX) (by decide) (by decide) ?_
    intro I5 hI5
    refine mm_w1 rfl ?_
    refine mm_w1 rfl ?_
    refine mm_wv (vb_i 9) rfl (by decide) ?_
    refine mm_nadd ?_
    refine mm_w1 rfl ?_
    refine mm_wgr (vX_S0 hX) (by decide) (by decide) (vX_P0_4 hX) (vX_a5 hX) ?_
    refine mm_wv (vb_i 0) rfl (by decide) ?_
    refine mm_wv (vb_i 20) rfl (by decide) ?_
    refine mm_wcpyN (vA_S1 hA) (vX_S5 hX) (by decide) (by decide) (by omega) (by omega) (of_decide_eq_true rfl) ?_
    intro I6 hI6
    refine mm_wr rfl rfl rfl ?_
    refine ⟨_, ⟨⟨?_, ?_, ?_, ?_, ?_, ?_, a7⟩, ?_⟩, rfl⟩
    · intro j hj
      rw [hI6.2.2 (X + 1) (by omega), hI5, vb_up3 _ _ (by omega), hI4.2.2 (X + 1) (by omega), hI3.2.2 (X + 1) (by omega), hI2.2.2 (X + 1) (by omega), hI1.1 _ (by omega) (by omega), Nat.sub_zero]
      exact a1 j hj
    · intro j hj
      rw [hI6.2.2 (X + 2) (by omega), hI5, vb_up3 _ _ (by omega), hI4.2.2 (X + 2) (by omega), hI3.2.2 (X + 2) (by omega), hI2.1 _ (by omega) (by omega), hI1.2.2 (A + 1) (by omega), Nat.sub_zero]
      exact a2 j hj
    · intro j hj
      rw [hI6.2.2 (X + 3) (by omega), hI5, vb_up3 _ _ (by omega), hI4.2.2 (X + 3) (by omega), hI3.1 _ (by omega) (by omega), hI2.2.2 (A + 1) (by omega), hI1.2.2 (A + 1) (by omega), Nat.sub_zero]
      exact a3 j hj
    · intro j hj
      rw [hI6.2.2 (X + 4) (by omega), hI5, vb_up3 _ _ (by omega), hI4.1 _ (by omega) (by omega), hI3.2.2 (A + 1) (by omega), hI2.2.2 (A + 1) (by omega), hI1.2.2 (A + 1) (by omega), Nat.sub_zero]
      exact a4 j hj
    · intro j hj
      rw [hI6.1 _ (by omega) (by omega), hI5, vb_up3 _ _ (by omega), hI4.2.2 (A + 1) (by omega), hI3.2.2 (A + 1) (by omega), hI2.2.2 (A + 1) (by omega), hI1.2.2 (A + 1) (by omega), Nat.sub_zero]
      exact a5 j hj
    · rw [hI6.2.2 X (by omega), hI5, vb_up1, hI4.2.2 (A + 1) (by omega), hI3.2.2 (A + 1) (by omega), hI2.2.2 (A + 1) (by omega), hI1.2.2 (A + 1) (by omega)]; exact a6
    · intro a ha
      simp only [vb_xc] at ha
      rw [hI6.2.2 _ (by omega), hI5, vb_up3 _ _ (by omega), hI4.2.2 _ (by omega), hI3.2.2 _ (by omega), hI2.2.2 _ (by omega), hI1.2.2 _ (by omega)]
  · intro h10
    exact absurd h10 (by omega)
def vx_new (fs : Nat → Int32) (sc : Nat) : vb_X := (fs, fs, fun _ => 0, fun j => if vb_i sc - vb_i 1 < vb_i j then vb_i sc - vb_i 1 else vb_i j, fun _ => 0, 0)
theorem c_begin (hX : vb_isX P S X) (hL : vb_isL P S L) (dL : vb_LD ℓ L I) (hLX : L + 12 ≤ X ∨ X + 6 ≤ L) : mm_C G d 30 [.ref X, .ref L] (I, P, J, S, nc, ns) (vb_R none (fun I' => vb_XD (vx_new (I (L + 4)) (vb_sc ℓ)) X I' ∧ vb_fr (vb_xc X) I I') P J S nc ns) := by
  have hsc := vl_sc3 dL
  have hs1 : ∀ I1, vb_fr (vb_xc X) I I1 → vb_LD ℓ L I1 ∧ I1 (L + 4) = I (L + 4) := fun I1 hf => ⟨dL.kp hf (fun j h1 h2 => by simp only [vb_xc] at h2; omega), hf _ (fun h2 => by simp only [vb_xc] at h2; omega)⟩
  have loop2 := vb_down (p := fun i => ∀ (I1 : Nat → Nat → Int32), vb_fr (vb_xc X) I I1 → (∀ j, j < 2 → I1 (X + 1) j = I (L + 4) j ∧ I1 (X + 2) j = I (L + 4) j ∧ I1 (X + 3) j = 0 ∧ I1 (X + 4) j = vx_y (vx_new (I (L + 4)) (vb_sc ℓ)) j) → (∀ j, j < i → I1 (X + 5) j = 0) → mm_W G d 30 (mm_blk 30 62) [.ref X, .ref L, .int (vb_i i)] [] (I1, P, J, S, nc, ns) (vb_R none (fun I' => vb_XD (vx_new (I (L + 4)) (vb_sc ℓ)) X I' ∧ vb_fr (vb_xc X) I I') P J S nc ns)) 20 (by
    intro i hi ih I1 hf1 hA hB
    refine mm_w1 rfl ?_
    refine mm_wv (vb_i 20) rfl (by decide) ?_
    refine mm_nicge (by omega) (by omega) ?_ ?_
    · intro h65
      refine mm_w1 rfl ?_
      refine mm_wv (vb_i 0) rfl (by decide) ?_
      refine mm_wpi (vX_S0 hX) (by decide) (by decide) ?_
      refine mm_wr rfl rfl rfl ?_
      refine ⟨_, ⟨⟨?_, ?_, ?_, ?_, ?_, ?_, Nat.zero_le _⟩, hf1.up ⟨by omega, by omega⟩⟩, rfl⟩
      · intro j hj; rw [vb_up3 _ _ (by omega)]; exact (hA j hj).1
      · intro j hj; rw [vb_up3 _ _ (by omega)]; exact (hA j hj).2.1
      · intro j hj; rw [vb_up3 _ _ (by omega)]; exact (hA j hj).2.2.1
      · intro j hj; rw [vb_up3 _ _ (by omega)]; exact (hA j hj).2.2.2
      · intro j hj; rw [vb_up3 _ _ (by omega)]; exact hB j (by omega)
      · rw [vb_up1]; rfl
    · intro h65
      refine mm_w1 rfl ?_
      refine mm_wgr (vX_S0 hX) (by decide) (by decide) (vX_P0_4 hX) (vX_a5 hX) ?_
      refine mm_w1 rfl ?_
      refine mm_wv (vb_i 0) rfl (by decide) ?_
      refine mm_wis (vX_S5 hX) (by decide) (by omega) ?_
      refine mm_nincL (ls' := [_, _, _]) 1 rfl (by decide) rfl ?_
      refine mm_wgoto ?_
      refine ih (by omega) _ (hf1.up ⟨by omega, by omega⟩) ?_ ?_
      · intro j hj
        rw [vb_up3 _ _ (by omega), vb_up3 _ _ (by omega), vb_up3 _ _ (by omega), vb_up3 _ _ (by omega)]
        exact hA j hj
      · intro j hj
        by_cases hji : j = i
        · subst hji; rw [vb_up1]; rfl
        · rw [vb_up2 _ _ (by omega)]; exact hB j (by omega)
    )
  have loop1 := vb_down (p := fun i => ∀ (I1 : Nat → Nat → Int32), vb_fr (vb_xc X) I I1 → (∀ j, j < i → I1 (X + 1) j = I (L + 4) j ∧ I1 (X + 2) j = I (L + 4) j ∧ I1 (X + 3) j = 0 ∧ I1 (X + 4) j = vx_y (vx_new (I (L + 4)) (vb_sc ℓ)) j) → mm_W G d 30 (mm_blk 30 2) [.ref X, .ref L, .int (vb_i i)] [] (I1, P, J, S, nc, ns) (vb_R none (fun I' => vb_XD (vx_new (I (L + 4)) (vb_sc ℓ)) X I' ∧ vb_fr (vb_xc X) I I') P J S nc ns)) 2 (by
    intro i hi ih I1 hf1 hA
    obtain ⟨dL1, hfs⟩ := hs1 I1 hf1
    refine mm_w1 rfl ?_
    refine mm_wv (vb_i 2) rfl (by decide) ?_
    refine mm_nicge (by omega) (by omega) ?_ ?_
    · intro h4
      refine mm_wv (vb_i 0) rfl (by decide) ?_
      refine mm_w1 (ls' := [_, _, _]) rfl ?_
      have e : i = 2 := by omega
      subst e
      exact loop2 0 (by omega) I1 hf1 hA (fun j hj => absurd hj (by omega))
    · intro h4
      refine mm_w1 rfl ?_
      refine mm_wgr (vX_S0 hX) (by decide) (by decide) (vX_P0_0 hX) (vX_a1 hX) ?_
      refine mm_w1 rfl ?_
      refine mm_w1 rfl ?_
      refine mm_wgr (vL_S0 hL) (by decide) (by decide) (vL_P0_7 hL) (vL_a4 hL) ?_
      refine mm_w1 rfl ?_
      refine mm_wiav (I (L + 4) i) (vL_a4 hL) (vL_S4 hL) (by decide) (by omega) (by first | (rw [hfs]) | (rw [vb_up3 _ _ (by omega), hfs])) ?_
      refine mm_wis (vX_S1 hX) (by decide) (by omega) ?_
      refine mm_w1 rfl ?_
      refine mm_wgr (vX_S0 hX) (by decide) (by decide) (vX_P0_1 hX) (vX_a2 hX) ?_
      refine mm_w1 rfl ?_
      refine mm_w1 rfl ?_
      refine mm_wgr (vL_S0 hL) (by decide) (by decide) (vL_P0_7 hL) (vL_a4 hL) ?_
      refine mm_w1 rfl ?_
      refine mm_wiav (I (L + 4) i) (vL_a4 hL) (vL_S4 hL) (by decide) (by omega) (by first | (rw [hfs]) | (rw [vb_up3 _ _ (by omega), hfs])) ?_
      refine mm_wis (vX_S2 hX) (by decide) (by omega) ?_
      refine mm_w1 rfl ?_
      refine mm_wgr (vX_S0 hX) (by decide) (by decide) (vX_P0_2 hX) (vX_a3 hX) ?_
      refine mm_w1 rfl ?_
      refine mm_wv (vb_i 0) rfl (by decide) ?_
      refine mm_wis (vX_S3 hX) (by decide) (by omega) ?_
      refine mm_w1 rfl ?_
      refine mm_wgr (vX_S0 hX) (by decide) (by decide) (vX_P0_3 hX) (vX_a4 hX) ?_
      refine mm_w1 rfl ?_
      refine mm_w1 rfl ?_
      refine mm_w1 rfl ?_
      refine mm_wgiv (vb_i (vb_sc ℓ)) (vL_S0 hL) (by decide) (by decide) (by rw [vb_up3 _ _ (by omega), vb_up3 _ _ (by omega), vb_up3 _ _ (by omega)]; exact vl_sc dL1) ?_
      refine mm_wv (vb_i 1) rfl (by decide) ?_
      refine mm_w1 rfl ?_
      refine mm_w1 rfl ?_
      refine mm_wis (vX_S4 hX) (by decide) (by omega) ?_
      refine mm_nincL (ls' := [_, _, _]) 1 rfl (by decide) rfl ?_
      refine mm_wgoto ?_
      refine ih (by omega) _ ((((hf1.up ⟨by omega, by omega⟩).up ⟨by omega, by omega⟩).up ⟨by omega, by omega⟩).up ⟨by omega, by omega⟩) ?_
      intro j hj
      by_cases hji : j = i
      · subst hji
        refine ⟨?_, ?_, ?_, ?_⟩
        · rw [vb_up3 _ _ (by omega), vb_up3 _ _ (by omega), vb_up3 _ _ (by omega), vb_up1]
        · rw [vb_up3 _ _ (by omega), vb_up3 _ _ (by omega), vb_up1]
        · rw [vb_up3 _ _ (by omega), vb_up1]; rfl
        · rw [vb_up1]; rfl
      · obtain ⟨b1, b2, b3, b4⟩ := hA j (by omega)
        refine ⟨?_, ?_, ?_, ?_⟩
        · rw [vb_up3 _ _ (by omega), vb_up3 _ _ (by omega), vb_up3 _ _ (by omega), vb_up2 _ _ (by omega)]; exact b1
        · rw [vb_up3 _ _ (by omega), vb_up3 _ _ (by omega), vb_up2 _ _ (by omega), vb_up3 _ _ (by omega)]; exact b2
        · rw [vb_up3 _ _ (by omega), vb_up2 _ _ (by omega), vb_up3 _ _ (by omega), vb_up3 _ _ (by omega)]; exact b3
        · rw [vb_up2 _ _ (by omega), vb_up3 _ _ (by omega), vb_up3 _ _ (by omega), vb_up3 _ _ (by omega)]; exact b4
    )
  show mm_W _ _ 30 (mm_blk 30 0) [.ref X, .ref L, .null] [] _ _
  refine mm_wv (vb_i 0) rfl (by decide) ?_
  refine mm_w1 (ls' := [_, _, _]) rfl ?_
  exact loop1 0 (by omega) I vb_fr.rf (fun j hj => absurd hj (by omega))
end POS3
