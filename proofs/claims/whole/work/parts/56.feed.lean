def vb_tpD (tp : List Int32) (I : Nat → Nat → Int32) : Prop := I 0 1 = vb_i tp.length ∧ tp.length ≤ 700 ∧ ∀ i b, tp[i]? = some b → I 1 i = b
/-- but for the tape nothing has changed -/
def vb_tf (I I' : Nat → Nat → Int32) : Prop := (∀ a, a ≠ 0 → a ≠ 1 → I' a = I a) ∧ ∀ j, j ≠ 1 → I' 0 j = I 0 j
theorem vb_tf.tr {I I' I'' : Nat → Nat → Int32} (h : vb_tf I I') (h' : vb_tf I' I'') : vb_tf I I'' := ⟨fun a h0 h1 => (h'.1 a h0 h1).trans (h.1 a h0 h1), fun j hj => (h'.2 j hj).trans (h.2 j hj)⟩
theorem vb_tpD.add {tp : List Int32} {I : Nat → Nat → Int32} (h : vb_tpD tp I) (hl : tp.length + 1 ≤ 700) (b : Int32) : vb_tpD (tp ++ [b]) (mm_up (mm_up I 1 tp.length b) 0 1 (vb_i (tp.length + 1))) ∧ vb_tf I (mm_up (mm_up I 1 tp.length b) 0 1 (vb_i (tp.length + 1))) := by
  obtain ⟨h1, h2, h3⟩ := h
  refine ⟨⟨?_, by rw [List.length_append]; exact hl, ?_⟩, ?_, ?_⟩
  · rw [vb_up1, List.length_append]; rfl
  · intro i z hz
    rw [vb_up3 _ _ (by decide)]
    rcases vb_app1 hz with ⟨hi, hz2⟩ | ⟨hi, hz2⟩
    · rw [vb_up2 _ _ (by omega)]; exact h3 i z hz2
    · subst hi; subst hz2; rw [vb_up1]
  · intro a h0 h1; rw [vb_up3 _ _ h0, vb_up3 _ _ h1]
  · intro j hj; rw [vb_up2 _ _ (by omega), vb_up3 _ _ (by decide)]
section FEED
variable {G : mm_G} {d : Nat} {I : Nat → Nat → Int32} {P : Nat → Nat → Nat} {J : Nat → Nat → Int64} {S : List (Nat × Nat)} {nc ns : Nat} {μ : mm_M} {σ : vb_St} {L : Nat}
variable {tp : List Int32}
theorem c_tape {v : Int32} (hV : vb_isV P S L) (dP : vb_tpD tp I) (hl : tp.length + 4 ≤ 700) : mm_C G d 76 [.ref 0, .int v] (I, P, J, S, nc, ns) (vb_R none (fun I' => vb_tpD (tp ++ q_bs v) I' ∧ vb_tf I I') P J S nc ns) := by
  have sE : ∀ I1, vb_tpD (tp ++ q_bs v) I1 → vb_tf I I1 → mm_W G d 76 (mm_blk 76 3) [.ref 0, .int v, .int (-8)] [] (I1, P, J, S, nc, ns) (vb_R none (fun I' => vb_tpD (tp ++ q_bs v) I' ∧ vb_tf I I') P J S nc ns) := by
    intro I1 d1 f1
    refine mm_w1 rfl ?_
    refine mm_wiflt ?_ ?_
    · intro h4
      refine mm_wr rfl rfl rfl ?_
      exact ⟨_, ⟨d1, f1⟩, rfl⟩
    · intro h4
      exact absurd h4 (by decide)
  have s0 : ∀ (I1 : Nat → Nat → Int32) (t1 : List Int32), vb_tpD t1 I1 → vb_tf I I1 → t1.length + 1 ≤ 700 → t1 ++ [q_b1 v 0] = tp ++ q_bs v → mm_W G d 76 (mm_blk 76 3) [.ref 0, .int v, .int (vb_i 0)] [] (I1, P, J, S, nc, ns) (vb_R none (fun I' => vb_tpD (tp ++ q_bs v) I' ∧ vb_tf I I') P J S nc ns) := by
    intro I1 t1 d1 f1 l1 he
    have d2 := d1
    obtain ⟨p1, p2, p3⟩ := d2
    obtain ⟨da, fa⟩ := d1.add (by omega) (q_b1 v 0)
    rw [show t1 ++ [q_b1 v 0] = (t1 ++ [q_b1 v 0]) ++ [] by simp] at he
    refine mm_w1 rfl ?_
    refine mm_niflt (by omega) ?_
    refine mm_w1 rfl ?_
    refine mm_wgiv (vb_i t1.length) (vV_S0 hV) (by decide) (by decide) (by first | exact p1 | (rw [vb_up3 _ _ (by decide)]; exact p1)) ?_
    refine mm_wv (vb_i 700) rfl (by decide) ?_
    refine mm_nicge (by omega) (by omega) ?_ ?_
    · intro h14
      exact absurd h14 (by omega)
    · intro h14
      refine mm_w1 rfl ?_
      refine mm_wgr (vV_S0 hV) (by decide) (by decide) (vV_P0_0 hV) (vV_a1 hV) ?_
      refine mm_w1 rfl ?_
      refine mm_wgiv (vb_i t1.length) (vV_S0 hV) (by decide) (by decide) (by first | exact p1 | (rw [vb_up3 _ _ (by decide)]; exact p1)) ?_
      refine mm_w1 rfl ?_
      refine mm_w1 rfl ?_
      refine mm_w1 rfl ?_
      refine mm_wv (vb_i 255) rfl (by decide) ?_
      refine mm_w1 rfl ?_
      refine mm_wis (vV_S1 hV) (by decide) (by omega) ?_
      refine mm_w1 rfl ?_
      refine mm_w1 rfl ?_
      refine mm_wgiv (vb_i t1.length) (vV_S0 hV) (by decide) (by decide) (by first | exact p1 | (rw [vb_up3 _ _ (by decide)]; exact p1)) ?_
      refine mm_wv (vb_i 1) rfl (by decide) ?_
      refine mm_nadd ?_
      refine mm_wpi (vV_S0 hV) (by decide) (by decide) ?_
      refine mm_wincv (-8) rfl (by decide) ?_ 
      refine mm_wgoto ?_
      rw [List.append_nil] at he
      exact sE _ (by rw [← he]; exact da) (f1.tr fa)
  have s8 : ∀ (I1 : Nat → Nat → Int32) (t1 : List Int32), vb_tpD t1 I1 → vb_tf I I1 → t1.length + 2 ≤ 700 → t1 ++ [q_b1 v 8, q_b1 v 0] = tp ++ q_bs v → mm_W G d 76 (mm_blk 76 3) [.ref 0, .int v, .int (vb_i 8)] [] (I1, P, J, S, nc, ns) (vb_R none (fun I' => vb_tpD (tp ++ q_bs v) I' ∧ vb_tf I I') P J S nc ns) := by
    intro I1 t1 d1 f1 l1 he
    have d2 := d1
    obtain ⟨p1, p2, p3⟩ := d2
    obtain ⟨da, fa⟩ := d1.add (by omega) (q_b1 v 8)
    rw [show t1 ++ [q_b1 v 8, q_b1 v 0] = (t1 ++ [q_b1 v 8]) ++ [q_b1 v 0] by simp] at he
    refine mm_w1 rfl ?_
    refine mm_niflt (by omega) ?_
    refine mm_w1 rfl ?_
    refine mm_wgiv (vb_i t1.length) (vV_S0 hV) (by decide) (by decide) (by first | exact p1 | (rw [vb_up3 _ _ (by decide)]; exact p1)) ?_
    refine mm_wv (vb_i 700) rfl (by decide) ?_
    refine mm_nicge (by omega) (by omega) ?_ ?_
    · intro h14
      exact absurd h14 (by omega)
    · intro h14
      refine mm_w1 rfl ?_
      refine mm_wgr (vV_S0 hV) (by decide) (by decide) (vV_P0_0 hV) (vV_a1 hV) ?_
      refine mm_w1 rfl ?_
      refine mm_wgiv (vb_i t1.length) (vV_S0 hV) (by decide) (by decide) (by first | exact p1 | (rw [vb_up3 _ _ (by decide)]; exact p1)) ?_
      refine mm_w1 rfl ?_
      refine mm_w1 rfl ?_
      refine mm_w1 rfl ?_
      refine mm_wv (vb_i 255) rfl (by decide) ?_
      refine mm_w1 rfl ?_
      refine mm_wis (vV_S1 hV) (by decide) (by omega) ?_
      refine mm_w1 rfl ?_
      refine mm_w1 rfl ?_
      refine mm_wgiv (vb_i t1.length) (vV_S0 hV) (by decide) (by decide) (by first | exact p1 | (rw [vb_up3 _ _ (by decide)]; exact p1)) ?_
      refine mm_wv (vb_i 1) rfl (by decide) ?_
      refine mm_nadd ?_
      refine mm_wpi (vV_S0 hV) (by decide) (by decide) ?_
      refine mm_ndecL (ls' := [_, _, _]) 8 rfl (by decide) (by decide) rfl ?_ 
      refine mm_wgoto ?_
      exact s0 _ _ da (f1.tr fa) (by rw [List.length_append]; simp; omega) he
  have s16 : ∀ (I1 : Nat → Nat → Int32) (t1 : List Int32), vb_tpD t1 I1 → vb_tf I I1 → t1.length + 3 ≤ 700 → t1 ++ [q_b1 v 16, q_b1 v 8, q_b1 v 0] = tp ++ q_bs v → mm_W G d 76 (mm_blk 76 3) [.ref 0, .int v, .int (vb_i 16)] [] (I1, P, J, S, nc, ns) (vb_R none (fun I' => vb_tpD (tp ++ q_bs v) I' ∧ vb_tf I I') P J S nc ns) := by
    intro I1 t1 d1 f1 l1 he
    have d2 := d1
    obtain ⟨p1, p2, p3⟩ := d2
    obtain ⟨da, fa⟩ := d1.add (by omega) (q_b1 v 16)
    rw [show t1 ++ [q_b1 v 16, q_b1 v 8, q_b1 v 0] = (t1 ++ [q_b1 v 16]) ++ [q_b1 v 8, q_b1 v 0] by simp] at he
    refine mm_w1 rfl ?_
    refine mm_niflt (by omega) ?_
    refine mm_w1 rfl ?_
    refine mm_wgiv (vb_i t1.length) (vV_S0 hV) (by decide) (by decide) (by first | exact p1 | (rw [vb_up3 _ _ (by decide)]; exact p1)) ?_
    refine mm_wv (vb_i 700) rfl (by decide) ?_
    refine mm_nicge (by omega) (by omega) ?_ ?_
    · intro h14
      exact absurd h14 (by omega)
    · intro h14
      refine mm_w1 rfl ?_
      refine mm_wgr (vV_S0 hV) (by decide) (by decide) (vV_P0_0 hV) (vV_a1 hV) ?_
      refine mm_w1 rfl ?_
      refine mm_wgiv (vb_i t1.length) (vV_S0 hV) (by decide) (by decide) (by first | exact p1 | (rw [vb_up3 _ _ (by decide)]; exact p1)) ?_
      refine mm_w1 rfl ?_
      refine mm_w1 rfl ?_
      refine mm_w1 rfl ?_
      refine mm_wv (vb_i 255) rfl (by decide) ?_
      refine mm_w1 rfl ?_
      refine mm_wis (vV_S1 hV) (by decide) (by omega) ?_
      refine mm_w1 rfl ?_
      refine mm_w1 rfl ?_
      refine mm_wgiv (vb_i t1.length) (vV_S0 hV) (by decide) (by decide) (by first | exact p1 | (rw [vb_up3 _ _ (by decide)]; exact p1)) ?_
      refine mm_wv (vb_i 1) rfl (by decide) ?_
      refine mm_nadd ?_
      refine mm_wpi (vV_S0 hV) (by decide) (by decide) ?_
      refine mm_ndecL (ls' := [_, _, _]) 8 rfl (by decide) (by decide) rfl ?_ 
      refine mm_wgoto ?_
      exact s8 _ _ da (f1.tr fa) (by rw [List.length_append]; simp; omega) he
  have s24 : ∀ (I1 : Nat → Nat → Int32) (t1 : List Int32), vb_tpD t1 I1 → vb_tf I I1 → t1.length + 4 ≤ 700 → t1 ++ [q_b1 v 24, q_b1 v 16, q_b1 v 8, q_b1 v 0] = tp ++ q_bs v → mm_W G d 76 (mm_blk 76 3) [.ref 0, .int v, .int (vb_i 24)] [] (I1, P, J, S, nc, ns) (vb_R none (fun I' => vb_tpD (tp ++ q_bs v) I' ∧ vb_tf I I') P J S nc ns) := by
    intro I1 t1 d1 f1 l1 he
    have d2 := d1
    obtain ⟨p1, p2, p3⟩ := d2
    obtain ⟨da, fa⟩ := d1.add (by omega) (q_b1 v 24)
    rw [show t1 ++ [q_b1 v 24, q_b1 v 16, q_b1 v 8, q_b1 v 0] = (t1 ++ [q_b1 v 24]) ++ [q_b1 v 16, q_b1 v 8, q_b1 v 0] by simp] at he
    refine mm_w1 rfl ?_
    refine mm_niflt (by omega) ?_
    refine mm_w1 rfl ?_
    refine mm_wgiv (vb_i t1.length) (vV_S0 hV) (by decide) (by decide) (by first | exact p1 | (rw [vb_up3 _ _ (by decide)]; exact p1)) ?_
    refine mm_wv (vb_i 700) rfl (by decide) ?_
    refine mm_nicge (by omega) (by omega) ?_ ?_
    · intro h14
      exact absurd h14 (by omega)
    · intro h14
      refine mm_w1 rfl ?_
      refine mm_wgr (vV_S0 hV) (by decide) (by decide) (vV_P0_0 hV) (vV_a1 hV) ?_
      refine mm_w1 rfl ?_
      refine mm_wgiv (vb_i t1.length) (vV_S0 hV) (by decide) (by decide) (by first | exact p1 | (rw [vb_up3 _ _ (by decide)]; exact p1)) ?_
      refine mm_w1 rfl ?_
      refine mm_w1 rfl ?_
      refine mm_w1 rfl ?_
      refine mm_wv (vb_i 255) rfl (by decide) ?_
      refine mm_w1 rfl ?_
      refine mm_wis (vV_S1 hV) (by decide) (by omega) ?_
      refine mm_w1 rfl ?_
      refine mm_w1 rfl ?_
      refine mm_wgiv (vb_i t1.length) (vV_S0 hV) (by decide) (by decide) (by first | exact p1 | (rw [vb_up3 _ _ (by decide)]; exact p1)) ?_
      refine mm_wv (vb_i 1) rfl (by decide) ?_
      refine mm_nadd ?_
      refine mm_wpi (vV_S0 hV) (by decide) (by decide) ?_
      refine mm_ndecL (ls' := [_, _, _]) 8 rfl (by decide) (by decide) rfl ?_ 
      refine mm_wgoto ?_
      exact s16 _ _ da (f1.tr fa) (by rw [List.length_append]; simp; omega) he
  show mm_W _ _ 76 (mm_blk 76 0) [.ref 0, .int v, .null] [] _ _
  refine mm_wv (vb_i 24) rfl (by decide) ?_
  refine mm_w1 (ls' := [_, _, _]) rfl ?_
  exact s24 I tp dP ⟨fun _ _ _ => rfl, fun _ _ => rfl⟩ hl rfl
theorem v_feed (hV : vb_isV P S L) (dV : vb_VD σ L I) (hd : 20 ≤ d) (a b c e f : Int32) : mm_C G d 75 [.ref 0, .int a, .int b, .int c, .int e, .int f] (I, P, J, S, nc, ns) (vb_RV (sp_feed σ a b c e f) (fun I' => vb_VD (st_feed σ a b c e f) L I') P J S nc ns) := by
  have hL := vV_hL hV
  have hX := vV_hX hV
  have hY := vV_hY hV
  have hA := vV_hA hV
  have hT := vV_hT hV
  have hC := vV_hC hV
  have hL17 := vV_L17 hV
  have hF : vb_fr (vb_vs L) I I := vb_fr.rf
  have dL := vd_l dV
  have dX := vd_x dV
  have dA := vd_a dV
  have dT := vd_t dV
  have hn := vl_10 dL
  have he := vx_e2 dX
  have ht := vx_t2 (vs_x σ)
  have dP : vb_tpD (vs_p σ) I := ⟨vd_p dV, vd_p7 dV, vd_tp dV⟩
  rw [sp_feed, st_feed]
  have h7 := vd_p7 dV
  show mm_W _ _ 75 (mm_blk 75 0) [.ref 0, .int a, .int b, .int c, .int e, .int f] [] _ _
  refine mm_w1 rfl ?_
  refine mm_wgiv _ (vV_S0 hV) (by decide) (by decide) (vd_p dV) ?_
  refine mm_wv (vb_i 20) rfl (by decide) ?_
  refine mm_nadd ?_
  refine mm_wv (vb_i 700) rfl (by decide) ?_
  refine mm_nicle (by omega) (by omega) ?_ ?_
  · intro h10
    refine mm_w1 rfl ?_
    refine mm_w1 rfl ?_
    refine mm_cvn (vb_cv (vV_S0 hV) rfl rfl rfl rfl) (by decide) (by omega) (c_tape (tp := vs_p σ) (v := a) hV dP (by simp [q_bs]; omega)) ?_
    intro I1 hq1
    obtain ⟨dP1, g1⟩ := hq1 
    refine mm_w1 rfl ?_
    refine mm_w1 rfl ?_
    refine mm_cvn (vb_cv (vV_S0 hV) rfl rfl rfl rfl) (by decide) (by omega) (c_tape (tp := vs_p σ ++ q_bs a) (v := b) hV dP1 (by simp [q_bs]; omega)) ?_
    intro I2 hq2
    obtain ⟨dP2, g2⟩ := hq2 
    refine mm_w1 rfl ?_
    refine mm_w1 rfl ?_
    refine mm_cvn (vb_cv (vV_S0 hV) rfl rfl rfl rfl) (by decide) (by omega) (c_tape (tp := vs_p σ ++ q_bs a ++ q_bs b) (v := c) hV dP2 (by simp [q_bs]; omega)) ?_
    intro I3 hq3
    obtain ⟨dP3, g3⟩ := hq3 
    refine mm_w1 rfl ?_
    refine mm_w1 rfl ?_
    refine mm_cvn (vb_cv (vV_S0 hV) rfl rfl rfl rfl) (by decide) (by omega) (c_tape (tp := vs_p σ ++ q_bs a ++ q_bs b ++ q_bs c) (v := e) hV dP3 (by simp [q_bs]; omega)) ?_
    intro I4 hq4
    obtain ⟨dP4, g4⟩ := hq4 
    refine mm_w1 rfl ?_
    refine mm_w1 rfl ?_
    refine mm_cvn (vb_cv (vV_S0 hV) rfl rfl rfl rfl) (by decide) (by omega) (c_tape (tp := vs_p σ ++ q_bs a ++ q_bs b ++ q_bs c ++ q_bs e) (v := f) hV dP4 (by simp [q_bs]; omega)) ?_
    intro I5 hq5
    obtain ⟨dP5, g5⟩ := hq5 
    refine mm_w1 rfl ?_
    refine mm_wgiv (vb_i ((vs_p σ).length + 20)) (vV_S0 hV) (by decide) (by decide) (by rw [dP5.1]; simp [q_bs]) ?_ 
    refine mm_wr rfl rfl rfl ?_
    rw [if_pos (by omega), if_pos (by omega)]
    have g := (((g1.tr g2).tr g3).tr g4).tr g5
    have hk : vb_fr (fun a => a = 0 ∨ a = 1) I I5 := fun a ha => g.1 a (by omega) (by omega)
    obtain ⟨h1, h2, h3, h4, h5, h6, h7, h8, h9, h10, h11⟩ := dV
    obtain ⟨p1, p2, p3⟩ := dP5
    refine ⟨_, ⟨h1.kp hk (fun j a b => by omega), h2.fr hk (fun j a b => by omega), h3.fr hk (fun j a b => by omega), h4.fr hk (fun j a b => by omega), ?_, h6.fr hk (fun a b c d => by omega), p1, p2, p3, ?_, ?_⟩, rfl⟩
    · rw [g.2 10 (by decide)]; exact h5
    · rw [g.2 2 (by decide)]; exact h10
    · rw [g.1 2 (by decide) (by decide)]; exact h11
  · intro h10
    refine mm_wv (-1) rfl (by decide) ?_
    refine mm_wr rfl rfl rfl ?_
    rw [if_neg (by omega), if_neg (by omega)]
    exact ⟨I, dV, rfl⟩
end FEED
