def vm_tpD (tp : List Int32) (I : Nat → Nat → Int32) : Prop := I 60 11 = vb_i tp.length ∧ tp.length ≤ 700 ∧ ∀ i b, tp[i]? = some b → I 66 i = b
def vm_tf (I I' : Nat → Nat → Int32) : Prop := (∀ a, a ≠ 60 → a ≠ 66 → I' a = I a) ∧ ∀ j, j ≠ 11 → I' 60 j = I 60 j
theorem vm_tf.tr {I I' I'' : Nat → Nat → Int32} (h : vm_tf I I') (h' : vm_tf I' I'') : vm_tf I I'' := ⟨fun a h0 h1 => (h'.1 a h0 h1).trans (h.1 a h0 h1), fun j hj => (h'.2 j hj).trans (h.2 j hj)⟩
theorem vm_tpD.add {tp : List Int32} {I : Nat → Nat → Int32} (h : vm_tpD tp I) (hl : tp.length + 1 ≤ 700) (b : Int32) : vm_tpD (tp ++ [b]) (mm_up (mm_up I 66 tp.length b) 60 11 (vb_i (tp.length + 1))) ∧ vm_tf I (mm_up (mm_up I 66 tp.length b) 60 11 (vb_i (tp.length + 1))) := by
  obtain ⟨h1, h2, h3⟩ := h
  refine ⟨⟨?_, by rw [List.length_append]; exact hl, ?_⟩, ?_, ?_⟩
  · rw [vb_up1, List.length_append]; rfl
  · intro i z hz
    rw [vb_up3 _ _ (by decide)]
    rcases vb_app1 hz with ⟨hi, hz2⟩ | ⟨hi, hz2⟩
    · rw [vb_up2 _ _ (by omega)]; exact h3 i z hz2
    · subst hi; subst hz2; rw [vb_up1]
  · intro a h0 h1; rw [vb_up3 _ _ h0, vb_up3 _ _ h1]
  · intro j hj; rw [vb_up2 _ _ (by omega), vb_up3 _ _ (by decide)]
section NFEED
variable {G : mm_G} {d : Nat} {I : Nat → Nat → Int32} {P : Nat → Nat → Nat} {J : Nat → Nat → Int64} {S : List (Nat × Nat)} {nc ns : Nat} {μ : mm_M} {σ : vb_St}
variable {tp : List Int32}
theorem vm_tf.MD {I' : Nat → Nat → Int32} (h : vm_MD σ I) (k : vm_tf I I') (hp : vm_tpD tp I') : vm_MD (vs_tape σ tp) I' := by
  obtain ⟨k1, k2⟩ := k
  obtain ⟨g1, g2, g3, g4, g5, g6, g7, g8, g9, g10, g11, g12, g13⟩ := h
  refine ⟨g1.k2 (fun s q1 q2 => k2 s (by omega)) (fun a q1 q2 => k1 a (by omega) (by omega)), ?_, ?_, ?_, ?_, ?_, ?_, ?_, hp.1, hp.2.1, hp.2.2, ?_, ?_⟩
  · rw [k1 76 (by decide) (by decide)]; exact g2
  · rw [k2 40 (by decide)]; exact g3
  · rw [k1 77 (by decide) (by decide)]; exact g4
  · rw [k2 45 (by decide)]; exact g5
  · rw [k1 81 (by decide) (by decide)]; exact g6
  · rw [k2 49 (by decide)]; exact g7
  · intro z hz
    rw [k2 50 (by decide), k2 51 (by decide), k1 83 (by decide) (by decide), k1 84 (by decide) (by decide), k1 85 (by decide) (by decide)]
    exact g8 z hz
  · rw [k2 13 (by decide)]; exact g12
  · rw [k1 67 (by decide) (by decide)]; exact g13
theorem m_lays {v : Int32} (hM : vm_isM P S) (dP : vm_tpD tp I) (hl : tp.length + 4 ≤ 700) : mm_C G d 142 [.ref 60, .int v] (I, P, J, S, nc, ns) (vb_R none (fun I' => vm_tpD (tp ++ q_bs v) I' ∧ vm_tf I I') P J S nc ns) := by
  have sE : ∀ I1, vm_tpD (tp ++ q_bs v) I1 → vm_tf I I1 → mm_W G d 142 (mm_blk 142 3) [.ref 60, .int v, .int (-8)] [] (I1, P, J, S, nc, ns) (vb_R none (fun I' => vm_tpD (tp ++ q_bs v) I' ∧ vm_tf I I') P J S nc ns) := by
    intro I1 d1 f1
    refine mm_w1 rfl ?_
    refine mm_wiflt ?_ ?_
    · intro h4
      refine mm_wr rfl rfl rfl ?_
      exact ⟨_, ⟨d1, f1⟩, rfl⟩
    · intro h4
      exact absurd h4 (by decide)
  have s0 : ∀ (I1 : Nat → Nat → Int32) (t1 : List Int32), vm_tpD t1 I1 → vm_tf I I1 → t1.length + 1 ≤ 700 → t1 ++ [q_b1 v 0] = tp ++ q_bs v → mm_W G d 142 (mm_blk 142 3) [.ref 60, .int v, .int (vb_i 0)] [] (I1, P, J, S, nc, ns) (vb_R none (fun I' => vm_tpD (tp ++ q_bs v) I' ∧ vm_tf I I') P J S nc ns) := by
    intro I1 t1 d1 f1 l1 he
    have d2 := d1
    obtain ⟨p1, p2, p3⟩ := d2
    obtain ⟨da, fa⟩ := d1.add (by omega) (q_b1 v 0)
    rw [show t1 ++ [q_b1 v 0] = (t1 ++ [q_b1 v 0]) ++ [] by simp] at he
    refine mm_w1 rfl ?_
    refine mm_niflt (by omega) ?_
    refine mm_w1 rfl ?_
    refine mm_wgr (vM_S60 hM) (by decide) (by decide) (vM_P60_10 hM) (vM_a66 hM) ?_
    refine mm_w1 rfl ?_
    refine mm_wgiv (vb_i t1.length) (vM_S60 hM) (by decide) (by decide) (by first | exact p1 | (rw [vb_up3 _ _ (by decide)]; exact p1)) ?_
    refine mm_w1 rfl ?_
    refine mm_w1 rfl ?_
    refine mm_w1 rfl ?_
    refine mm_wv (vb_i 255) rfl (by decide) ?_
    refine mm_wv (q_b1 v 0) rfl (q_sh v (by decide)) ?_ 
    refine mm_wis (vM_S66 hM) (by decide) (by omega) ?_
    refine mm_w1 rfl ?_
    refine mm_w1 rfl ?_
    refine mm_wgiv (vb_i t1.length) (vM_S60 hM) (by decide) (by decide) (by first | exact p1 | (rw [vb_up3 _ _ (by decide)]; exact p1)) ?_
    refine mm_wv (vb_i 1) rfl (by decide) ?_
    refine mm_nadd ?_
    refine mm_wpi (vM_S60 hM) (by decide) (by decide) ?_
    refine mm_wincv (-8) rfl (by decide) ?_ 
    refine mm_wgoto ?_
    rw [List.append_nil] at he
    exact sE _ (by rw [← he]; exact da) (f1.tr fa)
  have s8 : ∀ (I1 : Nat → Nat → Int32) (t1 : List Int32), vm_tpD t1 I1 → vm_tf I I1 → t1.length + 2 ≤ 700 → t1 ++ [q_b1 v 8, q_b1 v 0] = tp ++ q_bs v → mm_W G d 142 (mm_blk 142 3) [.ref 60, .int v, .int (vb_i 8)] [] (I1, P, J, S, nc, ns) (vb_R none (fun I' => vm_tpD (tp ++ q_bs v) I' ∧ vm_tf I I') P J S nc ns) := by
    intro I1 t1 d1 f1 l1 he
    have d2 := d1
    obtain ⟨p1, p2, p3⟩ := d2
    obtain ⟨da, fa⟩ := d1.add (by omega) (q_b1 v 8)
    rw [show t1 ++ [q_b1 v 8, q_b1 v 0] = (t1 ++ [q_b1 v 8]) ++ [q_b1 v 0] by simp] at he
    refine mm_w1 rfl ?_
    refine mm_niflt (by omega) ?_
    refine mm_w1 rfl ?_
    refine mm_wgr (vM_S60 hM) (by decide) (by decide) (vM_P60_10 hM) (vM_a66 hM) ?_
    refine mm_w1 rfl ?_
    refine mm_wgiv (vb_i t1.length) (vM_S60 hM) (by decide) (by decide) (by first | exact p1 | (rw [vb_up3 _ _ (by decide)]; exact p1)) ?_
    refine mm_w1 rfl ?_
    refine mm_w1 rfl ?_
    refine mm_w1 rfl ?_
    refine mm_wv (vb_i 255) rfl (by decide) ?_
    refine mm_wv (q_b1 v 8) rfl (q_sh v (by decide)) ?_ 
    refine mm_wis (vM_S66 hM) (by decide) (by omega) ?_
    refine mm_w1 rfl ?_
    refine mm_w1 rfl ?_
    refine mm_wgiv (vb_i t1.length) (vM_S60 hM) (by decide) (by decide) (by first | exact p1 | (rw [vb_up3 _ _ (by decide)]; exact p1)) ?_
    refine mm_wv (vb_i 1) rfl (by decide) ?_
    refine mm_nadd ?_
    refine mm_wpi (vM_S60 hM) (by decide) (by decide) ?_
    refine mm_ndecL (ls' := [_, _, _]) 8 rfl (by decide) (by decide) rfl ?_ 
    refine mm_wgoto ?_
    exact s0 _ _ da (f1.tr fa) (by rw [List.length_append]; simp; omega) he
  have s16 : ∀ (I1 : Nat → Nat → Int32) (t1 : List Int32), vm_tpD t1 I1 → vm_tf I I1 → t1.length + 3 ≤ 700 → t1 ++ [q_b1 v 16, q_b1 v 8, q_b1 v 0] = tp ++ q_bs v → mm_W G d 142 (mm_blk 142 3) [.ref 60, .int v, .int (vb_i 16)] [] (I1, P, J, S, nc, ns) (vb_R none (fun I' => vm_tpD (tp ++ q_bs v) I' ∧ vm_tf I I') P J S nc ns) := by
    intro I1 t1 d1 f1 l1 he
    have d2 := d1
    obtain ⟨p1, p2, p3⟩ := d2
    obtain ⟨da, fa⟩ := d1.add (by omega) (q_b1 v 16)
    rw [show t1 ++ [q_b1 v 16, q_b1 v 8, q_b1 v 0] = (t1 ++ [q_b1 v 16]) ++ [q_b1 v 8, q_b1 v 0] by simp] at he
    refine mm_w1 rfl ?_
    refine mm_niflt (by omega) ?_
    refine mm_w1 rfl ?_
    refine mm_wgr (vM_S60 hM) (by decide) (by decide) (vM_P60_10 hM) (vM_a66 hM) ?_
    refine mm_w1 rfl ?_
    refine mm_wgiv (vb_i t1.length) (vM_S60 hM) (by decide) (by decide) (by first | exact p1 | (rw [vb_up3 _ _ (by decide)]; exact p1)) ?_
    refine mm_w1 rfl ?_
    refine mm_w1 rfl ?_
    refine mm_w1 rfl ?_
    refine mm_wv (vb_i 255) rfl (by decide) ?_
    refine mm_wv (q_b1 v 16) rfl (q_sh v (by decide)) ?_ 
    refine mm_wis (vM_S66 hM) (by decide) (by omega) ?_
    refine mm_w1 rfl ?_
    refine mm_w1 rfl ?_
    refine mm_wgiv (vb_i t1.length) (vM_S60 hM) (by decide) (by decide) (by first | exact p1 | (rw [vb_up3 _ _ (by decide)]; exact p1)) ?_
    refine mm_wv (vb_i 1) rfl (by decide) ?_
    refine mm_nadd ?_
    refine mm_wpi (vM_S60 hM) (by decide) (by decide) ?_
    refine mm_ndecL (ls' := [_, _, _]) 8 rfl (by decide) (by decide) rfl ?_ 
    refine mm_wgoto ?_
    exact s8 _ _ da (f1.tr fa) (by rw [List.length_append]; simp; omega) he
  have s24 : ∀ (I1 : Nat → Nat → Int32) (t1 : List Int32), vm_tpD t1 I1 → vm_tf I I1 → t1.length + 4 ≤ 700 → t1 ++ [q_b1 v 24, q_b1 v 16, q_b1 v 8, q_b1 v 0] = tp ++ q_bs v → mm_W G d 142 (mm_blk 142 3) [.ref 60, .int v, .int (vb_i 24)] [] (I1, P, J, S, nc, ns) (vb_R none (fun I' => vm_tpD (tp ++ q_bs v) I' ∧ vm_tf I I') P J S nc ns) := by
    intro I1 t1 d1 f1 l1 he
    have d2 := d1
    obtain ⟨p1, p2, p3⟩ := d2
    obtain ⟨da, fa⟩ := d1.add (by omega) (q_b1 v 24)
    rw [show t1 ++ [q_b1 v 24, q_b1 v 16, q_b1 v 8, q_b1 v 0] = (t1 ++ [q_b1 v 24]) ++ [q_b1 v 16, q_b1 v 8, q_b1 v 0] by simp] at he
    refine mm_w1 rfl ?_
    refine mm_niflt (by omega) ?_
    refine mm_w1 rfl ?_
    refine mm_wgr (vM_S60 hM) (by decide) (by decide) (vM_P60_10 hM) (vM_a66 hM) ?_
    refine mm_w1 rfl ?_
    refine mm_wgiv (vb_i t1.length) (vM_S60 hM) (by decide) (by decide) (by first | exact p1 | (rw [vb_up3 _ _ (by decide)]; exact p1)) ?_
    refine mm_w1 rfl ?_
    refine mm_w1 rfl ?_
    refine mm_w1 rfl ?_
    refine mm_wv (vb_i 255) rfl (by decide) ?_
    refine mm_wv (q_b1 v 24) rfl (q_sh v (by decide)) ?_ 
    refine mm_wis (vM_S66 hM) (by decide) (by omega) ?_
    refine mm_w1 rfl ?_
    refine mm_w1 rfl ?_
    refine mm_wgiv (vb_i t1.length) (vM_S60 hM) (by decide) (by decide) (by first | exact p1 | (rw [vb_up3 _ _ (by decide)]; exact p1)) ?_
    refine mm_wv (vb_i 1) rfl (by decide) ?_
    refine mm_nadd ?_
    refine mm_wpi (vM_S60 hM) (by decide) (by decide) ?_
    refine mm_ndecL (ls' := [_, _, _]) 8 rfl (by decide) (by decide) rfl ?_ 
    refine mm_wgoto ?_
    exact s16 _ _ da (f1.tr fa) (by rw [List.length_append]; simp; omega) he
  show mm_W _ _ 142 (mm_blk 142 0) [.ref 60, .int v, .null] [] _ _
  refine mm_wv (vb_i 24) rfl (by decide) ?_
  refine mm_w1 (ls' := [_, _, _]) rfl ?_
  exact s24 I tp dP ⟨fun _ _ _ => rfl, fun _ _ => rfl⟩ hl rfl
theorem n_feed (hM : vm_isM P S) (dN : vm_MD σ I) (hI : vs_inv σ) (hlb : vl_bel (vs_l σ)) (hd : 20 ≤ d) (a b c e f : Int32) : mm_C G d 141 [.ref 60, .int a, .int b, .int c, .int e, .int f] (I, P, J, S, nc, ns) (vm_RV (sp_feed σ a b c e f) (fun I' => vm_MD (st_feed σ a b c e f) I') P J S nc ns) := by
  obtain ⟨hli, hIx, hIa, hIi⟩ := hI
  obtain ⟨hok, hwf, he9⟩ := hIx
  have hsj := hwf.sj
  have hfj := hwf.fj
  have hst := hwf.ws
  have dM := vmd_l dN
  have hR := vmd_x dN
  have hn := vm_10 dM
  have ht := vx_t2 (vs_x σ)
  have hs3 := vm_sc3 dM
  rw [sp_feed, st_feed]
  have h7 := vmd_p7 dN
  show mm_W _ _ 141 (mm_blk 141 0) [.ref 60, .int a, .int b, .int c, .int e, .int f] [] _ _
  refine mm_w1 rfl ?_
  refine mm_wv (vb_i 0) rfl (by decide) ?_
  refine mm_wpiN (vM_S60 hM) (by decide) (by decide) ?_
  intro I1 hI1
  have hq1 : vm_qf I I1 := by rw [hI1]; exact vm_qf.thr _
  have dN1 := dN.qf hq1
  have dM1 := vmd_l dN1
  have hR1 := vmd_x dN1
  have thr1 : I1 60 0 = vb_i 0 := by rw [hI1, vb_up1]
  refine mm_w1 rfl ?_
  refine mm_wgiv _ (vM_S60 hM) (by decide) (by decide) (vmd_pn dN1) ?_
  refine mm_wv (vb_i 20) rfl (by decide) ?_
  refine mm_nadd ?_
  refine mm_wv (vb_i 700) rfl (by decide) ?_
  refine mm_nicle (by omega) (by omega) ?_ ?_
  · intro h15
    refine mm_w1 rfl ?_
    refine mm_w1 rfl ?_
    have dP1 : vm_tpD (vs_p σ) I1 := ⟨vmd_pn dN1, h7, vmd_p dN1⟩
    refine mm_cvn (vb_cv (vM_S60 hM) rfl rfl rfl rfl) (by decide) (by omega) (m_lays (tp := vs_p σ) (v := a) hM dP1 (by simp [q_bs]; omega)) ?_
    intro I2 hq02
    obtain ⟨dP2, g2⟩ := hq02 
    refine mm_w1 rfl ?_
    refine mm_w1 rfl ?_
    refine mm_cvn (vb_cv (vM_S60 hM) rfl rfl rfl rfl) (by decide) (by omega) (m_lays (tp := vs_p σ ++ q_bs a) (v := b) hM dP2 (by simp [q_bs]; omega)) ?_
    intro I3 hq03
    obtain ⟨dP3, g3⟩ := hq03 
    refine mm_w1 rfl ?_
    refine mm_w1 rfl ?_
    refine mm_cvn (vb_cv (vM_S60 hM) rfl rfl rfl rfl) (by decide) (by omega) (m_lays (tp := vs_p σ ++ q_bs a ++ q_bs b) (v := c) hM dP3 (by simp [q_bs]; omega)) ?_
    intro I4 hq04
    obtain ⟨dP4, g4⟩ := hq04 
    refine mm_w1 rfl ?_
    refine mm_w1 rfl ?_
    refine mm_cvn (vb_cv (vM_S60 hM) rfl rfl rfl rfl) (by decide) (by omega) (m_lays (tp := vs_p σ ++ q_bs a ++ q_bs b ++ q_bs c) (v := e) hM dP4 (by simp [q_bs]; omega)) ?_
    intro I5 hq05
    obtain ⟨dP5, g5⟩ := hq05 
    refine mm_w1 rfl ?_
    refine mm_w1 rfl ?_
    refine mm_cvn (vb_cv (vM_S60 hM) rfl rfl rfl rfl) (by decide) (by omega) (m_lays (tp := vs_p σ ++ q_bs a ++ q_bs b ++ q_bs c ++ q_bs e) (v := f) hM dP5 (by simp [q_bs]; omega)) ?_
    intro I6 hq06
    obtain ⟨dP6, g6⟩ := hq06 
    refine mm_w1 rfl ?_
    refine mm_wgiv (vb_i ((vs_p σ).length + 20)) (vM_S60 hM) (by decide) (by decide) (by rw [dP6.1]; simp [q_bs]) ?_
    refine mm_wr rfl rfl rfl ?_
    rw [if_pos (by omega), if_pos (by omega)]
    have g := (((g2.tr g3).tr g4).tr g5).tr g6
    exact ⟨_, _, rfl, vm_tf.MD dN1 g dP6, rfl, by rw [g.2 0 (by decide)]; exact thr1⟩
  · intro h15
    refine mm_wv (-1) rfl (by decide) ?_
    refine mm_wr rfl rfl rfl ?_
    rw [if_neg (by omega), if_neg (by omega)]
    exact ⟨_, _, rfl, dN1, rfl, thr1⟩
end NFEED
