section NBE
variable {G : mm_G} {d : Nat} {I : Nat → Nat → Int32} {P : Nat → Nat → Nat} {J : Nat → Nat → Int64} {S : List (Nat × Nat)} {nc ns : Nat} {μ : mm_M} {σ : vb_St}
def nm_RB (o : Int32 ⊕ Nat) (σ' : vb_St) (P : Nat → Nat → Nat) (S : List (Nat × Nat)) (nc ns : Nat) : mm_R → Prop := fun r => ∃ v I' J', r = (.inl (some (.int v)), (I', P, J', S, nc, ns)) ∧ vm_MD σ' I' ∧ (match o with
  | .inl w => v = w ∧ I' 60 0 = vb_i 0
  | .inr _ => I' 60 0 = vb_i 1)
def pb_f (I I' : Nat → Nat → Int32) : Prop := (∀ a, a ≠ 60 → ¬ (68 ≤ a ∧ a ≤ 75) → I' a = I a) ∧ ∀ q, (1 ≤ q ∧ q ≤ 10) ∨ q = 14 ∨ 30 ≤ q → I' 60 q = I 60 q
theorem pb_f.rf {I : Nat → Nat → Int32} : pb_f I I := ⟨fun _ _ _ => rfl, fun _ _ => rfl⟩
theorem pb_f.pn {I I' I'' : Nat → Nat → Int32} (h : pb_f I I') (k : pn_f I' I'') : pb_f I I'' := ⟨fun a h1 h2 => (k.1 a h1 h2).trans (h.1 a h1 h2), fun q hq => (k.2.1 q (by omega)).trans (h.2 q hq)⟩
theorem pb_f.u {I I' : Nat → Nat → Int32} {q : Nat} {v : Int32} (h : pb_f I I') (h1 : q = 0 ∨ (11 ≤ q ∧ q ≤ 29 ∧ q ≠ 14)) : pb_f I (mm_up I' 60 q v) := ⟨fun a k1 k2 => by rw [vb_up3 _ _ k1]; exact h.1 a k1 k2, fun j hj => by rw [vb_up2 _ _ (by omega)]; exact h.2 j hj⟩
theorem nb_bad {I I' I'' : Nat → Nat → Int32} {why pl : Nat} (dN : vm_MD σ I) (h : pb_f I I') (h11 : I' 60 11 = vb_i 0) (h13 : I' 60 13 = vb_i pl) (e : I'' = mm_up I' 67 0 (vs_r σ 0 + vb_i 1)) : vm_MD (st_bd σ (.inl (why, pl))) I'' := by
  obtain ⟨g1, g2, g3, g4, g5, g6, g7, g8, g9, g10, g11, g12, g13⟩ := dN
  have a0 : ∀ a, a ≠ 60 → a ≠ 67 → ¬ (68 ≤ a ∧ a ≤ 75) → I'' a = I a := fun a k1 k2 k3 => by rw [e, vb_up3 _ _ k2]; exact h.1 a k1 k3
  have a6 : ∀ q, (1 ≤ q ∧ q ≤ 10) ∨ q = 14 ∨ 30 ≤ q → I'' 60 q = I 60 q := fun q hq => by rw [e, vb_up3 _ _ (by decide)]; exact h.2 q hq
  refine ⟨g1.k2 (fun s h1 h2 => a6 s (by omega)) (fun a h1 h2 => a0 a (by omega) (by omega) (by omega)), ?_, ?_, ?_, ?_, ?_, ?_, ?_, ?_, Nat.zero_le _, (fun i b h => by cases h), ?_, fun j hj => ?_⟩
  · rw [a0 76 (by decide) (by decide) (by decide)]; exact g2
  · rw [a6 40 (by decide)]; exact g3
  · rw [a0 77 (by decide) (by decide) (by decide)]; exact g4
  · rw [a6 45 (by decide)]; exact g5
  · rw [a0 81 (by decide) (by decide) (by decide)]; exact g6
  · rw [a6 49 (by decide)]; exact g7
  · intro z hz
    rw [a6 50 (by decide), a6 51 (by decide), a0 83 (by decide) (by decide) (by decide), a0 84 (by decide) (by decide) (by decide), a0 85 (by decide) (by decide) (by decide)]
    exact g8 z hz
  · rw [e, vb_up3 _ _ (by decide)]; exact h11
  · rw [e, vb_up3 _ _ (by decide)]; exact h13
  · show _ = if j = 0 then vs_r σ j + vb_i 1 else vs_r σ j
    rw [e]
    by_cases e0 : j = 0
    · subst e0; rw [vb_up1, if_pos rfl]
    · rw [vb_up2 _ _ (by omega), if_neg e0, h.1 67 (by decide) (by decide)]; exact g13 j hj
theorem nb_good {I I' I'' : Nat → Nat → Int32} {p : pl_S} {top : Nat} (hp : pl_ok p) (ht : top ≤ 2000) (dN : vm_MD σ I) (h : pb_f I I') (dP : pn_C p top I') (h11 : I' 60 11 = vb_i 0) (h13 : I' 60 13 = -1)
    (e1 : I'' 60 1 = vb_i (pl_n p)) (e2 : I'' 60 2 = vb_i (pl_rc p)) (e3 : I'' 60 3 = vb_i (pl_sc p)) (e4 : I'' 60 4 = I' 60 26) (e61 : ∀ j, j < 10 → I'' 61 j = I' 68 j) (e62 : ∀ j, j < 10 → I'' 62 j = I' 69 j) (e63 : ∀ j, j < 3 → I'' 63 j = I' 71 j) (e64 : ∀ j, j < 2800 → I'' 64 j = I' 72 j) (e65 : ∀ j, j < 100 → I'' 65 j = I' 74 j)
    (e76 : ∀ v, v < 10 → I'' 76 v = if v < pl_n p then I' 70 v else vb_i 2) (f76 : ∀ v, v < 10 → I'' 76 (10 + v) = if v < pl_n p then I' 70 v else vb_i 2) (b76 : ∀ j, 20 ≤ j → j < 44 → I'' 76 j = vb_i 0) (y76 : ∀ j, j < 2 → I'' 76 (44 + j) = q_y0 (pl_sc p) j) (e40 : I'' 60 40 = vb_i 0) (e45 : I'' 60 45 = vb_i 0) (e49 : I'' 60 49 = vb_i 0) (k11 : I'' 60 11 = I' 60 11) (k13 : I'' 60 13 = I' 60 13) (k67 : I'' 67 = I' 67) : vm_MD (st_bd σ (.inr p)) I'' := by
  obtain ⟨g1, g2, g3, g4, g5, g6, g7, g8, g9, g10, g11⟩ := dP
  have hn := hp.1
  have hru : ∀ a c, pn_R (I' 72) a top c → px_ht c 0 1 → a < 2800 ∧ vm_RD (I'' 64) a (px_f c) := fun a c hR hh => by
    obtain ⟨r1, r2, r3⟩ := hR
    exact ⟨by omega, px_vRD hh (fun j hj => by rw [e64 _ (by omega)]; exact r2 j hj) (by rw [e64 _ (by omega)]; exact r3) (by omega)⟩
  refine ⟨⟨e1, hn, e2, e3, hp.2.2.1, fun v hv => ?_, fun v hv => ?_, fun a c ha hc => ?_, fun hh => ?_, fun hh => ?_, fun r hr => ?_⟩, ⟨fun v hv => ?_, fun v hv => ?_, fun j hj => ?_, fun j hj => ?_, ?_, ?_, fun j hj => ?_, ?_, ?_⟩, e40, ⟨Nat.zero_le _, (fun i y h => by cases h)⟩, e45, ⟨Nat.zero_le _, (fun i y h => by cases h)⟩, e49, (fun z h => by cases h), k11.trans h11, Nat.zero_le _, (fun i b h => by cases h), k13.trans h13, fun j hj => ?_⟩
  · have hv : v < pl_n p := hv
    rw [e61 v (by omega)]; exact g5 v hv
  · have hv : v < pl_n p := hv
    rw [e62 v (by omega)]; exact g6 v hv
  · have ha : a < pl_n p := ha
    have hc : c < pl_n p := hc
    rw [e65 _ (by omega)]; exact g8 a c (by omega) (by omega)
  · rw [e4]; exact g9 hh
  · obtain ⟨a, k1, k2⟩ := g10 hh
    have := hru a _ k2 (hp.2.2.2.2.2.2.2.2.2.2.1 hh)
    exact ⟨a, this.1, e4.trans k1, this.2⟩
  · have hr : r < pl_sc p := hr
    obtain ⟨a, k1, k2⟩ := g11 r hr
    have := hru a _ k2 (hp.2.2.2.2.2.2.2.2.2.2.2 r hr)
    exact ⟨a, this.1, (e63 r (by have := hp.2.2.1; omega)).trans k1, this.2⟩
  · have hv : v < pl_n p := hv
    rw [Nat.zero_add, e76 v (by omega), if_pos hv]; exact g7 v hv
  · have hv : v < pl_n p := hv
    rw [Nat.zero_add, f76 v (by omega), if_pos hv]; exact g7 v hv
  · rw [Nat.zero_add, b76 _ (by omega) (by omega)]; rfl
  · rw [Nat.zero_add, b76 _ (by omega) (by omega)]; rfl
  · rw [Nat.zero_add, b76 _ (by omega) (by omega)]; rfl
  · rw [Nat.zero_add, b76 _ (by omega) (by omega)]; rfl
  · rw [Nat.zero_add, y76 j hj]; rfl
  · show 0 % 2 < 2
    decide
  · show (0 : Nat) ≤ 2000
    decide
  · rw [k67, h.1 67 (by decide) (by decide)]; exact vmd_r dN hj
theorem n_boardL {m : Nat} {r : (Nat × Nat) ⊕ pl_S} (hM : vm_isM P S) (dN : vm_MD σ I) (hb : tx_ok (q_b (vs_p σ) m) m) (hd : 16 ≤ d) {v1 : Int32} : ∀ g (s : Nat) (p : pl_S) (I1 : Nat → Nat → Int32) (J1 : Nat → Nat → Int64) (v2 : Int32), rd (q_b (vs_p σ) m) 8000 g p s = some r → pn_S (q_b (vs_p σ) m) m s p I1 J1 → pb_f I I1 → I1 60 0 = vb_i 0 → I1 60 11 = vb_i 0 → I1 60 13 = -1 → mm_W G d 170 (mm_blk 170 107) [.ref 60, .int v1, .int v2] [] (I1, P, J1, S, nc, ns) (nm_RB (.inl (rr_z r)) (st_bd σ r) P S nc ns) := by
  have hn7 := hb.1
  generalize q_b (vs_p σ) m = b at hb ⊢
  have kB : ∀ (x : Nat × Nat) (I1 : Nat → Nat → Int32) (J1 : Nat → Nat → Int64) (v2 : Int32), r = .inl x → pn_B x I1 → pb_f I I1 → I1 60 0 = vb_i 0 → I1 60 11 = vb_i 0 → mm_W G d 170 (mm_blk 170 107) [.ref 60, .int v1, .int v2] [] (I1, P, J1, S, nc, ns) (nm_RB (.inl (rr_z r)) (st_bd σ r) P S nc ns) := by
    intro x I1 J1 v2 hr hB hf1 h0 h11
    subst hr
    refine mm_w1 rfl ?_
    refine mm_cvp (vb_cv (vM_S60 hM) rfl rfl rfl rfl) (by decide) (by omega) (m_good1 hM hB.1 hB.2.2.1 hB.2.2.2) ?_
    refine mm_nifeq (by decide) (fun _ => ?_) (fun h => absurd h (by decide))
    refine mm_w1 rfl ?_
    refine mm_cvp (vb_cv (vM_S60 hM) rfl rfl rfl rfl) (by decide) (by omega) (m_good1 hM hB.1 hB.2.2.1 hB.2.2.2) ?_
    refine mm_nifne (by decide) (fun h => absurd h (by decide)) (fun _ => ?_)
    refine mm_w1 rfl ?_
    refine mm_wgr (vM_S60 hM) (by decide) (by decide) (vM_P60_14 hM) (vM_a67 hM) ?_
    refine mm_wv (vb_i 0) rfl (by decide) ?_
    refine mm_w1 rfl ?_
    refine mm_wiav (vs_r σ 0) (vM_a67 hM) (vM_S67 hM) (by decide) (by omega) (by rw [hf1.1 67 (by decide) (by decide)]; exact vmd_r dN (by decide)) ?_
    refine mm_wv (vb_i 1) rfl (by decide) ?_
    refine mm_w1 rfl ?_
    refine mm_wisN (vM_S67 hM) (by decide) (by omega) ?_
    intro I2 hI2
    have _u := hI2
    refine mm_w1 rfl ?_
    refine mm_wgiv (vb_i x.1) (vM_S60 hM) (by decide) (by decide) (by rw [hI2, vb_up3 _ _ (by decide)]; exact hB.1) ?_
    refine mm_wr rfl rfl rfl ?_
    refine ⟨_, _, _, rfl, nb_bad (why := x.1) (pl := x.2) dN hf1 h11 hB.2.1 hI2, ?_, ?_⟩
    · rfl
    · rw [hI2, vb_up3 _ _ (by decide)]; exact h0
  intro g
  induction g with
  | zero => intro s p I1 J1 v2 h; cases h
  | succ g ih =>
    intro s p I1 J1 v2 h hS1 hf1 h0 h11 h131
    have hS1' := hS1
    obtain ⟨dD1, hk1, h121, hs, hp, top, dP1, htop⟩ := hS1'
    have h171 := hk1.2.2.2.1
    have hso := nt_so4 (b := b) (s := s)
    rw [rd] at h
    by_cases hK0 : tx_K b s = 0
    · rw [if_pos hK0] at h
      cases h
      rw [nt_soK0.mpr hK0] at h171
      have h231 := dP1.1
      have h241 := dP1.2.1
      have h251 := dP1.2.2.1
      refine mm_w1 rfl ?_
      refine mm_cvp (vb_cv (vM_S60 hM) rfl rfl rfl rfl) (by decide) (by omega) (m_good0 hM h121) ?_
      refine mm_nifeq (by decide) (fun h => absurd h (by decide)) (fun _ => ?_)
      refine mm_w1 rfl ?_
      refine mm_wgiv _ (vM_S60 hM) (by decide) (by decide) h171 ?_
      refine mm_nifeq (by decide) (fun _ => ?_) (fun h => absurd h (by decide))
      refine mm_w1 rfl ?_
      refine mm_cvp (vb_cv (vM_S60 hM) rfl rfl rfl rfl) (by decide) (by omega) (m_good0 hM h121) ?_
      refine mm_nifne (by decide) (fun _ => ?_) (fun h => absurd h (by decide))
      refine mm_w1 rfl ?_
      refine mm_w1 rfl ?_
      refine mm_wgiv _ (vM_S60 hM) (by decide) (by decide) h231 ?_
      refine mm_wpiN (vM_S60 hM) (by decide) (by decide) ?_
      intro I2 hI2
      have k2 : ∀ a, a ≠ 60 → I2 a = I1 a := fun a ha => by rw [hI2, vb_up3 _ _ ha]
      have u2 : ∀ q, q ≠ 1 → I2 60 q = I1 60 q := fun q hq => by rw [hI2, vb_up2 _ _ (by omega)]
      refine mm_w1 rfl ?_
      refine mm_w1 rfl ?_
      refine mm_wgiv _ (vM_S60 hM) (by decide) (by decide) ((u2 24 (by decide)).trans h241) ?_
      refine mm_wpiN (vM_S60 hM) (by decide) (by decide) ?_
      intro I3 hI3
      have k3 : ∀ a, a ≠ 60 → I3 a = I1 a := fun a ha => by rw [hI3, vb_up3 _ _ ha]; exact k2 a ha
      have u3 : ∀ q, q ≠ 1 ∧ q ≠ 2 → I3 60 q = I1 60 q := fun q hq => by rw [hI3, vb_up2 _ _ (by omega)]; exact u2 q (by omega)
      refine mm_w1 rfl ?_
      refine mm_w1 rfl ?_
      refine mm_wgiv _ (vM_S60 hM) (by decide) (by decide) ((u3 25 (by decide)).trans h251) ?_
      refine mm_wpiN (vM_S60 hM) (by decide) (by decide) ?_
      intro I4 hI4
      have k4 : ∀ a, a ≠ 60 → I4 a = I1 a := fun a ha => by rw [hI4, vb_up3 _ _ ha]; exact k3 a ha
      have u4 : ∀ q, q ≠ 1 ∧ q ≠ 2 ∧ q ≠ 3 → I4 60 q = I1 60 q := fun q hq => by rw [hI4, vb_up2 _ _ (by omega)]; exact u3 q (by omega)
      refine mm_w1 rfl ?_
      refine mm_w1 rfl ?_
      refine mm_wgiv (I1 60 26) (vM_S60 hM) (by decide) (by decide) (u4 26 (by decide)) ?_
      refine mm_wpiN (vM_S60 hM) (by decide) (by decide) ?_
      intro I5 hI5
      have k5 : ∀ a, a ≠ 60 → I5 a = I1 a := fun a ha => by rw [hI5, vb_up3 _ _ ha]; exact k4 a ha
      have u5 : ∀ q, q ≠ 1 ∧ q ≠ 2 ∧ q ≠ 3 ∧ q ≠ 4 → I5 60 q = I1 60 q := fun q hq => by rw [hI5, vb_up2 _ _ (by omega)]; exact u4 q (by omega)
      refine mm_w1 rfl ?_
      refine mm_w1 rfl ?_
      refine mm_wgr (vM_S60 hM) (by decide) (by decide) (vM_P60_30 hM) (vM_a68 hM) ?_
      refine mm_w1 rfl ?_
      refine mm_wgr (vM_S60 hM) (by decide) (by decide) (vM_P60_5 hM) (vM_a61 hM) ?_
      refine mm_cvn (vb_cv (vM_S60 hM) rfl rfl rfl rfl) (by decide) (by omega) (m_cn68 hM) ?_
      intro I6 hq6
      obtain ⟨c6, hfr6⟩ := hq6
      have fr6 : ∀ a, a ≠ 61 → I6 a = I5 a := fun a ha => hfr6 a ha
      refine mm_w1 rfl ?_
      refine mm_w1 rfl ?_
      refine mm_wgr (vM_S60 hM) (by decide) (by decide) (vM_P60_31 hM) (vM_a69 hM) ?_
      refine mm_w1 rfl ?_
      refine mm_wgr (vM_S60 hM) (by decide) (by decide) (vM_P60_6 hM) (vM_a62 hM) ?_
      refine mm_cvn (vb_cv (vM_S60 hM) rfl rfl rfl rfl) (by decide) (by omega) (m_cn69 hM) ?_
      intro I7 hq7
      obtain ⟨c7, hfr7⟩ := hq7
      have fr7 : ∀ a, a ≠ 62 → I7 a = I6 a := fun a ha => hfr7 a ha
      refine mm_w1 rfl ?_
      refine mm_w1 rfl ?_
      refine mm_wgr (vM_S60 hM) (by decide) (by decide) (vM_P60_33 hM) (vM_a71 hM) ?_
      refine mm_w1 rfl ?_
      refine mm_wgr (vM_S60 hM) (by decide) (by decide) (vM_P60_7 hM) (vM_a63 hM) ?_
      refine mm_cvn (vb_cv (vM_S60 hM) rfl rfl rfl rfl) (by decide) (by omega) (m_cn71 hM) ?_
      intro I8 hq8
      obtain ⟨c8, hfr8⟩ := hq8
      have fr8 : ∀ a, a ≠ 63 → I8 a = I7 a := fun a ha => hfr8 a ha
      refine mm_w1 rfl ?_
      refine mm_w1 rfl ?_
      refine mm_wgr (vM_S60 hM) (by decide) (by decide) (vM_P60_34 hM) (vM_a72 hM) ?_
      refine mm_w1 rfl ?_
      refine mm_wgr (vM_S60 hM) (by decide) (by decide) (vM_P60_8 hM) (vM_a64 hM) ?_
      refine mm_cvn (vb_cv (vM_S60 hM) rfl rfl rfl rfl) (by decide) (by omega) (m_cn72 hM) ?_
      intro I9 hq9
      obtain ⟨c9, hfr9⟩ := hq9
      have fr9 : ∀ a, a ≠ 64 → I9 a = I8 a := fun a ha => hfr9 a ha
      refine mm_wv (vb_i 0) rfl (by decide) ?_
      refine mm_w1 (ls' := [_, _, _]) rfl ?_
      have w1 : I9 60 1 = vb_i (pl_n p) := by rw [fr9 60 (by decide), fr8 60 (by decide), fr7 60 (by decide), fr6 60 (by decide), hI5, vb_up2 _ _ (by decide), hI4, vb_up2 _ _ (by decide), hI3, vb_up2 _ _ (by decide), hI2, vb_up1]
      have w2 : I9 60 2 = vb_i (pl_rc p) := by rw [fr9 60 (by decide), fr8 60 (by decide), fr7 60 (by decide), fr6 60 (by decide), hI5, vb_up2 _ _ (by decide), hI4, vb_up2 _ _ (by decide), hI3, vb_up1]
      have w3 : I9 60 3 = vb_i (pl_sc p) := by rw [fr9 60 (by decide), fr8 60 (by decide), fr7 60 (by decide), fr6 60 (by decide), hI5, vb_up2 _ _ (by decide), hI4, vb_up1]
      have w4 : I9 60 4 = I1 60 26 := by rw [fr9 60 (by decide), fr8 60 (by decide), fr7 60 (by decide), fr6 60 (by decide), hI5, vb_up1]
      have wa : ∀ a, a ≠ 60 → ¬ (61 ≤ a ∧ a ≤ 64) → I9 a = I1 a := fun a h1 h2 => by rw [fr9 a (by omega), fr8 a (by omega), fr7 a (by omega), fr6 a (by omega)]; exact k5 a h1
      have wq : ∀ q, q ≠ 1 ∧ q ≠ 2 ∧ q ≠ 3 ∧ q ≠ 4 → I9 60 q = I1 60 q := fun q hq => by rw [fr9 60 (by decide), fr8 60 (by decide), fr7 60 (by decide), fr6 60 (by decide)]; exact u5 q hq
      have w61 : ∀ j, j < 10 → I9 61 j = I1 68 j := fun j hj => by rw [fr9 61 (by decide), fr8 61 (by decide), fr7 61 (by decide), c6 j hj, k5 68 (by decide)]
      have w62 : ∀ j, j < 10 → I9 62 j = I1 69 j := fun j hj => by rw [fr9 62 (by decide), fr8 62 (by decide), c7 j hj, fr6 69 (by decide), k5 69 (by decide)]
      have w63 : ∀ j, j < 3 → I9 63 j = I1 71 j := fun j hj => by rw [fr9 63 (by decide), c8 j hj, fr7 71 (by decide), fr6 71 (by decide), k5 71 (by decide)]
      have w64 : ∀ j, j < 2800 → I9 64 j = I1 72 j := fun j hj => by rw [c9 j hj, fr8 72 (by decide), fr7 72 (by decide), fr6 72 (by decide), k5 72 (by decide)]
      have w74 : ∀ j, j < 100 → ∃ z, I9 74 j = vb_b z := fun j hj => ⟨_, by rw [wa 74 (by decide) (by decide)]; have := dP1.2.2.2.2.2.2.2.1 (j / 10) (j % 10) (by omega) (by omega); rw [show 10 * (j / 10) + j % 10 = j by omega] at this; exact this⟩
      refine (m_bd2 (m := pl_n p) (sc := pl_sc p) hM w1 hp.1 w3 hp.2.2.1 w74).imp (fun r hr => ?_)
      obtain ⟨I', ⟨z1, z2, z3, z4, z5, z6, z7, z8, z9, z10⟩, hr⟩ := hr
      refine ⟨_, I', _, hr, nb_good (I' := I1) (top := top) hp (by omega) dN hf1 dP1 h11 h131 ?_ ?_ ?_ ?_ (fun j hj => ?_) (fun j hj => ?_) (fun j hj => ?_) (fun j hj => ?_) (fun j hj => ?_) (fun v hv => ?_) (fun v hv => ?_) z4 z5 z6 z7 z8 ?_ ?_ ?_, rfl, ?_⟩
      · rw [z10 1 (by decide) (by decide) (by decide)]; exact w1
      · rw [z10 2 (by decide) (by decide) (by decide)]; exact w2
      · rw [z10 3 (by decide) (by decide) (by decide)]; exact w3
      · rw [z10 4 (by decide) (by decide) (by decide)]; exact w4
      · rw [z9 61 (by decide) (by decide) (by decide)]; exact w61 j hj
      · rw [z9 62 (by decide) (by decide) (by decide)]; exact w62 j hj
      · rw [z9 63 (by decide) (by decide) (by decide)]; exact w63 j hj
      · rw [z9 64 (by decide) (by decide) (by decide)]; exact w64 j hj
      · rw [z1 j hj, wa 74 (by decide) (by decide)]
      · rw [z2 v hv, wa 70 (by decide) (by decide)]
      · rw [z3 v hv, wa 70 (by decide) (by decide)]
      · rw [z10 11 (by decide) (by decide) (by decide), wq 11 (by decide)]
      · rw [z10 13 (by decide) (by decide) (by decide), wq 13 (by decide)]
      · rw [z9 67 (by decide) (by decide) (by decide), wa 67 (by decide) (by decide)]
      · rw [z10 0 (by decide) (by decide) (by decide), wq 0 (by decide)]; exact h0
    · rw [if_neg hK0] at h
      have hsn := tx_lt hb hs hK0
      have hne : ¬ nt_so (tx_kd (b s)) = 0 := fun e => hK0 (nt_soK0.mp e)
      obtain ⟨q, hq⟩ : ∃ q, ln b 8000 p s = some q := by
        cases e : ln b 8000 p s with
        | none => rw [e] at h; cases h
        | some q => exact ⟨q, rfl⟩
      rw [hq] at h
      refine mm_w1 rfl ?_
      refine mm_cvp (vb_cv (vM_S60 hM) rfl rfl rfl rfl) (by decide) (by omega) (m_good0 hM h121) ?_
      refine mm_nifeq (by decide) (fun h => absurd h (by decide)) (fun _ => ?_)
      refine mm_w1 rfl ?_
      refine mm_wgiv _ (vM_S60 hM) (by decide) (by decide) h171 ?_
      refine mm_nifeq (by omega) ?_ ?_
      · intro h118
        exact absurd h118 hne
      · intro h118
        refine mm_w1 rfl ?_
        refine mm_cvnJ (vb_cv (vM_S60 hM) rfl rfl rfl rfl) (by decide) (by omega) (m_line hM hb hS1 hsn hq (by omega)) ?_
        intro I2 J2 hq2
        obtain ⟨hQ, hy⟩ := hq2
        have hf2 := hf1.pn hy
        have h02 : I2 60 0 = vb_i 0 := (hy.2.1 0 (by decide)).trans h0
        have h112 : I2 60 11 = vb_i 0 := (hy.2.1 11 (by decide)).trans h11
        refine mm_wgoto ?_
        cases q with
        | inl x =>
          cases h
          exact kB x _ _ _ rfl hQ hf2 h02 h112
        | inr y =>
          obtain ⟨s1, p1⟩ := y
          have hQ : pn_S b m s1 p1 I2 J2 := hQ
          exact ih s1 p1 _ _ _ h hQ hf2 h02 h112 ((hy.2.2 hQ.2.2.1).1.trans h131)
theorem n_board (hM : vm_isM P S) (dN : vm_MD σ I) (htb : vs_tb σ) (hd : 18 ≤ d) (v : Int32) : mm_C G d 170 [.ref 60, .int v] (I, P, J, S, nc, ns) (nm_RB (sp_board σ v) (st_board σ v) P S nc ns) := by
  have hp7 := vmd_p7 dN
  have h11 := vmd_pn dN
  cases hv : vb_idx ((vs_p σ).length + 1) v with
  | none =>
    rw [show sp_board σ v = .inr 1 by simp only [sp_board, hv], show st_board σ v = σ by simp only [st_board, hv]]
    show mm_W _ _ 170 (mm_blk 170 0) [.ref 60, .int v, .null] [] _ _
    refine mm_w1 rfl ?_
    refine mm_wv (vb_i 0) rfl (by decide) ?_
    refine mm_wpiN (vM_S60 hM) (by decide) (by decide) ?_
    intro I1 hI1
    have t1 : I1 60 11 = vb_i (vs_p σ).length := by rw [hI1, vb_up2 _ _ (by decide)]; exact h11
    have t0 : I1 60 0 = vb_i 0 := by rw [hI1, vb_up1]
    refine mm_w1 rfl ?_
    refine mm_w1 rfl ?_
    refine mm_wiflt ?_ ?_
    · intro h7
      refine mm_wv (vb_i 0) rfl (by decide) ?_
      refine mm_wv (vb_i 1) rfl (by decide) ?_
      refine mm_cvi (vb_cv (vM_S60 hM) rfl rfl rfl rfl) (by decide) (by omega) (m_right_f (w := 1) hM t0 (by decide) (by decide)) ?_
      intro I2 hI2
      refine mm_nifne (by decide) (fun h => absurd h (by decide)) (fun _ => ?_)
      refine mm_wv (vb_i 0) rfl (by decide) ?_
      refine mm_wr rfl rfl rfl ?_
      have hq : vm_qf I I2 := by rw [hI2, hI1]; exact (vm_qf.thr (I := I) _).tr (vm_qf.thr _)
      exact ⟨_, _, _, rfl, dN.qf hq, by rw [hI2, vb_up1]⟩
    · intro h7
      refine mm_w1 rfl ?_
      refine mm_w1 rfl ?_
      refine mm_wgiv _ (vM_S60 hM) (by decide) (by decide) t1 ?_
      refine mm_wicgt ?_ ?_
      · intro h15
        refine mm_wv (vb_i 0) rfl (by decide) ?_
        refine mm_wv (vb_i 1) rfl (by decide) ?_
        refine mm_cvi (vb_cv (vM_S60 hM) rfl rfl rfl rfl) (by decide) (by omega) (m_right_f (w := 1) hM t0 (by decide) (by decide)) ?_
        intro I2 hI2
        refine mm_nifne (by decide) (fun h => absurd h (by decide)) (fun _ => ?_)
        refine mm_wv (vb_i 0) rfl (by decide) ?_
        refine mm_wr rfl rfl rfl ?_
        have hq : vm_qf I I2 := by rw [hI2, hI1]; exact (vm_qf.thr (I := I) _).tr (vm_qf.thr _)
        exact ⟨_, _, _, rfl, dN.qf hq, by rw [hI2, vb_up1]⟩
      · intro h15
        rcases vb_idx_none hv with h | ⟨_, h⟩
        · exact absurd h h7
        · exact absurd (vb_lt_le (by omega) h15) h
  | some m =>
    obtain ⟨lm, rfl⟩ := vb_idx_some (by omega) hv
    have hb := q_b_ok (t := vs_p σ) (n := m) (by omega) hp7 htb
    obtain ⟨r, hr⟩ := q_rd_tot hb
    rw [show sp_board σ (vb_i m) = .inl (rr_z r) by simp only [sp_board, hv, hr], show st_board σ (vb_i m) = st_bd σ r by simp only [st_board, hv, hr]]
    have hT : ∀ i, i < m → I 66 i = q_b (vs_p σ) m i := fun i hi => by
      rw [q_b, if_pos hi, List.getD_eq_getElem?_getD, List.getElem?_eq_getElem (by omega)]
      exact vmd_p dN i _ (List.getElem?_eq_getElem (by omega))
    have k84 : ∀ i, i ≤ 100 → ∀ (I1 : Nat → Nat → Int32), pb_f I I1 → I1 60 0 = vb_i 0 → I1 60 11 = vb_i 0 → I1 60 12 = vb_i 0 → I1 60 13 = -1 → I1 60 15 = vb_i m → I1 60 16 = vb_i 0 → I1 60 23 = vb_i 0 → I1 60 24 = vb_i 0 → I1 60 25 = vb_i 0 → I1 60 26 = -1 → I1 60 27 = vb_i 0 → (∀ j, j < i → I1 74 j = vb_i 0) → mm_W G d 170 (mm_blk 170 84) [.ref 60, .int (vb_i m), .int (vb_i i)] [] (I1, P, J, S, nc, ns) (nm_RB (.inl (rr_z r)) (st_bd σ r) P S nc ns) := by
      refine vb_down 100 ?_
      intro i hi ih I1 hf1 q0 q11 q12 q13 q15 q16 q23 q24 q25 q26 q27 h74
      refine mm_w1 rfl ?_
      refine mm_wv (vb_i 100) rfl (by decide) ?_
      refine mm_nicge (by omega) (by omega) ?_ ?_
      · intro h87
        have dD1 : nt_D (q_b (vs_p σ) m) m I1 := ⟨fun j hj => by rw [hf1.1 66 (by decide) (by decide)]; exact hT j hj, q15, by omega⟩
        refine mm_w1 rfl ?_ 
        refine mm_cvnJ (vb_cv (vM_S60 hM) rfl rfl rfl rfl) (by decide) (by omega) (m_goes (q := 0) hM dD1 hb (Nat.zero_le _) q16 (by omega)) ?_
        intro I2 J2 hq2
        obtain ⟨hkS, hfN⟩ := hq2
        refine n_boardL hM dN hb (by omega) 800 (tx_S (q_b (vs_p σ) m) 0) pl_0 _ _ _ hr ⟨dD1.f hfN, hkS, (hfN.2 12 (by decide)).trans q12, tx_S_n hb (Nat.zero_le _), pl_ok0, 0, ?_, Nat.zero_le _⟩ (hf1.pn (.of hfN)) ((hfN.2 0 (by decide)).trans q0) ((hfN.2 11 (by decide)).trans q11) ((hfN.2 13 (by decide)).trans q13)
        refine pn_C.f (I := I1) ?_ hfN
        refine ⟨q23, q24, q25, q27, fun v h => absurd h (Nat.not_lt_zero v), fun v h => absurd h (Nat.not_lt_zero v), fun v h => absurd h (Nat.not_lt_zero v), fun a c ha hc => ?_, fun _ => q26, (fun h => by cases h), fun r h => absurd h (Nat.not_lt_zero r)⟩
        rw [h74 _ (by omega)]
        show vb_i 0 = vb_b (vb_has 0 c)
        rw [vb_has_0]; rfl
      · intro h87
        refine mm_w1 rfl ?_
        refine mm_wgr (vM_S60 hM) (by decide) (by decide) (vM_P60_36 hM) (vM_a74 hM) ?_
        refine mm_w1 rfl ?_
        refine mm_wv (vb_i 0) rfl (by decide) ?_
        refine mm_wzsN (vM_S74 hM) (by decide) (by omega) (Or.inl rfl) ?_
        intro I2 hI2
        have hf2 : pb_f I I2 := ⟨fun a k1 k2 => by rw [hI2, vb_up3 _ _ (by omega)]; exact hf1.1 a k1 k2, fun q hq => by rw [hI2, vb_up3 _ _ (by decide)]; exact hf1.2 q hq⟩
        have e60 : I2 60 = I1 60 := by rw [hI2, vb_up3 _ _ (by decide)]
        refine mm_nincL (ls' := [_, _, _]) 1 rfl (by decide) rfl ?_
        refine mm_wgoto ?_
        refine ih (by omega) _ hf2 (by rw [e60]; exact q0) (by rw [e60]; exact q11) (by rw [e60]; exact q12) (by rw [e60]; exact q13) (by rw [e60]; exact q15) (by rw [e60]; exact q16) (by rw [e60]; exact q23) (by rw [e60]; exact q24) (by rw [e60]; exact q25) (by rw [e60]; exact q26) (by rw [e60]; exact q27) (fun j hj => ?_)
        rw [hI2]
        by_cases e : j = i
        · subst e; rw [vb_up1]
        · rw [vb_up2 _ _ (by omega)]; exact h74 j (by omega)
    show mm_W _ _ 170 (mm_blk 170 0) [.ref 60, .int (vb_i m), .null] [] _ _
    refine mm_w1 rfl ?_
    refine mm_wv (vb_i 0) rfl (by decide) ?_
    refine mm_wpiN (vM_S60 hM) (by decide) (by decide) ?_
    intro I1 hI1
    have hf1 : pb_f I I1 := by rw [hI1]; exact pb_f.rf.u (by decide)
    have x0_1 := (congrFun (congrFun hI1 60) 0).trans (vb_up1 _ _ _ _)
    have t1 : I1 60 11 = vb_i (vs_p σ).length := by rw [hI1, vb_up2 _ _ (by decide)]; exact h11
    have t0 : I1 60 0 = vb_i 0 := by rw [hI1, vb_up1]
    refine mm_w1 rfl ?_
    refine mm_w1 rfl ?_
    refine mm_niflt (by omega) ?_
    refine mm_w1 rfl ?_
    refine mm_w1 rfl ?_
    refine mm_wgiv _ (vM_S60 hM) (by decide) (by decide) t1 ?_
    refine mm_nicgt (by omega) (by omega) ?_ ?_
    · intro h15
      omega
    · intro h15
      refine mm_wv (vb_i 1) rfl (by decide) ?_
      refine mm_wgoto ?_
      refine mm_wv (vb_i 1) rfl (by decide) ?_
      refine mm_cvp (vb_cv (vM_S60 hM) rfl rfl rfl rfl) (by decide) (by omega) (m_right_t hM t0) ?_
      refine mm_nifne (by decide) (fun _ => ?_) (fun h => absurd h (by decide))
      refine mm_w1 rfl ?_
      refine mm_wv (vb_i 0) rfl (by decide) ?_
      refine mm_wpiN (vM_S60 hM) (by decide) (by decide) ?_
      intro I2 hI2
      have hf2 : pb_f I I2 := by rw [hI2]; exact hf1.u (by decide)
      have x11_2 := (congrFun (congrFun hI2 60) 11).trans (vb_up1 _ _ _ _)
      have x0_2 := (congrFun (congrFun hI2 60) 0).trans ((vb_up2 _ _ (by decide)).trans x0_1)
      refine mm_w1 rfl ?_
      refine mm_wv (-1) rfl (by decide) ?_
      refine mm_wpiN (vM_S60 hM) (by decide) (by decide) ?_
      intro I3 hI3
      have hf3 : pb_f I I3 := by rw [hI3]; exact hf2.u (by decide)
      have x13_3 := (congrFun (congrFun hI3 60) 13).trans (vb_up1 _ _ _ _)
      have x0_3 := (congrFun (congrFun hI3 60) 0).trans ((vb_up2 _ _ (by decide)).trans x0_2)
      have x11_3 := (congrFun (congrFun hI3 60) 11).trans ((vb_up2 _ _ (by decide)).trans x11_2)
      refine mm_w1 rfl ?_
      refine mm_wv (vb_i 0) rfl (by decide) ?_
      refine mm_wpiN (vM_S60 hM) (by decide) (by decide) ?_
      intro I4 hI4
      have hf4 : pb_f I I4 := by rw [hI4]; exact hf3.u (by decide)
      have x12_4 := (congrFun (congrFun hI4 60) 12).trans (vb_up1 _ _ _ _)
      have x0_4 := (congrFun (congrFun hI4 60) 0).trans ((vb_up2 _ _ (by decide)).trans x0_3)
      have x11_4 := (congrFun (congrFun hI4 60) 11).trans ((vb_up2 _ _ (by decide)).trans x11_3)
      have x13_4 := (congrFun (congrFun hI4 60) 13).trans ((vb_up2 _ _ (by decide)).trans x13_3)
      refine mm_w1 rfl ?_
      refine mm_w1 rfl ?_
      refine mm_wpiN (vM_S60 hM) (by decide) (by decide) ?_
      intro I5 hI5
      have hf5 : pb_f I I5 := by rw [hI5]; exact hf4.u (by decide)
      have x15_5 := (congrFun (congrFun hI5 60) 15).trans (vb_up1 _ _ _ _)
      have x0_5 := (congrFun (congrFun hI5 60) 0).trans ((vb_up2 _ _ (by decide)).trans x0_4)
      have x11_5 := (congrFun (congrFun hI5 60) 11).trans ((vb_up2 _ _ (by decide)).trans x11_4)
      have x13_5 := (congrFun (congrFun hI5 60) 13).trans ((vb_up2 _ _ (by decide)).trans x13_4)
      have x12_5 := (congrFun (congrFun hI5 60) 12).trans ((vb_up2 _ _ (by decide)).trans x12_4)
      refine mm_w1 rfl ?_
      refine mm_wv (vb_i 0) rfl (by decide) ?_
      refine mm_wpiN (vM_S60 hM) (by decide) (by decide) ?_
      intro I6 hI6
      have hf6 : pb_f I I6 := by rw [hI6]; exact hf5.u (by decide)
      have x16_6 := (congrFun (congrFun hI6 60) 16).trans (vb_up1 _ _ _ _)
      have x0_6 := (congrFun (congrFun hI6 60) 0).trans ((vb_up2 _ _ (by decide)).trans x0_5)
      have x11_6 := (congrFun (congrFun hI6 60) 11).trans ((vb_up2 _ _ (by decide)).trans x11_5)
      have x13_6 := (congrFun (congrFun hI6 60) 13).trans ((vb_up2 _ _ (by decide)).trans x13_5)
      have x12_6 := (congrFun (congrFun hI6 60) 12).trans ((vb_up2 _ _ (by decide)).trans x12_5)
      have x15_6 := (congrFun (congrFun hI6 60) 15).trans ((vb_up2 _ _ (by decide)).trans x15_5)
      refine mm_w1 rfl ?_
      refine mm_wv (vb_i 0) rfl (by decide) ?_
      refine mm_wpiN (vM_S60 hM) (by decide) (by decide) ?_
      intro I7 hI7
      have hf7 : pb_f I I7 := by rw [hI7]; exact hf6.u (by decide)
      have x23_7 := (congrFun (congrFun hI7 60) 23).trans (vb_up1 _ _ _ _)
      have x0_7 := (congrFun (congrFun hI7 60) 0).trans ((vb_up2 _ _ (by decide)).trans x0_6)
      have x11_7 := (congrFun (congrFun hI7 60) 11).trans ((vb_up2 _ _ (by decide)).trans x11_6)
      have x13_7 := (congrFun (congrFun hI7 60) 13).trans ((vb_up2 _ _ (by decide)).trans x13_6)
      have x12_7 := (congrFun (congrFun hI7 60) 12).trans ((vb_up2 _ _ (by decide)).trans x12_6)
      have x15_7 := (congrFun (congrFun hI7 60) 15).trans ((vb_up2 _ _ (by decide)).trans x15_6)
      have x16_7 := (congrFun (congrFun hI7 60) 16).trans ((vb_up2 _ _ (by decide)).trans x16_6)
      refine mm_w1 rfl ?_
      refine mm_wv (vb_i 0) rfl (by decide) ?_
      refine mm_wpiN (vM_S60 hM) (by decide) (by decide) ?_
      intro I8 hI8
      have hf8 : pb_f I I8 := by rw [hI8]; exact hf7.u (by decide)
      have x24_8 := (congrFun (congrFun hI8 60) 24).trans (vb_up1 _ _ _ _)
      have x0_8 := (congrFun (congrFun hI8 60) 0).trans ((vb_up2 _ _ (by decide)).trans x0_7)
      have x11_8 := (congrFun (congrFun hI8 60) 11).trans ((vb_up2 _ _ (by decide)).trans x11_7)
      have x13_8 := (congrFun (congrFun hI8 60) 13).trans ((vb_up2 _ _ (by decide)).trans x13_7)
      have x12_8 := (congrFun (congrFun hI8 60) 12).trans ((vb_up2 _ _ (by decide)).trans x12_7)
      have x15_8 := (congrFun (congrFun hI8 60) 15).trans ((vb_up2 _ _ (by decide)).trans x15_7)
      have x16_8 := (congrFun (congrFun hI8 60) 16).trans ((vb_up2 _ _ (by decide)).trans x16_7)
      have x23_8 := (congrFun (congrFun hI8 60) 23).trans ((vb_up2 _ _ (by decide)).trans x23_7)
      refine mm_w1 rfl ?_
      refine mm_wv (vb_i 0) rfl (by decide) ?_
      refine mm_wpiN (vM_S60 hM) (by decide) (by decide) ?_
      intro I9 hI9
      have hf9 : pb_f I I9 := by rw [hI9]; exact hf8.u (by decide)
      have x25_9 := (congrFun (congrFun hI9 60) 25).trans (vb_up1 _ _ _ _)
      have x0_9 := (congrFun (congrFun hI9 60) 0).trans ((vb_up2 _ _ (by decide)).trans x0_8)
      have x11_9 := (congrFun (congrFun hI9 60) 11).trans ((vb_up2 _ _ (by decide)).trans x11_8)
      have x13_9 := (congrFun (congrFun hI9 60) 13).trans ((vb_up2 _ _ (by decide)).trans x13_8)
      have x12_9 := (congrFun (congrFun hI9 60) 12).trans ((vb_up2 _ _ (by decide)).trans x12_8)
      have x15_9 := (congrFun (congrFun hI9 60) 15).trans ((vb_up2 _ _ (by decide)).trans x15_8)
      have x16_9 := (congrFun (congrFun hI9 60) 16).trans ((vb_up2 _ _ (by decide)).trans x16_8)
      have x23_9 := (congrFun (congrFun hI9 60) 23).trans ((vb_up2 _ _ (by decide)).trans x23_8)
      have x24_9 := (congrFun (congrFun hI9 60) 24).trans ((vb_up2 _ _ (by decide)).trans x24_8)
      refine mm_w1 rfl ?_
      refine mm_wv (-1) rfl (by decide) ?_
      refine mm_wpiN (vM_S60 hM) (by decide) (by decide) ?_
      intro I10 hI10
      have hf10 : pb_f I I10 := by rw [hI10]; exact hf9.u (by decide)
      have x26_10 := (congrFun (congrFun hI10 60) 26).trans (vb_up1 _ _ _ _)
      have x0_10 := (congrFun (congrFun hI10 60) 0).trans ((vb_up2 _ _ (by decide)).trans x0_9)
      have x11_10 := (congrFun (congrFun hI10 60) 11).trans ((vb_up2 _ _ (by decide)).trans x11_9)
      have x13_10 := (congrFun (congrFun hI10 60) 13).trans ((vb_up2 _ _ (by decide)).trans x13_9)
      have x12_10 := (congrFun (congrFun hI10 60) 12).trans ((vb_up2 _ _ (by decide)).trans x12_9)
      have x15_10 := (congrFun (congrFun hI10 60) 15).trans ((vb_up2 _ _ (by decide)).trans x15_9)
      have x16_10 := (congrFun (congrFun hI10 60) 16).trans ((vb_up2 _ _ (by decide)).trans x16_9)
      have x23_10 := (congrFun (congrFun hI10 60) 23).trans ((vb_up2 _ _ (by decide)).trans x23_9)
      have x24_10 := (congrFun (congrFun hI10 60) 24).trans ((vb_up2 _ _ (by decide)).trans x24_9)
      have x25_10 := (congrFun (congrFun hI10 60) 25).trans ((vb_up2 _ _ (by decide)).trans x25_9)
      refine mm_w1 rfl ?_
      refine mm_wv (vb_i 0) rfl (by decide) ?_
      refine mm_wpiN (vM_S60 hM) (by decide) (by decide) ?_
      intro I11 hI11
      have hf11 : pb_f I I11 := by rw [hI11]; exact hf10.u (by decide)
      have x27_11 := (congrFun (congrFun hI11 60) 27).trans (vb_up1 _ _ _ _)
      have x0_11 := (congrFun (congrFun hI11 60) 0).trans ((vb_up2 _ _ (by decide)).trans x0_10)
      have x11_11 := (congrFun (congrFun hI11 60) 11).trans ((vb_up2 _ _ (by decide)).trans x11_10)
      have x13_11 := (congrFun (congrFun hI11 60) 13).trans ((vb_up2 _ _ (by decide)).trans x13_10)
      have x12_11 := (congrFun (congrFun hI11 60) 12).trans ((vb_up2 _ _ (by decide)).trans x12_10)
      have x15_11 := (congrFun (congrFun hI11 60) 15).trans ((vb_up2 _ _ (by decide)).trans x15_10)
      have x16_11 := (congrFun (congrFun hI11 60) 16).trans ((vb_up2 _ _ (by decide)).trans x16_10)
      have x23_11 := (congrFun (congrFun hI11 60) 23).trans ((vb_up2 _ _ (by decide)).trans x23_10)
      have x24_11 := (congrFun (congrFun hI11 60) 24).trans ((vb_up2 _ _ (by decide)).trans x24_10)
      have x25_11 := (congrFun (congrFun hI11 60) 25).trans ((vb_up2 _ _ (by decide)).trans x25_10)
      have x26_11 := (congrFun (congrFun hI11 60) 26).trans ((vb_up2 _ _ (by decide)).trans x26_10)
      refine mm_wv (vb_i 0) rfl (by decide) ?_
      refine mm_w1 (ls' := [_, _, _]) rfl ?_
      exact k84 0 (by decide) _ hf11 x0_11 x11_11 x12_11 x13_11 x15_11 x16_11 x23_11 x24_11 x25_11 x26_11 x27_11 (fun j hj => absurd hj (Nat.not_lt_zero j))
end NBE
