section LWO
variable {G : mm_G} {d : Nat} {k : Nat} {is : List mm_I} {ls st : List Value} {Q : mm_R → Prop} {μ : mm_M} {idx w : Nat} {c : Int32}
theorem mm_wspK {kk nA : Nat} {args rest : List Value} (h5 : mm_call (.invokespecial idx, kk, nA, w, c) st μ = some (kk, args, rest)) (h9 : kk < 9000) (hd : 0 < d) (hl : ls.all (mm_okv μ.2.2.2.1.length) = true) (hr : rest.all (mm_okv μ.2.2.2.1.length) = true) (hc : mm_C G (d - 1) kk args μ (fun r => ∃ μ1, r = (.inl none, μ1) ∧ mm_W G d k is ls rest μ1 Q)) : mm_W G d k ((.invokespecial idx, kk, nA, w, c) :: is) ls st μ Q :=
  mm_wspc h5 h9 hd hc (fun r ⟨μ1, h1, h2⟩ => ⟨μ1, h1, ⟨hl, hr⟩, h2⟩)
def lw_σ0 : vb_St := (pl_l pl_0, ((fun _ => 0), (fun _ => 0), (fun _ => 0), (fun _ => -1), (fun _ => 0), 0), [], [], none, [], -1, fun _ => 0)
theorem lw_I0 : lw_I lw_σ0 := by
  obtain ⟨k1, k2, _⟩ := pl_inv pl_ok0
  have h0 : ∀ v, vb_has 0 v = true → False := fun v h => by rw [vb_has_0] at h; cases h
  exact ⟨⟨k1, ⟨fun j _ => Or.inl rfl, ⟨fun j _ => ⟨fun v h => (h0 v h).elim, fun v h => (h0 v h).elim⟩, fun v h => (h0 v h).elim, fun _ _ v h => (h0 v h).elim⟩, (show (0 : Nat) ≤ 999 by decide)⟩, (fun y hy => absurd hy List.not_mem_nil), (fun z hz => by cases hz)⟩, k2, fun x hx => absurd hx List.not_mem_nil⟩
theorem lw_B.cV {P : Nat → Nat → Nat} (h : lw_B 87 P) : mm_cfP lw_rV P := fun a i ha => by
  have ha := lw_rV1 ha
  rcases h a i (by omega) with h | h
  · exact Or.inl (decide_eq_true (h.2.2 ha))
  · exact Or.inr (Or.inl h)
theorem lw_B.cM {P : Nat → Nat → Nat} (h : lw_B 86 P) : mm_cfP lw_rM (lw_zP 86 P) := fun a i ha => by
  have ha := lw_rM1 ha
  rw [show lw_zP 86 P a = P a from if_neg (by omega)]
  rcases h a i (by omega) with h1 | h1
  · refine Or.inl ?_
    have := h1.2.1 ha.1
    rw [lw_rM, decide_eq_true this, decide_eq_true h1.1]; rfl
  · exact Or.inr (Or.inl h1)
theorem lw_AD0 {I : Nat → Nat → Int32} {A : Nat} (h1 : I A 1 = vb_i 0) (h2 : I A 2 = vb_i 0) : vb_AD [] A I := ⟨0, by decide, h1, h2, Nat.zero_le _, (fun i x h => by cases h)⟩
theorem lw_TD0 {I : Nat → Nat → Int32} {A : Nat} (h2 : I A 2 = vb_i 0) : vb_TD [] A I := ⟨h2, Nat.zero_le _, (fun i x h => by cases h)⟩
set_option maxRecDepth 20000 in
theorem law_run (hd : 90 ≤ d) (hG : G.1 ≤ 3072) : mm_W G d 279 (mm_blk 279 0) [.ref mm_SC, .null, .null, .null, .null, .null, .null] [] ((fun _ _ => 0), (fun _ _ => mm_NU), (fun _ _ => 0), [], 0, 0) (lw_Qr 4000 22000) := by
  have hB : lw_B 0 (fun _ _ => mm_NU) := fun a i h => absurd h (Nat.not_lt_zero a)
  refine mm_wnew (n := 0) (sz := 16) (S' := [(7, 16)]) rfl rfl rfl (by decide) rfl rfl hB rfl (by decide) (fun hB => ?_)
  refine mm_w1 rfl ?_
  refine mm_wspK rfl (by decide) (by omega) rfl rfl ?_
  show mm_W _ _ 74 (mm_blk 74 0) [.ref 0] [] _ _
  refine mm_w1 rfl ?_
  refine mm_w1 rfl ?_
  refine mm_w1 rfl ?_
  refine mm_wv (vb_i 700) rfl (by decide) ?_
  refine mm_wnewI (n := 1) (S' := [(7, 16), (100, 700)]) rfl rfl (by decide) rfl rfl hB rfl (by decide) (fun hB => ?_)
  refine mm_wpr (a := 0) (ci := 7) (n := 16) rfl (by decide) (by decide) (by decide) ?_
  replace hB := hB.up (a0 := 0) (i0 := 0) (v := 1) (by decide)
  refine mm_w1 rfl ?_
  refine mm_wv (vb_i 0) rfl (by decide) ?_
  refine mm_wpi (a := 0) (ci := 7) (n := 16) rfl (by decide) (by decide) ?_
  refine mm_w1 rfl ?_
  refine mm_wv (-1) rfl (by decide) ?_
  refine mm_wpi (a := 0) (ci := 7) (n := 16) rfl (by decide) (by decide) ?_
  refine mm_w1 rfl ?_
  refine mm_wv (vb_i 3) rfl (by decide) ?_
  refine mm_wnewI (n := 2) (S' := [(7, 16), (100, 700), (100, 3)]) rfl rfl (by decide) rfl rfl hB rfl (by decide) (fun hB => ?_)
  refine mm_wpr (a := 0) (ci := 7) (n := 16) rfl (by decide) (by decide) (by decide) ?_
  replace hB := hB.up (a0 := 0) (i0 := 3) (v := 2) (by decide)
  refine mm_w1 rfl ?_
  refine mm_wnew (n := 3) (sz := 8) (S' := [(7, 16), (100, 700), (100, 3), (4, 8)]) rfl rfl rfl (by decide) rfl rfl hB rfl (by decide) (fun hB => ?_)
  refine mm_w1 rfl ?_
  refine mm_wspK rfl (by decide) (by omega) rfl rfl ?_
  show mm_W _ _ 43 (mm_blk 43 0) [.ref 3] [] _ _
  refine mm_w1 rfl ?_
  refine mm_w1 rfl ?_
  refine mm_w1 rfl ?_
  refine mm_wv (vb_i 0) rfl (by decide) ?_
  refine mm_wnewI (n := 4) (S' := [(7, 16), (100, 700), (100, 3), (4, 8), (100, 0)]) rfl rfl (by decide) rfl rfl hB rfl (by decide) (fun hB => ?_)
  refine mm_wpr (a := 3) (ci := 4) (n := 8) rfl (by decide) (by decide) (by decide) ?_
  replace hB := hB.up (a0 := 3) (i0 := 0) (v := 4) (by decide)
  refine mm_w1 rfl ?_
  refine mm_wv (vb_i 0) rfl (by decide) ?_
  refine mm_wpi (a := 3) (ci := 4) (n := 8) rfl (by decide) (by decide) ?_
  refine mm_w1 rfl ?_
  refine mm_wnew (n := 5) (sz := 10) (S' := [(7, 16), (100, 700), (100, 3), (4, 8), (100, 0), (2, 10)]) rfl rfl rfl (by decide) rfl rfl hB rfl (by decide) (fun hB => ?_)
  refine mm_w1 rfl ?_
  refine mm_wspK rfl (by decide) (by omega) rfl rfl ?_
  show mm_W _ _ 13 (mm_blk 13 0) [.ref 5] [] _ _
  refine mm_w1 rfl ?_
  refine mm_w1 rfl ?_
  refine mm_w1 rfl ?_
  refine mm_wv (vb_i 0) rfl (by decide) ?_
  refine mm_wpi (a := 5) (ci := 2) (n := 10) rfl (by decide) (by decide) ?_
  refine mm_w1 rfl ?_
  refine mm_wv (vb_i 0) rfl (by decide) ?_
  refine mm_wpi (a := 5) (ci := 2) (n := 10) rfl (by decide) (by decide) ?_
  refine mm_w1 rfl ?_
  refine mm_wv (vb_i 0) rfl (by decide) ?_
  refine mm_wpi (a := 5) (ci := 2) (n := 10) rfl (by decide) (by decide) ?_
  refine mm_w1 rfl ?_
  refine mm_wv (vb_i 0) rfl (by decide) ?_
  refine mm_wpz (a := 5) (ci := 2) (n := 10) rfl (by decide) (by decide) (Or.inl rfl) ?_
  refine mm_w1 rfl ?_
  refine mm_wv (vb_i 10) rfl (by decide) ?_
  refine mm_wnewI (n := 6) (S' := [(7, 16), (100, 700), (100, 3), (4, 8), (100, 0), (2, 10), (100, 10)]) rfl rfl (by decide) rfl rfl hB rfl (by decide) (fun hB => ?_)
  refine mm_wpr (a := 5) (ci := 2) (n := 10) rfl (by decide) (by decide) (by decide) ?_
  replace hB := hB.up (a0 := 5) (i0 := 4) (v := 6) (by decide)
  refine mm_w1 rfl ?_
  refine mm_wv (vb_i 10) rfl (by decide) ?_
  refine mm_wnewI (n := 7) (S' := [(7, 16), (100, 700), (100, 3), (4, 8), (100, 0), (2, 10), (100, 10), (100, 10)]) rfl rfl (by decide) rfl rfl hB rfl (by decide) (fun hB => ?_)
  refine mm_wpr (a := 5) (ci := 2) (n := 10) rfl (by decide) (by decide) (by decide) ?_
  replace hB := hB.up (a0 := 5) (i0 := 5) (v := 7) (by decide)
  refine mm_w1 rfl ?_
  refine mm_wv (vb_i 10) rfl (by decide) ?_
  refine mm_wnewI (n := 8) (S' := [(7, 16), (100, 700), (100, 3), (4, 8), (100, 0), (2, 10), (100, 10), (100, 10), (100, 10)]) rfl rfl (by decide) rfl rfl hB rfl (by decide) (fun hB => ?_)
  refine mm_wpr (a := 5) (ci := 2) (n := 10) rfl (by decide) (by decide) (by decide) ?_
  replace hB := hB.up (a0 := 5) (i0 := 6) (v := 8) (by decide)
  refine mm_w1 rfl ?_
  refine mm_wv (vb_i 2) rfl (by decide) ?_
  refine mm_wnewI (n := 9) (S' := [(7, 16), (100, 700), (100, 3), (4, 8), (100, 0), (2, 10), (100, 10), (100, 10), (100, 10), (100, 2)]) rfl rfl (by decide) rfl rfl hB rfl (by decide) (fun hB => ?_)
  refine mm_wpr (a := 5) (ci := 2) (n := 10) rfl (by decide) (by decide) (by decide) ?_
  replace hB := hB.up (a0 := 5) (i0 := 7) (v := 9) (by decide)
  refine mm_w1 rfl ?_
  refine mm_wv (vb_i 36) rfl (by decide) ?_
  refine mm_wnewI (n := 10) (S' := [(7, 16), (100, 700), (100, 3), (4, 8), (100, 0), (2, 10), (100, 10), (100, 10), (100, 10), (100, 2), (100, 36)]) rfl rfl (by decide) rfl rfl hB rfl (by decide) (fun hB => ?_)
  refine mm_wpr (a := 5) (ci := 2) (n := 10) rfl (by decide) (by decide) (by decide) ?_
  replace hB := hB.up (a0 := 5) (i0 := 8) (v := 10) (by decide)
  refine mm_w1 rfl ?_
  refine mm_wnew (n := 11) (sz := 6) (S' := [(7, 16), (100, 700), (100, 3), (4, 8), (100, 0), (2, 10), (100, 10), (100, 10), (100, 10), (100, 2), (100, 36), (5, 6)]) rfl rfl rfl (by decide) rfl rfl hB rfl (by decide) (fun hB => ?_)
  refine mm_w1 rfl ?_
  refine mm_wspK rfl (by decide) (by omega) rfl rfl ?_
  show mm_W _ _ 62 (mm_blk 62 0) [.ref 11] [] _ _
  refine mm_w1 rfl ?_
  refine mm_w1 rfl ?_
  refine mm_w1 rfl ?_
  refine mm_wv (vb_i 700) rfl (by decide) ?_
  refine mm_wnewI (n := 12) (S' := [(7, 16), (100, 700), (100, 3), (4, 8), (100, 0), (2, 10), (100, 10), (100, 10), (100, 10), (100, 2), (100, 36), (5, 6), (100, 700)]) rfl rfl (by decide) rfl rfl hB rfl (by decide) (fun hB => ?_)
  refine mm_wpr (a := 11) (ci := 5) (n := 6) rfl (by decide) (by decide) (by decide) ?_
  replace hB := hB.up (a0 := 11) (i0 := 0) (v := 12) (by decide)
  refine mm_w1 rfl ?_
  refine mm_wv (vb_i 0) rfl (by decide) ?_
  refine mm_wpi (a := 11) (ci := 5) (n := 6) rfl (by decide) (by decide) ?_
  refine mm_w1 rfl ?_
  refine mm_wv (vb_i 4) rfl (by decide) ?_
  refine mm_wnewI (n := 13) (S' := [(7, 16), (100, 700), (100, 3), (4, 8), (100, 0), (2, 10), (100, 10), (100, 10), (100, 10), (100, 2), (100, 36), (5, 6), (100, 700), (100, 4)]) rfl rfl (by decide) rfl rfl hB rfl (by decide) (fun hB => ?_)
  refine mm_wpr (a := 11) (ci := 5) (n := 6) rfl (by decide) (by decide) (by decide) ?_
  replace hB := hB.up (a0 := 11) (i0 := 2) (v := 13) (by decide)
  refine mm_w1 rfl ?_
  refine mm_wv (vb_i 4) rfl (by decide) ?_
  refine mm_wnewI (n := 14) (S' := [(7, 16), (100, 700), (100, 3), (4, 8), (100, 0), (2, 10), (100, 10), (100, 10), (100, 10), (100, 2), (100, 36), (5, 6), (100, 700), (100, 4), (100, 4)]) rfl rfl (by decide) rfl rfl hB rfl (by decide) (fun hB => ?_)
  refine mm_wpr (a := 11) (ci := 5) (n := 6) rfl (by decide) (by decide) (by decide) ?_
  replace hB := hB.up (a0 := 11) (i0 := 3) (v := 14) (by decide)
  refine mm_w1 rfl ?_
  refine mm_wv (vb_i 8) rfl (by decide) ?_
  refine mm_wnewI (n := 15) (S' := [(7, 16), (100, 700), (100, 3), (4, 8), (100, 0), (2, 10), (100, 10), (100, 10), (100, 10), (100, 2), (100, 36), (5, 6), (100, 700), (100, 4), (100, 4), (100, 8)]) rfl rfl (by decide) rfl rfl hB rfl (by decide) (fun hB => ?_)
  refine mm_wpr (a := 11) (ci := 5) (n := 6) rfl (by decide) (by decide) (by decide) ?_
  replace hB := hB.up (a0 := 11) (i0 := 4) (v := 15) (by decide)
  refine mm_w1 rfl ?_
  refine mm_wv (vb_i 64) rfl (by decide) ?_
  refine mm_wnewI (n := 16) (S' := [(7, 16), (100, 700), (100, 3), (4, 8), (100, 0), (2, 10), (100, 10), (100, 10), (100, 10), (100, 2), (100, 36), (5, 6), (100, 700), (100, 4), (100, 4), (100, 8), (100, 64)]) rfl rfl (by decide) rfl rfl hB rfl (by decide) (fun hB => ?_)
  refine mm_wpr (a := 11) (ci := 5) (n := 6) rfl (by decide) (by decide) (by decide) ?_
  replace hB := hB.up (a0 := 11) (i0 := 5) (v := 16) (by decide)
  refine mm_wr rfl rfl rfl ?_
  refine ⟨_, rfl, ?_⟩
  refine mm_wpr (a := 5) (ci := 2) (n := 10) rfl (by decide) (by decide) (by decide) ?_
  replace hB := hB.up (a0 := 5) (i0 := 9) (v := 11) (by decide)
  refine mm_wr rfl rfl rfl ?_
  refine ⟨_, rfl, ?_⟩
  refine mm_wpr (a := 3) (ci := 4) (n := 8) rfl (by decide) (by decide) (by decide) ?_
  replace hB := hB.up (a0 := 3) (i0 := 2) (v := 5) (by decide)
  refine mm_w1 rfl ?_
  refine mm_wv (vb_i 0) rfl (by decide) ?_
  refine mm_wpi (a := 3) (ci := 4) (n := 8) rfl (by decide) (by decide) ?_
  refine mm_w1 rfl ?_
  refine mm_wv (vb_i 0) rfl (by decide) ?_
  refine mm_wpi (a := 3) (ci := 4) (n := 8) rfl (by decide) (by decide) ?_
  refine mm_w1 rfl ?_
  refine mm_wv (vb_i 0) rfl (by decide) ?_
  refine mm_wpi (a := 3) (ci := 4) (n := 8) rfl (by decide) (by decide) ?_
  refine mm_w1 rfl ?_
  refine mm_wv (vb_i 0) rfl (by decide) ?_
  refine mm_wpi (a := 3) (ci := 4) (n := 8) rfl (by decide) (by decide) ?_
  refine mm_w1 rfl ?_
  refine mm_wv (vb_i 0) rfl (by decide) ?_
  refine mm_wpi (a := 3) (ci := 4) (n := 8) rfl (by decide) (by decide) ?_
  refine mm_wr rfl rfl rfl ?_
  refine ⟨_, rfl, ?_⟩
  refine mm_wpr (a := 0) (ci := 7) (n := 16) rfl (by decide) (by decide) (by decide) ?_
  replace hB := hB.up (a0 := 0) (i0 := 4) (v := 3) (by decide)
  refine mm_w1 rfl ?_
  refine mm_wnew (n := 17) (sz := 10) (S' := [(7, 16), (100, 700), (100, 3), (4, 8), (100, 0), (2, 10), (100, 10), (100, 10), (100, 10), (100, 2), (100, 36), (5, 6), (100, 700), (100, 4), (100, 4), (100, 8), (100, 64), (2, 10)]) rfl rfl rfl (by decide) rfl rfl hB rfl (by decide) (fun hB => ?_)
  refine mm_w1 rfl ?_
  refine mm_wspK rfl (by decide) (by omega) rfl rfl ?_
  show mm_W _ _ 13 (mm_blk 13 0) [.ref 17] [] _ _
  refine mm_w1 rfl ?_
  refine mm_w1 rfl ?_
  refine mm_w1 rfl ?_
  refine mm_wv (vb_i 0) rfl (by decide) ?_
  refine mm_wpi (a := 17) (ci := 2) (n := 10) rfl (by decide) (by decide) ?_
  refine mm_w1 rfl ?_
  refine mm_wv (vb_i 0) rfl (by decide) ?_
  refine mm_wpi (a := 17) (ci := 2) (n := 10) rfl (by decide) (by decide) ?_
  refine mm_w1 rfl ?_
  refine mm_wv (vb_i 0) rfl (by decide) ?_
  refine mm_wpi (a := 17) (ci := 2) (n := 10) rfl (by decide) (by decide) ?_
  refine mm_w1 rfl ?_
  refine mm_wv (vb_i 0) rfl (by decide) ?_
  refine mm_wpz (a := 17) (ci := 2) (n := 10) rfl (by decide) (by decide) (Or.inl rfl) ?_
  refine mm_w1 rfl ?_
  refine mm_wv (vb_i 10) rfl (by decide) ?_
  refine mm_wnewI (n := 18) (S' := [(7, 16), (100, 700), (100, 3), (4, 8), (100, 0), (2, 10), (100, 10), (100, 10), (100, 10), (100, 2), (100, 36), (5, 6), (100, 700), (100, 4), (100, 4), (100, 8), (100, 64), (2, 10), (100, 10)]) rfl rfl (by decide) rfl rfl hB rfl (by decide) (fun hB => ?_)
  refine mm_wpr (a := 17) (ci := 2) (n := 10) rfl (by decide) (by decide) (by decide) ?_
  replace hB := hB.up (a0 := 17) (i0 := 4) (v := 18) (by decide)
  refine mm_w1 rfl ?_
  refine mm_wv (vb_i 10) rfl (by decide) ?_
  refine mm_wnewI (n := 19) (S' := [(7, 16), (100, 700), (100, 3), (4, 8), (100, 0), (2, 10), (100, 10), (100, 10), (100, 10), (100, 2), (100, 36), (5, 6), (100, 700), (100, 4), (100, 4), (100, 8), (100, 64), (2, 10), (100, 10), (100, 10)]) rfl rfl (by decide) rfl rfl hB rfl (by decide) (fun hB => ?_)
  refine mm_wpr (a := 17) (ci := 2) (n := 10) rfl (by decide) (by decide) (by decide) ?_
  replace hB := hB.up (a0 := 17) (i0 := 5) (v := 19) (by decide)
  refine mm_w1 rfl ?_
  refine mm_wv (vb_i 10) rfl (by decide) ?_
  refine mm_wnewI (n := 20) (S' := [(7, 16), (100, 700), (100, 3), (4, 8), (100, 0), (2, 10), (100, 10), (100, 10), (100, 10), (100, 2), (100, 36), (5, 6), (100, 700), (100, 4), (100, 4), (100, 8), (100, 64), (2, 10), (100, 10), (100, 10), (100, 10)]) rfl rfl (by decide) rfl rfl hB rfl (by decide) (fun hB => ?_)
  refine mm_wpr (a := 17) (ci := 2) (n := 10) rfl (by decide) (by decide) (by decide) ?_
  replace hB := hB.up (a0 := 17) (i0 := 6) (v := 20) (by decide)
  refine mm_w1 rfl ?_
  refine mm_wv (vb_i 2) rfl (by decide) ?_
  refine mm_wnewI (n := 21) (S' := [(7, 16), (100, 700), (100, 3), (4, 8), (100, 0), (2, 10), (100, 10), (100, 10), (100, 10), (100, 2), (100, 36), (5, 6), (100, 700), (100, 4), (100, 4), (100, 8), (100, 64), (2, 10), (100, 10), (100, 10), (100, 10), (100, 2)]) rfl rfl (by decide) rfl rfl hB rfl (by decide) (fun hB => ?_)
  refine mm_wpr (a := 17) (ci := 2) (n := 10) rfl (by decide) (by decide) (by decide) ?_
  replace hB := hB.up (a0 := 17) (i0 := 7) (v := 21) (by decide)
  refine mm_w1 rfl ?_
  refine mm_wv (vb_i 36) rfl (by decide) ?_
  refine mm_wnewI (n := 22) (S' := [(7, 16), (100, 700), (100, 3), (4, 8), (100, 0), (2, 10), (100, 10), (100, 10), (100, 10), (100, 2), (100, 36), (5, 6), (100, 700), (100, 4), (100, 4), (100, 8), (100, 64), (2, 10), (100, 10), (100, 10), (100, 10), (100, 2), (100, 36)]) rfl rfl (by decide) rfl rfl hB rfl (by decide) (fun hB => ?_)
  refine mm_wpr (a := 17) (ci := 2) (n := 10) rfl (by decide) (by decide) (by decide) ?_
  replace hB := hB.up (a0 := 17) (i0 := 8) (v := 22) (by decide)
  refine mm_w1 rfl ?_
  refine mm_wnew (n := 23) (sz := 6) (S' := [(7, 16), (100, 700), (100, 3), (4, 8), (100, 0), (2, 10), (100, 10), (100, 10), (100, 10), (100, 2), (100, 36), (5, 6), (100, 700), (100, 4), (100, 4), (100, 8), (100, 64), (2, 10), (100, 10), (100, 10), (100, 10), (100, 2), (100, 36), (5, 6)]) rfl rfl rfl (by decide) rfl rfl hB rfl (by decide) (fun hB => ?_)
  refine mm_w1 rfl ?_
  refine mm_wspK rfl (by decide) (by omega) rfl rfl ?_
  show mm_W _ _ 62 (mm_blk 62 0) [.ref 23] [] _ _
  refine mm_w1 rfl ?_
  refine mm_w1 rfl ?_
  refine mm_w1 rfl ?_
  refine mm_wv (vb_i 700) rfl (by decide) ?_
  refine mm_wnewI (n := 24) (S' := [(7, 16), (100, 700), (100, 3), (4, 8), (100, 0), (2, 10), (100, 10), (100, 10), (100, 10), (100, 2), (100, 36), (5, 6), (100, 700), (100, 4), (100, 4), (100, 8), (100, 64), (2, 10), (100, 10), (100, 10), (100, 10), (100, 2), (100, 36), (5, 6), (100, 700)]) rfl rfl (by decide) rfl rfl hB rfl (by decide) (fun hB => ?_)
  refine mm_wpr (a := 23) (ci := 5) (n := 6) rfl (by decide) (by decide) (by decide) ?_
  replace hB := hB.up (a0 := 23) (i0 := 0) (v := 24) (by decide)
  refine mm_w1 rfl ?_
  refine mm_wv (vb_i 0) rfl (by decide) ?_
  refine mm_wpi (a := 23) (ci := 5) (n := 6) rfl (by decide) (by decide) ?_
  refine mm_w1 rfl ?_
  refine mm_wv (vb_i 4) rfl (by decide) ?_
  refine mm_wnewI (n := 25) (S' := [(7, 16), (100, 700), (100, 3), (4, 8), (100, 0), (2, 10), (100, 10), (100, 10), (100, 10), (100, 2), (100, 36), (5, 6), (100, 700), (100, 4), (100, 4), (100, 8), (100, 64), (2, 10), (100, 10), (100, 10), (100, 10), (100, 2), (100, 36), (5, 6), (100, 700), (100, 4)]) rfl rfl (by decide) rfl rfl hB rfl (by decide) (fun hB => ?_)
  refine mm_wpr (a := 23) (ci := 5) (n := 6) rfl (by decide) (by decide) (by decide) ?_
  replace hB := hB.up (a0 := 23) (i0 := 2) (v := 25) (by decide)
  refine mm_w1 rfl ?_
  refine mm_wv (vb_i 4) rfl (by decide) ?_
  refine mm_wnewI (n := 26) (S' := [(7, 16), (100, 700), (100, 3), (4, 8), (100, 0), (2, 10), (100, 10), (100, 10), (100, 10), (100, 2), (100, 36), (5, 6), (100, 700), (100, 4), (100, 4), (100, 8), (100, 64), (2, 10), (100, 10), (100, 10), (100, 10), (100, 2), (100, 36), (5, 6), (100, 700), (100, 4), (100, 4)]) rfl rfl (by decide) rfl rfl hB rfl (by decide) (fun hB => ?_)
  refine mm_wpr (a := 23) (ci := 5) (n := 6) rfl (by decide) (by decide) (by decide) ?_
  replace hB := hB.up (a0 := 23) (i0 := 3) (v := 26) (by decide)
  refine mm_w1 rfl ?_
  refine mm_wv (vb_i 8) rfl (by decide) ?_
  refine mm_wnewI (n := 27) (S' := [(7, 16), (100, 700), (100, 3), (4, 8), (100, 0), (2, 10), (100, 10), (100, 10), (100, 10), (100, 2), (100, 36), (5, 6), (100, 700), (100, 4), (100, 4), (100, 8), (100, 64), (2, 10), (100, 10), (100, 10), (100, 10), (100, 2), (100, 36), (5, 6), (100, 700), (100, 4), (100, 4), (100, 8)]) rfl rfl (by decide) rfl rfl hB rfl (by decide) (fun hB => ?_)
  refine mm_wpr (a := 23) (ci := 5) (n := 6) rfl (by decide) (by decide) (by decide) ?_
  replace hB := hB.up (a0 := 23) (i0 := 4) (v := 27) (by decide)
  refine mm_w1 rfl ?_
  refine mm_wv (vb_i 64) rfl (by decide) ?_
  refine mm_wnewI (n := 28) (S' := [(7, 16), (100, 700), (100, 3), (4, 8), (100, 0), (2, 10), (100, 10), (100, 10), (100, 10), (100, 2), (100, 36), (5, 6), (100, 700), (100, 4), (100, 4), (100, 8), (100, 64), (2, 10), (100, 10), (100, 10), (100, 10), (100, 2), (100, 36), (5, 6), (100, 700), (100, 4), (100, 4), (100, 8), (100, 64)]) rfl rfl (by decide) rfl rfl hB rfl (by decide) (fun hB => ?_)
  refine mm_wpr (a := 23) (ci := 5) (n := 6) rfl (by decide) (by decide) (by decide) ?_
  replace hB := hB.up (a0 := 23) (i0 := 5) (v := 28) (by decide)
  refine mm_wr rfl rfl rfl ?_
  refine ⟨_, rfl, ?_⟩
  refine mm_wpr (a := 17) (ci := 2) (n := 10) rfl (by decide) (by decide) (by decide) ?_
  replace hB := hB.up (a0 := 17) (i0 := 9) (v := 23) (by decide)
  refine mm_wr rfl rfl rfl ?_
  refine ⟨_, rfl, ?_⟩
  refine mm_wpr (a := 0) (ci := 7) (n := 16) rfl (by decide) (by decide) (by decide) ?_
  replace hB := hB.up (a0 := 0) (i0 := 5) (v := 17) (by decide)
  refine mm_w1 rfl ?_
  refine mm_wnew (n := 29) (sz := 6) (S' := [(7, 16), (100, 700), (100, 3), (4, 8), (100, 0), (2, 10), (100, 10), (100, 10), (100, 10), (100, 2), (100, 36), (5, 6), (100, 700), (100, 4), (100, 4), (100, 8), (100, 64), (2, 10), (100, 10), (100, 10), (100, 10), (100, 2), (100, 36), (5, 6), (100, 700), (100, 4), (100, 4), (100, 8), (100, 64), (3, 6)]) rfl rfl rfl (by decide) rfl rfl hB rfl (by decide) (fun hB => ?_)
  refine mm_w1 rfl ?_
  refine mm_wspK rfl (by decide) (by omega) rfl rfl ?_
  show mm_W _ _ 29 (mm_blk 29 0) [.ref 29] [] _ _
  refine mm_w1 rfl ?_
  refine mm_w1 rfl ?_
  refine mm_w1 rfl ?_
  refine mm_wv (vb_i 2) rfl (by decide) ?_
  refine mm_wnewI (n := 30) (S' := [(7, 16), (100, 700), (100, 3), (4, 8), (100, 0), (2, 10), (100, 10), (100, 10), (100, 10), (100, 2), (100, 36), (5, 6), (100, 700), (100, 4), (100, 4), (100, 8), (100, 64), (2, 10), (100, 10), (100, 10), (100, 10), (100, 2), (100, 36), (5, 6), (100, 700), (100, 4), (100, 4), (100, 8), (100, 64), (3, 6), (100, 2)]) rfl rfl (by decide) rfl rfl hB rfl (by decide) (fun hB => ?_)
  refine mm_wpr (a := 29) (ci := 3) (n := 6) rfl (by decide) (by decide) (by decide) ?_
  replace hB := hB.up (a0 := 29) (i0 := 0) (v := 30) (by decide)
  refine mm_w1 rfl ?_
  refine mm_wv (vb_i 2) rfl (by decide) ?_
  refine mm_wnewI (n := 31) (S' := [(7, 16), (100, 700), (100, 3), (4, 8), (100, 0), (2, 10), (100, 10), (100, 10), (100, 10), (100, 2), (100, 36), (5, 6), (100, 700), (100, 4), (100, 4), (100, 8), (100, 64), (2, 10), (100, 10), (100, 10), (100, 10), (100, 2), (100, 36), (5, 6), (100, 700), (100, 4), (100, 4), (100, 8), (100, 64), (3, 6), (100, 2), (100, 2)]) rfl rfl (by decide) rfl rfl hB rfl (by decide) (fun hB => ?_)
  refine mm_wpr (a := 29) (ci := 3) (n := 6) rfl (by decide) (by decide) (by decide) ?_
  replace hB := hB.up (a0 := 29) (i0 := 1) (v := 31) (by decide)
  refine mm_w1 rfl ?_
  refine mm_wv (vb_i 2) rfl (by decide) ?_
  refine mm_wnewI (n := 32) (S' := [(7, 16), (100, 700), (100, 3), (4, 8), (100, 0), (2, 10), (100, 10), (100, 10), (100, 10), (100, 2), (100, 36), (5, 6), (100, 700), (100, 4), (100, 4), (100, 8), (100, 64), (2, 10), (100, 10), (100, 10), (100, 10), (100, 2), (100, 36), (5, 6), (100, 700), (100, 4), (100, 4), (100, 8), (100, 64), (3, 6), (100, 2), (100, 2), (100, 2)]) rfl rfl (by decide) rfl rfl hB rfl (by decide) (fun hB => ?_)
  refine mm_wpr (a := 29) (ci := 3) (n := 6) rfl (by decide) (by decide) (by decide) ?_
  replace hB := hB.up (a0 := 29) (i0 := 2) (v := 32) (by decide)
  refine mm_w1 rfl ?_
  refine mm_wv (vb_i 2) rfl (by decide) ?_
  refine mm_wnewI (n := 33) (S' := [(7, 16), (100, 700), (100, 3), (4, 8), (100, 0), (2, 10), (100, 10), (100, 10), (100, 10), (100, 2), (100, 36), (5, 6), (100, 700), (100, 4), (100, 4), (100, 8), (100, 64), (2, 10), (100, 10), (100, 10), (100, 10), (100, 2), (100, 36), (5, 6), (100, 700), (100, 4), (100, 4), (100, 8), (100, 64), (3, 6), (100, 2), (100, 2), (100, 2), (100, 2)]) rfl rfl (by decide) rfl rfl hB rfl (by decide) (fun hB => ?_)
  refine mm_w1 rfl ?_
  refine mm_wv (vb_i 0) rfl (by decide) ?_
  refine mm_wv (-1) rfl (by decide) ?_
  refine mm_wis (a := 33) (n := 2) (j := 0) rfl (by decide) (by decide) ?_
  refine mm_w1 rfl ?_
  refine mm_wv (vb_i 1) rfl (by decide) ?_
  refine mm_wv (-1) rfl (by decide) ?_
  refine mm_wis (a := 33) (n := 2) (j := 1) rfl (by decide) (by decide) ?_
  refine mm_wpr (a := 29) (ci := 3) (n := 6) rfl (by decide) (by decide) (by decide) ?_
  replace hB := hB.up (a0 := 29) (i0 := 3) (v := 33) (by decide)
  refine mm_w1 rfl ?_
  refine mm_wv (vb_i 20) rfl (by decide) ?_
  refine mm_wnewI (n := 34) (S' := [(7, 16), (100, 700), (100, 3), (4, 8), (100, 0), (2, 10), (100, 10), (100, 10), (100, 10), (100, 2), (100, 36), (5, 6), (100, 700), (100, 4), (100, 4), (100, 8), (100, 64), (2, 10), (100, 10), (100, 10), (100, 10), (100, 2), (100, 36), (5, 6), (100, 700), (100, 4), (100, 4), (100, 8), (100, 64), (3, 6), (100, 2), (100, 2), (100, 2), (100, 2), (100, 20)]) rfl rfl (by decide) rfl rfl hB rfl (by decide) (fun hB => ?_)
  refine mm_wpr (a := 29) (ci := 3) (n := 6) rfl (by decide) (by decide) (by decide) ?_
  replace hB := hB.up (a0 := 29) (i0 := 4) (v := 34) (by decide)
  refine mm_w1 rfl ?_
  refine mm_wv (vb_i 0) rfl (by decide) ?_
  refine mm_wpi (a := 29) (ci := 3) (n := 6) rfl (by decide) (by decide) ?_
  refine mm_wr rfl rfl rfl ?_
  refine ⟨_, rfl, ?_⟩
  refine mm_wpr (a := 0) (ci := 7) (n := 16) rfl (by decide) (by decide) (by decide) ?_
  replace hB := hB.up (a0 := 0) (i0 := 6) (v := 29) (by decide)
  refine mm_w1 rfl ?_
  refine mm_wnew (n := 35) (sz := 6) (S' := [(7, 16), (100, 700), (100, 3), (4, 8), (100, 0), (2, 10), (100, 10), (100, 10), (100, 10), (100, 2), (100, 36), (5, 6), (100, 700), (100, 4), (100, 4), (100, 8), (100, 64), (2, 10), (100, 10), (100, 10), (100, 10), (100, 2), (100, 36), (5, 6), (100, 700), (100, 4), (100, 4), (100, 8), (100, 64), (3, 6), (100, 2), (100, 2), (100, 2), (100, 2), (100, 20), (3, 6)]) rfl rfl rfl (by decide) rfl rfl hB rfl (by decide) (fun hB => ?_)
  refine mm_w1 rfl ?_
  refine mm_wspK rfl (by decide) (by omega) rfl rfl ?_
  show mm_W _ _ 29 (mm_blk 29 0) [.ref 35] [] _ _
  refine mm_w1 rfl ?_
  refine mm_w1 rfl ?_
  refine mm_w1 rfl ?_
  refine mm_wv (vb_i 2) rfl (by decide) ?_
  refine mm_wnewI (n := 36) (S' := [(7, 16), (100, 700), (100, 3), (4, 8), (100, 0), (2, 10), (100, 10), (100, 10), (100, 10), (100, 2), (100, 36), (5, 6), (100, 700), (100, 4), (100, 4), (100, 8), (100, 64), (2, 10), (100, 10), (100, 10), (100, 10), (100, 2), (100, 36), (5, 6), (100, 700), (100, 4), (100, 4), (100, 8), (100, 64), (3, 6), (100, 2), (100, 2), (100, 2), (100, 2), (100, 20), (3, 6), (100, 2)]) rfl rfl (by decide) rfl rfl hB rfl (by decide) (fun hB => ?_)
  refine mm_wpr (a := 35) (ci := 3) (n := 6) rfl (by decide) (by decide) (by decide) ?_
  replace hB := hB.up (a0 := 35) (i0 := 0) (v := 36) (by decide)
  refine mm_w1 rfl ?_
  refine mm_wv (vb_i 2) rfl (by decide) ?_
  refine mm_wnewI (n := 37) (S' := [(7, 16), (100, 700), (100, 3), (4, 8), (100, 0), (2, 10), (100, 10), (100, 10), (100, 10), (100, 2), (100, 36), (5, 6), (100, 700), (100, 4), (100, 4), (100, 8), (100, 64), (2, 10), (100, 10), (100, 10), (100, 10), (100, 2), (100, 36), (5, 6), (100, 700), (100, 4), (100, 4), (100, 8), (100, 64), (3, 6), (100, 2), (100, 2), (100, 2), (100, 2), (100, 20), (3, 6), (100, 2), (100, 2)]) rfl rfl (by decide) rfl rfl hB rfl (by decide) (fun hB => ?_)
  refine mm_wpr (a := 35) (ci := 3) (n := 6) rfl (by decide) (by decide) (by decide) ?_
  replace hB := hB.up (a0 := 35) (i0 := 1) (v := 37) (by decide)
  refine mm_w1 rfl ?_
  refine mm_wv (vb_i 2) rfl (by decide) ?_
  refine mm_wnewI (n := 38) (S' := [(7, 16), (100, 700), (100, 3), (4, 8), (100, 0), (2, 10), (100, 10), (100, 10), (100, 10), (100, 2), (100, 36), (5, 6), (100, 700), (100, 4), (100, 4), (100, 8), (100, 64), (2, 10), (100, 10), (100, 10), (100, 10), (100, 2), (100, 36), (5, 6), (100, 700), (100, 4), (100, 4), (100, 8), (100, 64), (3, 6), (100, 2), (100, 2), (100, 2), (100, 2), (100, 20), (3, 6), (100, 2), (100, 2), (100, 2)]) rfl rfl (by decide) rfl rfl hB rfl (by decide) (fun hB => ?_)
  refine mm_wpr (a := 35) (ci := 3) (n := 6) rfl (by decide) (by decide) (by decide) ?_
  replace hB := hB.up (a0 := 35) (i0 := 2) (v := 38) (by decide)
  refine mm_w1 rfl ?_
  refine mm_wv (vb_i 2) rfl (by decide) ?_
  refine mm_wnewI (n := 39) (S' := [(7, 16), (100, 700), (100, 3), (4, 8), (100, 0), (2, 10), (100, 10), (100, 10), (100, 10), (100, 2), (100, 36), (5, 6), (100, 700), (100, 4), (100, 4), (100, 8), (100, 64), (2, 10), (100, 10), (100, 10), (100, 10), (100, 2), (100, 36), (5, 6), (100, 700), (100, 4), (100, 4), (100, 8), (100, 64), (3, 6), (100, 2), (100, 2), (100, 2), (100, 2), (100, 20), (3, 6), (100, 2), (100, 2), (100, 2), (100, 2)]) rfl rfl (by decide) rfl rfl hB rfl (by decide) (fun hB => ?_)
  refine mm_w1 rfl ?_
  refine mm_wv (vb_i 0) rfl (by decide) ?_
  refine mm_wv (-1) rfl (by decide) ?_
  refine mm_wis (a := 39) (n := 2) (j := 0) rfl (by decide) (by decide) ?_
  refine mm_w1 rfl ?_
  refine mm_wv (vb_i 1) rfl (by decide) ?_
  refine mm_wv (-1) rfl (by decide) ?_
  refine mm_wis (a := 39) (n := 2) (j := 1) rfl (by decide) (by decide) ?_
  refine mm_wpr (a := 35) (ci := 3) (n := 6) rfl (by decide) (by decide) (by decide) ?_
  replace hB := hB.up (a0 := 35) (i0 := 3) (v := 39) (by decide)
  refine mm_w1 rfl ?_
  refine mm_wv (vb_i 20) rfl (by decide) ?_
  refine mm_wnewI (n := 40) (S' := [(7, 16), (100, 700), (100, 3), (4, 8), (100, 0), (2, 10), (100, 10), (100, 10), (100, 10), (100, 2), (100, 36), (5, 6), (100, 700), (100, 4), (100, 4), (100, 8), (100, 64), (2, 10), (100, 10), (100, 10), (100, 10), (100, 2), (100, 36), (5, 6), (100, 700), (100, 4), (100, 4), (100, 8), (100, 64), (3, 6), (100, 2), (100, 2), (100, 2), (100, 2), (100, 20), (3, 6), (100, 2), (100, 2), (100, 2), (100, 2), (100, 20)]) rfl rfl (by decide) rfl rfl hB rfl (by decide) (fun hB => ?_)
  refine mm_wpr (a := 35) (ci := 3) (n := 6) rfl (by decide) (by decide) (by decide) ?_
  replace hB := hB.up (a0 := 35) (i0 := 4) (v := 40) (by decide)
  refine mm_w1 rfl ?_
  refine mm_wv (vb_i 0) rfl (by decide) ?_
  refine mm_wpi (a := 35) (ci := 3) (n := 6) rfl (by decide) (by decide) ?_
  refine mm_wr rfl rfl rfl ?_
  refine ⟨_, rfl, ?_⟩
  refine mm_wpr (a := 0) (ci := 7) (n := 16) rfl (by decide) (by decide) (by decide) ?_
  replace hB := hB.up (a0 := 0) (i0 := 7) (v := 35) (by decide)
  refine mm_w1 rfl ?_
  refine mm_wnew (n := 41) (sz := 3) (S' := [(7, 16), (100, 700), (100, 3), (4, 8), (100, 0), (2, 10), (100, 10), (100, 10), (100, 10), (100, 2), (100, 36), (5, 6), (100, 700), (100, 4), (100, 4), (100, 8), (100, 64), (2, 10), (100, 10), (100, 10), (100, 10), (100, 2), (100, 36), (5, 6), (100, 700), (100, 4), (100, 4), (100, 8), (100, 64), (3, 6), (100, 2), (100, 2), (100, 2), (100, 2), (100, 20), (3, 6), (100, 2), (100, 2), (100, 2), (100, 2), (100, 20), (0, 3)]) rfl rfl rfl (by decide) rfl rfl hB rfl (by decide) (fun hB => ?_)
  refine mm_w1 rfl ?_
  refine mm_wspK rfl (by decide) (by omega) rfl rfl ?_
  show mm_W _ _ 1 (mm_blk 1 0) [.ref 41] [] _ _
  refine mm_w1 rfl ?_
  refine mm_w1 rfl ?_
  refine mm_w1 rfl ?_
  refine mm_wv (vb_i 1160) rfl (by decide) ?_
  refine mm_wnewI (n := 42) (S' := [(7, 16), (100, 700), (100, 3), (4, 8), (100, 0), (2, 10), (100, 10), (100, 10), (100, 10), (100, 2), (100, 36), (5, 6), (100, 700), (100, 4), (100, 4), (100, 8), (100, 64), (2, 10), (100, 10), (100, 10), (100, 10), (100, 2), (100, 36), (5, 6), (100, 700), (100, 4), (100, 4), (100, 8), (100, 64), (3, 6), (100, 2), (100, 2), (100, 2), (100, 2), (100, 20), (3, 6), (100, 2), (100, 2), (100, 2), (100, 2), (100, 20), (0, 3), (100, 1160)]) rfl rfl (by decide) rfl rfl hB rfl (by decide) (fun hB => ?_)
  refine mm_wpr (a := 41) (ci := 0) (n := 3) rfl (by decide) (by decide) (by decide) ?_
  replace hB := hB.up (a0 := 41) (i0 := 0) (v := 42) (by decide)
  refine mm_w1 rfl ?_
  refine mm_wv (vb_i 0) rfl (by decide) ?_
  refine mm_wpi (a := 41) (ci := 0) (n := 3) rfl (by decide) (by decide) ?_
  refine mm_w1 rfl ?_
  refine mm_wv (vb_i 0) rfl (by decide) ?_
  refine mm_wpi (a := 41) (ci := 0) (n := 3) rfl (by decide) (by decide) ?_
  refine mm_wr rfl rfl rfl ?_
  refine ⟨_, rfl, ?_⟩
  refine mm_wpr (a := 0) (ci := 7) (n := 16) rfl (by decide) (by decide) (by decide) ?_
  replace hB := hB.up (a0 := 0) (i0 := 8) (v := 41) (by decide)
  refine mm_w1 rfl ?_
  refine mm_wnew (n := 43) (sz := 3) (S' := [(7, 16), (100, 700), (100, 3), (4, 8), (100, 0), (2, 10), (100, 10), (100, 10), (100, 10), (100, 2), (100, 36), (5, 6), (100, 700), (100, 4), (100, 4), (100, 8), (100, 64), (2, 10), (100, 10), (100, 10), (100, 10), (100, 2), (100, 36), (5, 6), (100, 700), (100, 4), (100, 4), (100, 8), (100, 64), (3, 6), (100, 2), (100, 2), (100, 2), (100, 2), (100, 20), (3, 6), (100, 2), (100, 2), (100, 2), (100, 2), (100, 20), (0, 3), (100, 1160), (6, 3)]) rfl rfl rfl (by decide) rfl rfl hB rfl (by decide) (fun hB => ?_)
  refine mm_w1 rfl ?_
  refine mm_wspK rfl (by decide) (by omega) rfl rfl ?_
  show mm_W _ _ 69 (mm_blk 69 0) [.ref 43] [] _ _
  refine mm_w1 rfl ?_
  refine mm_w1 rfl ?_
  refine mm_w1 rfl ?_
  refine mm_wv (vb_i 6) rfl (by decide) ?_
  refine mm_wnewI (n := 44) (S' := [(7, 16), (100, 700), (100, 3), (4, 8), (100, 0), (2, 10), (100, 10), (100, 10), (100, 10), (100, 2), (100, 36), (5, 6), (100, 700), (100, 4), (100, 4), (100, 8), (100, 64), (2, 10), (100, 10), (100, 10), (100, 10), (100, 2), (100, 36), (5, 6), (100, 700), (100, 4), (100, 4), (100, 8), (100, 64), (3, 6), (100, 2), (100, 2), (100, 2), (100, 2), (100, 20), (3, 6), (100, 2), (100, 2), (100, 2), (100, 2), (100, 20), (0, 3), (100, 1160), (6, 3), (100, 6)]) rfl rfl (by decide) rfl rfl hB rfl (by decide) (fun hB => ?_)
  refine mm_wpr (a := 43) (ci := 6) (n := 3) rfl (by decide) (by decide) (by decide) ?_
  replace hB := hB.up (a0 := 43) (i0 := 0) (v := 44) (by decide)
  refine mm_w1 rfl ?_
  refine mm_wv (vb_i 6) rfl (by decide) ?_
  refine mm_wnewI (n := 45) (S' := [(7, 16), (100, 700), (100, 3), (4, 8), (100, 0), (2, 10), (100, 10), (100, 10), (100, 10), (100, 2), (100, 36), (5, 6), (100, 700), (100, 4), (100, 4), (100, 8), (100, 64), (2, 10), (100, 10), (100, 10), (100, 10), (100, 2), (100, 36), (5, 6), (100, 700), (100, 4), (100, 4), (100, 8), (100, 64), (3, 6), (100, 2), (100, 2), (100, 2), (100, 2), (100, 20), (3, 6), (100, 2), (100, 2), (100, 2), (100, 2), (100, 20), (0, 3), (100, 1160), (6, 3), (100, 6), (100, 6)]) rfl rfl (by decide) rfl rfl hB rfl (by decide) (fun hB => ?_)
  refine mm_wpr (a := 43) (ci := 6) (n := 3) rfl (by decide) (by decide) (by decide) ?_
  replace hB := hB.up (a0 := 43) (i0 := 1) (v := 45) (by decide)
  refine mm_w1 rfl ?_
  refine mm_wv (vb_i 0) rfl (by decide) ?_
  refine mm_wpi (a := 43) (ci := 6) (n := 3) rfl (by decide) (by decide) ?_
  refine mm_wr rfl rfl rfl ?_
  refine ⟨_, rfl, ?_⟩
  refine mm_wpr (a := 0) (ci := 7) (n := 16) rfl (by decide) (by decide) (by decide) ?_
  replace hB := hB.up (a0 := 0) (i0 := 9) (v := 43) (by decide)
  refine mm_w1 rfl ?_
  refine mm_wv (vb_i 0) rfl (by decide) ?_
  refine mm_wpz (a := 0) (ci := 7) (n := 16) rfl (by decide) (by decide) (Or.inl rfl) ?_
  refine mm_w1 rfl ?_
  refine mm_wnew (n := 46) (sz := 6) (S' := [(7, 16), (100, 700), (100, 3), (4, 8), (100, 0), (2, 10), (100, 10), (100, 10), (100, 10), (100, 2), (100, 36), (5, 6), (100, 700), (100, 4), (100, 4), (100, 8), (100, 64), (2, 10), (100, 10), (100, 10), (100, 10), (100, 2), (100, 36), (5, 6), (100, 700), (100, 4), (100, 4), (100, 8), (100, 64), (3, 6), (100, 2), (100, 2), (100, 2), (100, 2), (100, 20), (3, 6), (100, 2), (100, 2), (100, 2), (100, 2), (100, 20), (0, 3), (100, 1160), (6, 3), (100, 6), (100, 6), (3, 6)]) rfl rfl rfl (by decide) rfl rfl hB rfl (by decide) (fun hB => ?_)
  refine mm_w1 rfl ?_
  refine mm_wspK rfl (by decide) (by omega) rfl rfl ?_
  show mm_W _ _ 29 (mm_blk 29 0) [.ref 46] [] _ _
  refine mm_w1 rfl ?_
  refine mm_w1 rfl ?_
  refine mm_w1 rfl ?_
  refine mm_wv (vb_i 2) rfl (by decide) ?_
  refine mm_wnewI (n := 47) (S' := [(7, 16), (100, 700), (100, 3), (4, 8), (100, 0), (2, 10), (100, 10), (100, 10), (100, 10), (100, 2), (100, 36), (5, 6), (100, 700), (100, 4), (100, 4), (100, 8), (100, 64), (2, 10), (100, 10), (100, 10), (100, 10), (100, 2), (100, 36), (5, 6), (100, 700), (100, 4), (100, 4), (100, 8), (100, 64), (3, 6), (100, 2), (100, 2), (100, 2), (100, 2), (100, 20), (3, 6), (100, 2), (100, 2), (100, 2), (100, 2), (100, 20), (0, 3), (100, 1160), (6, 3), (100, 6), (100, 6), (3, 6), (100, 2)]) rfl rfl (by decide) rfl rfl hB rfl (by decide) (fun hB => ?_)
  refine mm_wpr (a := 46) (ci := 3) (n := 6) rfl (by decide) (by decide) (by decide) ?_
  replace hB := hB.up (a0 := 46) (i0 := 0) (v := 47) (by decide)
  refine mm_w1 rfl ?_
  refine mm_wv (vb_i 2) rfl (by decide) ?_
  refine mm_wnewI (n := 48) (S' := [(7, 16), (100, 700), (100, 3), (4, 8), (100, 0), (2, 10), (100, 10), (100, 10), (100, 10), (100, 2), (100, 36), (5, 6), (100, 700), (100, 4), (100, 4), (100, 8), (100, 64), (2, 10), (100, 10), (100, 10), (100, 10), (100, 2), (100, 36), (5, 6), (100, 700), (100, 4), (100, 4), (100, 8), (100, 64), (3, 6), (100, 2), (100, 2), (100, 2), (100, 2), (100, 20), (3, 6), (100, 2), (100, 2), (100, 2), (100, 2), (100, 20), (0, 3), (100, 1160), (6, 3), (100, 6), (100, 6), (3, 6), (100, 2), (100, 2)]) rfl rfl (by decide) rfl rfl hB rfl (by decide) (fun hB => ?_)
  refine mm_wpr (a := 46) (ci := 3) (n := 6) rfl (by decide) (by decide) (by decide) ?_
  replace hB := hB.up (a0 := 46) (i0 := 1) (v := 48) (by decide)
  refine mm_w1 rfl ?_
  refine mm_wv (vb_i 2) rfl (by decide) ?_
  refine mm_wnewI (n := 49) (S' := [(7, 16), (100, 700), (100, 3), (4, 8), (100, 0), (2, 10), (100, 10), (100, 10), (100, 10), (100, 2), (100, 36), (5, 6), (100, 700), (100, 4), (100, 4), (100, 8), (100, 64), (2, 10), (100, 10), (100, 10), (100, 10), (100, 2), (100, 36), (5, 6), (100, 700), (100, 4), (100, 4), (100, 8), (100, 64), (3, 6), (100, 2), (100, 2), (100, 2), (100, 2), (100, 20), (3, 6), (100, 2), (100, 2), (100, 2), (100, 2), (100, 20), (0, 3), (100, 1160), (6, 3), (100, 6), (100, 6), (3, 6), (100, 2), (100, 2), (100, 2)]) rfl rfl (by decide) rfl rfl hB rfl (by decide) (fun hB => ?_)
  refine mm_wpr (a := 46) (ci := 3) (n := 6) rfl (by decide) (by decide) (by decide) ?_
  replace hB := hB.up (a0 := 46) (i0 := 2) (v := 49) (by decide)
  refine mm_w1 rfl ?_
  refine mm_wv (vb_i 2) rfl (by decide) ?_
  refine mm_wnewI (n := 50) (S' := [(7, 16), (100, 700), (100, 3), (4, 8), (100, 0), (2, 10), (100, 10), (100, 10), (100, 10), (100, 2), (100, 36), (5, 6), (100, 700), (100, 4), (100, 4), (100, 8), (100, 64), (2, 10), (100, 10), (100, 10), (100, 10), (100, 2), (100, 36), (5, 6), (100, 700), (100, 4), (100, 4), (100, 8), (100, 64), (3, 6), (100, 2), (100, 2), (100, 2), (100, 2), (100, 20), (3, 6), (100, 2), (100, 2), (100, 2), (100, 2), (100, 20), (0, 3), (100, 1160), (6, 3), (100, 6), (100, 6), (3, 6), (100, 2), (100, 2), (100, 2), (100, 2)]) rfl rfl (by decide) rfl rfl hB rfl (by decide) (fun hB => ?_)
  refine mm_w1 rfl ?_
  refine mm_wv (vb_i 0) rfl (by decide) ?_
  refine mm_wv (-1) rfl (by decide) ?_
  refine mm_wis (a := 50) (n := 2) (j := 0) rfl (by decide) (by decide) ?_
  refine mm_w1 rfl ?_
  refine mm_wv (vb_i 1) rfl (by decide) ?_
  refine mm_wv (-1) rfl (by decide) ?_
  refine mm_wis (a := 50) (n := 2) (j := 1) rfl (by decide) (by decide) ?_
  refine mm_wpr (a := 46) (ci := 3) (n := 6) rfl (by decide) (by decide) (by decide) ?_
  replace hB := hB.up (a0 := 46) (i0 := 3) (v := 50) (by decide)
  refine mm_w1 rfl ?_
  refine mm_wv (vb_i 20) rfl (by decide) ?_
  refine mm_wnewI (n := 51) (S' := [(7, 16), (100, 700), (100, 3), (4, 8), (100, 0), (2, 10), (100, 10), (100, 10), (100, 10), (100, 2), (100, 36), (5, 6), (100, 700), (100, 4), (100, 4), (100, 8), (100, 64), (2, 10), (100, 10), (100, 10), (100, 10), (100, 2), (100, 36), (5, 6), (100, 700), (100, 4), (100, 4), (100, 8), (100, 64), (3, 6), (100, 2), (100, 2), (100, 2), (100, 2), (100, 20), (3, 6), (100, 2), (100, 2), (100, 2), (100, 2), (100, 20), (0, 3), (100, 1160), (6, 3), (100, 6), (100, 6), (3, 6), (100, 2), (100, 2), (100, 2), (100, 2), (100, 20)]) rfl rfl (by decide) rfl rfl hB rfl (by decide) (fun hB => ?_)
  refine mm_wpr (a := 46) (ci := 3) (n := 6) rfl (by decide) (by decide) (by decide) ?_
  replace hB := hB.up (a0 := 46) (i0 := 4) (v := 51) (by decide)
  refine mm_w1 rfl ?_
  refine mm_wv (vb_i 0) rfl (by decide) ?_
  refine mm_wpi (a := 46) (ci := 3) (n := 6) rfl (by decide) (by decide) ?_
  refine mm_wr rfl rfl rfl ?_
  refine ⟨_, rfl, ?_⟩
  refine mm_wpr (a := 0) (ci := 7) (n := 16) rfl (by decide) (by decide) (by decide) ?_
  replace hB := hB.up (a0 := 0) (i0 := 11) (v := 46) (by decide)
  refine mm_w1 rfl ?_
  refine mm_wnew (n := 52) (sz := 3) (S' := [(7, 16), (100, 700), (100, 3), (4, 8), (100, 0), (2, 10), (100, 10), (100, 10), (100, 10), (100, 2), (100, 36), (5, 6), (100, 700), (100, 4), (100, 4), (100, 8), (100, 64), (2, 10), (100, 10), (100, 10), (100, 10), (100, 2), (100, 36), (5, 6), (100, 700), (100, 4), (100, 4), (100, 8), (100, 64), (3, 6), (100, 2), (100, 2), (100, 2), (100, 2), (100, 20), (3, 6), (100, 2), (100, 2), (100, 2), (100, 2), (100, 20), (0, 3), (100, 1160), (6, 3), (100, 6), (100, 6), (3, 6), (100, 2), (100, 2), (100, 2), (100, 2), (100, 20), (0, 3)]) rfl rfl rfl (by decide) rfl rfl hB rfl (by decide) (fun hB => ?_)
  refine mm_w1 rfl ?_
  refine mm_wspK rfl (by decide) (by omega) rfl rfl ?_
  show mm_W _ _ 1 (mm_blk 1 0) [.ref 52] [] _ _
  refine mm_w1 rfl ?_
  refine mm_w1 rfl ?_
  refine mm_w1 rfl ?_
  refine mm_wv (vb_i 1160) rfl (by decide) ?_
  refine mm_wnewI (n := 53) (S' := [(7, 16), (100, 700), (100, 3), (4, 8), (100, 0), (2, 10), (100, 10), (100, 10), (100, 10), (100, 2), (100, 36), (5, 6), (100, 700), (100, 4), (100, 4), (100, 8), (100, 64), (2, 10), (100, 10), (100, 10), (100, 10), (100, 2), (100, 36), (5, 6), (100, 700), (100, 4), (100, 4), (100, 8), (100, 64), (3, 6), (100, 2), (100, 2), (100, 2), (100, 2), (100, 20), (3, 6), (100, 2), (100, 2), (100, 2), (100, 2), (100, 20), (0, 3), (100, 1160), (6, 3), (100, 6), (100, 6), (3, 6), (100, 2), (100, 2), (100, 2), (100, 2), (100, 20), (0, 3), (100, 1160)]) rfl rfl (by decide) rfl rfl hB rfl (by decide) (fun hB => ?_)
  refine mm_wpr (a := 52) (ci := 0) (n := 3) rfl (by decide) (by decide) (by decide) ?_
  replace hB := hB.up (a0 := 52) (i0 := 0) (v := 53) (by decide)
  refine mm_w1 rfl ?_
  refine mm_wv (vb_i 0) rfl (by decide) ?_
  refine mm_wpi (a := 52) (ci := 0) (n := 3) rfl (by decide) (by decide) ?_
  refine mm_w1 rfl ?_
  refine mm_wv (vb_i 0) rfl (by decide) ?_
  refine mm_wpi (a := 52) (ci := 0) (n := 3) rfl (by decide) (by decide) ?_
  refine mm_wr rfl rfl rfl ?_
  refine ⟨_, rfl, ?_⟩
  refine mm_wpr (a := 0) (ci := 7) (n := 16) rfl (by decide) (by decide) (by decide) ?_
  replace hB := hB.up (a0 := 0) (i0 := 12) (v := 52) (by decide)
  refine mm_w1 rfl ?_
  refine mm_wnew (n := 54) (sz := 3) (S' := [(7, 16), (100, 700), (100, 3), (4, 8), (100, 0), (2, 10), (100, 10), (100, 10), (100, 10), (100, 2), (100, 36), (5, 6), (100, 700), (100, 4), (100, 4), (100, 8), (100, 64), (2, 10), (100, 10), (100, 10), (100, 10), (100, 2), (100, 36), (5, 6), (100, 700), (100, 4), (100, 4), (100, 8), (100, 64), (3, 6), (100, 2), (100, 2), (100, 2), (100, 2), (100, 20), (3, 6), (100, 2), (100, 2), (100, 2), (100, 2), (100, 20), (0, 3), (100, 1160), (6, 3), (100, 6), (100, 6), (3, 6), (100, 2), (100, 2), (100, 2), (100, 2), (100, 20), (0, 3), (100, 1160), (6, 3)]) rfl rfl rfl (by decide) rfl rfl hB rfl (by decide) (fun hB => ?_)
  refine mm_w1 rfl ?_
  refine mm_wspK rfl (by decide) (by omega) rfl rfl ?_
  show mm_W _ _ 69 (mm_blk 69 0) [.ref 54] [] _ _
  refine mm_w1 rfl ?_
  refine mm_w1 rfl ?_
  refine mm_w1 rfl ?_
  refine mm_wv (vb_i 6) rfl (by decide) ?_
  refine mm_wnewI (n := 55) (S' := [(7, 16), (100, 700), (100, 3), (4, 8), (100, 0), (2, 10), (100, 10), (100, 10), (100, 10), (100, 2), (100, 36), (5, 6), (100, 700), (100, 4), (100, 4), (100, 8), (100, 64), (2, 10), (100, 10), (100, 10), (100, 10), (100, 2), (100, 36), (5, 6), (100, 700), (100, 4), (100, 4), (100, 8), (100, 64), (3, 6), (100, 2), (100, 2), (100, 2), (100, 2), (100, 20), (3, 6), (100, 2), (100, 2), (100, 2), (100, 2), (100, 20), (0, 3), (100, 1160), (6, 3), (100, 6), (100, 6), (3, 6), (100, 2), (100, 2), (100, 2), (100, 2), (100, 20), (0, 3), (100, 1160), (6, 3), (100, 6)]) rfl rfl (by decide) rfl rfl hB rfl (by decide) (fun hB => ?_)
  refine mm_wpr (a := 54) (ci := 6) (n := 3) rfl (by decide) (by decide) (by decide) ?_
  replace hB := hB.up (a0 := 54) (i0 := 0) (v := 55) (by decide)
  refine mm_w1 rfl ?_
  refine mm_wv (vb_i 6) rfl (by decide) ?_
  refine mm_wnewI (n := 56) (S' := [(7, 16), (100, 700), (100, 3), (4, 8), (100, 0), (2, 10), (100, 10), (100, 10), (100, 10), (100, 2), (100, 36), (5, 6), (100, 700), (100, 4), (100, 4), (100, 8), (100, 64), (2, 10), (100, 10), (100, 10), (100, 10), (100, 2), (100, 36), (5, 6), (100, 700), (100, 4), (100, 4), (100, 8), (100, 64), (3, 6), (100, 2), (100, 2), (100, 2), (100, 2), (100, 20), (3, 6), (100, 2), (100, 2), (100, 2), (100, 2), (100, 20), (0, 3), (100, 1160), (6, 3), (100, 6), (100, 6), (3, 6), (100, 2), (100, 2), (100, 2), (100, 2), (100, 20), (0, 3), (100, 1160), (6, 3), (100, 6), (100, 6)]) rfl rfl (by decide) rfl rfl hB rfl (by decide) (fun hB => ?_)
  refine mm_wpr (a := 54) (ci := 6) (n := 3) rfl (by decide) (by decide) (by decide) ?_
  replace hB := hB.up (a0 := 54) (i0 := 1) (v := 56) (by decide)
  refine mm_w1 rfl ?_
  refine mm_wv (vb_i 0) rfl (by decide) ?_
  refine mm_wpi (a := 54) (ci := 6) (n := 3) rfl (by decide) (by decide) ?_
  refine mm_wr rfl rfl rfl ?_
  refine ⟨_, rfl, ?_⟩
  refine mm_wpr (a := 0) (ci := 7) (n := 16) rfl (by decide) (by decide) (by decide) ?_
  replace hB := hB.up (a0 := 0) (i0 := 13) (v := 54) (by decide)
  refine mm_w1 rfl ?_
  refine mm_wnew (n := 57) (sz := 3) (S' := [(7, 16), (100, 700), (100, 3), (4, 8), (100, 0), (2, 10), (100, 10), (100, 10), (100, 10), (100, 2), (100, 36), (5, 6), (100, 700), (100, 4), (100, 4), (100, 8), (100, 64), (2, 10), (100, 10), (100, 10), (100, 10), (100, 2), (100, 36), (5, 6), (100, 700), (100, 4), (100, 4), (100, 8), (100, 64), (3, 6), (100, 2), (100, 2), (100, 2), (100, 2), (100, 20), (3, 6), (100, 2), (100, 2), (100, 2), (100, 2), (100, 20), (0, 3), (100, 1160), (6, 3), (100, 6), (100, 6), (3, 6), (100, 2), (100, 2), (100, 2), (100, 2), (100, 20), (0, 3), (100, 1160), (6, 3), (100, 6), (100, 6), (1, 3)]) rfl rfl rfl (by decide) rfl rfl hB rfl (by decide) (fun hB => ?_)
  refine mm_w1 rfl ?_
  refine mm_wspK rfl (by decide) (by omega) rfl rfl ?_
  show mm_W _ _ 6 (mm_blk 6 0) [.ref 57] [] _ _
  refine mm_w1 rfl ?_
  refine mm_w1 rfl ?_
  refine mm_w1 rfl ?_
  refine mm_wv (vb_i 270) rfl (by decide) ?_
  refine mm_wnewI (n := 58) (S' := [(7, 16), (100, 700), (100, 3), (4, 8), (100, 0), (2, 10), (100, 10), (100, 10), (100, 10), (100, 2), (100, 36), (5, 6), (100, 700), (100, 4), (100, 4), (100, 8), (100, 64), (2, 10), (100, 10), (100, 10), (100, 10), (100, 2), (100, 36), (5, 6), (100, 700), (100, 4), (100, 4), (100, 8), (100, 64), (3, 6), (100, 2), (100, 2), (100, 2), (100, 2), (100, 20), (3, 6), (100, 2), (100, 2), (100, 2), (100, 2), (100, 20), (0, 3), (100, 1160), (6, 3), (100, 6), (100, 6), (3, 6), (100, 2), (100, 2), (100, 2), (100, 2), (100, 20), (0, 3), (100, 1160), (6, 3), (100, 6), (100, 6), (1, 3), (100, 270)]) rfl rfl (by decide) rfl rfl hB rfl (by decide) (fun hB => ?_)
  refine mm_wpr (a := 57) (ci := 1) (n := 3) rfl (by decide) (by decide) (by decide) ?_
  replace hB := hB.up (a0 := 57) (i0 := 0) (v := 58) (by decide)
  refine mm_w1 rfl ?_
  refine mm_wv (vb_i 0) rfl (by decide) ?_
  refine mm_wpi (a := 57) (ci := 1) (n := 3) rfl (by decide) (by decide) ?_
  refine mm_w1 rfl ?_
  refine mm_wv (-1) rfl (by decide) ?_
  refine mm_wpi (a := 57) (ci := 1) (n := 3) rfl (by decide) (by decide) ?_
  refine mm_wr rfl rfl rfl ?_
  refine ⟨_, rfl, ?_⟩
  refine mm_wpr (a := 0) (ci := 7) (n := 16) rfl (by decide) (by decide) (by decide) ?_
  replace hB := hB.up (a0 := 0) (i0 := 14) (v := 57) (by decide)
  refine mm_w1 rfl ?_
  refine mm_wv (vb_i 8) rfl (by decide) ?_
  refine mm_wnewI (n := 59) (S' := [(7, 16), (100, 700), (100, 3), (4, 8), (100, 0), (2, 10), (100, 10), (100, 10), (100, 10), (100, 2), (100, 36), (5, 6), (100, 700), (100, 4), (100, 4), (100, 8), (100, 64), (2, 10), (100, 10), (100, 10), (100, 10), (100, 2), (100, 36), (5, 6), (100, 700), (100, 4), (100, 4), (100, 8), (100, 64), (3, 6), (100, 2), (100, 2), (100, 2), (100, 2), (100, 20), (3, 6), (100, 2), (100, 2), (100, 2), (100, 2), (100, 20), (0, 3), (100, 1160), (6, 3), (100, 6), (100, 6), (3, 6), (100, 2), (100, 2), (100, 2), (100, 2), (100, 20), (0, 3), (100, 1160), (6, 3), (100, 6), (100, 6), (1, 3), (100, 270), (100, 8)]) rfl rfl (by decide) rfl rfl hB rfl (by decide) (fun hB => ?_)
  refine mm_wpr (a := 0) (ci := 7) (n := 16) rfl (by decide) (by decide) (by decide) ?_
  replace hB := hB.up (a0 := 0) (i0 := 15) (v := 59) (by decide)
  refine mm_wr rfl rfl rfl ?_
  refine ⟨_, rfl, ?_⟩
  refine mm_w1 (ls' := [_, _, _, _, _, _, _]) rfl ?_
  refine mm_wnew (n := 60) (sz := 55) (S' := [(7, 16), (100, 700), (100, 3), (4, 8), (100, 0), (2, 10), (100, 10), (100, 10), (100, 10), (100, 2), (100, 36), (5, 6), (100, 700), (100, 4), (100, 4), (100, 8), (100, 64), (2, 10), (100, 10), (100, 10), (100, 10), (100, 2), (100, 36), (5, 6), (100, 700), (100, 4), (100, 4), (100, 8), (100, 64), (3, 6), (100, 2), (100, 2), (100, 2), (100, 2), (100, 20), (3, 6), (100, 2), (100, 2), (100, 2), (100, 2), (100, 20), (0, 3), (100, 1160), (6, 3), (100, 6), (100, 6), (3, 6), (100, 2), (100, 2), (100, 2), (100, 2), (100, 20), (0, 3), (100, 1160), (6, 3), (100, 6), (100, 6), (1, 3), (100, 270), (100, 8), (8, 55)]) rfl rfl rfl (by decide) rfl rfl hB rfl (by decide) (fun hB => ?_)
  refine mm_w1 rfl ?_
  refine mm_wspK rfl (by decide) (by omega) rfl rfl ?_
  show mm_W _ _ 135 (mm_blk 135 0) [.ref 60] [] _ _
  refine mm_w1 rfl ?_
  refine mm_w1 rfl ?_
  refine mm_w1 rfl ?_
  refine mm_wv (-1) rfl (by decide) ?_
  refine mm_wpi (a := 60) (ci := 8) (n := 55) rfl (by decide) (by decide) ?_
  refine mm_w1 rfl ?_
  refine mm_wv (vb_i 10) rfl (by decide) ?_
  refine mm_wnewI (n := 61) (S' := [(7, 16), (100, 700), (100, 3), (4, 8), (100, 0), (2, 10), (100, 10), (100, 10), (100, 10), (100, 2), (100, 36), (5, 6), (100, 700), (100, 4), (100, 4), (100, 8), (100, 64), (2, 10), (100, 10), (100, 10), (100, 10), (100, 2), (100, 36), (5, 6), (100, 700), (100, 4), (100, 4), (100, 8), (100, 64), (3, 6), (100, 2), (100, 2), (100, 2), (100, 2), (100, 20), (3, 6), (100, 2), (100, 2), (100, 2), (100, 2), (100, 20), (0, 3), (100, 1160), (6, 3), (100, 6), (100, 6), (3, 6), (100, 2), (100, 2), (100, 2), (100, 2), (100, 20), (0, 3), (100, 1160), (6, 3), (100, 6), (100, 6), (1, 3), (100, 270), (100, 8), (8, 55), (100, 10)]) rfl rfl (by decide) rfl rfl hB rfl (by decide) (fun hB => ?_)
  refine mm_wpr (a := 60) (ci := 8) (n := 55) rfl (by decide) (by decide) (by decide) ?_
  replace hB := hB.up (a0 := 60) (i0 := 5) (v := 61) (by decide)
  refine mm_w1 rfl ?_
  refine mm_wv (vb_i 10) rfl (by decide) ?_
  refine mm_wnewI (n := 62) (S' := [(7, 16), (100, 700), (100, 3), (4, 8), (100, 0), (2, 10), (100, 10), (100, 10), (100, 10), (100, 2), (100, 36), (5, 6), (100, 700), (100, 4), (100, 4), (100, 8), (100, 64), (2, 10), (100, 10), (100, 10), (100, 10), (100, 2), (100, 36), (5, 6), (100, 700), (100, 4), (100, 4), (100, 8), (100, 64), (3, 6), (100, 2), (100, 2), (100, 2), (100, 2), (100, 20), (3, 6), (100, 2), (100, 2), (100, 2), (100, 2), (100, 20), (0, 3), (100, 1160), (6, 3), (100, 6), (100, 6), (3, 6), (100, 2), (100, 2), (100, 2), (100, 2), (100, 20), (0, 3), (100, 1160), (6, 3), (100, 6), (100, 6), (1, 3), (100, 270), (100, 8), (8, 55), (100, 10), (100, 10)]) rfl rfl (by decide) rfl rfl hB rfl (by decide) (fun hB => ?_)
  refine mm_wpr (a := 60) (ci := 8) (n := 55) rfl (by decide) (by decide) (by decide) ?_
  replace hB := hB.up (a0 := 60) (i0 := 6) (v := 62) (by decide)
  refine mm_w1 rfl ?_
  refine mm_wv (vb_i 3) rfl (by decide) ?_
  refine mm_wnewI (n := 63) (S' := [(7, 16), (100, 700), (100, 3), (4, 8), (100, 0), (2, 10), (100, 10), (100, 10), (100, 10), (100, 2), (100, 36), (5, 6), (100, 700), (100, 4), (100, 4), (100, 8), (100, 64), (2, 10), (100, 10), (100, 10), (100, 10), (100, 2), (100, 36), (5, 6), (100, 700), (100, 4), (100, 4), (100, 8), (100, 64), (3, 6), (100, 2), (100, 2), (100, 2), (100, 2), (100, 20), (3, 6), (100, 2), (100, 2), (100, 2), (100, 2), (100, 20), (0, 3), (100, 1160), (6, 3), (100, 6), (100, 6), (3, 6), (100, 2), (100, 2), (100, 2), (100, 2), (100, 20), (0, 3), (100, 1160), (6, 3), (100, 6), (100, 6), (1, 3), (100, 270), (100, 8), (8, 55), (100, 10), (100, 10), (100, 3)]) rfl rfl (by decide) rfl rfl hB rfl (by decide) (fun hB => ?_)
  refine mm_wpr (a := 60) (ci := 8) (n := 55) rfl (by decide) (by decide) (by decide) ?_
  replace hB := hB.up (a0 := 60) (i0 := 7) (v := 63) (by decide)
  refine mm_w1 rfl ?_
  refine mm_wv (vb_i 2800) rfl (by decide) ?_
  refine mm_wnewI (n := 64) (S' := [(7, 16), (100, 700), (100, 3), (4, 8), (100, 0), (2, 10), (100, 10), (100, 10), (100, 10), (100, 2), (100, 36), (5, 6), (100, 700), (100, 4), (100, 4), (100, 8), (100, 64), (2, 10), (100, 10), (100, 10), (100, 10), (100, 2), (100, 36), (5, 6), (100, 700), (100, 4), (100, 4), (100, 8), (100, 64), (3, 6), (100, 2), (100, 2), (100, 2), (100, 2), (100, 20), (3, 6), (100, 2), (100, 2), (100, 2), (100, 2), (100, 20), (0, 3), (100, 1160), (6, 3), (100, 6), (100, 6), (3, 6), (100, 2), (100, 2), (100, 2), (100, 2), (100, 20), (0, 3), (100, 1160), (6, 3), (100, 6), (100, 6), (1, 3), (100, 270), (100, 8), (8, 55), (100, 10), (100, 10), (100, 3), (100, 2800)]) rfl rfl (by decide) rfl rfl hB rfl (by decide) (fun hB => ?_)
  refine mm_wpr (a := 60) (ci := 8) (n := 55) rfl (by decide) (by decide) (by decide) ?_
  replace hB := hB.up (a0 := 60) (i0 := 8) (v := 64) (by decide)
  refine mm_w1 rfl ?_
  refine mm_wv (vb_i 100) rfl (by decide) ?_
  refine mm_wnewZ (n := 65) (S' := [(7, 16), (100, 700), (100, 3), (4, 8), (100, 0), (2, 10), (100, 10), (100, 10), (100, 10), (100, 2), (100, 36), (5, 6), (100, 700), (100, 4), (100, 4), (100, 8), (100, 64), (2, 10), (100, 10), (100, 10), (100, 10), (100, 2), (100, 36), (5, 6), (100, 700), (100, 4), (100, 4), (100, 8), (100, 64), (3, 6), (100, 2), (100, 2), (100, 2), (100, 2), (100, 20), (3, 6), (100, 2), (100, 2), (100, 2), (100, 2), (100, 20), (0, 3), (100, 1160), (6, 3), (100, 6), (100, 6), (3, 6), (100, 2), (100, 2), (100, 2), (100, 2), (100, 20), (0, 3), (100, 1160), (6, 3), (100, 6), (100, 6), (1, 3), (100, 270), (100, 8), (8, 55), (100, 10), (100, 10), (100, 3), (100, 2800), (101, 100)]) rfl rfl (by decide) rfl rfl hB rfl (by decide) (fun hB => ?_)
  refine mm_wpr (a := 60) (ci := 8) (n := 55) rfl (by decide) (by decide) (by decide) ?_
  replace hB := hB.up (a0 := 60) (i0 := 9) (v := 65) (by decide)
  refine mm_w1 rfl ?_
  refine mm_wv (vb_i 700) rfl (by decide) ?_
  refine mm_wnewI (n := 66) (S' := [(7, 16), (100, 700), (100, 3), (4, 8), (100, 0), (2, 10), (100, 10), (100, 10), (100, 10), (100, 2), (100, 36), (5, 6), (100, 700), (100, 4), (100, 4), (100, 8), (100, 64), (2, 10), (100, 10), (100, 10), (100, 10), (100, 2), (100, 36), (5, 6), (100, 700), (100, 4), (100, 4), (100, 8), (100, 64), (3, 6), (100, 2), (100, 2), (100, 2), (100, 2), (100, 20), (3, 6), (100, 2), (100, 2), (100, 2), (100, 2), (100, 20), (0, 3), (100, 1160), (6, 3), (100, 6), (100, 6), (3, 6), (100, 2), (100, 2), (100, 2), (100, 2), (100, 20), (0, 3), (100, 1160), (6, 3), (100, 6), (100, 6), (1, 3), (100, 270), (100, 8), (8, 55), (100, 10), (100, 10), (100, 3), (100, 2800), (101, 100), (100, 700)]) rfl rfl (by decide) rfl rfl hB rfl (by decide) (fun hB => ?_)
  refine mm_wpr (a := 60) (ci := 8) (n := 55) rfl (by decide) (by decide) (by decide) ?_
  replace hB := hB.up (a0 := 60) (i0 := 10) (v := 66) (by decide)
  refine mm_w1 rfl ?_
  refine mm_wv (-1) rfl (by decide) ?_
  refine mm_wpi (a := 60) (ci := 8) (n := 55) rfl (by decide) (by decide) ?_
  refine mm_w1 rfl ?_
  refine mm_wv (vb_i 3) rfl (by decide) ?_
  refine mm_wnewI (n := 67) (S' := [(7, 16), (100, 700), (100, 3), (4, 8), (100, 0), (2, 10), (100, 10), (100, 10), (100, 10), (100, 2), (100, 36), (5, 6), (100, 700), (100, 4), (100, 4), (100, 8), (100, 64), (2, 10), (100, 10), (100, 10), (100, 10), (100, 2), (100, 36), (5, 6), (100, 700), (100, 4), (100, 4), (100, 8), (100, 64), (3, 6), (100, 2), (100, 2), (100, 2), (100, 2), (100, 20), (3, 6), (100, 2), (100, 2), (100, 2), (100, 2), (100, 20), (0, 3), (100, 1160), (6, 3), (100, 6), (100, 6), (3, 6), (100, 2), (100, 2), (100, 2), (100, 2), (100, 20), (0, 3), (100, 1160), (6, 3), (100, 6), (100, 6), (1, 3), (100, 270), (100, 8), (8, 55), (100, 10), (100, 10), (100, 3), (100, 2800), (101, 100), (100, 700), (100, 3)]) rfl rfl (by decide) rfl rfl hB rfl (by decide) (fun hB => ?_)
  refine mm_wpr (a := 60) (ci := 8) (n := 55) rfl (by decide) (by decide) (by decide) ?_
  replace hB := hB.up (a0 := 60) (i0 := 14) (v := 67) (by decide)
  refine mm_w1 rfl ?_
  refine mm_wv (vb_i 10) rfl (by decide) ?_
  refine mm_wnewI (n := 68) (S' := [(7, 16), (100, 700), (100, 3), (4, 8), (100, 0), (2, 10), (100, 10), (100, 10), (100, 10), (100, 2), (100, 36), (5, 6), (100, 700), (100, 4), (100, 4), (100, 8), (100, 64), (2, 10), (100, 10), (100, 10), (100, 10), (100, 2), (100, 36), (5, 6), (100, 700), (100, 4), (100, 4), (100, 8), (100, 64), (3, 6), (100, 2), (100, 2), (100, 2), (100, 2), (100, 20), (3, 6), (100, 2), (100, 2), (100, 2), (100, 2), (100, 20), (0, 3), (100, 1160), (6, 3), (100, 6), (100, 6), (3, 6), (100, 2), (100, 2), (100, 2), (100, 2), (100, 20), (0, 3), (100, 1160), (6, 3), (100, 6), (100, 6), (1, 3), (100, 270), (100, 8), (8, 55), (100, 10), (100, 10), (100, 3), (100, 2800), (101, 100), (100, 700), (100, 3), (100, 10)]) rfl rfl (by decide) rfl rfl hB rfl (by decide) (fun hB => ?_)
  refine mm_wpr (a := 60) (ci := 8) (n := 55) rfl (by decide) (by decide) (by decide) ?_
  replace hB := hB.up (a0 := 60) (i0 := 30) (v := 68) (by decide)
  refine mm_w1 rfl ?_
  refine mm_wv (vb_i 10) rfl (by decide) ?_
  refine mm_wnewI (n := 69) (S' := [(7, 16), (100, 700), (100, 3), (4, 8), (100, 0), (2, 10), (100, 10), (100, 10), (100, 10), (100, 2), (100, 36), (5, 6), (100, 700), (100, 4), (100, 4), (100, 8), (100, 64), (2, 10), (100, 10), (100, 10), (100, 10), (100, 2), (100, 36), (5, 6), (100, 700), (100, 4), (100, 4), (100, 8), (100, 64), (3, 6), (100, 2), (100, 2), (100, 2), (100, 2), (100, 20), (3, 6), (100, 2), (100, 2), (100, 2), (100, 2), (100, 20), (0, 3), (100, 1160), (6, 3), (100, 6), (100, 6), (3, 6), (100, 2), (100, 2), (100, 2), (100, 2), (100, 20), (0, 3), (100, 1160), (6, 3), (100, 6), (100, 6), (1, 3), (100, 270), (100, 8), (8, 55), (100, 10), (100, 10), (100, 3), (100, 2800), (101, 100), (100, 700), (100, 3), (100, 10), (100, 10)]) rfl rfl (by decide) rfl rfl hB rfl (by decide) (fun hB => ?_)
  refine mm_wpr (a := 60) (ci := 8) (n := 55) rfl (by decide) (by decide) (by decide) ?_
  replace hB := hB.up (a0 := 60) (i0 := 31) (v := 69) (by decide)
  refine mm_w1 rfl ?_
  refine mm_wv (vb_i 10) rfl (by decide) ?_
  refine mm_wnewI (n := 70) (S' := [(7, 16), (100, 700), (100, 3), (4, 8), (100, 0), (2, 10), (100, 10), (100, 10), (100, 10), (100, 2), (100, 36), (5, 6), (100, 700), (100, 4), (100, 4), (100, 8), (100, 64), (2, 10), (100, 10), (100, 10), (100, 10), (100, 2), (100, 36), (5, 6), (100, 700), (100, 4), (100, 4), (100, 8), (100, 64), (3, 6), (100, 2), (100, 2), (100, 2), (100, 2), (100, 20), (3, 6), (100, 2), (100, 2), (100, 2), (100, 2), (100, 20), (0, 3), (100, 1160), (6, 3), (100, 6), (100, 6), (3, 6), (100, 2), (100, 2), (100, 2), (100, 2), (100, 20), (0, 3), (100, 1160), (6, 3), (100, 6), (100, 6), (1, 3), (100, 270), (100, 8), (8, 55), (100, 10), (100, 10), (100, 3), (100, 2800), (101, 100), (100, 700), (100, 3), (100, 10), (100, 10), (100, 10)]) rfl rfl (by decide) rfl rfl hB rfl (by decide) (fun hB => ?_)
  refine mm_wpr (a := 60) (ci := 8) (n := 55) rfl (by decide) (by decide) (by decide) ?_
  replace hB := hB.up (a0 := 60) (i0 := 32) (v := 70) (by decide)
  refine mm_w1 rfl ?_
  refine mm_wv (vb_i 3) rfl (by decide) ?_
  refine mm_wnewI (n := 71) (S' := [(7, 16), (100, 700), (100, 3), (4, 8), (100, 0), (2, 10), (100, 10), (100, 10), (100, 10), (100, 2), (100, 36), (5, 6), (100, 700), (100, 4), (100, 4), (100, 8), (100, 64), (2, 10), (100, 10), (100, 10), (100, 10), (100, 2), (100, 36), (5, 6), (100, 700), (100, 4), (100, 4), (100, 8), (100, 64), (3, 6), (100, 2), (100, 2), (100, 2), (100, 2), (100, 20), (3, 6), (100, 2), (100, 2), (100, 2), (100, 2), (100, 20), (0, 3), (100, 1160), (6, 3), (100, 6), (100, 6), (3, 6), (100, 2), (100, 2), (100, 2), (100, 2), (100, 20), (0, 3), (100, 1160), (6, 3), (100, 6), (100, 6), (1, 3), (100, 270), (100, 8), (8, 55), (100, 10), (100, 10), (100, 3), (100, 2800), (101, 100), (100, 700), (100, 3), (100, 10), (100, 10), (100, 10), (100, 3)]) rfl rfl (by decide) rfl rfl hB rfl (by decide) (fun hB => ?_)
  refine mm_wpr (a := 60) (ci := 8) (n := 55) rfl (by decide) (by decide) (by decide) ?_
  replace hB := hB.up (a0 := 60) (i0 := 33) (v := 71) (by decide)
  refine mm_w1 rfl ?_
  refine mm_wv (vb_i 2800) rfl (by decide) ?_
  refine mm_wnewI (n := 72) (S' := [(7, 16), (100, 700), (100, 3), (4, 8), (100, 0), (2, 10), (100, 10), (100, 10), (100, 10), (100, 2), (100, 36), (5, 6), (100, 700), (100, 4), (100, 4), (100, 8), (100, 64), (2, 10), (100, 10), (100, 10), (100, 10), (100, 2), (100, 36), (5, 6), (100, 700), (100, 4), (100, 4), (100, 8), (100, 64), (3, 6), (100, 2), (100, 2), (100, 2), (100, 2), (100, 20), (3, 6), (100, 2), (100, 2), (100, 2), (100, 2), (100, 20), (0, 3), (100, 1160), (6, 3), (100, 6), (100, 6), (3, 6), (100, 2), (100, 2), (100, 2), (100, 2), (100, 20), (0, 3), (100, 1160), (6, 3), (100, 6), (100, 6), (1, 3), (100, 270), (100, 8), (8, 55), (100, 10), (100, 10), (100, 3), (100, 2800), (101, 100), (100, 700), (100, 3), (100, 10), (100, 10), (100, 10), (100, 3), (100, 2800)]) rfl rfl (by decide) rfl rfl hB rfl (by decide) (fun hB => ?_)
  refine mm_wpr (a := 60) (ci := 8) (n := 55) rfl (by decide) (by decide) (by decide) ?_
  replace hB := hB.up (a0 := 60) (i0 := 34) (v := 72) (by decide)
  refine mm_w1 rfl ?_
  refine mm_wv (vb_i 950) rfl (by decide) ?_
  refine mm_wnewI (n := 73) (S' := [(7, 16), (100, 700), (100, 3), (4, 8), (100, 0), (2, 10), (100, 10), (100, 10), (100, 10), (100, 2), (100, 36), (5, 6), (100, 700), (100, 4), (100, 4), (100, 8), (100, 64), (2, 10), (100, 10), (100, 10), (100, 10), (100, 2), (100, 36), (5, 6), (100, 700), (100, 4), (100, 4), (100, 8), (100, 64), (3, 6), (100, 2), (100, 2), (100, 2), (100, 2), (100, 20), (3, 6), (100, 2), (100, 2), (100, 2), (100, 2), (100, 20), (0, 3), (100, 1160), (6, 3), (100, 6), (100, 6), (3, 6), (100, 2), (100, 2), (100, 2), (100, 2), (100, 20), (0, 3), (100, 1160), (6, 3), (100, 6), (100, 6), (1, 3), (100, 270), (100, 8), (8, 55), (100, 10), (100, 10), (100, 3), (100, 2800), (101, 100), (100, 700), (100, 3), (100, 10), (100, 10), (100, 10), (100, 3), (100, 2800), (100, 950)]) rfl rfl (by decide) rfl rfl hB rfl (by decide) (fun hB => ?_)
  refine mm_wpr (a := 60) (ci := 8) (n := 55) rfl (by decide) (by decide) (by decide) ?_
  replace hB := hB.up (a0 := 60) (i0 := 35) (v := 73) (by decide)
  refine mm_w1 rfl ?_
  refine mm_wv (vb_i 100) rfl (by decide) ?_
  refine mm_wnewZ (n := 74) (S' := [(7, 16), (100, 700), (100, 3), (4, 8), (100, 0), (2, 10), (100, 10), (100, 10), (100, 10), (100, 2), (100, 36), (5, 6), (100, 700), (100, 4), (100, 4), (100, 8), (100, 64), (2, 10), (100, 10), (100, 10), (100, 10), (100, 2), (100, 36), (5, 6), (100, 700), (100, 4), (100, 4), (100, 8), (100, 64), (3, 6), (100, 2), (100, 2), (100, 2), (100, 2), (100, 20), (3, 6), (100, 2), (100, 2), (100, 2), (100, 2), (100, 20), (0, 3), (100, 1160), (6, 3), (100, 6), (100, 6), (3, 6), (100, 2), (100, 2), (100, 2), (100, 2), (100, 20), (0, 3), (100, 1160), (6, 3), (100, 6), (100, 6), (1, 3), (100, 270), (100, 8), (8, 55), (100, 10), (100, 10), (100, 3), (100, 2800), (101, 100), (100, 700), (100, 3), (100, 10), (100, 10), (100, 10), (100, 3), (100, 2800), (100, 950), (101, 100)]) rfl rfl (by decide) rfl rfl hB rfl (by decide) (fun hB => ?_)
  refine mm_wpr (a := 60) (ci := 8) (n := 55) rfl (by decide) (by decide) (by decide) ?_
  replace hB := hB.up (a0 := 60) (i0 := 36) (v := 74) (by decide)
  refine mm_w1 rfl ?_
  refine mm_wv (vb_i 9) rfl (by decide) ?_
  refine mm_wnewZ (n := 75) (S' := [(7, 16), (100, 700), (100, 3), (4, 8), (100, 0), (2, 10), (100, 10), (100, 10), (100, 10), (100, 2), (100, 36), (5, 6), (100, 700), (100, 4), (100, 4), (100, 8), (100, 64), (2, 10), (100, 10), (100, 10), (100, 10), (100, 2), (100, 36), (5, 6), (100, 700), (100, 4), (100, 4), (100, 8), (100, 64), (3, 6), (100, 2), (100, 2), (100, 2), (100, 2), (100, 20), (3, 6), (100, 2), (100, 2), (100, 2), (100, 2), (100, 20), (0, 3), (100, 1160), (6, 3), (100, 6), (100, 6), (3, 6), (100, 2), (100, 2), (100, 2), (100, 2), (100, 20), (0, 3), (100, 1160), (6, 3), (100, 6), (100, 6), (1, 3), (100, 270), (100, 8), (8, 55), (100, 10), (100, 10), (100, 3), (100, 2800), (101, 100), (100, 700), (100, 3), (100, 10), (100, 10), (100, 10), (100, 3), (100, 2800), (100, 950), (101, 100), (101, 9)]) rfl rfl (by decide) rfl rfl hB rfl (by decide) (fun hB => ?_)
  refine mm_wpr (a := 60) (ci := 8) (n := 55) rfl (by decide) (by decide) (by decide) ?_
  replace hB := hB.up (a0 := 60) (i0 := 37) (v := 75) (by decide)
  refine mm_w1 rfl ?_
  refine mm_wv (vb_i 276) rfl (by decide) ?_
  refine mm_wnewI (n := 76) (S' := [(7, 16), (100, 700), (100, 3), (4, 8), (100, 0), (2, 10), (100, 10), (100, 10), (100, 10), (100, 2), (100, 36), (5, 6), (100, 700), (100, 4), (100, 4), (100, 8), (100, 64), (2, 10), (100, 10), (100, 10), (100, 10), (100, 2), (100, 36), (5, 6), (100, 700), (100, 4), (100, 4), (100, 8), (100, 64), (3, 6), (100, 2), (100, 2), (100, 2), (100, 2), (100, 20), (3, 6), (100, 2), (100, 2), (100, 2), (100, 2), (100, 20), (0, 3), (100, 1160), (6, 3), (100, 6), (100, 6), (3, 6), (100, 2), (100, 2), (100, 2), (100, 2), (100, 20), (0, 3), (100, 1160), (6, 3), (100, 6), (100, 6), (1, 3), (100, 270), (100, 8), (8, 55), (100, 10), (100, 10), (100, 3), (100, 2800), (101, 100), (100, 700), (100, 3), (100, 10), (100, 10), (100, 10), (100, 3), (100, 2800), (100, 950), (101, 100), (101, 9), (100, 276)]) rfl rfl (by decide) rfl rfl hB rfl (by decide) (fun hB => ?_)
  refine mm_wpr (a := 60) (ci := 8) (n := 55) rfl (by decide) (by decide) (by decide) ?_
  replace hB := hB.up (a0 := 60) (i0 := 38) (v := 76) (by decide)
  refine mm_w1 rfl ?_
  refine mm_wv (vb_i 1840) rfl (by decide) ?_
  refine mm_wnewI (n := 77) (S' := [(7, 16), (100, 700), (100, 3), (4, 8), (100, 0), (2, 10), (100, 10), (100, 10), (100, 10), (100, 2), (100, 36), (5, 6), (100, 700), (100, 4), (100, 4), (100, 8), (100, 64), (2, 10), (100, 10), (100, 10), (100, 10), (100, 2), (100, 36), (5, 6), (100, 700), (100, 4), (100, 4), (100, 8), (100, 64), (3, 6), (100, 2), (100, 2), (100, 2), (100, 2), (100, 20), (3, 6), (100, 2), (100, 2), (100, 2), (100, 2), (100, 20), (0, 3), (100, 1160), (6, 3), (100, 6), (100, 6), (3, 6), (100, 2), (100, 2), (100, 2), (100, 2), (100, 20), (0, 3), (100, 1160), (6, 3), (100, 6), (100, 6), (1, 3), (100, 270), (100, 8), (8, 55), (100, 10), (100, 10), (100, 3), (100, 2800), (101, 100), (100, 700), (100, 3), (100, 10), (100, 10), (100, 10), (100, 3), (100, 2800), (100, 950), (101, 100), (101, 9), (100, 276), (100, 1840)]) rfl rfl (by decide) rfl rfl hB rfl (by decide) (fun hB => ?_)
  refine mm_wpr (a := 60) (ci := 8) (n := 55) rfl (by decide) (by decide) (by decide) ?_
  replace hB := hB.up (a0 := 60) (i0 := 39) (v := 77) (by decide)
  refine mm_w1 rfl ?_
  refine mm_wv (vb_i 8) rfl (by decide) ?_
  refine mm_wnewI (n := 78) (S' := [(7, 16), (100, 700), (100, 3), (4, 8), (100, 0), (2, 10), (100, 10), (100, 10), (100, 10), (100, 2), (100, 36), (5, 6), (100, 700), (100, 4), (100, 4), (100, 8), (100, 64), (2, 10), (100, 10), (100, 10), (100, 10), (100, 2), (100, 36), (5, 6), (100, 700), (100, 4), (100, 4), (100, 8), (100, 64), (3, 6), (100, 2), (100, 2), (100, 2), (100, 2), (100, 20), (3, 6), (100, 2), (100, 2), (100, 2), (100, 2), (100, 20), (0, 3), (100, 1160), (6, 3), (100, 6), (100, 6), (3, 6), (100, 2), (100, 2), (100, 2), (100, 2), (100, 20), (0, 3), (100, 1160), (6, 3), (100, 6), (100, 6), (1, 3), (100, 270), (100, 8), (8, 55), (100, 10), (100, 10), (100, 3), (100, 2800), (101, 100), (100, 700), (100, 3), (100, 10), (100, 10), (100, 10), (100, 3), (100, 2800), (100, 950), (101, 100), (101, 9), (100, 276), (100, 1840), (100, 8)]) rfl rfl (by decide) rfl rfl hB rfl (by decide) (fun hB => ?_)
  refine mm_wpr (a := 60) (ci := 8) (n := 55) rfl (by decide) (by decide) (by decide) ?_
  replace hB := hB.up (a0 := 60) (i0 := 41) (v := 78) (by decide)
  refine mm_w1 rfl ?_
  refine mm_wv (vb_i 950) rfl (by decide) ?_
  refine mm_wnewI (n := 79) (S' := [(7, 16), (100, 700), (100, 3), (4, 8), (100, 0), (2, 10), (100, 10), (100, 10), (100, 10), (100, 2), (100, 36), (5, 6), (100, 700), (100, 4), (100, 4), (100, 8), (100, 64), (2, 10), (100, 10), (100, 10), (100, 10), (100, 2), (100, 36), (5, 6), (100, 700), (100, 4), (100, 4), (100, 8), (100, 64), (3, 6), (100, 2), (100, 2), (100, 2), (100, 2), (100, 20), (3, 6), (100, 2), (100, 2), (100, 2), (100, 2), (100, 20), (0, 3), (100, 1160), (6, 3), (100, 6), (100, 6), (3, 6), (100, 2), (100, 2), (100, 2), (100, 2), (100, 20), (0, 3), (100, 1160), (6, 3), (100, 6), (100, 6), (1, 3), (100, 270), (100, 8), (8, 55), (100, 10), (100, 10), (100, 3), (100, 2800), (101, 100), (100, 700), (100, 3), (100, 10), (100, 10), (100, 10), (100, 3), (100, 2800), (100, 950), (101, 100), (101, 9), (100, 276), (100, 1840), (100, 8), (100, 950)]) rfl rfl (by decide) rfl rfl hB rfl (by decide) (fun hB => ?_)
  refine mm_wpr (a := 60) (ci := 8) (n := 55) rfl (by decide) (by decide) (by decide) ?_
  replace hB := hB.up (a0 := 60) (i0 := 42) (v := 79) (by decide)
  refine mm_w1 rfl ?_
  refine mm_wv (vb_i 10) rfl (by decide) ?_
  refine mm_wnewI (n := 80) (S' := [(7, 16), (100, 700), (100, 3), (4, 8), (100, 0), (2, 10), (100, 10), (100, 10), (100, 10), (100, 2), (100, 36), (5, 6), (100, 700), (100, 4), (100, 4), (100, 8), (100, 64), (2, 10), (100, 10), (100, 10), (100, 10), (100, 2), (100, 36), (5, 6), (100, 700), (100, 4), (100, 4), (100, 8), (100, 64), (3, 6), (100, 2), (100, 2), (100, 2), (100, 2), (100, 20), (3, 6), (100, 2), (100, 2), (100, 2), (100, 2), (100, 20), (0, 3), (100, 1160), (6, 3), (100, 6), (100, 6), (3, 6), (100, 2), (100, 2), (100, 2), (100, 2), (100, 20), (0, 3), (100, 1160), (6, 3), (100, 6), (100, 6), (1, 3), (100, 270), (100, 8), (8, 55), (100, 10), (100, 10), (100, 3), (100, 2800), (101, 100), (100, 700), (100, 3), (100, 10), (100, 10), (100, 10), (100, 3), (100, 2800), (100, 950), (101, 100), (101, 9), (100, 276), (100, 1840), (100, 8), (100, 950), (100, 10)]) rfl rfl (by decide) rfl rfl hB rfl (by decide) (fun hB => ?_)
  refine mm_wpr (a := 60) (ci := 8) (n := 55) rfl (by decide) (by decide) (by decide) ?_
  replace hB := hB.up (a0 := 60) (i0 := 44) (v := 80) (by decide)
  refine mm_w1 rfl ?_
  refine mm_wv (vb_i 12) rfl (by decide) ?_
  refine mm_wnewI (n := 81) (S' := [(7, 16), (100, 700), (100, 3), (4, 8), (100, 0), (2, 10), (100, 10), (100, 10), (100, 10), (100, 2), (100, 36), (5, 6), (100, 700), (100, 4), (100, 4), (100, 8), (100, 64), (2, 10), (100, 10), (100, 10), (100, 10), (100, 2), (100, 36), (5, 6), (100, 700), (100, 4), (100, 4), (100, 8), (100, 64), (3, 6), (100, 2), (100, 2), (100, 2), (100, 2), (100, 20), (3, 6), (100, 2), (100, 2), (100, 2), (100, 2), (100, 20), (0, 3), (100, 1160), (6, 3), (100, 6), (100, 6), (3, 6), (100, 2), (100, 2), (100, 2), (100, 2), (100, 20), (0, 3), (100, 1160), (6, 3), (100, 6), (100, 6), (1, 3), (100, 270), (100, 8), (8, 55), (100, 10), (100, 10), (100, 3), (100, 2800), (101, 100), (100, 700), (100, 3), (100, 10), (100, 10), (100, 10), (100, 3), (100, 2800), (100, 950), (101, 100), (101, 9), (100, 276), (100, 1840), (100, 8), (100, 950), (100, 10), (100, 12)]) rfl rfl (by decide) rfl rfl hB rfl (by decide) (fun hB => ?_)
  refine mm_wpr (a := 60) (ci := 8) (n := 55) rfl (by decide) (by decide) (by decide) ?_
  replace hB := hB.up (a0 := 60) (i0 := 46) (v := 81) (by decide)
  refine mm_w1 rfl ?_
  refine mm_wv (vb_i 270) rfl (by decide) ?_
  refine mm_wnewI (n := 82) (S' := [(7, 16), (100, 700), (100, 3), (4, 8), (100, 0), (2, 10), (100, 10), (100, 10), (100, 10), (100, 2), (100, 36), (5, 6), (100, 700), (100, 4), (100, 4), (100, 8), (100, 64), (2, 10), (100, 10), (100, 10), (100, 10), (100, 2), (100, 36), (5, 6), (100, 700), (100, 4), (100, 4), (100, 8), (100, 64), (3, 6), (100, 2), (100, 2), (100, 2), (100, 2), (100, 20), (3, 6), (100, 2), (100, 2), (100, 2), (100, 2), (100, 20), (0, 3), (100, 1160), (6, 3), (100, 6), (100, 6), (3, 6), (100, 2), (100, 2), (100, 2), (100, 2), (100, 20), (0, 3), (100, 1160), (6, 3), (100, 6), (100, 6), (1, 3), (100, 270), (100, 8), (8, 55), (100, 10), (100, 10), (100, 3), (100, 2800), (101, 100), (100, 700), (100, 3), (100, 10), (100, 10), (100, 10), (100, 3), (100, 2800), (100, 950), (101, 100), (101, 9), (100, 276), (100, 1840), (100, 8), (100, 950), (100, 10), (100, 12), (100, 270)]) rfl rfl (by decide) rfl rfl hB rfl (by decide) (fun hB => ?_)
  refine mm_wpr (a := 60) (ci := 8) (n := 55) rfl (by decide) (by decide) (by decide) ?_
  replace hB := hB.up (a0 := 60) (i0 := 47) (v := 82) (by decide)
  refine mm_w1 rfl ?_
  refine mm_wv (vb_i 46) rfl (by decide) ?_
  refine mm_wnewI (n := 83) (S' := [(7, 16), (100, 700), (100, 3), (4, 8), (100, 0), (2, 10), (100, 10), (100, 10), (100, 10), (100, 2), (100, 36), (5, 6), (100, 700), (100, 4), (100, 4), (100, 8), (100, 64), (2, 10), (100, 10), (100, 10), (100, 10), (100, 2), (100, 36), (5, 6), (100, 700), (100, 4), (100, 4), (100, 8), (100, 64), (3, 6), (100, 2), (100, 2), (100, 2), (100, 2), (100, 20), (3, 6), (100, 2), (100, 2), (100, 2), (100, 2), (100, 20), (0, 3), (100, 1160), (6, 3), (100, 6), (100, 6), (3, 6), (100, 2), (100, 2), (100, 2), (100, 2), (100, 20), (0, 3), (100, 1160), (6, 3), (100, 6), (100, 6), (1, 3), (100, 270), (100, 8), (8, 55), (100, 10), (100, 10), (100, 3), (100, 2800), (101, 100), (100, 700), (100, 3), (100, 10), (100, 10), (100, 10), (100, 3), (100, 2800), (100, 950), (101, 100), (101, 9), (100, 276), (100, 1840), (100, 8), (100, 950), (100, 10), (100, 12), (100, 270), (100, 46)]) rfl rfl (by decide) rfl rfl hB rfl (by decide) (fun hB => ?_)
  refine mm_wpr (a := 60) (ci := 8) (n := 55) rfl (by decide) (by decide) (by decide) ?_
  replace hB := hB.up (a0 := 60) (i0 := 52) (v := 83) (by decide)
  refine mm_w1 rfl ?_
  refine mm_wv (vb_i 1840) rfl (by decide) ?_
  refine mm_wnewI (n := 84) (S' := [(7, 16), (100, 700), (100, 3), (4, 8), (100, 0), (2, 10), (100, 10), (100, 10), (100, 10), (100, 2), (100, 36), (5, 6), (100, 700), (100, 4), (100, 4), (100, 8), (100, 64), (2, 10), (100, 10), (100, 10), (100, 10), (100, 2), (100, 36), (5, 6), (100, 700), (100, 4), (100, 4), (100, 8), (100, 64), (3, 6), (100, 2), (100, 2), (100, 2), (100, 2), (100, 20), (3, 6), (100, 2), (100, 2), (100, 2), (100, 2), (100, 20), (0, 3), (100, 1160), (6, 3), (100, 6), (100, 6), (3, 6), (100, 2), (100, 2), (100, 2), (100, 2), (100, 20), (0, 3), (100, 1160), (6, 3), (100, 6), (100, 6), (1, 3), (100, 270), (100, 8), (8, 55), (100, 10), (100, 10), (100, 3), (100, 2800), (101, 100), (100, 700), (100, 3), (100, 10), (100, 10), (100, 10), (100, 3), (100, 2800), (100, 950), (101, 100), (101, 9), (100, 276), (100, 1840), (100, 8), (100, 950), (100, 10), (100, 12), (100, 270), (100, 46), (100, 1840)]) rfl rfl (by decide) rfl rfl hB rfl (by decide) (fun hB => ?_)
  refine mm_wpr (a := 60) (ci := 8) (n := 55) rfl (by decide) (by decide) (by decide) ?_
  replace hB := hB.up (a0 := 60) (i0 := 53) (v := 84) (by decide)
  refine mm_w1 rfl ?_
  refine mm_wv (vb_i 12) rfl (by decide) ?_
  refine mm_wnewI (n := 85) (S' := [(7, 16), (100, 700), (100, 3), (4, 8), (100, 0), (2, 10), (100, 10), (100, 10), (100, 10), (100, 2), (100, 36), (5, 6), (100, 700), (100, 4), (100, 4), (100, 8), (100, 64), (2, 10), (100, 10), (100, 10), (100, 10), (100, 2), (100, 36), (5, 6), (100, 700), (100, 4), (100, 4), (100, 8), (100, 64), (3, 6), (100, 2), (100, 2), (100, 2), (100, 2), (100, 20), (3, 6), (100, 2), (100, 2), (100, 2), (100, 2), (100, 20), (0, 3), (100, 1160), (6, 3), (100, 6), (100, 6), (3, 6), (100, 2), (100, 2), (100, 2), (100, 2), (100, 20), (0, 3), (100, 1160), (6, 3), (100, 6), (100, 6), (1, 3), (100, 270), (100, 8), (8, 55), (100, 10), (100, 10), (100, 3), (100, 2800), (101, 100), (100, 700), (100, 3), (100, 10), (100, 10), (100, 10), (100, 3), (100, 2800), (100, 950), (101, 100), (101, 9), (100, 276), (100, 1840), (100, 8), (100, 950), (100, 10), (100, 12), (100, 270), (100, 46), (100, 1840), (100, 12)]) rfl rfl (by decide) rfl rfl hB rfl (by decide) (fun hB => ?_)
  refine mm_wpr (a := 60) (ci := 8) (n := 55) rfl (by decide) (by decide) (by decide) ?_
  replace hB := hB.up (a0 := 60) (i0 := 54) (v := 85) (by decide)
  refine mm_w1 rfl ?_
  refine mm_wgr (a := 60) (ci := 8) (n := 55) (q := 76) rfl (by decide) (by decide) rfl (by decide) ?_
  refine mm_wv (vb_i 44) rfl (by decide) ?_
  refine mm_wv (-1) rfl (by decide) ?_
  refine mm_wis (a := 76) (n := 276) (j := 44) rfl (by decide) (by decide) ?_
  refine mm_w1 rfl ?_
  refine mm_wgr (a := 60) (ci := 8) (n := 55) (q := 76) rfl (by decide) (by decide) rfl (by decide) ?_
  refine mm_wv (vb_i 45) rfl (by decide) ?_
  refine mm_wv (-1) rfl (by decide) ?_
  refine mm_wis (a := 76) (n := 276) (j := 45) rfl (by decide) (by decide) ?_
  refine mm_wr rfl rfl rfl ?_
  refine ⟨_, rfl, ?_⟩
  refine mm_w1 (ls' := [_, _, _, _, _, _, _]) rfl ?_
  refine mm_wv (vb_i 1) rfl (by decide) ?_
  have hB86 := hB
  refine mm_wnewJ (n := 86) (S' := [(7, 16), (100, 700), (100, 3), (4, 8), (100, 0), (2, 10), (100, 10), (100, 10), (100, 10), (100, 2), (100, 36), (5, 6), (100, 700), (100, 4), (100, 4), (100, 8), (100, 64), (2, 10), (100, 10), (100, 10), (100, 10), (100, 2), (100, 36), (5, 6), (100, 700), (100, 4), (100, 4), (100, 8), (100, 64), (3, 6), (100, 2), (100, 2), (100, 2), (100, 2), (100, 20), (3, 6), (100, 2), (100, 2), (100, 2), (100, 2), (100, 20), (0, 3), (100, 1160), (6, 3), (100, 6), (100, 6), (3, 6), (100, 2), (100, 2), (100, 2), (100, 2), (100, 20), (0, 3), (100, 1160), (6, 3), (100, 6), (100, 6), (1, 3), (100, 270), (100, 8), (8, 55), (100, 10), (100, 10), (100, 3), (100, 2800), (101, 100), (100, 700), (100, 3), (100, 10), (100, 10), (100, 10), (100, 3), (100, 2800), (100, 950), (101, 100), (101, 9), (100, 276), (100, 1840), (100, 8), (100, 950), (100, 10), (100, 12), (100, 270), (100, 46), (100, 1840), (100, 12), (102, 1)]) rfl rfl (by decide) rfl rfl hB rfl (by decide) (fun hB => ?_)
  refine mm_w1 (ls' := [_, _, _, _, _, _, _]) rfl ?_
  refine mm_wv (vb_i 0) rfl (by decide) ?_
  refine mm_w1 (ls' := [_, _, _, _, _, _, _]) rfl ?_
  refine ll_loop (by omega) hG G.1 0 lw_σ0 _ _ _ _ _ _ _ (by omega) (Nat.zero_le _) (by omega) (by omega) ?_ ?_ ?_ lw_I0
  · refine ⟨17, ?_, ?_⟩
    · unfold vb_isW vb_isV vb_isL vb_isX vb_isA vb_isT vb_isC
      repeat' apply And.intro
      all_goals decide +kernel
    · refine ⟨pl_LD (C := []) pl_ok0 (Nat.zero_le _) ⟨⟨by decide +kernel, by decide +kernel, by decide +kernel, by decide +kernel⟩, (fun v h => absurd h (Nat.not_lt_zero v)), (fun v h => absurd h (Nat.not_lt_zero v)), (fun v h => absurd h (Nat.not_lt_zero v)), (by show ∀ j, j < 2 → _ = (0 : Int32); decide +kernel), ⟨by decide +kernel, fun j h => absurd h (Nat.not_lt_zero j)⟩, (fun h => by cases h), fun r h => absurd h (Nat.not_lt_zero r)⟩, ⟨?_, ?_, ?_, ?_, ?_, ?_, ?_⟩, ?_, ?_, ?_, (fun z h => by cases h), ?_, Nat.zero_le _, (fun i b h => by cases h), ?_, ?_⟩
      · show ∀ j, j < 2 → _ = (0 : Int32); decide +kernel
      · show ∀ j, j < 2 → _ = (0 : Int32); decide +kernel
      · show ∀ j, j < 2 → _ = (0 : Int32); decide +kernel
      · show ∀ j, j < 2 → _ = (-1 : Int32); decide +kernel
      · show ∀ j, j < 20 → _ = (0 : Int32); decide +kernel
      · show _ = vb_i 0; decide +kernel
      · show 0 ≤ 2000; decide
      · exact lw_AD0 (by decide +kernel) (by decide +kernel)
      · exact lw_TD0 (by decide +kernel)
      · show _ = vb_b false; decide +kernel
      · show _ = vb_i 0; decide +kernel
      · show _ = (-1 : Int32); decide +kernel
      · show ∀ j, j < 3 → _ = (0 : Int32); decide +kernel
  · refine ⟨?_, ⟨⟨?_, ?_, ?_, ?_, ?_, (fun v h => absurd h (Nat.not_lt_zero v)), (fun v h => absurd h (Nat.not_lt_zero v)), (fun a b h => absurd h (Nat.not_lt_zero a)), fun _ => ?_, (fun h => by cases h), fun r h => absurd h (Nat.not_lt_zero r)⟩, ⟨(fun v h => absurd h (Nat.not_lt_zero v)), (fun v h => absurd h (Nat.not_lt_zero v)), ?_, ?_, ?_, ?_, ?_, ?_, ?_⟩, ?_, ⟨Nat.zero_le _, (fun i y h => by cases h)⟩, ?_, ⟨Nat.zero_le _, (fun i y h => by cases h)⟩, ?_, (fun z h => by cases h), ?_, Nat.zero_le _, (fun i b h => by cases h), ?_, ?_⟩⟩
    · unfold vm_isM
      repeat' apply And.intro
      all_goals decide +kernel
    · show _ = vb_i 0; decide +kernel
    · show 0 ≤ 10; decide
    · show _ = vb_i 0; decide +kernel
    · show _ = vb_i 0; decide +kernel
    · show 0 ≤ 3; decide
    · decide +kernel
    · show ∀ j, j < 20 → _ = (0 : Int32); decide +kernel
    · show ∀ j, j < 2 → _ = (0 : Int32); decide +kernel
    · show _ = vb_i 0; decide +kernel
    · show _ = vb_i 0; decide +kernel
    · show ∀ j, j < 2 → _ = (-1 : Int32); decide +kernel
    · show 0 < 2; decide
    · show 0 ≤ 2000; decide
    · show _ = vb_i 0; decide +kernel
    · show _ = vb_i 0; decide +kernel
    · show _ = vb_b false; decide +kernel
    · show _ = vb_i 0; decide +kernel
    · show _ = (-1 : Int32); decide +kernel
    · show ∀ j, j < 3 → _ = (0 : Int32); decide +kernel
  · exact ⟨hB.cV, hB86.cM, rfl, rfl⟩
end LWO
