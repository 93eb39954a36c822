theorem ln_n_r {b : Nat → Int32} {most s v : Nat} (h : ln_n b most s = .inr v) : tx_K b s = 2 ∧ v = tx_Vs b s ∧ v ≤ most := by
  rw [ln_n] at h
  split at h
  · rename_i h1
    split at h
    · rename_i h2
      cases h
      exact ⟨h1, rfl, h2⟩
    · cases h
  · cases h
theorem ln_a_r {b : Nat → Int32} {m s v : Nat} (h : ln_a b m s = .inr v) : tx_K b s = 2 ∧ v = tx_Vs b s ∧ v < m := by
  rw [ln_a] at h
  split at h
  · rename_i h1
    split at h
    · rename_i h2
      cases h
      exact ⟨h1, rfl, h2⟩
    · cases h
  · cases h
theorem vb_ne_m1 {v : Nat} (h : v ≤ 9999) : ¬ vb_i v = -1 := fun e => by
  have := congrArg Int32.toInt e
  rw [vb_i, Int32.toInt_ofNat_of_lt (by omega)] at this
  have h2 : Int32.toInt (-1) = -1 := by decide
  omega
section RD8
variable {G : mm_G} {d : Nat} {I : Nat → Nat → Int32} {P : Nat → Nat → Nat} {J : Nat → Nat → Int64} {S : List (Nat × Nat)} {nc ns : Nat} {μ : mm_M} {L : Nat} {b : Nat → Int32} {n : Nat}
def rl_P (b : Nat → Int32) (n L : Nat) (q : (Nat × Nat) ⊕ (Nat × pl_S)) (I : Nat → Nat → Int32) : Prop := match q with
  | .inl (why, pl) => I 3 3 = vb_i why ∧ I 3 4 = vb_i pl
  | .inr (s, p) => rd_D b n I ∧ rd_tk b s I ∧ s ≤ n ∧ pl_ok p ∧ ∃ C, C.length ≤ s ∧ pl_C L p C I
def rl_is (q : (Nat × Nat) ⊕ (Nat × pl_S)) : Bool := match q with
  | .inl _ => false
  | .inr _ => true
theorem c_rclear (hL : vb_isL P S L) : mm_C G d 63 [.ref (L + 6)] (I, P, J, S, nc, ns) (vb_R none (fun I' => I' (L + 6) 1 = vb_i 0 ∧ ∀ a, a ≠ L + 6 → a ≠ L + 8 → a ≠ L + 9 → I' a = I a) P J S nc ns) := by
  have loop : ∀ i, i ≤ 4 → ∀ (I1 : Nat → Nat → Int32), I1 (L + 6) 1 = vb_i 0 → (∀ a, a ≠ L + 6 → a ≠ L + 8 → a ≠ L + 9 → I1 a = I a) → mm_W G d 63 (mm_blk 63 7) [.ref (L + 6), .int (vb_i i)] [] (I1, P, J, S, nc, ns) (vb_R none (fun I' => I' (L + 6) 1 = vb_i 0 ∧ ∀ a, a ≠ L + 6 → a ≠ L + 8 → a ≠ L + 9 → I' a = I a) P J S nc ns) := by
    refine vb_down 4 ?_
    intro i hi ih I1 h1 hf1
    refine mm_w1 rfl ?_
    refine mm_wv (vb_i 3) rfl (by decide) ?_
    refine mm_nicgt (by omega) (by omega) ?_ ?_
    · intro h9
      refine mm_wr rfl rfl rfl ?_
      exact ⟨_, ⟨h1, hf1⟩, rfl⟩
    · intro h9
      refine mm_w1 rfl ?_
      refine mm_wgr (vL_S6 hL) (by decide) (by decide) (vL_P6_2 hL) (vL_a8 hL) ?_
      refine mm_w1 rfl ?_
      refine mm_wv (vb_i 0) rfl (by decide) ?_
      refine mm_wisN (vL_S8 hL) (by decide) (by omega) ?_
      intro I2 hI2
      have _u := hI2
      refine mm_w1 rfl ?_
      refine mm_wgr (vL_S6 hL) (by decide) (by decide) (vL_P6_3 hL) (vL_a9 hL) ?_
      refine mm_w1 rfl ?_
      refine mm_wv (vb_i 0) rfl (by decide) ?_
      refine mm_wisN (vL_S9 hL) (by decide) (by omega) ?_
      intro I3 hI3
      have _u := hI3
      refine mm_nincL (ls' := [_, _]) 1 rfl (by decide) rfl ?_
      refine mm_wgoto ?_
      exact ih (by omega) _ (by rw [hI3, vb_up3 _ _ (by omega), hI2, vb_up3 _ _ (by omega)]; exact h1) (fun a h6 h8 h9 => by rw [hI3, vb_up3 _ _ h9, hI2, vb_up3 _ _ h8]; exact hf1 a h6 h8 h9)
  show mm_W _ _ 63 (mm_blk 63 0) [.ref (L + 6), .null] [] _ _
  refine mm_w1 rfl ?_
  refine mm_wv (vb_i 0) rfl (by decide) ?_
  refine mm_wpiN (vL_S6 hL) (by decide) (by decide) ?_
  intro I1 hI1
  have _u := hI1
  refine mm_wv (vb_i 0) rfl (by decide) ?_
  refine mm_w1 (ls' := [_, _]) rfl ?_
  exact loop 0 (by decide) _ (by rw [hI1, vb_up1]) (fun a h6 _ _ => by rw [hI1, vb_up3 _ _ h6])
theorem c_lclear (hL : vb_isL P S L) (hd : 1 ≤ d) : mm_C G d 14 [.ref L] (I, P, J, S, nc, ns) (vb_R none (fun I' => pl_C L pl_0 [] I' ∧ ∀ a, ¬ (L ≤ a ∧ a < L + 12) → I' a = I a) P J S nc ns) := by
  show mm_W _ _ 14 (mm_blk 14 0) [.ref L] [] _ _
  refine mm_w1 rfl ?_
  refine mm_wv (vb_i 0) rfl (by decide) ?_
  refine mm_wpiN (vL_S0 hL) (by decide) (by decide) ?_
  intro I1 hI1
  have _u := hI1
  refine mm_w1 rfl ?_
  refine mm_wv (vb_i 0) rfl (by decide) ?_
  refine mm_wpiN (vL_S0 hL) (by decide) (by decide) ?_
  intro I2 hI2
  have _u := hI2
  refine mm_w1 rfl ?_
  refine mm_wv (vb_i 0) rfl (by decide) ?_
  refine mm_wpiN (vL_S0 hL) (by decide) (by decide) ?_
  intro I3 hI3
  have _u := hI3
  refine mm_w1 rfl ?_
  refine mm_wv (vb_i 0) rfl (by decide) ?_
  refine mm_wpzN (vL_S0 hL) (by decide) (by decide) (Or.inl rfl) ?_
  intro I4 hI4
  have _u := hI4
  refine mm_w1 rfl ?_
  refine mm_wgr (vL_S0 hL) (by decide) (by decide) (vL_P0_7 hL) (vL_a4 hL) ?_
  refine mm_wv (vb_i 0) rfl (by decide) ?_
  refine mm_wv (vb_i 0) rfl (by decide) ?_
  refine mm_wisN (vL_S4 hL) (by decide) (by omega) ?_
  intro I5 hI5
  have _u := hI5
  refine mm_w1 rfl ?_
  refine mm_wgr (vL_S0 hL) (by decide) (by decide) (vL_P0_7 hL) (vL_a4 hL) ?_
  refine mm_wv (vb_i 1) rfl (by decide) ?_
  refine mm_wv (vb_i 0) rfl (by decide) ?_
  refine mm_wisN (vL_S4 hL) (by decide) (by omega) ?_
  intro I6 hI6
  have _u := hI6
  refine mm_w1 rfl ?_
  refine mm_wgr (vL_S0 hL) (by decide) (by decide) (vL_P0_9 hL) (vL_a6 hL) ?_
  refine mm_cvn (vb_cv (vL_S6 hL) rfl rfl rfl rfl) (by decide) (by omega) (c_rclear hL) ?_
  intro I7 hq7
  obtain ⟨h67, hf7⟩ := hq7
  refine mm_wr rfl rfl rfl ?_
  refine ⟨_, ⟨⟨⟨?_, ?_, ?_, ?_⟩, fun v hv => absurd hv (Nat.not_lt_zero v), fun v hv => absurd hv (Nat.not_lt_zero v), fun v hv => absurd hv (Nat.not_lt_zero v), fun j hj => ?_, ⟨h67, fun j hj => absurd hj (Nat.not_lt_zero j)⟩, (fun h => by cases h), fun r hr => absurd hr (Nat.not_lt_zero r)⟩, ?_⟩, rfl⟩
  · rw [hf7 _ (by omega) (by omega) (by omega), hI6, vb_up3 _ _ (by omega), hI5, vb_up3 _ _ (by omega), hI4, vb_up2 _ _ (by omega), hI3, vb_up2 _ _ (by omega), hI2, vb_up2 _ _ (by omega), hI1, vb_up1]; rfl
  · rw [hf7 _ (by omega) (by omega) (by omega), hI6, vb_up3 _ _ (by omega), hI5, vb_up3 _ _ (by omega), hI4, vb_up2 _ _ (by omega), hI3, vb_up2 _ _ (by omega), hI2, vb_up1]; rfl
  · rw [hf7 _ (by omega) (by omega) (by omega), hI6, vb_up3 _ _ (by omega), hI5, vb_up3 _ _ (by omega), hI4, vb_up2 _ _ (by omega), hI3, vb_up1]; rfl
  · rw [hf7 _ (by omega) (by omega) (by omega), hI6, vb_up3 _ _ (by omega), hI5, vb_up3 _ _ (by omega), hI4, vb_up1]; rfl
  · rw [hf7 _ (by omega) (by omega) (by omega), hI6]
    have e : j = 0 ∨ j = 1 := by omega
    rcases e with rfl | rfl
    · rw [vb_up2 _ _ (by omega), hI5, vb_up1]; rfl
    · rw [vb_up1]; rfl
  · intro a ha
    rw [hf7 _ (by omega) (by omega) (by omega), hI6, vb_up3 _ _ (by omega), hI5, vb_up3 _ _ (by omega), hI4, vb_up3 _ _ (by omega), hI3, vb_up3 _ _ (by omega), hI2, vb_up3 _ _ (by omega), hI1, vb_up3 _ _ (by omega)]
theorem c_rV {s its : Nat} {p : pl_S} {C : List Int32} {q : (Nat × Nat) ⊕ (Nat × pl_S)} (hR : vb_isR P S L) (hb : tx_ok b n) (hs : s < n) (dD : rd_D b n I) (hk : rd_tk b s I) (hp : pl_ok p) (hC : C.length ≤ s) (dP : pl_C L p C I) (hi : its ≤ 2) (h : ln_v b p its s = some q) (hd : 4 ≤ d) : mm_C G d 48 [.ref 3, .int (vb_i its)] (I, P, J, S, nc, ns) (vb_R (some (.int (vb_b (rl_is q)))) (fun I' => rd_fl L I I' ∧ rl_P b n L q I') P J S nc ns) := by
  have hL := vR_L hR
  have hL17 := vR_17 hR
  have hn7 := hb.1
  have hn10 := hp.1
  have hrc18 := hp.2.1
  have hsc3 := hp.2.2.1
  have hx0 : rd_fl L I I := .rf
  have h60 := hk.2.2.1
  have hk0 := hk
  have dD0 := dD
  have dP0 := dP
  have hn0 := dP.1.1
  have hr0 := dP.1.2.1
  have hs0 := dP.1.2.2.1
  have ht0 := dP.1.2.2.2
  have hN := tx_N_n hb (Nat.le_of_lt hs)
  have hNlt := tx_N_lt hb hs
  have hN2 := tx_N_n hb hN
  have hN3 := tx_N_n hb hN2
  have hK1 := tx_K_le b (tx_N b s)
  have hK2 := tx_K_le b (tx_N b (tx_N b s))
  rw [ln_v] at h
  by_cases hn9 : pl_n p < 10
  · rw [if_pos hn9] at h
    cases e1 : ln_n b 20 (tx_N b s) with
    | inl x =>
      rw [e1] at h
      cases h
      show mm_W _ _ 48 (mm_blk 48 0) [.ref 3, .int (vb_i its), .null, .null] [] _ _
      refine mm_w1 rfl ?_
      refine mm_wgr (vR_S3 hR) (by decide) (by decide) (vR_P3_2 hR) (vL_a0 hL) ?_
      refine mm_wgiv _ (vL_S0 hL) (by decide) (by decide) hn0 ?_
      refine mm_wv (vb_i 10) rfl (by decide) ?_
      refine mm_niclt (by omega) (by omega) ?_ ?_
      · intro h9
        refine mm_w1 rfl ?_
        refine mm_cvn (vb_cv (vR_S3 hR) rfl rfl rfl rfl) (by decide) (by omega) (c_next hR dD0 hb (tx_E_n hb (by omega)) hk0.2.1 (by omega)) ?_
        intro I1 hq1
        obtain ⟨hkS1, hf31⟩ := hq1
        have hk1 : rd_tk b (tx_N b _) I1 := hkS1
        have hg1 := rd_g3.of3 hf31
        have hx1 : rd_fl L I I1 := hx0.tr (.ofg hg1)
        have dD1 : rd_D b n I1 := dD0.g3 hg1
        have dP1 := dP0.g3 hg1 (by omega)
        have hn1 := dP1.1.1
        have hr1 := dP1.1.2.1
        have hs1 := dP1.1.2.2.1
        have h61 := hk1.2.2.1
        refine mm_w1 rfl ?_
        refine mm_wv (vb_i 20) rfl (by decide) ?_
        refine mm_cvi (vb_cv (vR_S3 hR) rfl rfl rfl rfl) (by decide) (by omega) (c_number hR dD1 hb (by omega) hk1 (by decide) (by omega)) ?_
        rw [e1]
        show ∀ I', _ → mm_W G d _ _ _ (.int (-1) :: _) _ _
        intro I2 hq2
        obtain ⟨hg2, hPx2⟩ := hq2
        have hx2 : rd_fl L I I2 := hx1.tr (.ofg hg2)
        refine mm_w1 (ls' := [_, _, _, _]) rfl ?_
        refine mm_w1 rfl ?_
        refine mm_wv (-1) rfl (by decide) ?_
        refine mm_wicne ?_ ?_
        · intro h31
          exact absurd rfl h31
        · intro h31
          refine mm_wv (vb_i 0) rfl (by decide) ?_
          refine mm_wr rfl rfl rfl ?_
          exact ⟨_, ⟨hx2, hPx2⟩, rfl⟩
      · intro h9
        omega
    | inr w =>
      rw [e1] at h
      have hw := ln_n_r e1
      cases e2 : ln_n b 9 (tx_N b (tx_N b s)) with
      | inl x =>
        simp only [e2] at h
        cases h
        show mm_W _ _ 48 (mm_blk 48 0) [.ref 3, .int (vb_i its), .null, .null] [] _ _
        refine mm_w1 rfl ?_
        refine mm_wgr (vR_S3 hR) (by decide) (by decide) (vR_P3_2 hR) (vL_a0 hL) ?_
        refine mm_wgiv _ (vL_S0 hL) (by decide) (by decide) hn0 ?_
        refine mm_wv (vb_i 10) rfl (by decide) ?_
        refine mm_niclt (by omega) (by omega) ?_ ?_
        · intro h9
          refine mm_w1 rfl ?_
          refine mm_cvn (vb_cv (vR_S3 hR) rfl rfl rfl rfl) (by decide) (by omega) (c_next hR dD0 hb (tx_E_n hb (by omega)) hk0.2.1 (by omega)) ?_
          intro I1 hq1
          obtain ⟨hkS1, hf31⟩ := hq1
          have hk1 : rd_tk b (tx_N b _) I1 := hkS1
          have hg1 := rd_g3.of3 hf31
          have hx1 : rd_fl L I I1 := hx0.tr (.ofg hg1)
          have dD1 : rd_D b n I1 := dD0.g3 hg1
          have dP1 := dP0.g3 hg1 (by omega)
          have hn1 := dP1.1.1
          have hr1 := dP1.1.2.1
          have hs1 := dP1.1.2.2.1
          have h61 := hk1.2.2.1
          refine mm_w1 rfl ?_
          refine mm_wv (vb_i 20) rfl (by decide) ?_
          refine mm_cvi (vb_cv (vR_S3 hR) rfl rfl rfl rfl) (by decide) (by omega) (c_number hR dD1 hb (by omega) hk1 (by decide) (by omega)) ?_
          rw [e1]
          show ∀ I', _ → mm_W G d _ _ _ (.int (vb_i w) :: _) _ _
          intro I2 hq2
          obtain ⟨hg2, hkS2⟩ := hq2
          have hk2 : rd_tk b (tx_N b _) I2 := hkS2
          have hx2 : rd_fl L I I2 := hx1.tr (.ofg hg2)
          have dD2 : rd_D b n I2 := dD1.g3 hg2
          have dP2 := dP1.g3 hg2 (by omega)
          have hn2 := dP2.1.1
          have hr2 := dP2.1.2.1
          have hs2 := dP2.1.2.2.1
          have h62 := hk2.2.2.1
          refine mm_w1 (ls' := [_, _, _, _]) rfl ?_
          refine mm_w1 rfl ?_
          refine mm_wv (-1) rfl (by decide) ?_
          refine mm_wicne ?_ ?_
          · intro h31
            refine mm_w1 rfl ?_
            refine mm_wv (vb_i 9) rfl (by decide) ?_
            refine mm_cvi (vb_cv (vR_S3 hR) rfl rfl rfl rfl) (by decide) (by omega) (c_number hR dD2 hb (by omega) hk2 (by decide) (by omega)) ?_
            rw [e2]
            show ∀ I', _ → mm_W G d _ _ _ (.int (-1) :: _) _ _
            intro I3 hq3
            obtain ⟨hg3, hPx3⟩ := hq3
            have hx3 : rd_fl L I I3 := hx2.tr (.ofg hg3)
            refine mm_w1 (ls' := [_, _, _, _]) rfl ?_
            refine mm_w1 rfl ?_
            refine mm_wv (-1) rfl (by decide) ?_
            refine mm_wicne ?_ ?_
            · intro h45
              exact absurd rfl h45
            · intro h45
              refine mm_wv (vb_i 0) rfl (by decide) ?_
              refine mm_wr rfl rfl rfl ?_
              exact ⟨_, ⟨hx3, hPx3⟩, rfl⟩
          · intro h31
            exact absurd h31 (vb_ne_m1 (by omega))
        · intro h9
          omega
      | inr f =>
        simp only [e2] at h
        have hf := ln_n_r e2
        have hlt2 := tx_N_lt hb (tx_lt hb hN (by omega))
        have hlt3 := tx_N_lt hb (tx_lt hb hN2 (by omega))
        cases h
        show mm_W _ _ 48 (mm_blk 48 0) [.ref 3, .int (vb_i its), .null, .null] [] _ _
        refine mm_w1 rfl ?_
        refine mm_wgr (vR_S3 hR) (by decide) (by decide) (vR_P3_2 hR) (vL_a0 hL) ?_
        refine mm_wgiv _ (vL_S0 hL) (by decide) (by decide) hn0 ?_
        refine mm_wv (vb_i 10) rfl (by decide) ?_
        refine mm_niclt (by omega) (by omega) ?_ ?_
        · intro h9
          refine mm_w1 rfl ?_
          refine mm_cvn (vb_cv (vR_S3 hR) rfl rfl rfl rfl) (by decide) (by omega) (c_next hR dD0 hb (tx_E_n hb (by omega)) hk0.2.1 (by omega)) ?_
          intro I1 hq1
          obtain ⟨hkS1, hf31⟩ := hq1
          have hk1 : rd_tk b (tx_N b _) I1 := hkS1
          have hg1 := rd_g3.of3 hf31
          have hx1 : rd_fl L I I1 := hx0.tr (.ofg hg1)
          have dD1 : rd_D b n I1 := dD0.g3 hg1
          have dP1 := dP0.g3 hg1 (by omega)
          have hn1 := dP1.1.1
          have hr1 := dP1.1.2.1
          have hs1 := dP1.1.2.2.1
          have h61 := hk1.2.2.1
          refine mm_w1 rfl ?_
          refine mm_wv (vb_i 20) rfl (by decide) ?_
          refine mm_cvi (vb_cv (vR_S3 hR) rfl rfl rfl rfl) (by decide) (by omega) (c_number hR dD1 hb (by omega) hk1 (by decide) (by omega)) ?_
          rw [e1]
          show ∀ I', _ → mm_W G d _ _ _ (.int (vb_i w) :: _) _ _
          intro I2 hq2
          obtain ⟨hg2, hkS2⟩ := hq2
          have hk2 : rd_tk b (tx_N b _) I2 := hkS2
          have hx2 : rd_fl L I I2 := hx1.tr (.ofg hg2)
          have dD2 : rd_D b n I2 := dD1.g3 hg2
          have dP2 := dP1.g3 hg2 (by omega)
          have hn2 := dP2.1.1
          have hr2 := dP2.1.2.1
          have hs2 := dP2.1.2.2.1
          have h62 := hk2.2.2.1
          refine mm_w1 (ls' := [_, _, _, _]) rfl ?_
          refine mm_w1 rfl ?_
          refine mm_wv (-1) rfl (by decide) ?_
          refine mm_wicne ?_ ?_
          · intro h31
            refine mm_w1 rfl ?_
            refine mm_wv (vb_i 9) rfl (by decide) ?_
            refine mm_cvi (vb_cv (vR_S3 hR) rfl rfl rfl rfl) (by decide) (by omega) (c_number hR dD2 hb (by omega) hk2 (by decide) (by omega)) ?_
            rw [e2]
            show ∀ I', _ → mm_W G d _ _ _ (.int (vb_i f) :: _) _ _
            intro I3 hq3
            obtain ⟨hg3, hkS3⟩ := hq3
            have hk3 : rd_tk b (tx_N b _) I3 := hkS3
            have hx3 : rd_fl L I I3 := hx2.tr (.ofg hg3)
            have dD3 : rd_D b n I3 := dD2.g3 hg3
            have dP3 := dP2.g3 hg3 (by omega)
            have hn3 := dP3.1.1
            have hr3 := dP3.1.2.1
            have hs3 := dP3.1.2.2.1
            have h63 := hk3.2.2.1
            refine mm_w1 (ls' := [_, _, _, _]) rfl ?_
            refine mm_w1 rfl ?_
            refine mm_wv (-1) rfl (by decide) ?_
            refine mm_wicne ?_ ?_
            · intro h45
              refine mm_w1 rfl ?_
              refine mm_wgr (vR_S3 hR) (by decide) (by decide) (vR_P3_2 hR) (vL_a0 hL) ?_
              refine mm_w1 rfl ?_
              refine mm_w1 rfl ?_
              refine mm_w1 rfl ?_
              refine mm_cvn (vb_cv (vL_S0 hL) rfl rfl rfl rfl) (by decide) (by omega) (c_addV hL hp dP3 (by omega) (by omega)) ?_
              intro I4 hq4
              obtain ⟨dP4, hfa4⟩ := hq4
              have hl4 : rd_fl L _ I4 := .ofl hfa4 (by omega)
              have hx4 : rd_fl L I I4 := hx3.tr hl4
              have dD4 : rd_D b n I4 := dD3.fl hl4 (by omega)
              have hk4 := hk3.eq (hfa4 3 (by omega))
              refine mm_wv (vb_i 1) rfl (by decide) ?_
              refine mm_wr rfl rfl rfl ?_
              exact ⟨_, ⟨hx4, dD4, hk4, hN3, pl_okV hp hn9 _ _ _, C, by omega, dP4⟩, rfl⟩
            · intro h45
              exact absurd h45 (vb_ne_m1 (by omega))
          · intro h31
            exact absurd h31 (vb_ne_m1 (by omega))
        · intro h9
          omega
  · rw [if_neg hn9] at h
    cases h
    show mm_W _ _ 48 (mm_blk 48 0) [.ref 3, .int (vb_i its), .null, .null] [] _ _
    refine mm_w1 rfl ?_
    refine mm_wgr (vR_S3 hR) (by decide) (by decide) (vR_P3_2 hR) (vL_a0 hL) ?_
    refine mm_wgiv _ (vL_S0 hL) (by decide) (by decide) hn0 ?_
    refine mm_wv (vb_i 10) rfl (by decide) ?_
    refine mm_niclt (by omega) (by omega) ?_ ?_
    · intro h9
      omega
    · intro h9
      refine mm_w1 rfl ?_
      refine mm_wv (vb_i 2) rfl (by decide) ?_
      refine mm_cvi (vb_cv (vR_S3 hR) rfl rfl rfl rfl) (by decide) (by omega) (c_refuse hR) ?_
      intro I1 hI1
      have hx1 : rd_fl L I I1 := hx0.tr (.ofg (.ofr hI1))
      have hw1 := (congrFun (congrFun hI1 3) 3).trans (vb_up1 _ _ _ _)
      have hp1 := (congrFun (congrFun hI1 3) 4).trans ((vb_up2 _ _ (by decide)).trans hk0.1)
      refine mm_wrb rfl ?_
      exact ⟨_, ⟨hx1, hw1, hp1⟩, rfl⟩
end RD8
