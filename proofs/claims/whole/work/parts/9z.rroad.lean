section RD9
variable {G : mm_G} {d : Nat} {I : Nat → Nat → Int32} {P : Nat → Nat → Nat} {J : Nat → Nat → Int64} {S : List (Nat × Nat)} {nc ns : Nat} {μ : mm_M} {L : Nat} {b : Nat → Int32} {n : Nat}
theorem ln_an {s m most : Nat} {x : Nat × Nat} (h : ln_a b m s = .inl x) (hK : ¬ tx_K b s = 2) : ln_n b most s = .inl x := by
  rw [ln_a, if_neg hK] at h
  rw [ln_n, if_neg hK]; exact h
theorem c_rR {s : Nat} {p : pl_S} {C : List Int32} {q : (Nat × Nat) ⊕ (Nat × pl_S)} (hR : vb_isR P S L) (hb : tx_ok b n) (hs : s < n) (dD : rd_D b n I) (hk : rd_tk b s I) (hp : pl_ok p) (hC : C.length ≤ s) (dP : pl_C L p C I) (h : ln_r b p s = some q) (hd : 4 ≤ d) : mm_C G d 49 [.ref 3] (I, P, J, S, nc, ns) (vb_R (some (.int (vb_b (rl_is q)))) (fun I' => rd_fl L I I' ∧ rl_P b n L q I') P J S nc ns) := by
  have hL := vR_L hR
  have hL17 := vR_17 hR
  have hn7 := hb.1
  have hn10 := hp.1
  have hrc18 := hp.2.1
  have hsc3 := hp.2.2.1
  have hx0 : rd_fl L I I := .rf
  have h60 := hk.2.2.1
  have hk0 := hk
  have dD0 := dD
  have dP0 := dP
  have hn0 := dP.1.1
  have hr0 := dP.1.2.1
  have hs0 := dP.1.2.2.1
  have ht0 := dP.1.2.2.2
  have hN := tx_N_n hb (Nat.le_of_lt hs)
  have hNlt := tx_N_lt hb hs
  have hN2 := tx_N_n hb hN
  have hN3 := tx_N_n hb hN2
  have hK1 := tx_K_le b (tx_N b s)
  have hK2 := tx_K_le b (tx_N b (tx_N b s))
  have hV1 : tx_K b (tx_N b s) = 2 → tx_Vs b (tx_N b s) ≤ 9999 := fun h => (tx_num h).2.2
  have hV2 : tx_K b (tx_N b (tx_N b s)) = 2 → tx_Vs b (tx_N b (tx_N b s)) ≤ 9999 := fun h => (tx_num h).2.2
  rw [ln_r] at h
  by_cases hr9 : pl_rc p < 18
  · rw [if_pos hr9] at h
    cases e1 : ln_a b (pl_n p) (tx_N b s) with
    | inl x =>
      rw [e1] at h
      cases h
      by_cases hK : tx_K b (tx_N b s) = 2
      · have hV := hV1 hK
        rw [ln_a, if_pos hK] at e1
        by_cases hVn : tx_Vs b (tx_N b s) < pl_n p
        · rw [if_pos hVn] at e1; cases e1
        · rw [if_neg hVn] at e1
          cases e1
          show mm_W _ _ 49 (mm_blk 49 0) [.ref 3, .null, .null] [] _ _
          refine mm_w1 rfl ?_
          refine mm_wgr (vR_S3 hR) (by decide) (by decide) (vR_P3_2 hR) (vL_a0 hL) ?_
          refine mm_wgiv _ (vL_S0 hL) (by decide) (by decide) hr0 ?_
          refine mm_wv (vb_i 18) rfl (by decide) ?_
          refine mm_niclt (by omega) (by omega) ?_ ?_
          · intro h9
            refine mm_w1 rfl ?_
            refine mm_cvn (vb_cv (vR_S3 hR) rfl rfl rfl rfl) (by decide) (by omega) (c_next hR dD0 hb (tx_E_n hb (by omega)) hk0.2.1 (by omega)) ?_
            intro I1 hq1
            obtain ⟨hkS1, hf31⟩ := hq1
            have hk1 : rd_tk b (tx_N b _) I1 := hkS1
            have hg1 := rd_g3.of3 hf31
            have hx1 : rd_fl L I I1 := hx0.tr (.ofg hg1)
            have dD1 : rd_D b n I1 := dD0.g3 hg1
            have dP1 := dP0.g3 hg1 (by omega)
            have hn1 := dP1.1.1
            have hr1 := dP1.1.2.1
            have hs1 := dP1.1.2.2.1
            have h61 := hk1.2.2.1
            refine mm_w1 rfl ?_
            refine mm_wgiv _ (vR_S3 hR) (by decide) (by decide) h61 ?_
            refine mm_wv (vb_i 2) rfl (by decide) ?_
            refine mm_nicne (by omega) (by omega) ?_ ?_
            · intro h27
              omega
            · intro h27
              refine mm_w1 rfl ?_
              refine mm_wgiv _ (vR_S3 hR) (by decide) (by decide) (hk1.2.2.2 (by omega)) ?_
              refine mm_w1 rfl ?_
              refine mm_wgr (vR_S3 hR) (by decide) (by decide) (vR_P3_2 hR) (vL_a0 hL) ?_
              refine mm_wgiv _ (vL_S0 hL) (by decide) (by decide) hn1 ?_
              refine mm_niclt (by omega) (by omega) ?_ ?_
              · intro h41
                omega
              · intro h41
                refine mm_w1 rfl ?_
                refine mm_wv (vb_i 3) rfl (by decide) ?_
                refine mm_cvi (vb_cv (vR_S3 hR) rfl rfl rfl rfl) (by decide) (by omega) (c_refuse hR) ?_
                intro I2 hI2
                have hx2 : rd_fl L I I2 := hx1.tr (.ofg (.ofr hI2))
                have hw2 := (congrFun (congrFun hI2 3) 3).trans (vb_up1 _ _ _ _)
                have hp2 := (congrFun (congrFun hI2 3) 4).trans ((vb_up2 _ _ (by decide)).trans hk1.1)
                refine mm_wrb rfl ?_
                exact ⟨_, ⟨hx2, hw2, hp2⟩, rfl⟩
          · intro h9
            omega
      · have e1n := ln_an (most := 10) e1 hK
        show mm_W _ _ 49 (mm_blk 49 0) [.ref 3, .null, .null] [] _ _
        refine mm_w1 rfl ?_
        refine mm_wgr (vR_S3 hR) (by decide) (by decide) (vR_P3_2 hR) (vL_a0 hL) ?_
        refine mm_wgiv _ (vL_S0 hL) (by decide) (by decide) hr0 ?_
        refine mm_wv (vb_i 18) rfl (by decide) ?_
        refine mm_niclt (by omega) (by omega) ?_ ?_
        · intro h9
          refine mm_w1 rfl ?_
          refine mm_cvn (vb_cv (vR_S3 hR) rfl rfl rfl rfl) (by decide) (by omega) (c_next hR dD0 hb (tx_E_n hb (by omega)) hk0.2.1 (by omega)) ?_
          intro I1 hq1
          obtain ⟨hkS1, hf31⟩ := hq1
          have hk1 : rd_tk b (tx_N b _) I1 := hkS1
          have hg1 := rd_g3.of3 hf31
          have hx1 : rd_fl L I I1 := hx0.tr (.ofg hg1)
          have dD1 : rd_D b n I1 := dD0.g3 hg1
          have dP1 := dP0.g3 hg1 (by omega)
          have hn1 := dP1.1.1
          have hr1 := dP1.1.2.1
          have hs1 := dP1.1.2.2.1
          have h61 := hk1.2.2.1
          refine mm_w1 rfl ?_
          refine mm_wgiv _ (vR_S3 hR) (by decide) (by decide) h61 ?_
          refine mm_wv (vb_i 2) rfl (by decide) ?_
          refine mm_nicne (by omega) (by omega) ?_ ?_
          · intro h27
            refine mm_w1 rfl ?_
            refine mm_wv (vb_i 10) rfl (by decide) ?_
            refine mm_cvi (vb_cv (vR_S3 hR) rfl rfl rfl rfl) (by decide) (by omega) (c_number hR dD1 hb (by omega) hk1 (by decide) (by omega)) ?_
            rw [e1n]
            show ∀ I', _ → mm_W G d _ _ _ (.int (-1) :: _) _ _
            intro I2 hq2
            obtain ⟨hg2, hPx2⟩ := hq2
            have hx2 : rd_fl L I I2 := hx1.tr (.ofg hg2)
            refine mm_w1 (ls' := [_, _, _]) rfl ?_
            refine mm_w1 rfl ?_
            refine mm_wv (-1) rfl (by decide) ?_
            refine mm_wicne ?_ ?_
            · intro h59
              exact absurd rfl h59
            · intro h59
              refine mm_wv (vb_i 0) rfl (by decide) ?_
              refine mm_wr rfl rfl rfl ?_
              exact ⟨_, ⟨hx2, hPx2⟩, rfl⟩
          · intro h27
            omega
        · intro h9
          omega
    | inr a =>
      rw [e1] at h
      have ha := ln_a_r e1
      have hV := hV1 ha.1
      have e1n : ln_n b 10 (tx_N b s) = .inr a := by rw [ln_n, if_pos ha.1, if_pos (by omega), ha.2.1]
      have hlt2 := tx_N_lt hb (tx_lt hb hN (by omega))
      have k64 : ∀ (I1 : Nat → Nat → Int32), rd_fl L I I1 → rd_D b n I1 → rd_tk b (tx_N b (tx_N b s)) I1 → pl_C L p C I1 → mm_W G d 49 (mm_blk 49 64) [.ref 3, .int (vb_i a), .null] [] (I1, P, J, S, nc, ns) (vb_R (some (.int (vb_b (rl_is q)))) (fun I' => rd_fl L I I' ∧ rl_P b n L q I') P J S nc ns) := by
        intro I1 hx1 dD1 hk1 dP1
        have h61 := hk1.2.2.1
        have hn1 := dP1.1.1
        have hr1 := dP1.1.2.1
        have hs1 := dP1.1.2.2.1
        cases e2 : ln_a b (pl_n p) (tx_N b (tx_N b s)) with
        | inl x =>
          simp only [e2] at h
          cases h
          by_cases hK : tx_K b (tx_N b (tx_N b s)) = 2
          · have hV3 := hV2 hK
            rw [ln_a, if_pos hK] at e2
            by_cases hVn : tx_Vs b (tx_N b (tx_N b s)) < pl_n p
            · rw [if_pos hVn] at e2; cases e2
            · rw [if_neg hVn] at e2
              cases e2
              refine mm_w1 rfl ?_
              refine mm_wgiv _ (vR_S3 hR) (by decide) (by decide) h61 ?_
              refine mm_wv (vb_i 2) rfl (by decide) ?_
              refine mm_nicne (by omega) (by omega) ?_ ?_
              · intro h69
                omega
              · intro h69
                refine mm_w1 rfl ?_
                refine mm_wgiv _ (vR_S3 hR) (by decide) (by decide) (hk1.2.2.2 (by omega)) ?_
                refine mm_w1 rfl ?_
                refine mm_wgr (vR_S3 hR) (by decide) (by decide) (vR_P3_2 hR) (vL_a0 hL) ?_
                refine mm_wgiv _ (vL_S0 hL) (by decide) (by decide) hn1 ?_
                refine mm_niclt (by omega) (by omega) ?_ ?_
                · intro h83
                  omega
                · intro h83
                  refine mm_w1 rfl ?_
                  refine mm_wv (vb_i 3) rfl (by decide) ?_
                  refine mm_cvi (vb_cv (vR_S3 hR) rfl rfl rfl rfl) (by decide) (by omega) (c_refuse hR) ?_
                  intro I2 hI2
                  have hx2 : rd_fl L I I2 := hx1.tr (.ofg (.ofr hI2))
                  have hw2 := (congrFun (congrFun hI2 3) 3).trans (vb_up1 _ _ _ _)
                  have hp2 := (congrFun (congrFun hI2 3) 4).trans ((vb_up2 _ _ (by decide)).trans hk1.1)
                  refine mm_wrb rfl ?_
                  exact ⟨_, ⟨hx2, hw2, hp2⟩, rfl⟩
          · have e2n := ln_an (most := 10) e2 hK
            refine mm_w1 rfl ?_
            refine mm_wgiv _ (vR_S3 hR) (by decide) (by decide) h61 ?_
            refine mm_wv (vb_i 2) rfl (by decide) ?_
            refine mm_nicne (by omega) (by omega) ?_ ?_
            · intro h69
              refine mm_w1 rfl ?_
              refine mm_wgiv _ (vR_S3 hR) (by decide) (by decide) h61 ?_
              refine mm_wv (vb_i 2) rfl (by decide) ?_
              refine mm_nicne (by omega) (by omega) ?_ ?_
              · intro h97
                refine mm_w1 rfl ?_
                refine mm_wv (vb_i 10) rfl (by decide) ?_
                refine mm_cvi (vb_cv (vR_S3 hR) rfl rfl rfl rfl) (by decide) (by omega) (c_number hR dD1 hb (by omega) hk1 (by decide) (by omega)) ?_
                rw [e2n]
                show ∀ I', _ → mm_W G d _ _ _ (.int (-1) :: _) _ _
                intro I2 hq2
                obtain ⟨hg2, hPx2⟩ := hq2
                have hx2 : rd_fl L I I2 := hx1.tr (.ofg hg2)
                refine mm_w1 (ls' := [_, _, _]) rfl ?_
                refine mm_w1 rfl ?_
                refine mm_wv (-1) rfl (by decide) ?_
                refine mm_wicne ?_ ?_
                · intro h142
                  exact absurd rfl h142
                · intro h142
                  refine mm_wv (vb_i 0) rfl (by decide) ?_
                  refine mm_wr rfl rfl rfl ?_
                  exact ⟨_, ⟨hx2, hPx2⟩, rfl⟩
              · intro h97
                omega
            · intro h69
              omega
        | inr c =>
          simp only [e2] at h
          have hc := ln_a_r e2
          have hV3 := hV2 hc.1
          have e2n : ln_n b 10 (tx_N b (tx_N b s)) = .inr c := by rw [ln_n, if_pos hc.1, if_pos (by omega), hc.2.1]
          have hlt3 := tx_N_lt hb (tx_lt hb hN2 (by omega))
          have hnb := dP1.2.2.2.1 a ha.2.2
          by_cases hbad : a = c ∨ vb_has (pl_nb p a) c = true
          · rw [if_pos hbad] at h
            cases h
            refine mm_w1 rfl ?_
            refine mm_wgiv _ (vR_S3 hR) (by decide) (by decide) h61 ?_
            refine mm_wv (vb_i 2) rfl (by decide) ?_
            refine mm_nicne (by omega) (by omega) ?_ ?_
            · intro h69
              omega
            · intro h69
              refine mm_w1 rfl ?_
              refine mm_wgiv _ (vR_S3 hR) (by decide) (by decide) (hk1.2.2.2 (by omega)) ?_
              refine mm_w1 rfl ?_
              refine mm_wgr (vR_S3 hR) (by decide) (by decide) (vR_P3_2 hR) (vL_a0 hL) ?_
              refine mm_wgiv _ (vL_S0 hL) (by decide) (by decide) hn1 ?_
              refine mm_niclt (by omega) (by omega) ?_ ?_
              · intro h83
                refine mm_w1 rfl ?_
                refine mm_wgiv _ (vR_S3 hR) (by decide) (by decide) h61 ?_
                refine mm_wv (vb_i 2) rfl (by decide) ?_
                refine mm_nicne (by omega) (by omega) ?_ ?_
                · intro h97
                  omega
                · intro h97
                  refine mm_w1 rfl ?_
                  refine mm_wgiv _ (vR_S3 hR) (by decide) (by decide) (hk1.2.2.2 (by omega)) ?_
                  refine mm_w1 rfl ?_
                  refine mm_niceq (by omega) (by omega) ?_ ?_
                  · intro h105
                    refine mm_w1 rfl ?_
                    refine mm_wv (vb_i 4) rfl (by decide) ?_
                    refine mm_cvi (vb_cv (vR_S3 hR) rfl rfl rfl rfl) (by decide) (by omega) (c_refuse hR) ?_
                    intro I2 hI2
                    have hx2 : rd_fl L I I2 := hx1.tr (.ofg (.ofr hI2))
                    have hw2 := (congrFun (congrFun hI2 3) 3).trans (vb_up1 _ _ _ _)
                    have hp2 := (congrFun (congrFun hI2 3) 4).trans ((vb_up2 _ _ (by decide)).trans hk1.1)
                    refine mm_wrb rfl ?_
                    exact ⟨_, ⟨hx2, hw2, hp2⟩, rfl⟩
                  · intro h105
                    refine mm_w1 rfl ?_
                    refine mm_wgr (vR_S3 hR) (by decide) (by decide) (vR_P3_2 hR) (vL_a0 hL) ?_
                    refine mm_wgr (vL_S0 hL) (by decide) (by decide) (vL_P0_6 hL) (vL_a3 hL) ?_
                    refine mm_w1 rfl ?_
                    refine mm_wiav _ (vL_a3 hL) (vL_S3 hL) (by decide) (by omega) hnb ?_
                    refine mm_w1 rfl ?_
                    refine mm_wgiv _ (vR_S3 hR) (by decide) (by decide) (hk1.2.2.2 (by omega)) ?_
                    refine mm_csp rfl (by decide) (by omega) (c_has (by omega)) ?_
                    refine mm_bifeq ?_ ?_
                    · intro h124
                      exfalso
                      rw [← hc.2.1] at h124
                      rcases hbad with e | e
                      · omega
                      · rw [e] at h124; cases h124
                    · intro h124
                      refine mm_w1 rfl ?_
                      refine mm_wv (vb_i 4) rfl (by decide) ?_
                      refine mm_cvi (vb_cv (vR_S3 hR) rfl rfl rfl rfl) (by decide) (by omega) (c_refuse hR) ?_
                      intro I2 hI2
                      have hx2 : rd_fl L I I2 := hx1.tr (.ofg (.ofr hI2))
                      have hw2 := (congrFun (congrFun hI2 3) 3).trans (vb_up1 _ _ _ _)
                      have hp2 := (congrFun (congrFun hI2 3) 4).trans ((vb_up2 _ _ (by decide)).trans hk1.1)
                      refine mm_wrb rfl ?_
                      exact ⟨_, ⟨hx2, hw2, hp2⟩, rfl⟩
              · intro h83
                omega
          · rw [if_neg hbad] at h
            cases h
            have hno : vb_has (pl_nb p a) c = false := by
              cases e : vb_has (pl_nb p a) c with
              | false => rfl
              | true => exact absurd (Or.inr e) hbad
            have hne : a ≠ c := fun e => hbad (Or.inl e)
            refine mm_w1 rfl ?_
            refine mm_wgiv _ (vR_S3 hR) (by decide) (by decide) h61 ?_
            refine mm_wv (vb_i 2) rfl (by decide) ?_
            refine mm_nicne (by omega) (by omega) ?_ ?_
            · intro h69
              omega
            · intro h69
              refine mm_w1 rfl ?_
              refine mm_wgiv _ (vR_S3 hR) (by decide) (by decide) (hk1.2.2.2 (by omega)) ?_
              refine mm_w1 rfl ?_
              refine mm_wgr (vR_S3 hR) (by decide) (by decide) (vR_P3_2 hR) (vL_a0 hL) ?_
              refine mm_wgiv _ (vL_S0 hL) (by decide) (by decide) hn1 ?_
              refine mm_niclt (by omega) (by omega) ?_ ?_
              · intro h83
                refine mm_w1 rfl ?_
                refine mm_wgiv _ (vR_S3 hR) (by decide) (by decide) h61 ?_
                refine mm_wv (vb_i 2) rfl (by decide) ?_
                refine mm_nicne (by omega) (by omega) ?_ ?_
                · intro h97
                  omega
                · intro h97
                  refine mm_w1 rfl ?_
                  refine mm_wgiv _ (vR_S3 hR) (by decide) (by decide) (hk1.2.2.2 (by omega)) ?_
                  refine mm_w1 rfl ?_
                  refine mm_niceq (by omega) (by omega) ?_ ?_
                  · intro h105
                    omega
                  · intro h105
                    refine mm_w1 rfl ?_
                    refine mm_wgr (vR_S3 hR) (by decide) (by decide) (vR_P3_2 hR) (vL_a0 hL) ?_
                    refine mm_wgr (vL_S0 hL) (by decide) (by decide) (vL_P0_6 hL) (vL_a3 hL) ?_
                    refine mm_w1 rfl ?_
                    refine mm_wiav _ (vL_a3 hL) (vL_S3 hL) (by decide) (by omega) hnb ?_
                    refine mm_w1 rfl ?_
                    refine mm_wgiv _ (vR_S3 hR) (by decide) (by decide) (hk1.2.2.2 (by omega)) ?_
                    refine mm_csp rfl (by decide) (by omega) (c_has (by omega)) ?_
                    refine mm_bifeq ?_ ?_
                    · intro h124
                      refine mm_w1 rfl ?_
                      refine mm_wv (vb_i 10) rfl (by decide) ?_
                      refine mm_cvi (vb_cv (vR_S3 hR) rfl rfl rfl rfl) (by decide) (by omega) (c_number hR dD1 hb (by omega) hk1 (by decide) (by omega)) ?_
                      rw [e2n]
                      show ∀ I', _ → mm_W G d _ _ _ (.int (vb_i c) :: _) _ _
                      intro I2 hq2
                      obtain ⟨hg2, hkS2⟩ := hq2
                      have hk2 : rd_tk b (tx_N b _) I2 := hkS2
                      have hx2 : rd_fl L I I2 := hx1.tr (.ofg hg2)
                      have dD2 : rd_D b n I2 := dD1.g3 hg2
                      have dP2 := dP1.g3 hg2 (by omega)
                      have hn2 := dP2.1.1
                      have hr2 := dP2.1.2.1
                      have hs2 := dP2.1.2.2.1
                      have h62 := hk2.2.2.1
                      refine mm_w1 (ls' := [_, _, _]) rfl ?_
                      refine mm_w1 rfl ?_
                      refine mm_wv (-1) rfl (by decide) ?_
                      refine mm_wicne ?_ ?_
                      · intro h142
                        refine mm_w1 rfl ?_
                        refine mm_wgr (vR_S3 hR) (by decide) (by decide) (vR_P3_2 hR) (vL_a0 hL) ?_
                        refine mm_w1 rfl ?_
                        refine mm_w1 rfl ?_
                        refine mm_cvn (vb_cv (vL_S0 hL) rfl rfl rfl rfl) (by decide) (by omega) (c_addR hL hp dP2 ha.2.2 hc.2.2 hne) ?_
                        intro I3 hq3
                        obtain ⟨dP3, hfa3⟩ := hq3
                        have hl3 : rd_fl L _ I3 := .ofl hfa3 (by omega)
                        have hx3 : rd_fl L I I3 := hx2.tr hl3
                        have dD3 : rd_D b n I3 := dD2.fl hl3 (by omega)
                        have hk3 := hk2.eq (hfa3 3 (by omega))
                        refine mm_wv (vb_i 1) rfl (by decide) ?_
                        refine mm_wr rfl rfl rfl ?_
                        exact ⟨_, ⟨hx3, dD3, hk3, hN3, pl_okR hp hr9 ha.2.2 hc.2.2 hne hno, C, by omega, dP3⟩, rfl⟩
                      · intro h142
                        exact absurd h142 (vb_ne_m1 (by omega))
                    · intro h124
                      rw [← hc.2.1, hno] at h124; cases h124
              · intro h83
                omega
      show mm_W _ _ 49 (mm_blk 49 0) [.ref 3, .null, .null] [] _ _
      refine mm_w1 rfl ?_
      refine mm_wgr (vR_S3 hR) (by decide) (by decide) (vR_P3_2 hR) (vL_a0 hL) ?_
      refine mm_wgiv _ (vL_S0 hL) (by decide) (by decide) hr0 ?_
      refine mm_wv (vb_i 18) rfl (by decide) ?_
      refine mm_niclt (by omega) (by omega) ?_ ?_
      · intro h9
        refine mm_w1 rfl ?_
        refine mm_cvn (vb_cv (vR_S3 hR) rfl rfl rfl rfl) (by decide) (by omega) (c_next hR dD0 hb (tx_E_n hb (by omega)) hk0.2.1 (by omega)) ?_
        intro I1 hq1
        obtain ⟨hkS1, hf31⟩ := hq1
        have hk1 : rd_tk b (tx_N b _) I1 := hkS1
        have hg1 := rd_g3.of3 hf31
        have hx1 : rd_fl L I I1 := hx0.tr (.ofg hg1)
        have dD1 : rd_D b n I1 := dD0.g3 hg1
        have dP1 := dP0.g3 hg1 (by omega)
        have hn1 := dP1.1.1
        have hr1 := dP1.1.2.1
        have hs1 := dP1.1.2.2.1
        have h61 := hk1.2.2.1
        refine mm_w1 rfl ?_
        refine mm_wgiv _ (vR_S3 hR) (by decide) (by decide) h61 ?_
        refine mm_wv (vb_i 2) rfl (by decide) ?_
        refine mm_nicne (by omega) (by omega) ?_ ?_
        · intro h27
          omega
        · intro h27
          refine mm_w1 rfl ?_
          refine mm_wgiv _ (vR_S3 hR) (by decide) (by decide) (hk1.2.2.2 (by omega)) ?_
          refine mm_w1 rfl ?_
          refine mm_wgr (vR_S3 hR) (by decide) (by decide) (vR_P3_2 hR) (vL_a0 hL) ?_
          refine mm_wgiv _ (vL_S0 hL) (by decide) (by decide) hn1 ?_
          refine mm_niclt (by omega) (by omega) ?_ ?_
          · intro h41
            refine mm_w1 rfl ?_
            refine mm_wv (vb_i 10) rfl (by decide) ?_
            refine mm_cvi (vb_cv (vR_S3 hR) rfl rfl rfl rfl) (by decide) (by omega) (c_number hR dD1 hb (by omega) hk1 (by decide) (by omega)) ?_
            rw [e1n]
            show ∀ I', _ → mm_W G d _ _ _ (.int (vb_i a) :: _) _ _
            intro I2 hq2
            obtain ⟨hg2, hkS2⟩ := hq2
            have hk2 : rd_tk b (tx_N b _) I2 := hkS2
            have hx2 : rd_fl L I I2 := hx1.tr (.ofg hg2)
            have dD2 : rd_D b n I2 := dD1.g3 hg2
            have dP2 := dP1.g3 hg2 (by omega)
            have hn2 := dP2.1.1
            have hr2 := dP2.1.2.1
            have hs2 := dP2.1.2.2.1
            have h62 := hk2.2.2.1
            refine mm_w1 (ls' := [_, _, _]) rfl ?_
            refine mm_w1 rfl ?_
            refine mm_wv (-1) rfl (by decide) ?_
            refine mm_wicne ?_ ?_
            · intro h59
              exact k64 _ hx2 dD2 hk2 dP2
            · intro h59
              exact absurd h59 (vb_ne_m1 (by omega))
          · intro h41
            omega
      · intro h9
        omega
  · rw [if_neg hr9] at h
    cases h
    show mm_W _ _ 49 (mm_blk 49 0) [.ref 3, .null, .null] [] _ _
    refine mm_w1 rfl ?_
    refine mm_wgr (vR_S3 hR) (by decide) (by decide) (vR_P3_2 hR) (vL_a0 hL) ?_
    refine mm_wgiv _ (vL_S0 hL) (by decide) (by decide) hr0 ?_
    refine mm_wv (vb_i 18) rfl (by decide) ?_
    refine mm_niclt (by omega) (by omega) ?_ ?_
    · intro h9
      omega
    · intro h9
      refine mm_w1 rfl ?_
      refine mm_wv (vb_i 2) rfl (by decide) ?_
      refine mm_cvi (vb_cv (vR_S3 hR) rfl rfl rfl rfl) (by decide) (by omega) (c_refuse hR) ?_
      intro I1 hI1
      have hx1 : rd_fl L I I1 := hx0.tr (.ofg (.ofr hI1))
      have hw1 := (congrFun (congrFun hI1 3) 3).trans (vb_up1 _ _ _ _)
      have hp1 := (congrFun (congrFun hI1 3) 4).trans ((vb_up2 _ _ (by decide)).trans hk0.1)
      refine mm_wrb rfl ?_
      exact ⟨_, ⟨hx1, hw1, hp1⟩, rfl⟩
theorem c_rT {s F : Nat} {p : pl_S} {C : List Int32} {q : (Nat × Nat) ⊕ (Nat × pl_S)} (hR : vb_isR P S L) (hb : tx_ok b n) (hs : s < n) (dD : rd_D b n I) (hk : rd_tk b s I) (hp : pl_ok p) (hC : C.length ≤ s) (dP : pl_C L p C I) (h : ln_e (px b F 0 0 (tx_N b s)) (pl_addT p) = some q) (hd : 60 ≤ d) : mm_C G d 51 [.ref 3, .int (vb_i 3)] (I, P, J, S, nc, ns) (vb_R (some (.int (vb_b (rl_is q)))) (fun I' => rd_fl L I I' ∧ rl_P b n L q I') P J S nc ns) := by
  have hL := vR_L hR
  have hL17 := vR_17 hR
  have hn7 := hb.1
  have hn10 := hp.1
  have hrc18 := hp.2.1
  have hsc3 := hp.2.2.1
  have hx0 : rd_fl L I I := .rf
  have h60 := hk.2.2.1
  have hk0 := hk
  have dD0 := dD
  have dP0 := dP
  have hn0 := dP.1.1
  have hr0 := dP.1.2.1
  have hs0 := dP.1.2.2.1
  have ht0 := dP.1.2.2.2
  have hN := tx_N_n hb (Nat.le_of_lt hs)
  have hNlt := tx_N_lt hb hs
  have hN2 := tx_N_n hb hN
  have hN3 := tx_N_n hb hN2
  have hK1 := tx_K_le b (tx_N b s)
  have hK2 := tx_K_le b (tx_N b (tx_N b s))
  obtain ⟨q1, e1⟩ : ∃ q1, px b F 0 0 (tx_N b s) = some q1 := by
    cases e : px b F 0 0 (tx_N b s) with
    | none => rw [e] at h; cases h
    | some q1 => exact ⟨q1, rfl⟩
  rw [e1] at h
  have hq1 := px_q hb F 0 0 _ _ (Or.inl (by decide)) (by decide) hN e1
  show mm_W _ _ 51 (mm_blk 51 0) [.ref 3, .int (vb_i 3), .null] [] _ _
  refine mm_w1 rfl ?_
  refine mm_cvn (vb_cv (vR_S3 hR) rfl rfl rfl rfl) (by decide) (by omega) (c_next hR dD0 hb (tx_E_n hb (by omega)) hk0.2.1 (by omega)) ?_
  intro I1 hq1
  obtain ⟨hkS1, hf31⟩ := hq1
  have hk1 : rd_tk b (tx_N b _) I1 := hkS1
  have hg1 := rd_g3.of3 hf31
  have hx1 : rd_fl L I I1 := hx0.tr (.ofg hg1)
  have dD1 : rd_D b n I1 := dD0.g3 hg1
  have dP1 := dP0.g3 hg1 (by omega)
  have hn1 := dP1.1.1
  have hr1 := dP1.1.2.1
  have hs1 := dP1.1.2.2.1
  have h61 := hk1.2.2.1
  have dC1 := dP1.2.2.2.2.2.1
  have hlen1 := dC1.1
  refine mm_w1 rfl ?_
  refine mm_wgr (vR_S3 hR) (by decide) (by decide) (vR_P3_2 hR) (vL_a0 hL) ?_
  refine mm_wgr (vL_S0 hL) (by decide) (by decide) (vL_P0_9 hL) (vL_a6 hL) ?_
  refine mm_wgiv _ (vL_S6 hL) (by decide) (by decide) hlen1 ?_
  refine mm_w1 (ls' := [_, _, _]) rfl ?_
  refine mm_w1 rfl ?_
  refine mm_wv (vb_i 0) rfl (by decide) ?_
  refine mm_wv (vb_i 0) rfl (by decide) ?_
  refine mm_cvi (vb_cv (vR_S3 hR) rfl rfl rfl rfl) (by decide) (by omega) (c_lev hR hb F 0 0 _ q1 (by decide) (by decide) hN e1 (d - 1) _ C (by show 45 + 12 ≤ d - 1; omega) dD1 hk1 dC1 (by omega)) ?_
  intro I2 hq2
  obtain ⟨hfx2, hP2⟩ := hq2
  have hx2 : rd_fl L I I2 := hx1.tr (.ofx hfx2)
  cases q1 with
  | inl x =>
    cases h
    refine mm_bifne (fun h => by cases h) (fun _ => ?_)
    refine mm_wv (vb_i 0) rfl (by decide) ?_
    refine mm_wr rfl rfl rfl ?_
    exact ⟨_, ⟨hx2, hP2⟩, rfl⟩
  | inr y =>
    obtain ⟨s1, c1⟩ := y
    cases h
    refine mm_bifne (fun _ => ?_) (fun h => by cases h)
    obtain ⟨dD2, hk2, dC2⟩ := hP2
    have hcq : px_ht c1 0 1 := hq1.2.2.2.2 0 (by decide)
    have hs1 := hq1.2.1
    have hc1 := hq1.2.2.2.1
    have hss1 := hq1.1
    have dP2 : pl_C L p (C ++ px_cc c1) I2 := by
      obtain ⟨k0, k1, k2, k3, k4, k5, k6, k7⟩ := dP1
      have e : ∀ k, k ≠ 6 → k ≠ 7 → I2 (L + k) = I1 (L + k) := fun k h6 h7 => hfx2.1 _ (by omega) (by omega) (by omega)
      refine ⟨?_, ?_, ?_, ?_, ?_, dC2, ?_, ?_⟩
      · rw [hfx2.1 L (by omega) (by omega) (by omega)]; exact k0
      · rw [e 1 (by decide) (by decide)]; exact k1
      · rw [e 2 (by decide) (by decide)]; exact k2
      · rw [e 3 (by decide) (by decide)]; exact k3
      · rw [e 4 (by decide) (by decide)]; exact k4
      · intro hh; rw [e 8 (by decide) (by decide), e 9 (by decide) (by decide)]; exact (k6 hh).app
      · intro r hr; rw [e 8 (by decide) (by decide), e 9 (by decide) (by decide)]; exact (k7 r hr).app
    refine mm_w1 rfl ?_
    refine mm_wgr (vR_S3 hR) (by decide) (by decide) (vR_P3_2 hR) (vL_a0 hL) ?_
    refine mm_w1 rfl ?_
    refine mm_w1 rfl ?_
    refine mm_cvn (vb_cv (vL_S0 hL) rfl rfl rfl rfl) (by decide) (by omega) (c_addT hL hp dP2 (by omega)) ?_
    intro I3 hq3
    obtain ⟨dP3, hfa3⟩ := hq3
    have hl3 : rd_fl L _ I3 := .ofl hfa3 (by omega)
    have hx3 : rd_fl L I I3 := hx2.tr hl3
    have dD3 : rd_D b n I3 := dD2.fl hl3 (by omega)
    have hk3 := hk2.eq (hfa3 3 (by omega))
    refine mm_wv (vb_i 1) rfl (by decide) ?_
    refine mm_wr rfl rfl rfl ?_
    exact ⟨_, ⟨hx3, dD3, hk3, hs1, pl_okT hp hcq, C ++ px_cc c1, by rw [List.length_append, px_cc_len]; omega, dP3⟩, rfl⟩ 
theorem c_rS {s F : Nat} {p : pl_S} {C : List Int32} {q : (Nat × Nat) ⊕ (Nat × pl_S)} (hR : vb_isR P S L) (hb : tx_ok b n) (hs : s < n) (dD : rd_D b n I) (hk : rd_tk b s I) (hp : pl_ok p) (hC : C.length ≤ s) (dP : pl_C L p C I) (h : ln_e (px b F 0 0 (tx_N b s)) (pl_addS p) = some q) (hsc : pl_sc p < 3) (hd : 60 ≤ d) : mm_C G d 51 [.ref 3, .int (vb_i (pl_sc p))] (I, P, J, S, nc, ns) (vb_R (some (.int (vb_b (rl_is q)))) (fun I' => rd_fl L I I' ∧ rl_P b n L q I') P J S nc ns) := by
  have hL := vR_L hR
  have hL17 := vR_17 hR
  have hn7 := hb.1
  have hn10 := hp.1
  have hrc18 := hp.2.1
  have hsc3 := hp.2.2.1
  have hx0 : rd_fl L I I := .rf
  have h60 := hk.2.2.1
  have hk0 := hk
  have dD0 := dD
  have dP0 := dP
  have hn0 := dP.1.1
  have hr0 := dP.1.2.1
  have hs0 := dP.1.2.2.1
  have ht0 := dP.1.2.2.2
  have hN := tx_N_n hb (Nat.le_of_lt hs)
  have hNlt := tx_N_lt hb hs
  have hN2 := tx_N_n hb hN
  have hN3 := tx_N_n hb hN2
  have hK1 := tx_K_le b (tx_N b s)
  have hK2 := tx_K_le b (tx_N b (tx_N b s))
  obtain ⟨q1, e1⟩ : ∃ q1, px b F 0 0 (tx_N b s) = some q1 := by
    cases e : px b F 0 0 (tx_N b s) with
    | none => rw [e] at h; cases h
    | some q1 => exact ⟨q1, rfl⟩
  rw [e1] at h
  have hq1 := px_q hb F 0 0 _ _ (Or.inl (by decide)) (by decide) hN e1
  show mm_W _ _ 51 (mm_blk 51 0) [.ref 3, .int (vb_i (pl_sc p)), .null] [] _ _
  refine mm_w1 rfl ?_
  refine mm_cvn (vb_cv (vR_S3 hR) rfl rfl rfl rfl) (by decide) (by omega) (c_next hR dD0 hb (tx_E_n hb (by omega)) hk0.2.1 (by omega)) ?_
  intro I1 hq1
  obtain ⟨hkS1, hf31⟩ := hq1
  have hk1 : rd_tk b (tx_N b _) I1 := hkS1
  have hg1 := rd_g3.of3 hf31
  have hx1 : rd_fl L I I1 := hx0.tr (.ofg hg1)
  have dD1 : rd_D b n I1 := dD0.g3 hg1
  have dP1 := dP0.g3 hg1 (by omega)
  have hn1 := dP1.1.1
  have hr1 := dP1.1.2.1
  have hs1 := dP1.1.2.2.1
  have h61 := hk1.2.2.1
  have dC1 := dP1.2.2.2.2.2.1
  have hlen1 := dC1.1
  refine mm_w1 rfl ?_
  refine mm_wgr (vR_S3 hR) (by decide) (by decide) (vR_P3_2 hR) (vL_a0 hL) ?_
  refine mm_wgr (vL_S0 hL) (by decide) (by decide) (vL_P0_9 hL) (vL_a6 hL) ?_
  refine mm_wgiv _ (vL_S6 hL) (by decide) (by decide) hlen1 ?_
  refine mm_w1 (ls' := [_, _, _]) rfl ?_
  refine mm_w1 rfl ?_
  refine mm_wv (vb_i 0) rfl (by decide) ?_
  refine mm_wv (vb_i 0) rfl (by decide) ?_
  refine mm_cvi (vb_cv (vR_S3 hR) rfl rfl rfl rfl) (by decide) (by omega) (c_lev hR hb F 0 0 _ q1 (by decide) (by decide) hN e1 (d - 1) _ C (by show 45 + 12 ≤ d - 1; omega) dD1 hk1 dC1 (by omega)) ?_
  intro I2 hq2
  obtain ⟨hfx2, hP2⟩ := hq2
  have hx2 : rd_fl L I I2 := hx1.tr (.ofx hfx2)
  cases q1 with
  | inl x =>
    cases h
    refine mm_bifne (fun h => by cases h) (fun _ => ?_)
    refine mm_wv (vb_i 0) rfl (by decide) ?_
    refine mm_wr rfl rfl rfl ?_
    exact ⟨_, ⟨hx2, hP2⟩, rfl⟩
  | inr y =>
    obtain ⟨s1, c1⟩ := y
    cases h
    refine mm_bifne (fun _ => ?_) (fun h => by cases h)
    obtain ⟨dD2, hk2, dC2⟩ := hP2
    have hcq : px_ht c1 0 1 := hq1.2.2.2.2 0 (by decide)
    have hs1 := hq1.2.1
    have hc1 := hq1.2.2.2.1
    have hss1 := hq1.1
    have dP2 : pl_C L p (C ++ px_cc c1) I2 := by
      obtain ⟨k0, k1, k2, k3, k4, k5, k6, k7⟩ := dP1
      have e : ∀ k, k ≠ 6 → k ≠ 7 → I2 (L + k) = I1 (L + k) := fun k h6 h7 => hfx2.1 _ (by omega) (by omega) (by omega)
      refine ⟨?_, ?_, ?_, ?_, ?_, dC2, ?_, ?_⟩
      · rw [hfx2.1 L (by omega) (by omega) (by omega)]; exact k0
      · rw [e 1 (by decide) (by decide)]; exact k1
      · rw [e 2 (by decide) (by decide)]; exact k2
      · rw [e 3 (by decide) (by decide)]; exact k3
      · rw [e 4 (by decide) (by decide)]; exact k4
      · intro hh; rw [e 8 (by decide) (by decide), e 9 (by decide) (by decide)]; exact (k6 hh).app
      · intro r hr; rw [e 8 (by decide) (by decide), e 9 (by decide) (by decide)]; exact (k7 r hr).app
    refine mm_w1 rfl ?_
    refine mm_wgr (vR_S3 hR) (by decide) (by decide) (vR_P3_2 hR) (vL_a0 hL) ?_
    refine mm_w1 rfl ?_
    refine mm_w1 rfl ?_
    refine mm_cvn (vb_cv (vL_S0 hL) rfl rfl rfl rfl) (by decide) (by omega) (c_addS hL hp dP2 hsc (by omega)) ?_
    intro I3 hq3
    obtain ⟨dP3, hfa3⟩ := hq3
    have hl3 : rd_fl L _ I3 := .ofl hfa3 (by omega)
    have hx3 : rd_fl L I I3 := hx2.tr hl3
    have dD3 : rd_D b n I3 := dD2.fl hl3 (by omega)
    have hk3 := hk2.eq (hfa3 3 (by omega))
    refine mm_wv (vb_i 1) rfl (by decide) ?_
    refine mm_wr rfl rfl rfl ?_
    exact ⟨_, ⟨hx3, dD3, hk3, hs1, pl_okS hp hsc hcq, C ++ px_cc c1, by rw [List.length_append, px_cc_len]; omega, dP3⟩, rfl⟩ 
end RD9
