/-! THE LAW, call by call -/
section LWL
variable {G : mm_G} {d : Nat} {I : Nat → Nat → Int32} {P : Nat → Nat → Nat} {J : Nat → Nat → Int64} {S : List (Nat × Nat)} {nc ns : Nat} {σ τ : vb_St}
variable {Q : mm_R → Prop} {i : Nat} {v5 v6 : Value}
theorem mm_wsa {k : Nat} {is : List mm_I} {ls st : List Value} {μ : mm_M} {j t b w : Nat} {c : Int32} (hG : G.1 ≤ 100000) (hj : j < G.1) (kk : mm_W G d k is ls (.int (G.2 j) :: st) μ Q) : mm_W G d k ((.iaload, t, b, w, c) :: is) ls (.int (vb_i j) :: .ref mm_SC :: st) μ Q := by
  have e : (vb_i j).toNatClampNeg = j := vb_nat (by omega)
  have h0 : ¬ vb_i j < 0 := fun h => by
    rw [Int32.lt_iff_toInt_lt, vb_toInt (by omega)] at h
    have : (0 : Int32).toInt = 0 := by decide
    omega
  obtain ⟨r, h1, h2⟩ := kk
  refine ⟨r, mm_sald (fun h => ?_) ?_, h2⟩
  · rcases h with h | h
    · exact h0 h
    · rw [e] at h; omega
  · rw [e]; exact h1
def lw_K (G : mm_G) (d i : Nat) (S : List (Nat × Nat)) (nc ns : Nat) (Q : mm_R → Prop) : Prop := ∀ (σ' : vb_St) (I' : Nat → Nat → Int32) (P' : Nat → Nat → Nat) (J' : Nat → Nat → Int64) (nc' ns' : Nat) (v5 v6 : Value), nc' ≤ nc + 1 → ns' ≤ ns + 6 → lw_V σ' P' S I' → lw_N σ' P' S I' → lw_C P' S → lw_I σ' → mm_W G d 279 (mm_blk 279 2377) [.ref mm_SC, .ref 0, .ref 60, .ref 86, .int (vb_i i), v5, v6] [] (I', P', J', S, nc', ns') Q
theorem ll_feed (hV : lw_V σ P S I) (hN : lw_N σ P S I) (hC : lw_C P S) (hI : lw_I σ) (hd : 85 ≤ d) (hG : G.1 ≤ 3072) (hi : i + 6 ≤ G.1) (K : lw_K G d i S nc ns Q) : mm_W G d 279 (mm_blk 279 224) [.ref mm_SC, .ref 0, .ref 60, .ref 86, .int (vb_i i), v5, v6] [] (I, P, J, S, nc, ns) Q := by
  obtain ⟨w, ho⟩ : ∃ w, sp_feed σ (G.2 (i + 1)) (G.2 (i + 2)) (G.2 (i + 3)) (G.2 (i + 4)) (G.2 (i + 5)) = .inl w := by
    simp only [sp_feed]
    (repeat' split) <;> exact ⟨_, rfl⟩
  refine mm_w1 rfl ?_
  refine mm_w1 rfl ?_
  refine mm_w1 rfl ?_
  refine mm_wv (vb_i 1) rfl (by decide) ?_
  refine mm_nadd ?_
  refine mm_wsa (by omega) (by omega) ?_
  refine mm_w1 rfl ?_
  refine mm_w1 rfl ?_
  refine mm_wv (vb_i 2) rfl (by decide) ?_
  refine mm_nadd ?_
  refine mm_wsa (by omega) (by omega) ?_
  refine mm_w1 rfl ?_
  refine mm_w1 rfl ?_
  refine mm_wv (vb_i 3) rfl (by decide) ?_
  refine mm_nadd ?_
  refine mm_wsa (by omega) (by omega) ?_
  refine mm_w1 rfl ?_
  refine mm_w1 rfl ?_
  refine mm_wv (vb_i 4) rfl (by decide) ?_
  refine mm_nadd ?_
  refine mm_wsa (by omega) (by omega) ?_
  refine mm_w1 rfl ?_
  refine mm_w1 rfl ?_
  refine mm_wv (vb_i 5) rfl (by decide) ?_
  refine mm_nadd ?_
  refine mm_wsa (by omega) (by omega) ?_
  obtain ⟨r, hgo, I1, P1, J1, nc1, ns1, hr, hnc, hns, hV1, hN1, hC1⟩ := vc_feed (G := G) (d := d - 1) (J := J) (nc := nc) (ns := ns) hV hN hC hI (by omega) (G.2 (i + 1)) (G.2 (i + 2)) (G.2 (i + 3)) (G.2 (i + 4)) (G.2 (i + 5))
  rw [ho] at hr
  subst hr
  obtain ⟨L0, hW0, _⟩ := id hV
  refine mm_cvX (vb_cv (vV_S0 hW0.1) rfl rfl rfl rfl) (by decide) (by omega) hgo rfl ?_
  refine mm_w1 rfl ?_
  refine mm_w1 rfl ?_
  refine mm_w1 rfl ?_
  refine mm_wv (vb_i 1) rfl (by decide) ?_
  refine mm_nadd ?_
  refine mm_wsa (by omega) (by omega) ?_
  refine mm_w1 rfl ?_
  refine mm_w1 rfl ?_
  refine mm_wv (vb_i 2) rfl (by decide) ?_
  refine mm_nadd ?_
  refine mm_wsa (by omega) (by omega) ?_
  refine mm_w1 rfl ?_
  refine mm_w1 rfl ?_
  refine mm_wv (vb_i 3) rfl (by decide) ?_
  refine mm_nadd ?_
  refine mm_wsa (by omega) (by omega) ?_
  refine mm_w1 rfl ?_
  refine mm_w1 rfl ?_
  refine mm_wv (vb_i 4) rfl (by decide) ?_
  refine mm_nadd ?_
  refine mm_wsa (by omega) (by omega) ?_
  refine mm_w1 rfl ?_
  refine mm_w1 rfl ?_
  refine mm_wv (vb_i 5) rfl (by decide) ?_
  refine mm_nadd ?_
  refine mm_wsa (by omega) (by omega) ?_
  obtain ⟨r, hgo2, z, I2, P2, J2, hr, hJ, hV2, hN2, hC2, hm2⟩ := nc_feed (G := G) (d := d - 1) (J := J1) (nc := nc1) (ns := ns1) (τ := (st_feed σ (G.2 (i + 1)) (G.2 (i + 2)) (G.2 (i + 3)) (G.2 (i + 4)) (G.2 (i + 5)))) hV1 hN1 hC1 hI (by omega) (G.2 (i + 1)) (G.2 (i + 2)) (G.2 (i + 3)) (G.2 (i + 4)) (G.2 (i + 5))
  subst hr
  refine mm_cvX (vb_cv (vM_S60 hN1.1) rfl rfl rfl rfl) (by decide) (by omega) hgo2 rfl ?_
  rw [ho] at hm2
  obtain ⟨rfl, _⟩ := hm2
  refine mm_wiceq (fun _ => ?_) (fun h => absurd rfl h)
  exact K (st_feed σ (G.2 (i + 1)) (G.2 (i + 2)) (G.2 (i + 3)) (G.2 (i + 4)) (G.2 (i + 5))) _ _ _ _ _ _ _ hnc hns hV2 hN2 hC2 (li_feed hI (G.2 (i + 1)) (G.2 (i + 2)) (G.2 (i + 3)) (G.2 (i + 4)) (G.2 (i + 5)))
theorem ll_board (hV : lw_V σ P S I) (hN : lw_N σ P S I) (hC : lw_C P S) (hI : lw_I σ) (hd : 85 ≤ d) (hG : G.1 ≤ 3072) (hi : i + 6 ≤ G.1) (K : lw_K G d i S nc ns Q) : mm_W G d 279 (mm_blk 279 297) [.ref mm_SC, .ref 0, .ref 60, .ref 86, .int (vb_i i), v5, v6] [] (I, P, J, S, nc, ns) Q := by
  refine mm_w1 rfl ?_
  refine mm_w1 rfl ?_
  refine mm_w1 rfl ?_
  refine mm_wv (vb_i 1) rfl (by decide) ?_
  refine mm_nadd ?_
  refine mm_wsa (by omega) (by omega) ?_
  refine mm_w1 rfl ?_
  obtain ⟨r, hgo, c, I1, P1, J1, nc1, ns1, hr, hnc, hns, hV1, hN1, hC1, hm1⟩ := lx_board (G := G) (d := d - 1) (J := J) (nc := nc) (ns := ns) hV hN hC hI (by omega) (G.2 (i + 1))
  subst hr
  refine mm_csX rfl (by decide) (by omega) hgo rfl ?_
  refine mm_w1 (ls' := [_, _, _, _, _, _, _]) rfl ?_
  refine mm_w1 rfl ?_
  refine mm_w1 rfl ?_
  refine mm_w1 rfl ?_
  refine mm_wv (vb_i 1) rfl (by decide) ?_
  refine mm_nadd ?_
  refine mm_wsa (by omega) (by omega) ?_
  obtain ⟨r, hgo2, z, I2, P2, J2, hr, hJ, hV2, hN2, hC2, hm2⟩ := nc_board (G := G) (d := d - 1) (J := J1) (nc := nc1) (ns := ns1) (τ := (st_board σ (G.2 (i + 1)))) hV1 hN1 hC1 hI (by omega) (G.2 (i + 1))
  subst hr
  refine mm_cvX (vb_cv (vM_S60 hN1.1) rfl rfl rfl rfl) (by decide) (by omega) hgo2 rfl ?_
  refine mm_w1 (ls' := [_, _, _, _, _, _, _]) rfl ?_
  refine mm_w1 rfl ?_
  refine mm_cvp (vb_cv (vM_S60 hN2.1) rfl rfl rfl rfl) (by decide) (by omega) (m_thrown hN2.1 rfl) ?_
  refine mm_w1 rfl ?_
  have h86 := hC2.2.2.2
  cases ho : sp_board σ (G.2 (i + 1)) with
  | inl w =>
    rw [ho] at hm1 hm2
    obtain ⟨rfl, hj⟩ := hm1
    obtain ⟨rfl, ht⟩ := hm2
    have hj2 := (congrFun hJ 0).trans hj
    refine mm_wiceq (fun _ => ?_) (fun h => absurd ht h)
    refine mm_w1 rfl ?_
    refine mm_nifne (by decide) (fun h => absurd rfl h) (fun _ => ?_)
    refine mm_w1 rfl ?_
    refine mm_wv (vb_i 0) rfl (by decide) ?_
    refine mm_wla h86 (by decide) (by decide) ?_
    refine mm_w1 rfl ?_
    refine mm_w1 rfl ?_
    refine mm_w1 rfl ?_
    refine mm_wifeq (fun _ => ?_) (fun h => absurd (nt_cmp.mpr hj2) h)
    refine mm_wgoto ?_
    exact K (st_board σ (G.2 (i + 1))) _ _ _ _ _ _ _ hnc hns hV2 hN2 hC2 (li_board hI (vmd_p7 hN.2) (G.2 (i + 1)))
  | inr E =>
    rw [ho] at hm1 hm2
    have hm1 : c = vb_i 1 := hm1
    have hm2 : I2 60 0 = vb_i 1 := hm2
    subst hm1
    refine mm_wiceq (fun _ => ?_) (fun h => absurd hm2 h)
    refine mm_w1 rfl ?_
    refine mm_nifne (by decide) (fun _ => ?_) (fun h => absurd h (by decide))
    refine mm_wgoto ?_
    exact K (st_board σ (G.2 (i + 1))) _ _ _ _ _ _ _ hnc hns hV2 hN2 hC2 (li_board hI (vmd_p7 hN.2) (G.2 (i + 1)))
theorem ll_fault (hV : lw_V σ P S I) (hN : lw_N σ P S I) (hC : lw_C P S) (hI : lw_I σ) (hd : 85 ≤ d) (hG : G.1 ≤ 3072) (hi : i + 6 ≤ G.1) (K : lw_K G d i S nc ns Q) : mm_W G d 279 (mm_blk 279 353) [.ref mm_SC, .ref 0, .ref 60, .ref 86, .int (vb_i i), v5, v6] [] (I, P, J, S, nc, ns) Q := by
  obtain ⟨w, ho⟩ : ∃ w, sp_fault σ = .inl w := by
    simp only [sp_fault]
    (repeat' split) <;> exact ⟨_, rfl⟩
  refine mm_w1 rfl ?_
  obtain ⟨r, hgo, I1, P1, J1, nc1, ns1, hr, hnc, hns, hV1, hN1, hC1⟩ := vc_fault (G := G) (d := d - 1) (J := J) (nc := nc) (ns := ns) hV hN hC hI (by omega)
  rw [ho] at hr
  subst hr
  obtain ⟨L0, hW0, _⟩ := id hV
  refine mm_cvX (vb_cv (vV_S0 hW0.1) rfl rfl rfl rfl) (by decide) (by omega) hgo rfl ?_
  refine mm_w1 rfl ?_
  obtain ⟨r, hgo2, z, I2, P2, J2, hr, hJ, hV2, hN2, hC2, hm2⟩ := nc_fault (G := G) (d := d - 1) (J := J1) (nc := nc1) (ns := ns1) (τ := σ) hV1 hN1 hC1 hI (by omega)
  subst hr
  refine mm_cvX (vb_cv (vM_S60 hN1.1) rfl rfl rfl rfl) (by decide) (by omega) hgo2 rfl ?_
  rw [ho] at hm2
  obtain ⟨rfl, _⟩ := hm2
  refine mm_wiceq (fun _ => ?_) (fun h => absurd rfl h)
  exact K σ _ _ _ _ _ _ _ hnc hns hV2 hN2 hC2 hI
theorem ll_count (hV : lw_V σ P S I) (hN : lw_N σ P S I) (hC : lw_C P S) (hI : lw_I σ) (hd : 85 ≤ d) (hG : G.1 ≤ 3072) (hi : i + 6 ≤ G.1) (K : lw_K G d i S nc ns Q) : mm_W G d 279 (mm_blk 279 366) [.ref mm_SC, .ref 0, .ref 60, .ref 86, .int (vb_i i), v5, v6] [] (I, P, J, S, nc, ns) Q := by
  refine mm_w1 rfl ?_
  refine mm_w1 rfl ?_
  refine mm_w1 rfl ?_
  refine mm_wv (vb_i 1) rfl (by decide) ?_
  refine mm_nadd ?_
  refine mm_wsa (by omega) (by omega) ?_
  refine mm_w1 rfl ?_
  obtain ⟨r, hgo, c, I1, P1, J1, nc1, ns1, hr, hnc, hns, hV1, hN1, hC1, hm1⟩ := lx_count (G := G) (d := d - 1) (J := J) (nc := nc) (ns := ns) hV hN hC hI (by omega) (G.2 (i + 1))
  subst hr
  refine mm_csX rfl (by decide) (by omega) hgo rfl ?_
  refine mm_w1 (ls' := [_, _, _, _, _, _, _]) rfl ?_
  refine mm_w1 rfl ?_
  refine mm_w1 rfl ?_
  refine mm_w1 rfl ?_
  refine mm_wv (vb_i 1) rfl (by decide) ?_
  refine mm_nadd ?_
  refine mm_wsa (by omega) (by omega) ?_
  obtain ⟨r, hgo2, z, I2, P2, J2, hr, hJ, hV2, hN2, hC2, hm2⟩ := nc_count (G := G) (d := d - 1) (J := J1) (nc := nc1) (ns := ns1) (τ := σ) hV1 hN1 hC1 hI (by omega) (G.2 (i + 1))
  subst hr
  refine mm_cvX (vb_cv (vM_S60 hN1.1) rfl rfl rfl rfl) (by decide) (by omega) hgo2 rfl ?_
  refine mm_w1 (ls' := [_, _, _, _, _, _, _]) rfl ?_
  refine mm_w1 rfl ?_
  refine mm_cvp (vb_cv (vM_S60 hN2.1) rfl rfl rfl rfl) (by decide) (by omega) (m_thrown hN2.1 rfl) ?_
  refine mm_w1 rfl ?_
  have h86 := hC2.2.2.2
  cases ho : sp_count σ (G.2 (i + 1)) with
  | inl w =>
    rw [ho] at hm1 hm2
    obtain ⟨rfl, hj⟩ := hm1
    obtain ⟨rfl, ht⟩ := hm2
    have hj2 := (congrFun hJ 0).trans hj
    refine mm_wiceq (fun _ => ?_) (fun h => absurd ht h)
    refine mm_w1 rfl ?_
    refine mm_nifne (by decide) (fun h => absurd rfl h) (fun _ => ?_)
    refine mm_w1 rfl ?_
    refine mm_wv (vb_i 0) rfl (by decide) ?_
    refine mm_wla h86 (by decide) (by decide) ?_
    refine mm_w1 rfl ?_
    refine mm_w1 rfl ?_
    refine mm_w1 rfl ?_
    refine mm_wifeq (fun _ => ?_) (fun h => absurd (nt_cmp.mpr hj2) h)
    refine mm_wgoto ?_
    exact K σ _ _ _ _ _ _ _ hnc hns hV2 hN2 hC2 hI
  | inr E =>
    rw [ho] at hm1 hm2
    obtain rfl := le_count ho
    subst hm1
    refine mm_wiceq (fun _ => ?_) (fun h => absurd hm2 h)
    refine mm_w1 rfl ?_
    refine mm_nifne (by decide) (fun _ => ?_) (fun h => absurd h (by decide))
    refine mm_wgoto ?_
    exact K σ _ _ _ _ _ _ _ hnc hns hV2 hN2 hC2 hI
theorem ll_village (hV : lw_V σ P S I) (hN : lw_N σ P S I) (hC : lw_C P S) (hI : lw_I σ) (hd : 85 ≤ d) (hG : G.1 ≤ 3072) (hi : i + 6 ≤ G.1) (K : lw_K G d i S nc ns Q) : mm_W G d 279 (mm_blk 279 422) [.ref mm_SC, .ref 0, .ref 60, .ref 86, .int (vb_i i), v5, v6] [] (I, P, J, S, nc, ns) Q := by
  refine mm_w1 rfl ?_
  refine mm_w1 rfl ?_
  refine mm_w1 rfl ?_
  refine mm_wv (vb_i 1) rfl (by decide) ?_
  refine mm_nadd ?_
  refine mm_wsa (by omega) (by omega) ?_
  refine mm_w1 rfl ?_
  refine mm_w1 rfl ?_
  refine mm_wv (vb_i 2) rfl (by decide) ?_
  refine mm_nadd ?_
  refine mm_wsa (by omega) (by omega) ?_
  refine mm_w1 rfl ?_
  obtain ⟨r, hgo, c, I1, P1, J1, nc1, ns1, hr, hnc, hns, hV1, hN1, hC1, hm1⟩ := lx_village (G := G) (d := d - 1) (J := J) (nc := nc) (ns := ns) hV hN hC hI (by omega) (G.2 (i + 1)) (G.2 (i + 2))
  subst hr
  refine mm_csX rfl (by decide) (by omega) hgo rfl ?_
  refine mm_w1 (ls' := [_, _, _, _, _, _, _]) rfl ?_
  refine mm_w1 rfl ?_
  refine mm_w1 rfl ?_
  refine mm_w1 rfl ?_
  refine mm_wv (vb_i 1) rfl (by decide) ?_
  refine mm_nadd ?_
  refine mm_wsa (by omega) (by omega) ?_
  refine mm_w1 rfl ?_
  refine mm_w1 rfl ?_
  refine mm_wv (vb_i 2) rfl (by decide) ?_
  refine mm_nadd ?_
  refine mm_wsa (by omega) (by omega) ?_
  obtain ⟨r, hgo2, z, I2, P2, J2, hr, hJ, hV2, hN2, hC2, hm2⟩ := nc_village (G := G) (d := d - 1) (J := J1) (nc := nc1) (ns := ns1) (τ := σ) hV1 hN1 hC1 hI (by omega) (G.2 (i + 1)) (G.2 (i + 2))
  subst hr
  refine mm_cvX (vb_cv (vM_S60 hN1.1) rfl rfl rfl rfl) (by decide) (by omega) hgo2 rfl ?_
  refine mm_w1 (ls' := [_, _, _, _, _, _, _]) rfl ?_
  refine mm_w1 rfl ?_
  refine mm_cvp (vb_cv (vM_S60 hN2.1) rfl rfl rfl rfl) (by decide) (by omega) (m_thrown hN2.1 rfl) ?_
  refine mm_w1 rfl ?_
  have h86 := hC2.2.2.2
  cases ho : sp_village σ (G.2 (i + 1)) (G.2 (i + 2)) with
  | inl w =>
    rw [ho] at hm1 hm2
    obtain ⟨rfl, hj⟩ := hm1
    obtain ⟨rfl, ht⟩ := hm2
    have hj2 := (congrFun hJ 0).trans hj
    refine mm_wiceq (fun _ => ?_) (fun h => absurd ht h)
    refine mm_w1 rfl ?_
    refine mm_nifne (by decide) (fun h => absurd rfl h) (fun _ => ?_)
    refine mm_w1 rfl ?_
    refine mm_wv (vb_i 0) rfl (by decide) ?_
    refine mm_wla h86 (by decide) (by decide) ?_
    refine mm_w1 rfl ?_
    refine mm_w1 rfl ?_
    refine mm_w1 rfl ?_
    refine mm_wifeq (fun _ => ?_) (fun h => absurd (nt_cmp.mpr hj2) h)
    refine mm_wgoto ?_
    exact K σ _ _ _ _ _ _ _ hnc hns hV2 hN2 hC2 hI
  | inr E =>
    rw [ho] at hm1 hm2
    obtain rfl := le_village ho
    subst hm1
    refine mm_wiceq (fun _ => ?_) (fun h => absurd hm2 h)
    refine mm_w1 rfl ?_
    refine mm_nifne (by decide) (fun _ => ?_) (fun h => absurd h (by decide))
    refine mm_wgoto ?_
    exact K σ _ _ _ _ _ _ _ hnc hns hV2 hN2 hC2 hI
theorem ll_side (hV : lw_V σ P S I) (hN : lw_N σ P S I) (hC : lw_C P S) (hI : lw_I σ) (hd : 85 ≤ d) (hG : G.1 ≤ 3072) (hi : i + 6 ≤ G.1) (K : lw_K G d i S nc ns Q) : mm_W G d 279 (mm_blk 279 490) [.ref mm_SC, .ref 0, .ref 60, .ref 86, .int (vb_i i), v5, v6] [] (I, P, J, S, nc, ns) Q := by
  refine mm_w1 rfl ?_
  refine mm_w1 rfl ?_
  refine mm_w1 rfl ?_
  refine mm_wv (vb_i 1) rfl (by decide) ?_
  refine mm_nadd ?_
  refine mm_wsa (by omega) (by omega) ?_
  refine mm_w1 rfl ?_
  refine mm_w1 rfl ?_
  refine mm_wv (vb_i 2) rfl (by decide) ?_
  refine mm_nadd ?_
  refine mm_wsa (by omega) (by omega) ?_
  refine mm_w1 rfl ?_
  obtain ⟨r, hgo, c, I1, P1, J1, nc1, ns1, hr, hnc, hns, hV1, hN1, hC1, hm1⟩ := lx_side (G := G) (d := d - 1) (J := J) (nc := nc) (ns := ns) hV hN hC hI (by omega) (G.2 (i + 1)) (G.2 (i + 2))
  subst hr
  refine mm_csX rfl (by decide) (by omega) hgo rfl ?_
  refine mm_w1 (ls' := [_, _, _, _, _, _, _]) rfl ?_
  refine mm_w1 rfl ?_
  refine mm_w1 rfl ?_
  refine mm_w1 rfl ?_
  refine mm_wv (vb_i 1) rfl (by decide) ?_
  refine mm_nadd ?_
  refine mm_wsa (by omega) (by omega) ?_
  refine mm_w1 rfl ?_
  refine mm_w1 rfl ?_
  refine mm_wv (vb_i 2) rfl (by decide) ?_
  refine mm_nadd ?_
  refine mm_wsa (by omega) (by omega) ?_
  obtain ⟨r, hgo2, z, I2, P2, J2, hr, hJ, hV2, hN2, hC2, hm2⟩ := nc_side (G := G) (d := d - 1) (J := J1) (nc := nc1) (ns := ns1) (τ := σ) hV1 hN1 hC1 hI (by omega) (G.2 (i + 1)) (G.2 (i + 2))
  subst hr
  refine mm_cvX (vb_cv (vM_S60 hN1.1) rfl rfl rfl rfl) (by decide) (by omega) hgo2 rfl ?_
  refine mm_w1 (ls' := [_, _, _, _, _, _, _]) rfl ?_
  refine mm_w1 rfl ?_
  refine mm_cvp (vb_cv (vM_S60 hN2.1) rfl rfl rfl rfl) (by decide) (by omega) (m_thrown hN2.1 rfl) ?_
  refine mm_w1 rfl ?_
  have h86 := hC2.2.2.2
  cases ho : sp_side σ (G.2 (i + 1)) (G.2 (i + 2)) with
  | inl w =>
    rw [ho] at hm1 hm2
    obtain ⟨rfl, hj⟩ := hm1
    obtain ⟨rfl, ht⟩ := hm2
    have hj2 := (congrFun hJ 0).trans hj
    refine mm_wiceq (fun _ => ?_) (fun h => absurd ht h)
    refine mm_w1 rfl ?_
    refine mm_nifne (by decide) (fun h => absurd rfl h) (fun _ => ?_)
    refine mm_w1 rfl ?_
    refine mm_wv (vb_i 0) rfl (by decide) ?_
    refine mm_wla h86 (by decide) (by decide) ?_
    refine mm_w1 rfl ?_
    refine mm_w1 rfl ?_
    refine mm_w1 rfl ?_
    refine mm_wifeq (fun _ => ?_) (fun h => absurd (nt_cmp.mpr hj2) h)
    refine mm_wgoto ?_
    exact K σ _ _ _ _ _ _ _ hnc hns hV2 hN2 hC2 hI
  | inr E =>
    rw [ho] at hm1 hm2
    obtain rfl := le_side ho
    subst hm1
    refine mm_wiceq (fun _ => ?_) (fun h => absurd hm2 h)
    refine mm_w1 rfl ?_
    refine mm_nifne (by decide) (fun _ => ?_) (fun h => absurd h (by decide))
    refine mm_wgoto ?_
    exact K σ _ _ _ _ _ _ _ hnc hns hV2 hN2 hC2 hI
theorem ll_road (hV : lw_V σ P S I) (hN : lw_N σ P S I) (hC : lw_C P S) (hI : lw_I σ) (hd : 85 ≤ d) (hG : G.1 ≤ 3072) (hi : i + 6 ≤ G.1) (K : lw_K G d i S nc ns Q) : mm_W G d 279 (mm_blk 279 558) [.ref mm_SC, .ref 0, .ref 60, .ref 86, .int (vb_i i), v5, v6] [] (I, P, J, S, nc, ns) Q := by
  refine mm_w1 rfl ?_
  refine mm_w1 rfl ?_
  refine mm_w1 rfl ?_
  refine mm_wv (vb_i 1) rfl (by decide) ?_
  refine mm_nadd ?_
  refine mm_wsa (by omega) (by omega) ?_
  refine mm_w1 rfl ?_
  refine mm_w1 rfl ?_
  refine mm_wv (vb_i 2) rfl (by decide) ?_
  refine mm_nadd ?_
  refine mm_wsa (by omega) (by omega) ?_
  refine mm_w1 rfl ?_
  obtain ⟨r, hgo, c, I1, P1, J1, nc1, ns1, hr, hnc, hns, hV1, hN1, hC1, hm1⟩ := lx_road (G := G) (d := d - 1) (J := J) (nc := nc) (ns := ns) hV hN hC hI (by omega) (G.2 (i + 1)) (G.2 (i + 2))
  subst hr
  refine mm_csX rfl (by decide) (by omega) hgo rfl ?_
  refine mm_w1 (ls' := [_, _, _, _, _, _, _]) rfl ?_
  refine mm_w1 rfl ?_
  refine mm_w1 rfl ?_
  refine mm_w1 rfl ?_
  refine mm_wv (vb_i 1) rfl (by decide) ?_
  refine mm_nadd ?_
  refine mm_wsa (by omega) (by omega) ?_
  refine mm_w1 rfl ?_
  refine mm_w1 rfl ?_
  refine mm_wv (vb_i 2) rfl (by decide) ?_
  refine mm_nadd ?_
  refine mm_wsa (by omega) (by omega) ?_
  obtain ⟨r, hgo2, z, I2, P2, J2, hr, hJ, hV2, hN2, hC2, hm2⟩ := nc_road (G := G) (d := d - 1) (J := J1) (nc := nc1) (ns := ns1) (τ := σ) hV1 hN1 hC1 hI (by omega) (G.2 (i + 1)) (G.2 (i + 2))
  subst hr
  refine mm_cvX (vb_cv (vM_S60 hN1.1) rfl rfl rfl rfl) (by decide) (by omega) hgo2 rfl ?_
  refine mm_w1 (ls' := [_, _, _, _, _, _, _]) rfl ?_
  refine mm_w1 rfl ?_
  refine mm_cvp (vb_cv (vM_S60 hN2.1) rfl rfl rfl rfl) (by decide) (by omega) (m_thrown hN2.1 rfl) ?_
  refine mm_w1 rfl ?_
  have h86 := hC2.2.2.2
  cases ho : sp_road σ (G.2 (i + 1)) (G.2 (i + 2)) with
  | inl w =>
    rw [ho] at hm1 hm2
    obtain ⟨rfl, hj⟩ := hm1
    obtain ⟨rfl, ht⟩ := hm2
    have hj2 := (congrFun hJ 0).trans hj
    refine mm_wiceq (fun _ => ?_) (fun h => absurd ht h)
    refine mm_w1 rfl ?_
    refine mm_nifne (by decide) (fun h => absurd rfl h) (fun _ => ?_)
    refine mm_w1 rfl ?_
    refine mm_wv (vb_i 0) rfl (by decide) ?_
    refine mm_wla h86 (by decide) (by decide) ?_
    refine mm_w1 rfl ?_
    refine mm_wifeq (fun hz => ?_) (fun hz => ?_)
    · refine mm_w1 rfl ?_
      refine mm_w1 rfl ?_
      refine mm_wifeq (fun _ => ?_) (fun h => absurd (nt_cmp.mpr (hj2.trans (if_pos hz))) h)
      refine mm_wgoto ?_
      exact K σ _ _ _ _ _ _ _ hnc hns hV2 hN2 hC2 hI
    · refine mm_w1 rfl ?_
      refine mm_wgoto ?_
      refine mm_w1 rfl ?_
      refine mm_wifeq (fun _ => ?_) (fun h => absurd (nt_cmp.mpr (hj2.trans (if_neg hz))) h)
      refine mm_wgoto ?_
      exact K σ _ _ _ _ _ _ _ hnc hns hV2 hN2 hC2 hI
  | inr E =>
    rw [ho] at hm1 hm2
    obtain rfl := le_road ho
    subst hm1
    refine mm_wiceq (fun _ => ?_) (fun h => absurd hm2 h)
    refine mm_w1 rfl ?_
    refine mm_nifne (by decide) (fun _ => ?_) (fun h => absurd h (by decide))
    refine mm_wgoto ?_
    exact K σ _ _ _ _ _ _ _ hnc hns hV2 hN2 hC2 hI
theorem ll_lawful (hV : lw_V σ P S I) (hN : lw_N σ P S I) (hC : lw_C P S) (hI : lw_I σ) (hd : 85 ≤ d) (hG : G.1 ≤ 3072) (hi : i + 6 ≤ G.1) (K : lw_K G d i S nc ns Q) : mm_W G d 279 (mm_blk 279 633) [.ref mm_SC, .ref 0, .ref 60, .ref 86, .int (vb_i i), v5, v6] [] (I, P, J, S, nc, ns) Q := by
  refine mm_w1 rfl ?_
  refine mm_w1 rfl ?_
  refine mm_w1 rfl ?_
  refine mm_wv (vb_i 1) rfl (by decide) ?_
  refine mm_nadd ?_
  refine mm_wsa (by omega) (by omega) ?_
  refine mm_w1 rfl ?_
  refine mm_w1 rfl ?_
  refine mm_wv (vb_i 2) rfl (by decide) ?_
  refine mm_nadd ?_
  refine mm_wsa (by omega) (by omega) ?_
  refine mm_w1 rfl ?_
  obtain ⟨r, hgo, c, I1, P1, J1, nc1, ns1, hr, hnc, hns, hV1, hN1, hC1, hm1⟩ := lx_lawful (G := G) (d := d - 1) (J := J) (nc := nc) (ns := ns) hV hN hC hI (by omega) (G.2 (i + 1)) (G.2 (i + 2))
  subst hr
  refine mm_csX rfl (by decide) (by omega) hgo rfl ?_
  refine mm_w1 (ls' := [_, _, _, _, _, _, _]) rfl ?_
  refine mm_w1 rfl ?_
  refine mm_w1 rfl ?_
  refine mm_w1 rfl ?_
  refine mm_wv (vb_i 1) rfl (by decide) ?_
  refine mm_nadd ?_
  refine mm_wsa (by omega) (by omega) ?_
  refine mm_w1 rfl ?_
  refine mm_w1 rfl ?_
  refine mm_wv (vb_i 2) rfl (by decide) ?_
  refine mm_nadd ?_
  refine mm_wsa (by omega) (by omega) ?_
  obtain ⟨r, hgo2, z, I2, P2, J2, hr, hJ, hV2, hN2, hC2, hm2⟩ := nc_lawful (G := G) (d := d - 1) (J := J1) (nc := nc1) (ns := ns1) (τ := σ) hV1 hN1 hC1 hI (by omega) (G.2 (i + 1)) (G.2 (i + 2))
  subst hr
  refine mm_cvX (vb_cv (vM_S60 hN1.1) rfl rfl rfl rfl) (by decide) (by omega) hgo2 rfl ?_
  refine mm_w1 (ls' := [_, _, _, _, _, _, _]) rfl ?_
  refine mm_w1 rfl ?_
  refine mm_cvp (vb_cv (vM_S60 hN2.1) rfl rfl rfl rfl) (by decide) (by omega) (m_thrown hN2.1 rfl) ?_
  refine mm_w1 rfl ?_
  have h86 := hC2.2.2.2
  cases ho : sp_lawful σ (G.2 (i + 1)) (G.2 (i + 2)) with
  | inl w =>
    rw [ho] at hm1 hm2
    obtain ⟨rfl, hj⟩ := hm1
    obtain ⟨rfl, ht⟩ := hm2
    have hj2 := (congrFun hJ 0).trans hj
    refine mm_wiceq (fun _ => ?_) (fun h => absurd ht h)
    refine mm_w1 rfl ?_
    refine mm_nifne (by decide) (fun h => absurd rfl h) (fun _ => ?_)
    refine mm_w1 rfl ?_
    refine mm_wv (vb_i 0) rfl (by decide) ?_
    refine mm_wla h86 (by decide) (by decide) ?_
    refine mm_w1 rfl ?_
    refine mm_wifeq (fun hz => ?_) (fun hz => ?_)
    · refine mm_w1 rfl ?_
      refine mm_w1 rfl ?_
      refine mm_wifeq (fun _ => ?_) (fun h => absurd (nt_cmp.mpr (hj2.trans (if_pos hz))) h)
      refine mm_wgoto ?_
      exact K σ _ _ _ _ _ _ _ hnc hns hV2 hN2 hC2 hI
    · refine mm_w1 rfl ?_
      refine mm_wgoto ?_
      refine mm_w1 rfl ?_
      refine mm_wifeq (fun _ => ?_) (fun h => absurd (nt_cmp.mpr (hj2.trans (if_neg hz))) h)
      refine mm_wgoto ?_
      exact K σ _ _ _ _ _ _ _ hnc hns hV2 hN2 hC2 hI
  | inr E =>
    rw [ho] at hm1 hm2
    obtain rfl := le_lawful ho
    subst hm1
    refine mm_wiceq (fun _ => ?_) (fun h => absurd hm2 h)
    refine mm_w1 rfl ?_
    refine mm_nifne (by decide) (fun _ => ?_) (fun h => absurd h (by decide))
    refine mm_wgoto ?_
    exact K σ _ _ _ _ _ _ _ hnc hns hV2 hN2 hC2 hI
theorem ll_move (hV : lw_V σ P S I) (hN : lw_N σ P S I) (hC : lw_C P S) (hI : lw_I σ) (hd : 85 ≤ d) (hG : G.1 ≤ 3072) (hi : i + 6 ≤ G.1) (K : lw_K G d i S nc ns Q) : mm_W G d 279 (mm_blk 279 708) [.ref mm_SC, .ref 0, .ref 60, .ref 86, .int (vb_i i), v5, v6] [] (I, P, J, S, nc, ns) Q := by
  refine mm_w1 rfl ?_
  refine mm_w1 rfl ?_
  refine mm_w1 rfl ?_
  refine mm_wv (vb_i 1) rfl (by decide) ?_
  refine mm_nadd ?_
  refine mm_wsa (by omega) (by omega) ?_
  refine mm_w1 rfl ?_
  refine mm_w1 rfl ?_
  refine mm_wv (vb_i 2) rfl (by decide) ?_
  refine mm_nadd ?_
  refine mm_wsa (by omega) (by omega) ?_
  refine mm_w1 rfl ?_
  obtain ⟨r, hgo, c, I1, P1, J1, nc1, ns1, hr, hnc, hns, hV1, hN1, hC1, hm1⟩ := lx_move (G := G) (d := d - 1) (J := J) (nc := nc) (ns := ns) hV hN hC hI (by omega) (G.2 (i + 1)) (G.2 (i + 2))
  subst hr
  refine mm_csX rfl (by decide) (by omega) hgo rfl ?_
  refine mm_w1 (ls' := [_, _, _, _, _, _, _]) rfl ?_
  refine mm_w1 rfl ?_
  refine mm_w1 rfl ?_
  refine mm_w1 rfl ?_
  refine mm_wv (vb_i 1) rfl (by decide) ?_
  refine mm_nadd ?_
  refine mm_wsa (by omega) (by omega) ?_
  refine mm_w1 rfl ?_
  refine mm_w1 rfl ?_
  refine mm_wv (vb_i 2) rfl (by decide) ?_
  refine mm_nadd ?_
  refine mm_wsa (by omega) (by omega) ?_
  obtain ⟨r, hgo2, z, I2, P2, J2, hr, hJ, hV2, hN2, hC2, hm2⟩ := nc_move (G := G) (d := d - 1) (J := J1) (nc := nc1) (ns := ns1) (τ := (st_move σ (G.2 (i + 1)) (G.2 (i + 2)))) hV1 hN1 hC1 hI (by omega) (G.2 (i + 1)) (G.2 (i + 2))
  subst hr
  refine mm_cvX (vb_cv (vM_S60 hN1.1) rfl rfl rfl rfl) (by decide) (by omega) hgo2 rfl ?_
  refine mm_w1 (ls' := [_, _, _, _, _, _, _]) rfl ?_
  refine mm_w1 rfl ?_
  refine mm_cvp (vb_cv (vM_S60 hN2.1) rfl rfl rfl rfl) (by decide) (by omega) (m_thrown hN2.1 rfl) ?_
  refine mm_w1 rfl ?_
  have h86 := hC2.2.2.2
  cases ho : sp_move σ (G.2 (i + 1)) (G.2 (i + 2)) with
  | inl w =>
    rw [ho] at hm1 hm2
    obtain ⟨rfl, hj⟩ := hm1
    obtain ⟨rfl, ht⟩ := hm2
    have hj2 := (congrFun hJ 0).trans hj
    refine mm_wiceq (fun _ => ?_) (fun h => absurd ht h)
    refine mm_w1 rfl ?_
    refine mm_nifne (by decide) (fun h => absurd rfl h) (fun _ => ?_)
    refine mm_w1 rfl ?_
    refine mm_wv (vb_i 0) rfl (by decide) ?_
    refine mm_wla h86 (by decide) (by decide) ?_
    refine mm_w1 rfl ?_
    refine mm_w1 rfl ?_
    refine mm_w1 rfl ?_
    refine mm_wifeq (fun _ => ?_) (fun h => absurd (nt_cmp.mpr hj2) h)
    refine mm_wgoto ?_
    exact K (st_move σ (G.2 (i + 1)) (G.2 (i + 2))) _ _ _ _ _ _ _ hnc hns hV2 hN2 hC2 (li_move hI (vm_10 (vmd_l hN.2)) (vm_sc3 (vmd_l hN.2)) (G.2 (i + 1)) (G.2 (i + 2)))
  | inr E =>
    rw [ho] at hm1 hm2
    obtain rfl := le_move ho
    subst hm1
    refine mm_wiceq (fun _ => ?_) (fun h => absurd hm2 h)
    refine mm_w1 rfl ?_
    refine mm_nifne (by decide) (fun _ => ?_) (fun h => absurd h (by decide))
    refine mm_wgoto ?_
    exact K (st_move σ (G.2 (i + 1)) (G.2 (i + 2))) _ _ _ _ _ _ _ hnc hns hV2 hN2 hC2 (li_move hI (vm_10 (vmd_l hN.2)) (vm_sc3 (vmd_l hN.2)) (G.2 (i + 1)) (G.2 (i + 2)))
theorem ll_pass (hV : lw_V σ P S I) (hN : lw_N σ P S I) (hC : lw_C P S) (hI : lw_I σ) (hd : 85 ≤ d) (hG : G.1 ≤ 3072) (hi : i + 6 ≤ G.1) (K : lw_K G d i S nc ns Q) : mm_W G d 279 (mm_blk 279 776) [.ref mm_SC, .ref 0, .ref 60, .ref 86, .int (vb_i i), v5, v6] [] (I, P, J, S, nc, ns) Q := by
  obtain ⟨w, ho⟩ : ∃ w, sp_pass σ = .inl w := by
    simp only [sp_pass]
    (repeat' split) <;> exact ⟨_, rfl⟩
  refine mm_w1 rfl ?_
  obtain ⟨r, hgo, I1, P1, J1, nc1, ns1, hr, hnc, hns, hV1, hN1, hC1⟩ := vc_pass (G := G) (d := d - 1) (J := J) (nc := nc) (ns := ns) hV hN hC hI (by omega)
  rw [ho] at hr
  subst hr
  obtain ⟨L0, hW0, _⟩ := id hV
  refine mm_cvX (vb_cv (vV_S0 hW0.1) rfl rfl rfl rfl) (by decide) (by omega) hgo rfl ?_
  refine mm_w1 rfl ?_
  obtain ⟨r, hgo2, z, I2, P2, J2, hr, hJ, hV2, hN2, hC2, hm2⟩ := nc_pass (G := G) (d := d - 1) (J := J1) (nc := nc1) (ns := ns1) (τ := (st_pass σ)) hV1 hN1 hC1 hI (by omega)
  subst hr
  refine mm_cvX (vb_cv (vM_S60 hN1.1) rfl rfl rfl rfl) (by decide) (by omega) hgo2 rfl ?_
  rw [ho] at hm2
  obtain ⟨rfl, _⟩ := hm2
  refine mm_wiceq (fun _ => ?_) (fun h => absurd rfl h)
  exact K (st_pass σ) _ _ _ _ _ _ _ hnc hns hV2 hN2 hC2 (li_pass hI (vm_10 (vmd_l hN.2)) (vm_sc3 (vmd_l hN.2)))
theorem ll_fly (hV : lw_V σ P S I) (hN : lw_N σ P S I) (hC : lw_C P S) (hI : lw_I σ) (hd : 85 ≤ d) (hG : G.1 ≤ 3072) (hi : i + 6 ≤ G.1) (K : lw_K G d i S nc ns Q) : mm_W G d 279 (mm_blk 279 789) [.ref mm_SC, .ref 0, .ref 60, .ref 86, .int (vb_i i), v5, v6] [] (I, P, J, S, nc, ns) Q := by
  refine mm_w1 rfl ?_
  refine mm_w1 rfl ?_
  refine mm_w1 rfl ?_
  refine mm_wv (vb_i 1) rfl (by decide) ?_
  refine mm_nadd ?_
  refine mm_wsa (by omega) (by omega) ?_
  refine mm_w1 rfl ?_
  refine mm_w1 rfl ?_
  refine mm_wv (vb_i 2) rfl (by decide) ?_
  refine mm_nadd ?_
  refine mm_wsa (by omega) (by omega) ?_
  refine mm_w1 rfl ?_
  obtain ⟨r, hgo, c, I1, P1, J1, nc1, ns1, hr, hnc, hns, hV1, hN1, hC1, hm1⟩ := lx_fly (G := G) (d := d - 1) (J := J) (nc := nc) (ns := ns) hV hN hC hI (by omega) (G.2 (i + 1)) (G.2 (i + 2))
  subst hr
  refine mm_csX rfl (by decide) (by omega) hgo rfl ?_
  refine mm_w1 (ls' := [_, _, _, _, _, _, _]) rfl ?_
  refine mm_w1 rfl ?_
  refine mm_w1 rfl ?_
  refine mm_w1 rfl ?_
  refine mm_wv (vb_i 1) rfl (by decide) ?_
  refine mm_nadd ?_
  refine mm_wsa (by omega) (by omega) ?_
  refine mm_w1 rfl ?_
  refine mm_w1 rfl ?_
  refine mm_wv (vb_i 2) rfl (by decide) ?_
  refine mm_nadd ?_
  refine mm_wsa (by omega) (by omega) ?_
  obtain ⟨r, hgo2, z, I2, P2, J2, hr, hJ, hV2, hN2, hC2, hm2⟩ := nc_fly (G := G) (d := d - 1) (J := J1) (nc := nc1) (ns := ns1) (τ := (st_fly σ (G.2 (i + 1)) (G.2 (i + 2)))) hV1 hN1 hC1 hI (by omega) (G.2 (i + 1)) (G.2 (i + 2))
  subst hr
  refine mm_cvX (vb_cv (vM_S60 hN1.1) rfl rfl rfl rfl) (by decide) (by omega) hgo2 rfl ?_
  refine mm_w1 (ls' := [_, _, _, _, _, _, _]) rfl ?_
  refine mm_w1 rfl ?_
  refine mm_cvp (vb_cv (vM_S60 hN2.1) rfl rfl rfl rfl) (by decide) (by omega) (m_thrown hN2.1 rfl) ?_
  refine mm_w1 rfl ?_
  have h86 := hC2.2.2.2
  cases ho : sp_fly σ (G.2 (i + 1)) (G.2 (i + 2)) with
  | inl w =>
    rw [ho] at hm1 hm2
    obtain ⟨rfl, hj⟩ := hm1
    obtain ⟨rfl, ht⟩ := hm2
    have hj2 := (congrFun hJ 0).trans hj
    refine mm_wiceq (fun _ => ?_) (fun h => absurd ht h)
    refine mm_w1 rfl ?_
    refine mm_nifne (by decide) (fun h => absurd rfl h) (fun _ => ?_)
    refine mm_w1 rfl ?_
    refine mm_wv (vb_i 0) rfl (by decide) ?_
    refine mm_wla h86 (by decide) (by decide) ?_
    refine mm_w1 rfl ?_
    refine mm_wifeq (fun hz => ?_) (fun hz => ?_)
    · refine mm_w1 rfl ?_
      refine mm_w1 rfl ?_
      refine mm_wifeq (fun _ => ?_) (fun h => absurd (nt_cmp.mpr (hj2.trans (if_pos hz))) h)
      refine mm_wgoto ?_
      exact K (st_fly σ (G.2 (i + 1)) (G.2 (i + 2))) _ _ _ _ _ _ _ hnc hns hV2 hN2 hC2 (li_fly hI (vm_10 (vmd_l hN.2)) (vm_sc3 (vmd_l hN.2)) (G.2 (i + 1)) (G.2 (i + 2)))
    · refine mm_w1 rfl ?_
      refine mm_wgoto ?_
      refine mm_w1 rfl ?_
      refine mm_wifeq (fun _ => ?_) (fun h => absurd (nt_cmp.mpr (hj2.trans (if_neg hz))) h)
      refine mm_wgoto ?_
      exact K (st_fly σ (G.2 (i + 1)) (G.2 (i + 2))) _ _ _ _ _ _ _ hnc hns hV2 hN2 hC2 (li_fly hI (vm_10 (vmd_l hN.2)) (vm_sc3 (vmd_l hN.2)) (G.2 (i + 1)) (G.2 (i + 2)))
  | inr E =>
    rw [ho] at hm1 hm2
    obtain rfl := le_fly ho
    subst hm1
    refine mm_wiceq (fun _ => ?_) (fun h => absurd hm2 h)
    refine mm_w1 rfl ?_
    refine mm_nifne (by decide) (fun _ => ?_) (fun h => absurd h (by decide))
    refine mm_wgoto ?_
    exact K (st_fly σ (G.2 (i + 1)) (G.2 (i + 2))) _ _ _ _ _ _ _ hnc hns hV2 hN2 hC2 (li_fly hI (vm_10 (vmd_l hN.2)) (vm_sc3 (vmd_l hN.2)) (G.2 (i + 1)) (G.2 (i + 2)))
theorem ll_teach (hV : lw_V σ P S I) (hN : lw_N σ P S I) (hC : lw_C P S) (hI : lw_I σ) (hd : 85 ≤ d) (hG : G.1 ≤ 3072) (hi : i + 6 ≤ G.1) (K : lw_K G d i S nc ns Q) : mm_W G d 279 (mm_blk 279 864) [.ref mm_SC, .ref 0, .ref 60, .ref 86, .int (vb_i i), v5, v6] [] (I, P, J, S, nc, ns) Q := by
  refine mm_w1 rfl ?_
  refine mm_w1 rfl ?_
  refine mm_w1 rfl ?_
  refine mm_wv (vb_i 1) rfl (by decide) ?_
  refine mm_nadd ?_
  refine mm_wsa (by omega) (by omega) ?_
  refine mm_w1 rfl ?_
  refine mm_w1 rfl ?_
  refine mm_wv (vb_i 2) rfl (by decide) ?_
  refine mm_nadd ?_
  refine mm_wsa (by omega) (by omega) ?_
  refine mm_w1 rfl ?_
  obtain ⟨r, hgo, c, I1, P1, J1, nc1, ns1, hr, hnc, hns, hV1, hN1, hC1, hm1⟩ := lx_teach (G := G) (d := d - 1) (J := J) (nc := nc) (ns := ns) hV hN hC hI (by omega) (G.2 (i + 1)) (G.2 (i + 2))
  subst hr
  refine mm_csX rfl (by decide) (by omega) hgo rfl ?_
  refine mm_w1 (ls' := [_, _, _, _, _, _, _]) rfl ?_
  refine mm_w1 rfl ?_
  refine mm_w1 rfl ?_
  refine mm_w1 rfl ?_
  refine mm_wv (vb_i 1) rfl (by decide) ?_
  refine mm_nadd ?_
  refine mm_wsa (by omega) (by omega) ?_
  refine mm_w1 rfl ?_
  refine mm_w1 rfl ?_
  refine mm_wv (vb_i 2) rfl (by decide) ?_
  refine mm_nadd ?_
  refine mm_wsa (by omega) (by omega) ?_
  obtain ⟨r, hgo2, z, I2, P2, J2, hr, hJ, hV2, hN2, hC2, hm2⟩ := nc_teach (G := G) (d := d - 1) (J := J1) (nc := nc1) (ns := ns1) (τ := (st_teach σ (G.2 (i + 1)) (G.2 (i + 2)))) hV1 hN1 hC1 hI (by omega) (G.2 (i + 1)) (G.2 (i + 2))
  subst hr
  refine mm_cvX (vb_cv (vM_S60 hN1.1) rfl rfl rfl rfl) (by decide) (by omega) hgo2 rfl ?_
  refine mm_w1 (ls' := [_, _, _, _, _, _, _]) rfl ?_
  refine mm_w1 rfl ?_
  refine mm_cvp (vb_cv (vM_S60 hN2.1) rfl rfl rfl rfl) (by decide) (by omega) (m_thrown hN2.1 rfl) ?_
  refine mm_w1 rfl ?_
  have h86 := hC2.2.2.2
  cases ho : sp_teach σ (G.2 (i + 1)) (G.2 (i + 2)) with
  | inl w =>
    rw [ho] at hm1 hm2
    obtain ⟨rfl, hj⟩ := hm1
    obtain ⟨rfl, ht⟩ := hm2
    have hj2 := (congrFun hJ 0).trans hj
    refine mm_wiceq (fun _ => ?_) (fun h => absurd ht h)
    refine mm_w1 rfl ?_
    refine mm_nifne (by decide) (fun h => absurd rfl h) (fun _ => ?_)
    refine mm_w1 rfl ?_
    refine mm_wv (vb_i 0) rfl (by decide) ?_
    refine mm_wla h86 (by decide) (by decide) ?_
    refine mm_w1 rfl ?_
    refine mm_w1 rfl ?_
    refine mm_w1 rfl ?_
    refine mm_wifeq (fun _ => ?_) (fun h => absurd (nt_cmp.mpr hj2) h)
    refine mm_wgoto ?_
    exact K (st_teach σ (G.2 (i + 1)) (G.2 (i + 2))) _ _ _ _ _ _ _ hnc hns hV2 hN2 hC2 (li_teach hI (vm_10 (vmd_l hN.2)) (vm_sc3 (vmd_l hN.2)) (G.2 (i + 1)) (G.2 (i + 2)))
  | inr E =>
    rw [ho] at hm1 hm2
    obtain rfl := le_teach ho
    subst hm1
    refine mm_wiceq (fun _ => ?_) (fun h => absurd hm2 h)
    refine mm_w1 rfl ?_
    refine mm_nifne (by decide) (fun _ => ?_) (fun h => absurd h (by decide))
    refine mm_wgoto ?_
    exact K (st_teach σ (G.2 (i + 1)) (G.2 (i + 2))) _ _ _ _ _ _ _ hnc hns hV2 hN2 hC2 (li_teach hI (vm_10 (vmd_l hN.2)) (vm_sc3 (vmd_l hN.2)) (G.2 (i + 1)) (G.2 (i + 2)))
theorem ll_play (hV : lw_V σ P S I) (hN : lw_N σ P S I) (hC : lw_C P S) (hI : lw_I σ) (hd : 85 ≤ d) (hG : G.1 ≤ 3072) (hi : i + 6 ≤ G.1) (K : lw_K G d i S nc ns Q) : mm_W G d 279 (mm_blk 279 932) [.ref mm_SC, .ref 0, .ref 60, .ref 86, .int (vb_i i), v5, v6] [] (I, P, J, S, nc, ns) Q := by
  obtain ⟨w, ho⟩ : ∃ w, sp_play σ (G.2 (i + 1)) = .inl w := by
    simp only [sp_play]
    (repeat' split) <;> exact ⟨_, rfl⟩
  refine mm_w1 rfl ?_
  refine mm_w1 rfl ?_
  refine mm_w1 rfl ?_
  refine mm_wv (vb_i 1) rfl (by decide) ?_
  refine mm_nadd ?_
  refine mm_wsa (by omega) (by omega) ?_
  obtain ⟨r, hgo, I1, P1, J1, nc1, ns1, hr, hnc, hns, hV1, hN1, hC1⟩ := vc_play (G := G) (d := d - 1) (J := J) (nc := nc) (ns := ns) hV hN hC hI (by omega) (G.2 (i + 1))
  rw [ho] at hr
  subst hr
  obtain ⟨L0, hW0, _⟩ := id hV
  refine mm_cvX (vb_cv (vV_S0 hW0.1) rfl rfl rfl rfl) (by decide) (by omega) hgo rfl ?_
  refine mm_w1 rfl ?_
  refine mm_w1 rfl ?_
  refine mm_w1 rfl ?_
  refine mm_wv (vb_i 1) rfl (by decide) ?_
  refine mm_nadd ?_
  refine mm_wsa (by omega) (by omega) ?_
  obtain ⟨r, hgo2, z, I2, P2, J2, hr, hJ, hV2, hN2, hC2, hm2⟩ := nc_play (G := G) (d := d - 1) (J := J1) (nc := nc1) (ns := ns1) (τ := (st_play σ (G.2 (i + 1)))) hV1 hN1 hC1 hI (by omega) (G.2 (i + 1))
  subst hr
  refine mm_cvX (vb_cv (vM_S60 hN1.1) rfl rfl rfl rfl) (by decide) (by omega) hgo2 rfl ?_
  rw [ho] at hm2
  obtain ⟨rfl, _⟩ := hm2
  refine mm_wiceq (fun _ => ?_) (fun h => absurd rfl h)
  exact K (st_play σ (G.2 (i + 1))) _ _ _ _ _ _ _ hnc hns hV2 hN2 hC2 (li_play hI (vm_10 (vmd_l hN.2)) (vm_sc3 (vmd_l hN.2)) (G.2 (i + 1)))
theorem ll_undo (hV : lw_V σ P S I) (hN : lw_N σ P S I) (hC : lw_C P S) (hI : lw_I σ) (hd : 85 ≤ d) (hG : G.1 ≤ 3072) (hi : i + 6 ≤ G.1) (K : lw_K G d i S nc ns Q) : mm_W G d 279 (mm_blk 279 957) [.ref mm_SC, .ref 0, .ref 60, .ref 86, .int (vb_i i), v5, v6] [] (I, P, J, S, nc, ns) Q := by
  obtain ⟨w, ho⟩ : ∃ w, sp_undo σ = .inl w := by
    simp only [sp_undo]
    (repeat' split) <;> exact ⟨_, rfl⟩
  refine mm_w1 rfl ?_
  obtain ⟨r, hgo, I1, P1, J1, nc1, ns1, hr, hnc, hns, hV1, hN1, hC1⟩ := vc_undo (G := G) (d := d - 1) (J := J) (nc := nc) (ns := ns) hV hN hC hI (by omega)
  rw [ho] at hr
  subst hr
  obtain ⟨L0, hW0, _⟩ := id hV
  refine mm_cvX (vb_cv (vV_S0 hW0.1) rfl rfl rfl rfl) (by decide) (by omega) hgo rfl ?_
  refine mm_w1 rfl ?_
  obtain ⟨r, hgo2, z, I2, P2, J2, hr, hJ, hV2, hN2, hC2, hm2⟩ := nc_undo (G := G) (d := d - 1) (J := J1) (nc := nc1) (ns := ns1) (τ := (st_undo σ)) hV1 hN1 hC1 hI (by omega)
  subst hr
  refine mm_cvX (vb_cv (vM_S60 hN1.1) rfl rfl rfl rfl) (by decide) (by omega) hgo2 rfl ?_
  rw [ho] at hm2
  obtain ⟨rfl, _⟩ := hm2
  refine mm_wiceq (fun _ => ?_) (fun h => absurd rfl h)
  exact K (st_undo σ) _ _ _ _ _ _ _ hnc hns hV2 hN2 hC2 (li_undo hI (vm_10 (vmd_l hN.2)) (vm_sc3 (vmd_l hN.2)))
theorem ll_hangs (hV : lw_V σ P S I) (hN : lw_N σ P S I) (hC : lw_C P S) (hI : lw_I σ) (hd : 85 ≤ d) (hG : G.1 ≤ 3072) (hi : i + 6 ≤ G.1) (K : lw_K G d i S nc ns Q) : mm_W G d 279 (mm_blk 279 970) [.ref mm_SC, .ref 0, .ref 60, .ref 86, .int (vb_i i), v5, v6] [] (I, P, J, S, nc, ns) Q := by
  refine mm_w1 rfl ?_
  refine mm_w1 rfl ?_
  refine mm_w1 rfl ?_
  refine mm_wv (vb_i 1) rfl (by decide) ?_
  refine mm_nadd ?_
  refine mm_wsa (by omega) (by omega) ?_
  refine mm_w1 rfl ?_
  obtain ⟨r, hgo, c, I1, P1, J1, nc1, ns1, hr, hnc, hns, hV1, hN1, hC1, hm1⟩ := lx_hangs (G := G) (d := d - 1) (J := J) (nc := nc) (ns := ns) hV hN hC hI (by omega) (G.2 (i + 1))
  subst hr
  refine mm_csX rfl (by decide) (by omega) hgo rfl ?_
  refine mm_w1 (ls' := [_, _, _, _, _, _, _]) rfl ?_
  refine mm_w1 rfl ?_
  refine mm_w1 rfl ?_
  refine mm_w1 rfl ?_
  refine mm_wv (vb_i 1) rfl (by decide) ?_
  refine mm_nadd ?_
  refine mm_wsa (by omega) (by omega) ?_
  obtain ⟨r, hgo2, z, I2, P2, J2, hr, hJ, hV2, hN2, hC2, hm2⟩ := nc_hangs (G := G) (d := d - 1) (J := J1) (nc := nc1) (ns := ns1) (τ := σ) hV1 hN1 hC1 hI (by omega) (G.2 (i + 1))
  subst hr
  refine mm_cvX (vb_cv (vM_S60 hN1.1) rfl rfl rfl rfl) (by decide) (by omega) hgo2 rfl ?_
  refine mm_w1 (ls' := [_, _, _, _, _, _, _]) rfl ?_
  refine mm_w1 rfl ?_
  refine mm_cvp (vb_cv (vM_S60 hN2.1) rfl rfl rfl rfl) (by decide) (by omega) (m_thrown hN2.1 rfl) ?_
  refine mm_w1 rfl ?_
  have h86 := hC2.2.2.2
  cases ho : sp_hangs σ (G.2 (i + 1)) with
  | inl w =>
    rw [ho] at hm1 hm2
    obtain ⟨rfl, hj⟩ := hm1
    obtain ⟨rfl, ht⟩ := hm2
    have hj2 := (congrFun hJ 0).trans hj
    refine mm_wiceq (fun _ => ?_) (fun h => absurd ht h)
    refine mm_w1 rfl ?_
    refine mm_nifne (by decide) (fun h => absurd rfl h) (fun _ => ?_)
    refine mm_w1 rfl ?_
    refine mm_wv (vb_i 0) rfl (by decide) ?_
    refine mm_wla h86 (by decide) (by decide) ?_
    refine mm_w1 rfl ?_
    refine mm_w1 rfl ?_
    refine mm_w1 rfl ?_
    refine mm_wifeq (fun _ => ?_) (fun h => absurd (nt_cmp.mpr hj2) h)
    refine mm_wgoto ?_
    exact K σ _ _ _ _ _ _ _ hnc hns hV2 hN2 hC2 hI
  | inr E =>
    rw [ho] at hm1 hm2
    obtain rfl := le_hangs ho
    subst hm1
    refine mm_wiceq (fun _ => ?_) (fun h => absurd hm2 h)
    refine mm_w1 rfl ?_
    refine mm_nifne (by decide) (fun _ => ?_) (fun h => absurd h (by decide))
    refine mm_wgoto ?_
    exact K σ _ _ _ _ _ _ _ hnc hns hV2 hN2 hC2 hI
theorem ll_look (hV : lw_V σ P S I) (hN : lw_N σ P S I) (hC : lw_C P S) (hI : lw_I σ) (hd : 85 ≤ d) (hG : G.1 ≤ 3072) (hi : i + 6 ≤ G.1) (K : lw_K G d i S nc ns Q) : mm_W G d 279 (mm_blk 279 1026) [.ref mm_SC, .ref 0, .ref 60, .ref 86, .int (vb_i i), v5, v6] [] (I, P, J, S, nc, ns) Q := by
  refine mm_w1 rfl ?_
  refine mm_w1 rfl ?_
  refine mm_w1 rfl ?_
  refine mm_wv (vb_i 1) rfl (by decide) ?_
  refine mm_nadd ?_
  refine mm_wsa (by omega) (by omega) ?_
  refine mm_w1 rfl ?_
  refine mm_w1 rfl ?_
  refine mm_wv (vb_i 2) rfl (by decide) ?_
  refine mm_nadd ?_
  refine mm_wsa (by omega) (by omega) ?_
  refine mm_w1 rfl ?_
  obtain ⟨r, hgo, c, I1, P1, J1, nc1, ns1, hr, hnc, hns, hV1, hN1, hC1, hm1⟩ := lx_look (G := G) (d := d - 1) (J := J) (nc := nc) (ns := ns) hV hN hC hI (by omega) (G.2 (i + 1)) (G.2 (i + 2))
  subst hr
  refine mm_csX rfl (by decide) (by omega) hgo rfl ?_
  refine mm_w1 (ls' := [_, _, _, _, _, _, _]) rfl ?_
  refine mm_w1 rfl ?_
  refine mm_w1 rfl ?_
  refine mm_w1 rfl ?_
  refine mm_wv (vb_i 1) rfl (by decide) ?_
  refine mm_nadd ?_
  refine mm_wsa (by omega) (by omega) ?_
  refine mm_w1 rfl ?_
  refine mm_w1 rfl ?_
  refine mm_wv (vb_i 2) rfl (by decide) ?_
  refine mm_nadd ?_
  refine mm_wsa (by omega) (by omega) ?_
  obtain ⟨r, hgo2, z, I2, P2, J2, hr, hJ, hV2, hN2, hC2, hm2⟩ := nc_look (G := G) (d := d - 1) (J := J1) (nc := nc1) (ns := ns1) (τ := σ) hV1 hN1 hC1 hI (by omega) (G.2 (i + 1)) (G.2 (i + 2))
  subst hr
  refine mm_cvX (vb_cv (vM_S60 hN1.1) rfl rfl rfl rfl) (by decide) (by omega) hgo2 rfl ?_
  refine mm_w1 (ls' := [_, _, _, _, _, _, _]) rfl ?_
  refine mm_w1 rfl ?_
  refine mm_cvp (vb_cv (vM_S60 hN2.1) rfl rfl rfl rfl) (by decide) (by omega) (m_thrown hN2.1 rfl) ?_
  refine mm_w1 rfl ?_
  have h86 := hC2.2.2.2
  cases ho : sp_look σ (G.2 (i + 1)) (G.2 (i + 2)) with
  | inl w =>
    rw [ho] at hm1 hm2
    obtain ⟨rfl, hj⟩ := hm1
    obtain ⟨rfl, ht⟩ := hm2
    have hj2 := (congrFun hJ 0).trans hj
    refine mm_wiceq (fun _ => ?_) (fun h => absurd ht h)
    refine mm_w1 rfl ?_
    refine mm_nifne (by decide) (fun h => absurd rfl h) (fun _ => ?_)
    refine mm_w1 rfl ?_
    refine mm_wv (vb_i 0) rfl (by decide) ?_
    refine mm_wla h86 (by decide) (by decide) ?_
    refine mm_w1 rfl ?_
    refine mm_w1 rfl ?_
    refine mm_w1 rfl ?_
    refine mm_wifeq (fun _ => ?_) (fun h => absurd (nt_cmp.mpr hj2) h)
    refine mm_wgoto ?_
    exact K σ _ _ _ _ _ _ _ hnc hns hV2 hN2 hC2 hI
  | inr E =>
    rw [ho] at hm1 hm2
    rcases le_look ho with rfl | rfl
    · subst hm1
      refine mm_wiceq (fun _ => ?_) (fun h => absurd hm2 h)
      refine mm_w1 rfl ?_
      refine mm_nifne (by decide) (fun _ => ?_) (fun h => absurd h (by decide))
      refine mm_wgoto ?_
      exact K σ _ _ _ _ _ _ _ hnc hns hV2 hN2 hC2 hI
    · subst hm1
      refine mm_wiceq (fun _ => ?_) (fun h => absurd hm2 h)
      refine mm_w1 rfl ?_
      refine mm_nifne (by decide) (fun _ => ?_) (fun h => absurd h (by decide))
      refine mm_wgoto ?_
      exact K σ _ _ _ _ _ _ _ hnc hns hV2 hN2 hC2 hI
theorem ll_win (hV : lw_V σ P S I) (hN : lw_N σ P S I) (hC : lw_C P S) (hI : lw_I σ) (hd : 85 ≤ d) (hG : G.1 ≤ 3072) (hi : i + 6 ≤ G.1) (K : lw_K G d i S nc ns Q) : mm_W G d 279 (mm_blk 279 1094) [.ref mm_SC, .ref 0, .ref 60, .ref 86, .int (vb_i i), v5, v6] [] (I, P, J, S, nc, ns) Q := by
  obtain ⟨w, ho⟩ : ∃ w, sp_win σ = .inl w := by
    simp only [sp_win]
    (repeat' split) <;> exact ⟨_, rfl⟩
  refine mm_w1 rfl ?_
  obtain ⟨r, hgo, I1, P1, J1, nc1, ns1, hr, hnc, hns, hV1, hN1, hC1⟩ := vc_win (G := G) (d := d - 1) (J := J) (nc := nc) (ns := ns) hV hN hC hI (by omega)
  rw [ho] at hr
  subst hr
  obtain ⟨L0, hW0, _⟩ := id hV
  refine mm_cvX (vb_cv (vV_S0 hW0.1) rfl rfl rfl rfl) (by decide) (by omega) hgo rfl ?_
  refine mm_w1 rfl ?_
  obtain ⟨r, hgo2, z, I2, P2, J2, hr, hJ, hV2, hN2, hC2, hm2⟩ := nc_win (G := G) (d := d - 1) (J := J1) (nc := nc1) (ns := ns1) (τ := σ) hV1 hN1 hC1 hI (by omega)
  subst hr
  refine mm_cvX (vb_cv (vM_S60 hN1.1) rfl rfl rfl rfl) (by decide) (by omega) hgo2 rfl ?_
  rw [ho] at hm2
  obtain ⟨rfl, _⟩ := hm2
  refine mm_wiceq (fun _ => ?_) (fun h => absurd rfl h)
  exact K σ _ _ _ _ _ _ _ hnc hns hV2 hN2 hC2 hI
theorem ll_journey (hV : lw_V σ P S I) (hN : lw_N σ P S I) (hC : lw_C P S) (hI : lw_I σ) (hd : 85 ≤ d) (hG : G.1 ≤ 3072) (hi : i + 6 ≤ G.1) (K : lw_K G d i S nc ns Q) : mm_W G d 279 (mm_blk 279 1107) [.ref mm_SC, .ref 0, .ref 60, .ref 86, .int (vb_i i), v5, v6] [] (I, P, J, S, nc, ns) Q := by
  refine mm_w1 rfl ?_
  refine mm_w1 rfl ?_
  refine mm_w1 rfl ?_
  refine mm_wv (vb_i 1) rfl (by decide) ?_
  refine mm_nadd ?_
  refine mm_wsa (by omega) (by omega) ?_
  refine mm_w1 rfl ?_
  refine mm_w1 rfl ?_
  refine mm_wv (vb_i 2) rfl (by decide) ?_
  refine mm_nadd ?_
  refine mm_wsa (by omega) (by omega) ?_
  refine mm_w1 rfl ?_
  obtain ⟨r, hgo, c, I1, P1, J1, nc1, ns1, hr, hnc, hns, hV1, hN1, hC1, hm1⟩ := lx_journey (G := G) (d := d - 1) (J := J) (nc := nc) (ns := ns) hV hN hC hI (by omega) (G.2 (i + 1)) (G.2 (i + 2))
  subst hr
  refine mm_csX rfl (by decide) (by omega) hgo rfl ?_
  refine mm_w1 (ls' := [_, _, _, _, _, _, _]) rfl ?_
  refine mm_w1 rfl ?_
  refine mm_w1 rfl ?_
  refine mm_w1 rfl ?_
  refine mm_wv (vb_i 1) rfl (by decide) ?_
  refine mm_nadd ?_
  refine mm_wsa (by omega) (by omega) ?_
  refine mm_w1 rfl ?_
  refine mm_w1 rfl ?_
  refine mm_wv (vb_i 2) rfl (by decide) ?_
  refine mm_nadd ?_
  refine mm_wsa (by omega) (by omega) ?_
  obtain ⟨r, hgo2, z, I2, P2, J2, hr, hJ, hV2, hN2, hC2, hm2⟩ := nc_journey (G := G) (d := d - 1) (J := J1) (nc := nc1) (ns := ns1) (τ := σ) hV1 hN1 hC1 hI (by omega) (G.2 (i + 1)) (G.2 (i + 2))
  subst hr
  refine mm_cvX (vb_cv (vM_S60 hN1.1) rfl rfl rfl rfl) (by decide) (by omega) hgo2 rfl ?_
  refine mm_w1 (ls' := [_, _, _, _, _, _, _]) rfl ?_
  refine mm_w1 rfl ?_
  refine mm_cvp (vb_cv (vM_S60 hN2.1) rfl rfl rfl rfl) (by decide) (by omega) (m_thrown hN2.1 rfl) ?_
  refine mm_w1 rfl ?_
  have h86 := hC2.2.2.2
  cases ho : sp_journey σ (G.2 (i + 1)) (G.2 (i + 2)) with
  | inl w =>
    rw [ho] at hm1 hm2
    obtain ⟨rfl, hj⟩ := hm1
    obtain ⟨rfl, ht⟩ := hm2
    have hj2 := (congrFun hJ 0).trans hj
    refine mm_wiceq (fun _ => ?_) (fun h => absurd ht h)
    refine mm_w1 rfl ?_
    refine mm_nifne (by decide) (fun h => absurd rfl h) (fun _ => ?_)
    refine mm_w1 rfl ?_
    refine mm_wv (vb_i 0) rfl (by decide) ?_
    refine mm_wla h86 (by decide) (by decide) ?_
    refine mm_w1 rfl ?_
    refine mm_w1 rfl ?_
    refine mm_w1 rfl ?_
    refine mm_wifeq (fun _ => ?_) (fun h => absurd (nt_cmp.mpr hj2) h)
    refine mm_wgoto ?_
    exact K σ _ _ _ _ _ _ _ hnc hns hV2 hN2 hC2 hI
  | inr E =>
    rw [ho] at hm1 hm2
    obtain rfl := le_journey ho
    subst hm1
    refine mm_wiceq (fun _ => ?_) (fun h => absurd hm2 h)
    refine mm_w1 rfl ?_
    refine mm_nifne (by decide) (fun _ => ?_) (fun h => absurd h (by decide))
    refine mm_wgoto ?_
    exact K σ _ _ _ _ _ _ _ hnc hns hV2 hN2 hC2 hI
theorem ll_played (hV : lw_V σ P S I) (hN : lw_N σ P S I) (hC : lw_C P S) (hI : lw_I σ) (hd : 85 ≤ d) (hG : G.1 ≤ 3072) (hi : i + 6 ≤ G.1) (K : lw_K G d i S nc ns Q) : mm_W G d 279 (mm_blk 279 1175) [.ref mm_SC, .ref 0, .ref 60, .ref 86, .int (vb_i i), v5, v6] [] (I, P, J, S, nc, ns) Q := by
  refine mm_w1 rfl ?_
  refine mm_w1 rfl ?_
  refine mm_w1 rfl ?_
  refine mm_wv (vb_i 1) rfl (by decide) ?_
  refine mm_nadd ?_
  refine mm_wsa (by omega) (by omega) ?_
  refine mm_w1 rfl ?_
  obtain ⟨r, hgo, c, I1, P1, J1, nc1, ns1, hr, hnc, hns, hV1, hN1, hC1, hm1⟩ := lx_played (G := G) (d := d - 1) (J := J) (nc := nc) (ns := ns) hV hN hC hI (by omega) (G.2 (i + 1))
  subst hr
  refine mm_csX rfl (by decide) (by omega) hgo rfl ?_
  refine mm_w1 (ls' := [_, _, _, _, _, _, _]) rfl ?_
  refine mm_w1 rfl ?_
  refine mm_w1 rfl ?_
  refine mm_w1 rfl ?_
  refine mm_wv (vb_i 1) rfl (by decide) ?_
  refine mm_nadd ?_
  refine mm_wsa (by omega) (by omega) ?_
  obtain ⟨r, hgo2, z, I2, P2, J2, hr, hJ, hV2, hN2, hC2, hm2⟩ := nc_played (G := G) (d := d - 1) (J := J1) (nc := nc1) (ns := ns1) (τ := σ) hV1 hN1 hC1 hI (by omega) (G.2 (i + 1))
  subst hr
  refine mm_cvX (vb_cv (vM_S60 hN1.1) rfl rfl rfl rfl) (by decide) (by omega) hgo2 rfl ?_
  refine mm_w1 (ls' := [_, _, _, _, _, _, _]) rfl ?_
  refine mm_w1 rfl ?_
  refine mm_cvp (vb_cv (vM_S60 hN2.1) rfl rfl rfl rfl) (by decide) (by omega) (m_thrown hN2.1 rfl) ?_
  refine mm_w1 rfl ?_
  have h86 := hC2.2.2.2
  cases ho : sp_played σ (G.2 (i + 1)) with
  | inl w =>
    rw [ho] at hm1 hm2
    obtain ⟨rfl, hj⟩ := hm1
    obtain ⟨rfl, ht⟩ := hm2
    have hj2 := (congrFun hJ 0).trans hj
    refine mm_wiceq (fun _ => ?_) (fun h => absurd ht h)
    refine mm_w1 rfl ?_
    refine mm_nifne (by decide) (fun h => absurd rfl h) (fun _ => ?_)
    refine mm_w1 rfl ?_
    refine mm_wv (vb_i 0) rfl (by decide) ?_
    refine mm_wla h86 (by decide) (by decide) ?_
    refine mm_w1 rfl ?_
    refine mm_w1 rfl ?_
    refine mm_w1 rfl ?_
    refine mm_wifeq (fun _ => ?_) (fun h => absurd (nt_cmp.mpr hj2) h)
    refine mm_wgoto ?_
    exact K σ _ _ _ _ _ _ _ hnc hns hV2 hN2 hC2 hI
  | inr E =>
    rw [ho] at hm1 hm2
    obtain rfl := le_played ho
    subst hm1
    refine mm_wiceq (fun _ => ?_) (fun h => absurd hm2 h)
    refine mm_w1 rfl ?_
    refine mm_nifne (by decide) (fun _ => ?_) (fun h => absurd h (by decide))
    refine mm_wgoto ?_
    exact K σ _ _ _ _ _ _ _ hnc hns hV2 hN2 hC2 hI
theorem ll_turned (hV : lw_V σ P S I) (hN : lw_N σ P S I) (hC : lw_C P S) (hI : lw_I σ) (hd : 85 ≤ d) (hG : G.1 ≤ 3072) (hi : i + 6 ≤ G.1) (K : lw_K G d i S nc ns Q) : mm_W G d 279 (mm_blk 279 1231) [.ref mm_SC, .ref 0, .ref 60, .ref 86, .int (vb_i i), v5, v6] [] (I, P, J, S, nc, ns) Q := by
  refine mm_w1 rfl ?_
  refine mm_w1 rfl ?_
  refine mm_w1 rfl ?_
  refine mm_wv (vb_i 1) rfl (by decide) ?_
  refine mm_nadd ?_
  refine mm_wsa (by omega) (by omega) ?_
  refine mm_w1 rfl ?_
  obtain ⟨r, hgo, c, I1, P1, J1, nc1, ns1, hr, hnc, hns, hV1, hN1, hC1, hm1⟩ := lx_turned (G := G) (d := d - 1) (J := J) (nc := nc) (ns := ns) hV hN hC hI (by omega) (G.2 (i + 1))
  subst hr
  refine mm_csX rfl (by decide) (by omega) hgo rfl ?_
  refine mm_w1 (ls' := [_, _, _, _, _, _, _]) rfl ?_
  refine mm_w1 rfl ?_
  refine mm_w1 rfl ?_
  refine mm_w1 rfl ?_
  refine mm_wv (vb_i 1) rfl (by decide) ?_
  refine mm_nadd ?_
  refine mm_wsa (by omega) (by omega) ?_
  obtain ⟨r, hgo2, z, I2, P2, J2, hr, hJ, hV2, hN2, hC2, hm2⟩ := nc_turned (G := G) (d := d - 1) (J := J1) (nc := nc1) (ns := ns1) (τ := σ) hV1 hN1 hC1 hI (by omega) (G.2 (i + 1))
  subst hr
  refine mm_cvX (vb_cv (vM_S60 hN1.1) rfl rfl rfl rfl) (by decide) (by omega) hgo2 rfl ?_
  refine mm_w1 (ls' := [_, _, _, _, _, _, _]) rfl ?_
  refine mm_w1 rfl ?_
  refine mm_cvp (vb_cv (vM_S60 hN2.1) rfl rfl rfl rfl) (by decide) (by omega) (m_thrown hN2.1 rfl) ?_
  refine mm_w1 rfl ?_
  have h86 := hC2.2.2.2
  cases ho : sp_turned σ (G.2 (i + 1)) with
  | inl w =>
    rw [ho] at hm1 hm2
    obtain ⟨rfl, hj⟩ := hm1
    obtain ⟨rfl, ht⟩ := hm2
    have hj2 := (congrFun hJ 0).trans hj
    refine mm_wiceq (fun _ => ?_) (fun h => absurd ht h)
    refine mm_w1 rfl ?_
    refine mm_nifne (by decide) (fun h => absurd rfl h) (fun _ => ?_)
    refine mm_w1 rfl ?_
    refine mm_wv (vb_i 0) rfl (by decide) ?_
    refine mm_wla h86 (by decide) (by decide) ?_
    refine mm_w1 rfl ?_
    refine mm_w1 rfl ?_
    refine mm_w1 rfl ?_
    refine mm_wifeq (fun _ => ?_) (fun h => absurd (nt_cmp.mpr hj2) h)
    refine mm_wgoto ?_
    exact K σ _ _ _ _ _ _ _ hnc hns hV2 hN2 hC2 hI
  | inr E =>
    rw [ho] at hm1 hm2
    obtain rfl := le_turned ho
    subst hm1
    refine mm_wiceq (fun _ => ?_) (fun h => absurd hm2 h)
    refine mm_w1 rfl ?_
    refine mm_nifne (by decide) (fun _ => ?_) (fun h => absurd h (by decide))
    refine mm_wgoto ?_
    exact K σ _ _ _ _ _ _ _ hnc hns hV2 hN2 hC2 hI
theorem ll_treasury (hV : lw_V σ P S I) (hN : lw_N σ P S I) (hC : lw_C P S) (hI : lw_I σ) (hd : 85 ≤ d) (hG : G.1 ≤ 3072) (hi : i + 6 ≤ G.1) (K : lw_K G d i S nc ns Q) : mm_W G d 279 (mm_blk 279 1287) [.ref mm_SC, .ref 0, .ref 60, .ref 86, .int (vb_i i), v5, v6] [] (I, P, J, S, nc, ns) Q := by
  refine mm_w1 rfl ?_
  refine mm_w1 rfl ?_
  refine mm_w1 rfl ?_
  refine mm_wv (vb_i 1) rfl (by decide) ?_
  refine mm_nadd ?_
  refine mm_wsa (by omega) (by omega) ?_
  refine mm_w1 rfl ?_
  refine mm_w1 rfl ?_
  refine mm_wv (vb_i 2) rfl (by decide) ?_
  refine mm_nadd ?_
  refine mm_wsa (by omega) (by omega) ?_
  refine mm_w1 rfl ?_
  obtain ⟨r, hgo, c, I1, P1, J1, nc1, ns1, hr, hnc, hns, hV1, hN1, hC1, hm1⟩ := lx_treasury (G := G) (d := d - 1) (J := J) (nc := nc) (ns := ns) hV hN hC hI (by omega) (G.2 (i + 1)) (G.2 (i + 2))
  subst hr
  refine mm_csX rfl (by decide) (by omega) hgo rfl ?_
  refine mm_w1 (ls' := [_, _, _, _, _, _, _]) rfl ?_
  refine mm_w1 rfl ?_
  refine mm_w1 rfl ?_
  refine mm_w1 rfl ?_
  refine mm_wv (vb_i 1) rfl (by decide) ?_
  refine mm_nadd ?_
  refine mm_wsa (by omega) (by omega) ?_
  refine mm_w1 rfl ?_
  refine mm_w1 rfl ?_
  refine mm_wv (vb_i 2) rfl (by decide) ?_
  refine mm_nadd ?_
  refine mm_wsa (by omega) (by omega) ?_
  obtain ⟨r, hgo2, z, I2, P2, J2, hr, hJ, hV2, hN2, hC2, hm2⟩ := nc_treasury (G := G) (d := d - 1) (J := J1) (nc := nc1) (ns := ns1) (τ := σ) hV1 hN1 hC1 hI (by omega) (G.2 (i + 1)) (G.2 (i + 2))
  subst hr
  refine mm_cvX (vb_cv (vM_S60 hN1.1) rfl rfl rfl rfl) (by decide) (by omega) hgo2 rfl ?_
  refine mm_w1 (ls' := [_, _, _, _, _, _, _]) rfl ?_
  refine mm_w1 rfl ?_
  refine mm_cvp (vb_cv (vM_S60 hN2.1) rfl rfl rfl rfl) (by decide) (by omega) (m_thrown hN2.1 rfl) ?_
  refine mm_w1 rfl ?_
  have h86 := hC2.2.2.2
  cases ho : sp_treasury σ (G.2 (i + 1)) (G.2 (i + 2)) with
  | inl w =>
    rw [ho] at hm1 hm2
    obtain ⟨rfl, hj⟩ := hm1
    obtain ⟨rfl, ht⟩ := hm2
    have hj2 := (congrFun hJ 0).trans hj
    refine mm_wiceq (fun _ => ?_) (fun h => absurd ht h)
    refine mm_w1 rfl ?_
    refine mm_nifne (by decide) (fun h => absurd rfl h) (fun _ => ?_)
    refine mm_w1 rfl ?_
    refine mm_wv (vb_i 0) rfl (by decide) ?_
    refine mm_wla h86 (by decide) (by decide) ?_
    refine mm_w1 rfl ?_
    refine mm_w1 rfl ?_
    refine mm_w1 rfl ?_
    refine mm_wifeq (fun _ => ?_) (fun h => absurd (nt_cmp.mpr hj2) h)
    refine mm_wgoto ?_
    exact K σ _ _ _ _ _ _ _ hnc hns hV2 hN2 hC2 hI
  | inr E =>
    rw [ho] at hm1 hm2
    rcases le_treasury ho with rfl | rfl
    · subst hm1
      refine mm_wiceq (fun _ => ?_) (fun h => absurd hm2 h)
      refine mm_w1 rfl ?_
      refine mm_nifne (by decide) (fun _ => ?_) (fun h => absurd h (by decide))
      refine mm_wgoto ?_
      exact K σ _ _ _ _ _ _ _ hnc hns hV2 hN2 hC2 hI
    · subst hm1
      refine mm_wiceq (fun _ => ?_) (fun h => absurd hm2 h)
      refine mm_w1 rfl ?_
      refine mm_nifne (by decide) (fun _ => ?_) (fun h => absurd h (by decide))
      refine mm_wgoto ?_
      exact K σ _ _ _ _ _ _ _ hnc hns hV2 hN2 hC2 hI
theorem ll_gift (hV : lw_V σ P S I) (hN : lw_N σ P S I) (hC : lw_C P S) (hI : lw_I σ) (hd : 85 ≤ d) (hG : G.1 ≤ 3072) (hi : i + 6 ≤ G.1) (K : lw_K G d i S nc ns Q) : mm_W G d 279 (mm_blk 279 1355) [.ref mm_SC, .ref 0, .ref 60, .ref 86, .int (vb_i i), v5, v6] [] (I, P, J, S, nc, ns) Q := by
  refine mm_w1 rfl ?_
  refine mm_w1 rfl ?_
  refine mm_w1 rfl ?_
  refine mm_wv (vb_i 1) rfl (by decide) ?_
  refine mm_nadd ?_
  refine mm_wsa (by omega) (by omega) ?_
  refine mm_w1 rfl ?_
  refine mm_w1 rfl ?_
  refine mm_wv (vb_i 2) rfl (by decide) ?_
  refine mm_nadd ?_
  refine mm_wsa (by omega) (by omega) ?_
  refine mm_w1 rfl ?_
  obtain ⟨r, hgo, c, I1, P1, J1, nc1, ns1, hr, hnc, hns, hV1, hN1, hC1, hm1⟩ := lx_gift (G := G) (d := d - 1) (J := J) (nc := nc) (ns := ns) hV hN hC hI (by omega) (G.2 (i + 1)) (G.2 (i + 2))
  subst hr
  refine mm_csX rfl (by decide) (by omega) hgo rfl ?_
  refine mm_w1 (ls' := [_, _, _, _, _, _, _]) rfl ?_
  refine mm_w1 rfl ?_
  refine mm_w1 rfl ?_
  refine mm_w1 rfl ?_
  refine mm_wv (vb_i 1) rfl (by decide) ?_
  refine mm_nadd ?_
  refine mm_wsa (by omega) (by omega) ?_
  refine mm_w1 rfl ?_
  refine mm_w1 rfl ?_
  refine mm_wv (vb_i 2) rfl (by decide) ?_
  refine mm_nadd ?_
  refine mm_wsa (by omega) (by omega) ?_
  obtain ⟨r, hgo2, z, I2, P2, J2, hr, hJ, hV2, hN2, hC2, hm2⟩ := nc_gift (G := G) (d := d - 1) (J := J1) (nc := nc1) (ns := ns1) (τ := σ) hV1 hN1 hC1 hI (by omega) (G.2 (i + 1)) (G.2 (i + 2))
  subst hr
  refine mm_cvX (vb_cv (vM_S60 hN1.1) rfl rfl rfl rfl) (by decide) (by omega) hgo2 rfl ?_
  refine mm_w1 (ls' := [_, _, _, _, _, _, _]) rfl ?_
  refine mm_w1 rfl ?_
  refine mm_cvp (vb_cv (vM_S60 hN2.1) rfl rfl rfl rfl) (by decide) (by omega) (m_thrown hN2.1 rfl) ?_
  refine mm_w1 rfl ?_
  have h86 := hC2.2.2.2
  cases ho : sp_gift σ (G.2 (i + 1)) (G.2 (i + 2)) with
  | inl w =>
    rw [ho] at hm1 hm2
    obtain ⟨rfl, hj⟩ := hm1
    obtain ⟨rfl, ht⟩ := hm2
    have hj2 := (congrFun hJ 0).trans hj
    refine mm_wiceq (fun _ => ?_) (fun h => absurd ht h)
    refine mm_w1 rfl ?_
    refine mm_nifne (by decide) (fun h => absurd rfl h) (fun _ => ?_)
    refine mm_w1 rfl ?_
    refine mm_wv (vb_i 0) rfl (by decide) ?_
    refine mm_wla h86 (by decide) (by decide) ?_
    refine mm_w1 rfl ?_
    refine mm_w1 rfl ?_
    refine mm_w1 rfl ?_
    refine mm_wifeq (fun _ => ?_) (fun h => absurd (nt_cmp.mpr hj2) h)
    refine mm_wgoto ?_
    exact K σ _ _ _ _ _ _ _ hnc hns hV2 hN2 hC2 hI
  | inr E =>
    rw [ho] at hm1 hm2
    obtain rfl := le_gift ho
    subst hm1
    refine mm_wiceq (fun _ => ?_) (fun h => absurd hm2 h)
    refine mm_w1 rfl ?_
    refine mm_nifne (by decide) (fun _ => ?_) (fun h => absurd h (by decide))
    refine mm_wgoto ?_
    exact K σ _ _ _ _ _ _ _ hnc hns hV2 hN2 hC2 hI
theorem ll_plant (hV : lw_V σ P S I) (hN : lw_N σ P S I) (hC : lw_C P S) (hI : lw_I σ) (hd : 85 ≤ d) (hG : G.1 ≤ 3072) (hi : i + 6 ≤ G.1) (K : lw_K G d i S nc ns Q) : mm_W G d 279 (mm_blk 279 1423) [.ref mm_SC, .ref 0, .ref 60, .ref 86, .int (vb_i i), v5, v6] [] (I, P, J, S, nc, ns) Q := by
  refine mm_w1 rfl ?_
  refine mm_w1 rfl ?_
  refine mm_w1 rfl ?_
  refine mm_wv (vb_i 1) rfl (by decide) ?_
  refine mm_nadd ?_
  refine mm_wsa (by omega) (by omega) ?_
  refine mm_w1 rfl ?_
  refine mm_w1 rfl ?_
  refine mm_wv (vb_i 2) rfl (by decide) ?_
  refine mm_nadd ?_
  refine mm_wsa (by omega) (by omega) ?_
  refine mm_w1 rfl ?_
  obtain ⟨r, hgo, c, I1, P1, J1, nc1, ns1, hr, hnc, hns, hV1, hN1, hC1, hm1⟩ := lx_plant (G := G) (d := d - 1) (J := J) (nc := nc) (ns := ns) hV hN hC hI (by omega) (G.2 (i + 1)) (G.2 (i + 2))
  subst hr
  refine mm_csX rfl (by decide) (by omega) hgo rfl ?_
  refine mm_w1 (ls' := [_, _, _, _, _, _, _]) rfl ?_
  refine mm_w1 rfl ?_
  refine mm_w1 rfl ?_
  refine mm_w1 rfl ?_
  refine mm_wv (vb_i 1) rfl (by decide) ?_
  refine mm_nadd ?_
  refine mm_wsa (by omega) (by omega) ?_
  refine mm_w1 rfl ?_
  refine mm_w1 rfl ?_
  refine mm_wv (vb_i 2) rfl (by decide) ?_
  refine mm_nadd ?_
  refine mm_wsa (by omega) (by omega) ?_
  obtain ⟨r, hgo2, z, I2, P2, J2, hr, hJ, hV2, hN2, hC2, hm2⟩ := nc_plant (G := G) (d := d - 1) (J := J1) (nc := nc1) (ns := ns1) (τ := σ) hV1 hN1 hC1 hI (by omega) (G.2 (i + 1)) (G.2 (i + 2))
  subst hr
  refine mm_cvX (vb_cv (vM_S60 hN1.1) rfl rfl rfl rfl) (by decide) (by omega) hgo2 rfl ?_
  refine mm_w1 (ls' := [_, _, _, _, _, _, _]) rfl ?_
  refine mm_w1 rfl ?_
  refine mm_cvp (vb_cv (vM_S60 hN2.1) rfl rfl rfl rfl) (by decide) (by omega) (m_thrown hN2.1 rfl) ?_
  refine mm_w1 rfl ?_
  have h86 := hC2.2.2.2
  cases ho : sp_plant σ (G.2 (i + 1)) (G.2 (i + 2)) with
  | inl w =>
    rw [ho] at hm1 hm2
    obtain ⟨rfl, hj⟩ := hm1
    obtain ⟨rfl, ht⟩ := hm2
    have hj2 := (congrFun hJ 0).trans hj
    refine mm_wiceq (fun _ => ?_) (fun h => absurd ht h)
    refine mm_w1 rfl ?_
    refine mm_nifne (by decide) (fun h => absurd rfl h) (fun _ => ?_)
    refine mm_w1 rfl ?_
    refine mm_wv (vb_i 0) rfl (by decide) ?_
    refine mm_wla h86 (by decide) (by decide) ?_
    refine mm_w1 rfl ?_
    refine mm_w1 rfl ?_
    refine mm_w1 rfl ?_
    refine mm_wifeq (fun _ => ?_) (fun h => absurd (nt_cmp.mpr hj2) h)
    refine mm_wgoto ?_
    exact K σ _ _ _ _ _ _ _ hnc hns hV2 hN2 hC2 hI
  | inr E =>
    rw [ho] at hm1 hm2
    obtain rfl := le_plant ho
    subst hm1
    refine mm_wiceq (fun _ => ?_) (fun h => absurd hm2 h)
    refine mm_w1 rfl ?_
    refine mm_nifne (by decide) (fun _ => ?_) (fun h => absurd h (by decide))
    refine mm_wgoto ?_
    exact K σ _ _ _ _ _ _ _ hnc hns hV2 hN2 hC2 hI
theorem ll_see (hV : lw_V σ P S I) (hN : lw_N σ P S I) (hC : lw_C P S) (hI : lw_I σ) (hd : 85 ≤ d) (hG : G.1 ≤ 3072) (hi : i + 6 ≤ G.1) (K : lw_K G d i S nc ns Q) : mm_W G d 279 (mm_blk 279 1491) [.ref mm_SC, .ref 0, .ref 60, .ref 86, .int (vb_i i), v5, v6] [] (I, P, J, S, nc, ns) Q := by
  refine mm_w1 rfl ?_
  refine mm_w1 rfl ?_
  refine mm_w1 rfl ?_
  refine mm_wv (vb_i 1) rfl (by decide) ?_
  refine mm_nadd ?_
  refine mm_wsa (by omega) (by omega) ?_
  refine mm_w1 rfl ?_
  refine mm_w1 rfl ?_
  refine mm_wv (vb_i 2) rfl (by decide) ?_
  refine mm_nadd ?_
  refine mm_wsa (by omega) (by omega) ?_
  refine mm_w1 rfl ?_
  refine mm_w1 rfl ?_
  refine mm_wv (vb_i 3) rfl (by decide) ?_
  refine mm_nadd ?_
  refine mm_wsa (by omega) (by omega) ?_
  refine mm_w1 rfl ?_
  obtain ⟨r, hgo, c, I1, P1, J1, nc1, ns1, hr, hnc, hns, hV1, hN1, hC1, hm1⟩ := lx_see (G := G) (d := d - 1) (J := J) (nc := nc) (ns := ns) hV hN hC hI (by omega) (G.2 (i + 1)) (G.2 (i + 2)) (G.2 (i + 3))
  subst hr
  refine mm_csX rfl (by decide) (by omega) hgo rfl ?_
  refine mm_w1 (ls' := [_, _, _, _, _, _, _]) rfl ?_
  refine mm_w1 rfl ?_
  refine mm_w1 rfl ?_
  refine mm_w1 rfl ?_
  refine mm_wv (vb_i 1) rfl (by decide) ?_
  refine mm_nadd ?_
  refine mm_wsa (by omega) (by omega) ?_
  refine mm_w1 rfl ?_
  refine mm_w1 rfl ?_
  refine mm_wv (vb_i 2) rfl (by decide) ?_
  refine mm_nadd ?_
  refine mm_wsa (by omega) (by omega) ?_
  refine mm_w1 rfl ?_
  refine mm_w1 rfl ?_
  refine mm_wv (vb_i 3) rfl (by decide) ?_
  refine mm_nadd ?_
  refine mm_wsa (by omega) (by omega) ?_
  obtain ⟨r, hgo2, z, I2, P2, J2, hr, hJ, hV2, hN2, hC2, hm2⟩ := nc_see (G := G) (d := d - 1) (J := J1) (nc := nc1) (ns := ns1) (τ := (st_see σ (G.2 (i + 1)) (G.2 (i + 2)) (G.2 (i + 3)))) hV1 hN1 hC1 hI (by omega) (G.2 (i + 1)) (G.2 (i + 2)) (G.2 (i + 3))
  subst hr
  refine mm_cvX (vb_cv (vM_S60 hN1.1) rfl rfl rfl rfl) (by decide) (by omega) hgo2 rfl ?_
  refine mm_w1 (ls' := [_, _, _, _, _, _, _]) rfl ?_
  refine mm_w1 rfl ?_
  refine mm_cvp (vb_cv (vM_S60 hN2.1) rfl rfl rfl rfl) (by decide) (by omega) (m_thrown hN2.1 rfl) ?_
  refine mm_w1 rfl ?_
  have h86 := hC2.2.2.2
  cases ho : sp_see σ (G.2 (i + 1)) (G.2 (i + 2)) (G.2 (i + 3)) with
  | inl w =>
    rw [ho] at hm1 hm2
    obtain ⟨rfl, hj⟩ := hm1
    obtain ⟨rfl, ht⟩ := hm2
    have hj2 := (congrFun hJ 0).trans hj
    refine mm_wiceq (fun _ => ?_) (fun h => absurd ht h)
    refine mm_w1 rfl ?_
    refine mm_nifne (by decide) (fun h => absurd rfl h) (fun _ => ?_)
    refine mm_w1 rfl ?_
    refine mm_wv (vb_i 0) rfl (by decide) ?_
    refine mm_wla h86 (by decide) (by decide) ?_
    refine mm_w1 rfl ?_
    refine mm_w1 rfl ?_
    refine mm_w1 rfl ?_
    refine mm_wifeq (fun _ => ?_) (fun h => absurd (nt_cmp.mpr hj2) h)
    refine mm_wgoto ?_
    exact K (st_see σ (G.2 (i + 1)) (G.2 (i + 2)) (G.2 (i + 3))) _ _ _ _ _ _ _ hnc hns hV2 hN2 hC2 (li_see hI (vm_10 (vmd_l hN.2)) (vm_sc3 (vmd_l hN.2)) (G.2 (i + 1)) (G.2 (i + 2)) (G.2 (i + 3)))
  | inr E =>
    rw [ho] at hm1 hm2
    obtain rfl := le_see ho
    subst hm1
    refine mm_wiceq (fun _ => ?_) (fun h => absurd hm2 h)
    refine mm_w1 rfl ?_
    refine mm_nifne (by decide) (fun _ => ?_) (fun h => absurd h (by decide))
    refine mm_wgoto ?_
    exact K (st_see σ (G.2 (i + 1)) (G.2 (i + 2)) (G.2 (i + 3))) _ _ _ _ _ _ _ hnc hns hV2 hN2 hC2 (li_see hI (vm_10 (vmd_l hN.2)) (vm_sc3 (vmd_l hN.2)) (G.2 (i + 1)) (G.2 (i + 2)) (G.2 (i + 3)))
theorem ll_forget (hV : lw_V σ P S I) (hN : lw_N σ P S I) (hC : lw_C P S) (hI : lw_I σ) (hd : 85 ≤ d) (hG : G.1 ≤ 3072) (hi : i + 6 ≤ G.1) (K : lw_K G d i S nc ns Q) : mm_W G d 279 (mm_blk 279 1571) [.ref mm_SC, .ref 0, .ref 60, .ref 86, .int (vb_i i), v5, v6] [] (I, P, J, S, nc, ns) Q := by
  refine mm_w1 rfl ?_
  obtain ⟨r, hgo, I1, P1, J1, nc1, ns1, hr, hnc, hns, hV1, hN1, hC1⟩ := vc_forget (G := G) (d := d - 1) (J := J) (nc := nc) (ns := ns) hV hN hC hI (by omega)
  subst hr
  obtain ⟨L0, hW0, _⟩ := id hV
  refine mm_cvX (vb_cv (vV_S0 hW0.1) rfl rfl rfl rfl) (by decide) (by omega) hgo rfl ?_
  refine mm_w1 rfl ?_
  obtain ⟨r, hgo2, I2, P2, J2, hr, hJ, hV2, hN2, hC2⟩ := nc_forget (G := G) (d := d - 1) (J := J1) (nc := nc1) (ns := ns1) (τ := (vs_see σ [])) hV1 hN1 hC1 hI (by omega)
  subst hr
  refine mm_cvX (vb_cv (vM_S60 hN1.1) rfl rfl rfl rfl) (by decide) (by omega) hgo2 rfl ?_
  refine mm_wgoto ?_
  exact K (vs_see σ []) _ _ _ _ _ _ _ hnc hns hV2 hN2 hC2 (li_forget hI)
theorem ll_styles (hV : lw_V σ P S I) (hN : lw_N σ P S I) (hC : lw_C P S) (hI : lw_I σ) (hd : 85 ≤ d) (hG : G.1 ≤ 3072) (hi : i + 6 ≤ G.1) (K : lw_K G d i S nc ns Q) : mm_W G d 279 (mm_blk 279 1582) [.ref mm_SC, .ref 0, .ref 60, .ref 86, .int (vb_i i), v5, v6] [] (I, P, J, S, nc, ns) Q := by
  refine mm_w1 rfl ?_
  refine mm_w1 rfl ?_
  refine mm_w1 rfl ?_
  refine mm_wv (vb_i 1) rfl (by decide) ?_
  refine mm_nadd ?_
  refine mm_wsa (by omega) (by omega) ?_
  refine mm_w1 rfl ?_
  obtain ⟨r, hgo, c, I1, P1, J1, nc1, ns1, hr, hnc, hns, hV1, hN1, hC1, hm1⟩ := lx_styles (G := G) (d := d - 1) (J := J) (nc := nc) (ns := ns) hV hN hC hI (by omega) (G.2 (i + 1))
  subst hr
  refine mm_csX rfl (by decide) (by omega) hgo rfl ?_
  refine mm_w1 (ls' := [_, _, _, _, _, _, _]) rfl ?_
  refine mm_w1 rfl ?_
  refine mm_w1 rfl ?_
  refine mm_w1 rfl ?_
  refine mm_wv (vb_i 1) rfl (by decide) ?_
  refine mm_nadd ?_
  refine mm_wsa (by omega) (by omega) ?_
  obtain ⟨r, hgo2, z, I2, P2, J2, hr, hJ, hV2, hN2, hC2, hm2⟩ := nc_styles (G := G) (d := d - 1) (J := J1) (nc := nc1) (ns := ns1) (τ := σ) hV1 hN1 hC1 hI (by omega) (G.2 (i + 1))
  subst hr
  refine mm_cvX (vb_cv (vM_S60 hN1.1) rfl rfl rfl rfl) (by decide) (by omega) hgo2 rfl ?_
  refine mm_w1 (ls' := [_, _, _, _, _, _, _]) rfl ?_
  refine mm_w1 rfl ?_
  refine mm_cvp (vb_cv (vM_S60 hN2.1) rfl rfl rfl rfl) (by decide) (by omega) (m_thrown hN2.1 rfl) ?_
  refine mm_w1 rfl ?_
  have h86 := hC2.2.2.2
  cases ho : sp_styles σ (G.2 (i + 1)) with
  | inl w =>
    rw [ho] at hm1 hm2
    obtain ⟨rfl, hj⟩ := hm1
    obtain ⟨rfl, ht⟩ := hm2
    have hj2 := (congrFun hJ 0).trans hj
    refine mm_wiceq (fun _ => ?_) (fun h => absurd ht h)
    refine mm_w1 rfl ?_
    refine mm_nifne (by decide) (fun h => absurd rfl h) (fun _ => ?_)
    refine mm_w1 rfl ?_
    refine mm_wv (vb_i 0) rfl (by decide) ?_
    refine mm_wla h86 (by decide) (by decide) ?_
    refine mm_w1 rfl ?_
    refine mm_w1 rfl ?_
    refine mm_w1 rfl ?_
    refine mm_wifeq (fun _ => ?_) (fun h => absurd (nt_cmp.mpr hj2) h)
    refine mm_wgoto ?_
    exact K σ _ _ _ _ _ _ _ hnc hns hV2 hN2 hC2 hI
  | inr E =>
    rw [ho] at hm1 hm2
    obtain rfl := le_styles ho
    subst hm1
    refine mm_wiceq (fun _ => ?_) (fun h => absurd hm2 h)
    refine mm_w1 rfl ?_
    refine mm_nifne (by decide) (fun _ => ?_) (fun h => absurd h (by decide))
    refine mm_wgoto ?_
    exact K σ _ _ _ _ _ _ _ hnc hns hV2 hN2 hC2 hI
theorem ll_next (hV : lw_V σ P S I) (hN : lw_N σ P S I) (hC : lw_C P S) (hI : lw_I σ) (hd : 85 ≤ d) (hG : G.1 ≤ 3072) (hi : i + 6 ≤ G.1) (K : lw_K G d i S nc ns Q) : mm_W G d 279 (mm_blk 279 1638) [.ref mm_SC, .ref 0, .ref 60, .ref 86, .int (vb_i i), v5, v6] [] (I, P, J, S, nc, ns) Q := by
  refine mm_w1 rfl ?_
  refine mm_w1 rfl ?_
  refine mm_w1 rfl ?_
  refine mm_wv (vb_i 1) rfl (by decide) ?_
  refine mm_nadd ?_
  refine mm_wsa (by omega) (by omega) ?_
  refine mm_w1 rfl ?_
  obtain ⟨r, hgo, c, I1, P1, J1, nc1, ns1, hr, hnc, hns, hV1, hN1, hC1, hm1⟩ := lx_next (G := G) (d := d - 1) (J := J) (nc := nc) (ns := ns) hV hN hC hI (by omega) (G.2 (i + 1))
  subst hr
  refine mm_csX rfl (by decide) (by omega) hgo rfl ?_
  refine mm_w1 (ls' := [_, _, _, _, _, _, _]) rfl ?_
  refine mm_w1 rfl ?_
  refine mm_w1 rfl ?_
  refine mm_w1 rfl ?_
  refine mm_wv (vb_i 1) rfl (by decide) ?_
  refine mm_nadd ?_
  refine mm_wsa (by omega) (by omega) ?_
  obtain ⟨r, hgo2, z, I2, P2, J2, hr, hJ, hV2, hN2, hC2, hm2⟩ := nc_next (G := G) (d := d - 1) (J := J1) (nc := nc1) (ns := ns1) (τ := σ) hV1 hN1 hC1 hI (by omega) (G.2 (i + 1))
  subst hr
  refine mm_cvX (vb_cv (vM_S60 hN1.1) rfl rfl rfl rfl) (by decide) (by omega) hgo2 rfl ?_
  refine mm_w1 (ls' := [_, _, _, _, _, _, _]) rfl ?_
  refine mm_w1 rfl ?_
  refine mm_cvp (vb_cv (vM_S60 hN2.1) rfl rfl rfl rfl) (by decide) (by omega) (m_thrown hN2.1 rfl) ?_
  refine mm_w1 rfl ?_
  have h86 := hC2.2.2.2
  cases ho : sp_next σ (G.2 (i + 1)) with
  | inl w =>
    rw [ho] at hm1 hm2
    obtain ⟨rfl, hj⟩ := hm1
    obtain ⟨rfl, ht⟩ := hm2
    have hj2 := (congrFun hJ 0).trans hj
    refine mm_wiceq (fun _ => ?_) (fun h => absurd ht h)
    refine mm_w1 rfl ?_
    refine mm_nifne (by decide) (fun h => absurd rfl h) (fun _ => ?_)
    refine mm_w1 rfl ?_
    refine mm_wv (vb_i 0) rfl (by decide) ?_
    refine mm_wla h86 (by decide) (by decide) ?_
    refine mm_w1 rfl ?_
    refine mm_w1 rfl ?_
    refine mm_w1 rfl ?_
    refine mm_wifeq (fun _ => ?_) (fun h => absurd (nt_cmp.mpr hj2) h)
    refine mm_wgoto ?_
    exact K σ _ _ _ _ _ _ _ hnc hns hV2 hN2 hC2 hI
  | inr E =>
    rw [ho] at hm1 hm2
    obtain rfl := le_next ho
    subst hm1
    refine mm_wiceq (fun _ => ?_) (fun h => absurd hm2 h)
    refine mm_w1 rfl ?_
    refine mm_nifne (by decide) (fun _ => ?_) (fun h => absurd h (by decide))
    refine mm_wgoto ?_
    exact K σ _ _ _ _ _ _ _ hnc hns hV2 hN2 hC2 hI
theorem ll_treaty (hV : lw_V σ P S I) (hN : lw_N σ P S I) (hC : lw_C P S) (hI : lw_I σ) (hd : 85 ≤ d) (hG : G.1 ≤ 3072) (hi : i + 6 ≤ G.1) (K : lw_K G d i S nc ns Q) : mm_W G d 279 (mm_blk 279 1694) [.ref mm_SC, .ref 0, .ref 60, .ref 86, .int (vb_i i), v5, v6] [] (I, P, J, S, nc, ns) Q := by
  obtain ⟨w, ho⟩ : ∃ w, sp_treaty σ = .inl w := by
    simp only [sp_treaty]
    (repeat' split) <;> exact ⟨_, rfl⟩
  refine mm_w1 rfl ?_
  obtain ⟨r, hgo, I1, P1, J1, nc1, ns1, hr, hnc, hns, hV1, hN1, hC1⟩ := vc_treaty (G := G) (d := d - 1) (J := J) (nc := nc) (ns := ns) hV hN hC hI (by omega)
  rw [ho] at hr
  subst hr
  obtain ⟨L0, hW0, _⟩ := id hV
  refine mm_cvX (vb_cv (vV_S0 hW0.1) rfl rfl rfl rfl) (by decide) (by omega) hgo rfl ?_
  refine mm_w1 rfl ?_
  obtain ⟨r, hgo2, z, I2, P2, J2, hr, hJ, hV2, hN2, hC2, hm2⟩ := nc_treaty (G := G) (d := d - 1) (J := J1) (nc := nc1) (ns := ns1) (τ := σ) hV1 hN1 hC1 hI (by omega)
  subst hr
  refine mm_cvX (vb_cv (vM_S60 hN1.1) rfl rfl rfl rfl) (by decide) (by omega) hgo2 rfl ?_
  rw [ho] at hm2
  obtain ⟨rfl, _⟩ := hm2
  refine mm_wiceq (fun _ => ?_) (fun h => absurd rfl h)
  exact K σ _ _ _ _ _ _ _ hnc hns hV2 hN2 hC2 hI
theorem ll_game (hV : lw_V σ P S I) (hN : lw_N σ P S I) (hC : lw_C P S) (hI : lw_I σ) (hd : 85 ≤ d) (hG : G.1 ≤ 3072) (hi : i + 6 ≤ G.1) (K : lw_K G d i S nc ns Q) : mm_W G d 279 (mm_blk 279 1707) [.ref mm_SC, .ref 0, .ref 60, .ref 86, .int (vb_i i), v5, v6] [] (I, P, J, S, nc, ns) Q := by
  refine mm_w1 rfl ?_
  refine mm_w1 rfl ?_
  refine mm_w1 rfl ?_
  refine mm_wv (vb_i 1) rfl (by decide) ?_
  refine mm_nadd ?_
  refine mm_wsa (by omega) (by omega) ?_
  refine mm_w1 rfl ?_
  refine mm_w1 rfl ?_
  refine mm_wv (vb_i 2) rfl (by decide) ?_
  refine mm_nadd ?_
  refine mm_wsa (by omega) (by omega) ?_
  refine mm_w1 rfl ?_
  refine mm_w1 rfl ?_
  refine mm_wv (vb_i 3) rfl (by decide) ?_
  refine mm_nadd ?_
  refine mm_wsa (by omega) (by omega) ?_
  refine mm_w1 rfl ?_
  obtain ⟨r, hgo, c, I1, P1, J1, nc1, ns1, hr, hnc, hns, hV1, hN1, hC1, hm1⟩ := lx_game (G := G) (d := d - 1) (J := J) (nc := nc) (ns := ns) hV hN hC hI (by omega) (G.2 (i + 1)) (G.2 (i + 2)) (G.2 (i + 3))
  subst hr
  refine mm_csX rfl (by decide) (by omega) hgo rfl ?_
  refine mm_w1 (ls' := [_, _, _, _, _, _, _]) rfl ?_
  refine mm_w1 rfl ?_
  refine mm_w1 rfl ?_
  refine mm_w1 rfl ?_
  refine mm_wv (vb_i 1) rfl (by decide) ?_
  refine mm_nadd ?_
  refine mm_wsa (by omega) (by omega) ?_
  refine mm_w1 rfl ?_
  refine mm_w1 rfl ?_
  refine mm_wv (vb_i 2) rfl (by decide) ?_
  refine mm_nadd ?_
  refine mm_wsa (by omega) (by omega) ?_
  refine mm_w1 rfl ?_
  refine mm_w1 rfl ?_
  refine mm_wv (vb_i 3) rfl (by decide) ?_
  refine mm_nadd ?_
  refine mm_wsa (by omega) (by omega) ?_
  obtain ⟨r, hgo2, z, I2, P2, J2, hr, hJ, hV2, hN2, hC2, hm2⟩ := nc_game (G := G) (d := d - 1) (J := J1) (nc := nc1) (ns := ns1) (τ := σ) hV1 hN1 hC1 hI (by omega) (G.2 (i + 1)) (G.2 (i + 2)) (G.2 (i + 3))
  subst hr
  refine mm_cvX (vb_cv (vM_S60 hN1.1) rfl rfl rfl rfl) (by decide) (by omega) hgo2 rfl ?_
  refine mm_w1 (ls' := [_, _, _, _, _, _, _]) rfl ?_
  refine mm_w1 rfl ?_
  refine mm_cvp (vb_cv (vM_S60 hN2.1) rfl rfl rfl rfl) (by decide) (by omega) (m_thrown hN2.1 rfl) ?_
  refine mm_w1 rfl ?_
  have h86 := hC2.2.2.2
  cases ho : sp_game σ (G.2 (i + 1)) (G.2 (i + 2)) (G.2 (i + 3)) with
  | inl w =>
    rw [ho] at hm1 hm2
    obtain ⟨rfl, hj⟩ := hm1
    obtain ⟨rfl, ht⟩ := hm2
    have hj2 := (congrFun hJ 0).trans hj
    refine mm_wiceq (fun _ => ?_) (fun h => absurd ht h)
    refine mm_w1 rfl ?_
    refine mm_nifne (by decide) (fun h => absurd rfl h) (fun _ => ?_)
    refine mm_w1 rfl ?_
    refine mm_wv (vb_i 0) rfl (by decide) ?_
    refine mm_wla h86 (by decide) (by decide) ?_
    refine mm_w1 rfl ?_
    refine mm_w1 rfl ?_
    refine mm_w1 rfl ?_
    refine mm_wifeq (fun _ => ?_) (fun h => absurd (nt_cmp.mpr hj2) h)
    refine mm_wgoto ?_
    exact K σ _ _ _ _ _ _ _ hnc hns hV2 hN2 hC2 hI
  | inr E =>
    rw [ho] at hm1 hm2
    rcases le_game ho with rfl | rfl
    · subst hm1
      refine mm_wiceq (fun _ => ?_) (fun h => absurd hm2 h)
      refine mm_w1 rfl ?_
      refine mm_nifne (by decide) (fun _ => ?_) (fun h => absurd h (by decide))
      refine mm_wgoto ?_
      exact K σ _ _ _ _ _ _ _ hnc hns hV2 hN2 hC2 hI
    · subst hm1
      refine mm_wiceq (fun _ => ?_) (fun h => absurd hm2 h)
      refine mm_w1 rfl ?_
      refine mm_nifne (by decide) (fun _ => ?_) (fun h => absurd h (by decide))
      refine mm_wgoto ?_
      exact K σ _ _ _ _ _ _ _ hnc hns hV2 hN2 hC2 hI
theorem ll_years (hV : lw_V σ P S I) (hN : lw_N σ P S I) (hC : lw_C P S) (hI : lw_I σ) (hd : 85 ≤ d) (hG : G.1 ≤ 3072) (hi : i + 6 ≤ G.1) (K : lw_K G d i S nc ns Q) : mm_W G d 279 (mm_blk 279 1787) [.ref mm_SC, .ref 0, .ref 60, .ref 86, .int (vb_i i), v5, v6] [] (I, P, J, S, nc, ns) Q := by
  refine mm_w1 rfl ?_
  refine mm_w1 rfl ?_
  refine mm_w1 rfl ?_
  refine mm_wv (vb_i 1) rfl (by decide) ?_
  refine mm_nadd ?_
  refine mm_wsa (by omega) (by omega) ?_
  refine mm_w1 rfl ?_
  refine mm_w1 rfl ?_
  refine mm_wv (vb_i 2) rfl (by decide) ?_
  refine mm_nadd ?_
  refine mm_wsa (by omega) (by omega) ?_
  refine mm_w1 rfl ?_
  refine mm_w1 rfl ?_
  refine mm_wv (vb_i 3) rfl (by decide) ?_
  refine mm_nadd ?_
  refine mm_wsa (by omega) (by omega) ?_
  refine mm_w1 rfl ?_
  obtain ⟨r, hgo, c, I1, P1, J1, nc1, ns1, hr, hnc, hns, hV1, hN1, hC1, hm1⟩ := lx_years (G := G) (d := d - 1) (J := J) (nc := nc) (ns := ns) hV hN hC hI (by omega) (G.2 (i + 1)) (G.2 (i + 2)) (G.2 (i + 3))
  subst hr
  refine mm_csX rfl (by decide) (by omega) hgo rfl ?_
  refine mm_w1 (ls' := [_, _, _, _, _, _, _]) rfl ?_
  refine mm_w1 rfl ?_
  refine mm_w1 rfl ?_
  refine mm_w1 rfl ?_
  refine mm_wv (vb_i 1) rfl (by decide) ?_
  refine mm_nadd ?_
  refine mm_wsa (by omega) (by omega) ?_
  refine mm_w1 rfl ?_
  refine mm_w1 rfl ?_
  refine mm_wv (vb_i 2) rfl (by decide) ?_
  refine mm_nadd ?_
  refine mm_wsa (by omega) (by omega) ?_
  refine mm_w1 rfl ?_
  refine mm_w1 rfl ?_
  refine mm_wv (vb_i 3) rfl (by decide) ?_
  refine mm_nadd ?_
  refine mm_wsa (by omega) (by omega) ?_
  obtain ⟨r, hgo2, z, I2, P2, J2, hr, hJ, hV2, hN2, hC2, hm2⟩ := nc_years (G := G) (d := d - 1) (J := J1) (nc := nc1) (ns := ns1) (τ := σ) hV1 hN1 hC1 hI (by omega) (G.2 (i + 1)) (G.2 (i + 2)) (G.2 (i + 3))
  subst hr
  refine mm_cvX (vb_cv (vM_S60 hN1.1) rfl rfl rfl rfl) (by decide) (by omega) hgo2 rfl ?_
  refine mm_w1 (ls' := [_, _, _, _, _, _, _]) rfl ?_
  refine mm_w1 rfl ?_
  refine mm_cvp (vb_cv (vM_S60 hN2.1) rfl rfl rfl rfl) (by decide) (by omega) (m_thrown hN2.1 rfl) ?_
  refine mm_w1 rfl ?_
  have h86 := hC2.2.2.2
  cases ho : sp_years σ (G.2 (i + 1)) (G.2 (i + 2)) (G.2 (i + 3)) with
  | inl w =>
    rw [ho] at hm1 hm2
    obtain ⟨rfl, hj⟩ := hm1
    obtain ⟨rfl, ht⟩ := hm2
    have hj2 := (congrFun hJ 0).trans hj
    refine mm_wiceq (fun _ => ?_) (fun h => absurd ht h)
    refine mm_w1 rfl ?_
    refine mm_nifne (by decide) (fun h => absurd rfl h) (fun _ => ?_)
    refine mm_w1 rfl ?_
    refine mm_wv (vb_i 0) rfl (by decide) ?_
    refine mm_wla h86 (by decide) (by decide) ?_
    refine mm_w1 rfl ?_
    refine mm_w1 rfl ?_
    refine mm_w1 rfl ?_
    refine mm_wifeq (fun _ => ?_) (fun h => absurd (nt_cmp.mpr hj2) h)
    refine mm_wgoto ?_
    exact K σ _ _ _ _ _ _ _ hnc hns hV2 hN2 hC2 hI
  | inr E =>
    rw [ho] at hm1 hm2
    rcases le_years ho with rfl | rfl
    · subst hm1
      refine mm_wiceq (fun _ => ?_) (fun h => absurd hm2 h)
      refine mm_w1 rfl ?_
      refine mm_nifne (by decide) (fun _ => ?_) (fun h => absurd h (by decide))
      refine mm_wgoto ?_
      exact K σ _ _ _ _ _ _ _ hnc hns hV2 hN2 hC2 hI
    · subst hm1
      refine mm_wiceq (fun _ => ?_) (fun h => absurd hm2 h)
      refine mm_w1 rfl ?_
      refine mm_nifne (by decide) (fun _ => ?_) (fun h => absurd h (by decide))
      refine mm_wgoto ?_
      exact K σ _ _ _ _ _ _ _ hnc hns hV2 hN2 hC2 hI
theorem ll_owes (hV : lw_V σ P S I) (hN : lw_N σ P S I) (hC : lw_C P S) (hI : lw_I σ) (hd : 85 ≤ d) (hG : G.1 ≤ 3072) (hi : i + 6 ≤ G.1) (K : lw_K G d i S nc ns Q) : mm_W G d 279 (mm_blk 279 1867) [.ref mm_SC, .ref 0, .ref 60, .ref 86, .int (vb_i i), v5, v6] [] (I, P, J, S, nc, ns) Q := by
  refine mm_w1 rfl ?_
  refine mm_w1 rfl ?_
  refine mm_w1 rfl ?_
  refine mm_wv (vb_i 1) rfl (by decide) ?_
  refine mm_nadd ?_
  refine mm_wsa (by omega) (by omega) ?_
  refine mm_w1 rfl ?_
  obtain ⟨r, hgo, c, I1, P1, J1, nc1, ns1, hr, hnc, hns, hV1, hN1, hC1, hm1⟩ := lx_owes (G := G) (d := d - 1) (J := J) (nc := nc) (ns := ns) hV hN hC hI (by omega) (G.2 (i + 1))
  subst hr
  refine mm_csX rfl (by decide) (by omega) hgo rfl ?_
  refine mm_w1 (ls' := [_, _, _, _, _, _, _]) rfl ?_
  refine mm_w1 rfl ?_
  refine mm_w1 rfl ?_
  refine mm_w1 rfl ?_
  refine mm_wv (vb_i 1) rfl (by decide) ?_
  refine mm_nadd ?_
  refine mm_wsa (by omega) (by omega) ?_
  obtain ⟨r, hgo2, z, I2, P2, J2, hr, hJ, hV2, hN2, hC2, hm2⟩ := nc_owes (G := G) (d := d - 1) (J := J1) (nc := nc1) (ns := ns1) (τ := σ) hV1 hN1 hC1 hI (by omega) (G.2 (i + 1))
  subst hr
  refine mm_cvX (vb_cv (vM_S60 hN1.1) rfl rfl rfl rfl) (by decide) (by omega) hgo2 rfl ?_
  refine mm_w1 (ls' := [_, _, _, _, _, _, _]) rfl ?_
  refine mm_w1 rfl ?_
  refine mm_cvp (vb_cv (vM_S60 hN2.1) rfl rfl rfl rfl) (by decide) (by omega) (m_thrown hN2.1 rfl) ?_
  refine mm_w1 rfl ?_
  have h86 := hC2.2.2.2
  cases ho : sp_owes σ (G.2 (i + 1)) with
  | inl w =>
    rw [ho] at hm1 hm2
    obtain ⟨rfl, hj⟩ := hm1
    obtain ⟨rfl, ht⟩ := hm2
    have hj2 := (congrFun hJ 0).trans hj
    refine mm_wiceq (fun _ => ?_) (fun h => absurd ht h)
    refine mm_w1 rfl ?_
    refine mm_nifne (by decide) (fun h => absurd rfl h) (fun _ => ?_)
    refine mm_w1 rfl ?_
    refine mm_wv (vb_i 0) rfl (by decide) ?_
    refine mm_wla h86 (by decide) (by decide) ?_
    refine mm_w1 rfl ?_
    refine mm_w1 rfl ?_
    refine mm_w1 rfl ?_
    refine mm_wifeq (fun _ => ?_) (fun h => absurd (nt_cmp.mpr hj2) h)
    refine mm_wgoto ?_
    exact K σ _ _ _ _ _ _ _ hnc hns hV2 hN2 hC2 hI
  | inr E =>
    rw [ho] at hm1 hm2
    obtain rfl := le_owes ho
    subst hm1
    refine mm_wiceq (fun _ => ?_) (fun h => absurd hm2 h)
    refine mm_w1 rfl ?_
    refine mm_nifne (by decide) (fun _ => ?_) (fun h => absurd h (by decide))
    refine mm_wgoto ?_
    exact K σ _ _ _ _ _ _ _ hnc hns hV2 hN2 hC2 hI
theorem ll_front (hV : lw_V σ P S I) (hN : lw_N σ P S I) (hC : lw_C P S) (hI : lw_I σ) (hd : 85 ≤ d) (hG : G.1 ≤ 3072) (hi : i + 6 ≤ G.1) (K : lw_K G d i S nc ns Q) : mm_W G d 279 (mm_blk 279 1923) [.ref mm_SC, .ref 0, .ref 60, .ref 86, .int (vb_i i), v5, v6] [] (I, P, J, S, nc, ns) Q := by
  obtain ⟨w, ho⟩ : ∃ w, sp_front σ = .inl w := by
    simp only [sp_front]
    (repeat' split) <;> exact ⟨_, rfl⟩
  refine mm_w1 rfl ?_
  obtain ⟨r, hgo, I1, P1, J1, nc1, ns1, hr, hnc, hns, hV1, hN1, hC1⟩ := vc_front (G := G) (d := d - 1) (J := J) (nc := nc) (ns := ns) hV hN hC hI (by omega)
  rw [ho] at hr
  subst hr
  obtain ⟨L0, hW0, _⟩ := id hV
  refine mm_cvX (vb_cv (vV_S0 hW0.1) rfl rfl rfl rfl) (by decide) (by omega) hgo rfl ?_
  refine mm_w1 rfl ?_
  obtain ⟨r, hgo2, z, I2, P2, J2, hr, hJ, hV2, hN2, hC2, hm2⟩ := nc_front (G := G) (d := d - 1) (J := J1) (nc := nc1) (ns := ns1) (τ := σ) hV1 hN1 hC1 hI (by omega)
  subst hr
  refine mm_cvX (vb_cv (vM_S60 hN1.1) rfl rfl rfl rfl) (by decide) (by omega) hgo2 rfl ?_
  rw [ho] at hm2
  obtain ⟨rfl, _⟩ := hm2
  refine mm_wiceq (fun _ => ?_) (fun h => absurd rfl h)
  exact K σ _ _ _ _ _ _ _ hnc hns hV2 hN2 hC2 hI
theorem ll_parts (hV : lw_V σ P S I) (hN : lw_N σ P S I) (hC : lw_C P S) (hI : lw_I σ) (hd : 85 ≤ d) (hG : G.1 ≤ 3072) (hi : i + 6 ≤ G.1) (K : lw_K G d i S nc ns Q) : mm_W G d 279 (mm_blk 279 1936) [.ref mm_SC, .ref 0, .ref 60, .ref 86, .int (vb_i i), v5, v6] [] (I, P, J, S, nc, ns) Q := by
  refine mm_w1 rfl ?_
  refine mm_w1 rfl ?_
  refine mm_w1 rfl ?_
  refine mm_wv (vb_i 1) rfl (by decide) ?_
  refine mm_nadd ?_
  refine mm_wsa (by omega) (by omega) ?_
  refine mm_w1 rfl ?_
  obtain ⟨r, hgo, c, I1, P1, J1, nc1, ns1, hr, hnc, hns, hV1, hN1, hC1, hm1⟩ := lx_parts (G := G) (d := d - 1) (J := J) (nc := nc) (ns := ns) hV hN hC hI (by omega) (G.2 (i + 1))
  subst hr
  refine mm_csX rfl (by decide) (by omega) hgo rfl ?_
  refine mm_w1 (ls' := [_, _, _, _, _, _, _]) rfl ?_
  refine mm_w1 rfl ?_
  refine mm_w1 rfl ?_
  refine mm_w1 rfl ?_
  refine mm_wv (vb_i 1) rfl (by decide) ?_
  refine mm_nadd ?_
  refine mm_wsa (by omega) (by omega) ?_
  obtain ⟨r, hgo2, z, I2, P2, J2, hr, hJ, hV2, hN2, hC2, hm2⟩ := nc_parts (G := G) (d := d - 1) (J := J1) (nc := nc1) (ns := ns1) (τ := σ) hV1 hN1 hC1 hI (by omega) (G.2 (i + 1))
  subst hr
  refine mm_cvX (vb_cv (vM_S60 hN1.1) rfl rfl rfl rfl) (by decide) (by omega) hgo2 rfl ?_
  refine mm_w1 (ls' := [_, _, _, _, _, _, _]) rfl ?_
  refine mm_w1 rfl ?_
  refine mm_cvp (vb_cv (vM_S60 hN2.1) rfl rfl rfl rfl) (by decide) (by omega) (m_thrown hN2.1 rfl) ?_
  refine mm_w1 rfl ?_
  have h86 := hC2.2.2.2
  cases ho : sp_parts σ (G.2 (i + 1)) with
  | inl w =>
    rw [ho] at hm1 hm2
    obtain ⟨rfl, hj⟩ := hm1
    obtain ⟨rfl, ht⟩ := hm2
    have hj2 := (congrFun hJ 0).trans hj
    refine mm_wiceq (fun _ => ?_) (fun h => absurd ht h)
    refine mm_w1 rfl ?_
    refine mm_nifne (by decide) (fun h => absurd rfl h) (fun _ => ?_)
    refine mm_w1 rfl ?_
    refine mm_wv (vb_i 0) rfl (by decide) ?_
    refine mm_wla h86 (by decide) (by decide) ?_
    refine mm_w1 rfl ?_
    refine mm_w1 rfl ?_
    refine mm_w1 rfl ?_
    refine mm_wifeq (fun _ => ?_) (fun h => absurd (nt_cmp.mpr hj2) h)
    refine mm_wgoto ?_
    exact K σ _ _ _ _ _ _ _ hnc hns hV2 hN2 hC2 hI
  | inr E =>
    rw [ho] at hm1 hm2
    obtain rfl := le_parts ho
    subst hm1
    refine mm_wiceq (fun _ => ?_) (fun h => absurd hm2 h)
    refine mm_w1 rfl ?_
    refine mm_nifne (by decide) (fun _ => ?_) (fun h => absurd h (by decide))
    refine mm_wgoto ?_
    exact K σ _ _ _ _ _ _ _ hnc hns hV2 hN2 hC2 hI
theorem ll_safe (hV : lw_V σ P S I) (hN : lw_N σ P S I) (hC : lw_C P S) (hI : lw_I σ) (hd : 85 ≤ d) (hG : G.1 ≤ 3072) (hi : i + 6 ≤ G.1) (K : lw_K G d i S nc ns Q) : mm_W G d 279 (mm_blk 279 1992) [.ref mm_SC, .ref 0, .ref 60, .ref 86, .int (vb_i i), v5, v6] [] (I, P, J, S, nc, ns) Q := by
  refine mm_w1 rfl ?_
  refine mm_w1 rfl ?_
  refine mm_w1 rfl ?_
  refine mm_wv (vb_i 1) rfl (by decide) ?_
  refine mm_nadd ?_
  refine mm_wsa (by omega) (by omega) ?_
  refine mm_w1 rfl ?_
  obtain ⟨r, hgo, c, I1, P1, J1, nc1, ns1, hr, hnc, hns, hV1, hN1, hC1, hm1⟩ := lx_safe (G := G) (d := d - 1) (J := J) (nc := nc) (ns := ns) hV hN hC hI (by omega) (G.2 (i + 1))
  subst hr
  refine mm_csX rfl (by decide) (by omega) hgo rfl ?_
  refine mm_w1 (ls' := [_, _, _, _, _, _, _]) rfl ?_
  refine mm_w1 rfl ?_
  refine mm_w1 rfl ?_
  refine mm_w1 rfl ?_
  refine mm_wv (vb_i 1) rfl (by decide) ?_
  refine mm_nadd ?_
  refine mm_wsa (by omega) (by omega) ?_
  obtain ⟨r, hgo2, z, I2, P2, J2, hr, hJ, hV2, hN2, hC2, hm2⟩ := nc_safe (G := G) (d := d - 1) (J := J1) (nc := nc1) (ns := ns1) (τ := σ) hV1 hN1 hC1 hI (by omega) (G.2 (i + 1))
  subst hr
  refine mm_cvX (vb_cv (vM_S60 hN1.1) rfl rfl rfl rfl) (by decide) (by omega) hgo2 rfl ?_
  refine mm_w1 (ls' := [_, _, _, _, _, _, _]) rfl ?_
  refine mm_w1 rfl ?_
  refine mm_cvp (vb_cv (vM_S60 hN2.1) rfl rfl rfl rfl) (by decide) (by omega) (m_thrown hN2.1 rfl) ?_
  refine mm_w1 rfl ?_
  have h86 := hC2.2.2.2
  cases ho : sp_safe σ (G.2 (i + 1)) with
  | inl w =>
    rw [ho] at hm1 hm2
    obtain ⟨rfl, hj⟩ := hm1
    obtain ⟨rfl, ht⟩ := hm2
    have hj2 := (congrFun hJ 0).trans hj
    refine mm_wiceq (fun _ => ?_) (fun h => absurd ht h)
    refine mm_w1 rfl ?_
    refine mm_nifne (by decide) (fun h => absurd rfl h) (fun _ => ?_)
    refine mm_w1 rfl ?_
    refine mm_wv (vb_i 0) rfl (by decide) ?_
    refine mm_wla h86 (by decide) (by decide) ?_
    refine mm_w1 rfl ?_
    refine mm_w1 rfl ?_
    refine mm_w1 rfl ?_
    refine mm_wifeq (fun _ => ?_) (fun h => absurd (nt_cmp.mpr hj2) h)
    refine mm_wgoto ?_
    exact K σ _ _ _ _ _ _ _ hnc hns hV2 hN2 hC2 hI
  | inr E =>
    rw [ho] at hm1 hm2
    obtain rfl := le_safe ho
    subst hm1
    refine mm_wiceq (fun _ => ?_) (fun h => absurd hm2 h)
    refine mm_w1 rfl ?_
    refine mm_nifne (by decide) (fun _ => ?_) (fun h => absurd h (by decide))
    refine mm_wgoto ?_
    exact K σ _ _ _ _ _ _ _ hnc hns hV2 hN2 hC2 hI
theorem ll_reach (hV : lw_V σ P S I) (hN : lw_N σ P S I) (hC : lw_C P S) (hI : lw_I σ) (hd : 85 ≤ d) (hG : G.1 ≤ 3072) (hi : i + 6 ≤ G.1) (K : lw_K G d i S nc ns Q) : mm_W G d 279 (mm_blk 279 2048) [.ref mm_SC, .ref 0, .ref 60, .ref 86, .int (vb_i i), v5, v6] [] (I, P, J, S, nc, ns) Q := by
  refine mm_w1 rfl ?_
  refine mm_w1 rfl ?_
  refine mm_w1 rfl ?_
  refine mm_wv (vb_i 1) rfl (by decide) ?_
  refine mm_nadd ?_
  refine mm_wsa (by omega) (by omega) ?_
  refine mm_w1 rfl ?_
  obtain ⟨r, hgo, c, I1, P1, J1, nc1, ns1, hr, hnc, hns, hV1, hN1, hC1, hm1⟩ := lx_reach (G := G) (d := d - 1) (J := J) (nc := nc) (ns := ns) hV hN hC hI (by omega) (G.2 (i + 1))
  subst hr
  refine mm_csX rfl (by decide) (by omega) hgo rfl ?_
  refine mm_w1 (ls' := [_, _, _, _, _, _, _]) rfl ?_
  refine mm_w1 rfl ?_
  refine mm_w1 rfl ?_
  refine mm_w1 rfl ?_
  refine mm_wv (vb_i 1) rfl (by decide) ?_
  refine mm_nadd ?_
  refine mm_wsa (by omega) (by omega) ?_
  obtain ⟨r, hgo2, z, I2, P2, J2, hr, hJ, hV2, hN2, hC2, hm2⟩ := nc_reach (G := G) (d := d - 1) (J := J1) (nc := nc1) (ns := ns1) (τ := σ) hV1 hN1 hC1 hI (by omega) (G.2 (i + 1))
  subst hr
  refine mm_cvX (vb_cv (vM_S60 hN1.1) rfl rfl rfl rfl) (by decide) (by omega) hgo2 rfl ?_
  refine mm_w1 (ls' := [_, _, _, _, _, _, _]) rfl ?_
  refine mm_w1 rfl ?_
  refine mm_cvp (vb_cv (vM_S60 hN2.1) rfl rfl rfl rfl) (by decide) (by omega) (m_thrown hN2.1 rfl) ?_
  refine mm_w1 rfl ?_
  have h86 := hC2.2.2.2
  cases ho : sp_reach σ (G.2 (i + 1)) with
  | inl w =>
    rw [ho] at hm1 hm2
    obtain ⟨rfl, hj⟩ := hm1
    obtain ⟨rfl, ht⟩ := hm2
    have hj2 := (congrFun hJ 0).trans hj
    refine mm_wiceq (fun _ => ?_) (fun h => absurd ht h)
    refine mm_w1 rfl ?_
    refine mm_nifne (by decide) (fun h => absurd rfl h) (fun _ => ?_)
    refine mm_w1 rfl ?_
    refine mm_wv (vb_i 0) rfl (by decide) ?_
    refine mm_wla h86 (by decide) (by decide) ?_
    refine mm_w1 rfl ?_
    refine mm_w1 rfl ?_
    refine mm_w1 rfl ?_
    refine mm_wifeq (fun _ => ?_) (fun h => absurd (nt_cmp.mpr hj2) h)
    refine mm_wgoto ?_
    exact K σ _ _ _ _ _ _ _ hnc hns hV2 hN2 hC2 hI
  | inr E =>
    rw [ho] at hm1 hm2
    obtain rfl := le_reach ho
    subst hm1
    refine mm_wiceq (fun _ => ?_) (fun h => absurd hm2 h)
    refine mm_w1 rfl ?_
    refine mm_nifne (by decide) (fun _ => ?_) (fun h => absurd h (by decide))
    refine mm_wgoto ?_
    exact K σ _ _ _ _ _ _ _ hnc hns hV2 hN2 hC2 hI
theorem ll_guard (hV : lw_V σ P S I) (hN : lw_N σ P S I) (hC : lw_C P S) (hI : lw_I σ) (hd : 85 ≤ d) (hG : G.1 ≤ 3072) (hi : i + 6 ≤ G.1) (K : lw_K G d i S nc ns Q) : mm_W G d 279 (mm_blk 279 2104) [.ref mm_SC, .ref 0, .ref 60, .ref 86, .int (vb_i i), v5, v6] [] (I, P, J, S, nc, ns) Q := by
  refine mm_w1 rfl ?_
  refine mm_w1 rfl ?_
  refine mm_w1 rfl ?_
  refine mm_wv (vb_i 1) rfl (by decide) ?_
  refine mm_nadd ?_
  refine mm_wsa (by omega) (by omega) ?_
  refine mm_w1 rfl ?_
  obtain ⟨r, hgo, c, I1, P1, J1, nc1, ns1, hr, hnc, hns, hV1, hN1, hC1, hm1⟩ := lx_guard (G := G) (d := d - 1) (J := J) (nc := nc) (ns := ns) hV hN hC hI (by omega) (G.2 (i + 1))
  subst hr
  refine mm_csX rfl (by decide) (by omega) hgo rfl ?_
  refine mm_w1 (ls' := [_, _, _, _, _, _, _]) rfl ?_
  refine mm_w1 rfl ?_
  refine mm_w1 rfl ?_
  refine mm_w1 rfl ?_
  refine mm_wv (vb_i 1) rfl (by decide) ?_
  refine mm_nadd ?_
  refine mm_wsa (by omega) (by omega) ?_
  obtain ⟨r, hgo2, z, I2, P2, J2, hr, hJ, hV2, hN2, hC2, hm2⟩ := nc_guard (G := G) (d := d - 1) (J := J1) (nc := nc1) (ns := ns1) (τ := σ) hV1 hN1 hC1 hI (by omega) (G.2 (i + 1))
  subst hr
  refine mm_cvX (vb_cv (vM_S60 hN1.1) rfl rfl rfl rfl) (by decide) (by omega) hgo2 rfl ?_
  refine mm_w1 (ls' := [_, _, _, _, _, _, _]) rfl ?_
  refine mm_w1 rfl ?_
  refine mm_cvp (vb_cv (vM_S60 hN2.1) rfl rfl rfl rfl) (by decide) (by omega) (m_thrown hN2.1 rfl) ?_
  refine mm_w1 rfl ?_
  have h86 := hC2.2.2.2
  cases ho : sp_guard σ (G.2 (i + 1)) with
  | inl w =>
    rw [ho] at hm1 hm2
    obtain ⟨rfl, hj⟩ := hm1
    obtain ⟨rfl, ht⟩ := hm2
    have hj2 := (congrFun hJ 0).trans hj
    refine mm_wiceq (fun _ => ?_) (fun h => absurd ht h)
    refine mm_w1 rfl ?_
    refine mm_nifne (by decide) (fun h => absurd rfl h) (fun _ => ?_)
    refine mm_w1 rfl ?_
    refine mm_wv (vb_i 0) rfl (by decide) ?_
    refine mm_wla h86 (by decide) (by decide) ?_
    refine mm_w1 rfl ?_
    refine mm_w1 rfl ?_
    refine mm_w1 rfl ?_
    refine mm_wifeq (fun _ => ?_) (fun h => absurd (nt_cmp.mpr hj2) h)
    refine mm_wgoto ?_
    exact K σ _ _ _ _ _ _ _ hnc hns hV2 hN2 hC2 hI
  | inr E =>
    rw [ho] at hm1 hm2
    obtain rfl := le_guard ho
    subst hm1
    refine mm_wiceq (fun _ => ?_) (fun h => absurd hm2 h)
    refine mm_w1 rfl ?_
    refine mm_nifne (by decide) (fun _ => ?_) (fun h => absurd h (by decide))
    refine mm_wgoto ?_
    exact K σ _ _ _ _ _ _ _ hnc hns hV2 hN2 hC2 hI
theorem ll_key (hV : lw_V σ P S I) (hN : lw_N σ P S I) (hC : lw_C P S) (hI : lw_I σ) (hd : 85 ≤ d) (hG : G.1 ≤ 3072) (hi : i + 6 ≤ G.1) (K : lw_K G d i S nc ns Q) : mm_W G d 279 (mm_blk 279 2160) [.ref mm_SC, .ref 0, .ref 60, .ref 86, .int (vb_i i), v5, v6] [] (I, P, J, S, nc, ns) Q := by
  refine mm_w1 rfl ?_
  refine mm_w1 rfl ?_
  refine mm_w1 rfl ?_
  refine mm_wv (vb_i 1) rfl (by decide) ?_
  refine mm_nadd ?_
  refine mm_wsa (by omega) (by omega) ?_
  refine mm_w1 rfl ?_
  obtain ⟨r, hgo, c, I1, P1, J1, nc1, ns1, hr, hnc, hns, hV1, hN1, hC1, hm1⟩ := lx_key (G := G) (d := d - 1) (J := J) (nc := nc) (ns := ns) hV hN hC hI (by omega) (G.2 (i + 1))
  subst hr
  refine mm_csX rfl (by decide) (by omega) hgo rfl ?_
  refine mm_w1 (ls' := [_, _, _, _, _, _, _]) rfl ?_
  refine mm_w1 rfl ?_
  refine mm_w1 rfl ?_
  refine mm_w1 rfl ?_
  refine mm_wv (vb_i 1) rfl (by decide) ?_
  refine mm_nadd ?_
  refine mm_wsa (by omega) (by omega) ?_
  obtain ⟨r, hgo2, z, I2, P2, J2, hr, hJ, hV2, hN2, hC2, hm2⟩ := nc_key (G := G) (d := d - 1) (J := J1) (nc := nc1) (ns := ns1) (τ := σ) hV1 hN1 hC1 hI (by omega) (G.2 (i + 1))
  subst hr
  refine mm_cvX (vb_cv (vM_S60 hN1.1) rfl rfl rfl rfl) (by decide) (by omega) hgo2 rfl ?_
  refine mm_w1 (ls' := [_, _, _, _, _, _, _]) rfl ?_
  refine mm_w1 rfl ?_
  refine mm_cvp (vb_cv (vM_S60 hN2.1) rfl rfl rfl rfl) (by decide) (by omega) (m_thrown hN2.1 rfl) ?_
  refine mm_w1 rfl ?_
  have h86 := hC2.2.2.2
  cases ho : sp_key σ (G.2 (i + 1)) with
  | inl w =>
    rw [ho] at hm1 hm2
    obtain ⟨rfl, hj⟩ := hm1
    obtain ⟨rfl, ht⟩ := hm2
    have hj2 := (congrFun hJ 0).trans hj
    refine mm_wiceq (fun _ => ?_) (fun h => absurd ht h)
    refine mm_w1 rfl ?_
    refine mm_nifne (by decide) (fun h => absurd rfl h) (fun _ => ?_)
    refine mm_w1 rfl ?_
    refine mm_wv (vb_i 0) rfl (by decide) ?_
    refine mm_wla h86 (by decide) (by decide) ?_
    refine mm_w1 rfl ?_
    refine mm_w1 rfl ?_
    refine mm_w1 rfl ?_
    refine mm_wifeq (fun _ => ?_) (fun h => absurd (nt_cmp.mpr hj2) h)
    refine mm_wgoto ?_
    exact K σ _ _ _ _ _ _ _ hnc hns hV2 hN2 hC2 hI
  | inr E =>
    rw [ho] at hm1 hm2
    obtain rfl := le_key ho
    subst hm1
    refine mm_wiceq (fun _ => ?_) (fun h => absurd hm2 h)
    refine mm_w1 rfl ?_
    refine mm_nifne (by decide) (fun _ => ?_) (fun h => absurd h (by decide))
    refine mm_wgoto ?_
    exact K σ _ _ _ _ _ _ _ hnc hns hV2 hN2 hC2 hI
theorem ll_fork (hV : lw_V σ P S I) (hN : lw_N σ P S I) (hC : lw_C P S) (hI : lw_I σ) (hd : 85 ≤ d) (hG : G.1 ≤ 3072) (hi : i + 6 ≤ G.1) (K : lw_K G d i S nc ns Q) : mm_W G d 279 (mm_blk 279 2216) [.ref mm_SC, .ref 0, .ref 60, .ref 86, .int (vb_i i), v5, v6] [] (I, P, J, S, nc, ns) Q := by
  obtain ⟨w, ho⟩ : ∃ w, sp_fork σ = .inl w := by
    simp only [sp_fork]
    (repeat' split) <;> exact ⟨_, rfl⟩
  refine mm_w1 rfl ?_
  obtain ⟨r, hgo, I1, P1, J1, nc1, ns1, hr, hnc, hns, hV1, hN1, hC1⟩ := vc_fork (G := G) (d := d - 1) (J := J) (nc := nc) (ns := ns) hV hN hC hI (by omega)
  rw [ho] at hr
  subst hr
  obtain ⟨L0, hW0, _⟩ := id hV
  refine mm_cvX (vb_cv (vV_S0 hW0.1) rfl rfl rfl rfl) (by decide) (by omega) hgo rfl ?_
  refine mm_w1 rfl ?_
  obtain ⟨r, hgo2, z, I2, P2, J2, hr, hJ, hV2, hN2, hC2, hm2⟩ := nc_fork (G := G) (d := d - 1) (J := J1) (nc := nc1) (ns := ns1) (τ := σ) hV1 hN1 hC1 hI (by omega)
  subst hr
  refine mm_cvX (vb_cv (vM_S60 hN1.1) rfl rfl rfl rfl) (by decide) (by omega) hgo2 rfl ?_
  rw [ho] at hm2
  obtain ⟨rfl, _⟩ := hm2
  refine mm_wiceq (fun _ => ?_) (fun h => absurd rfl h)
  exact K σ _ _ _ _ _ _ _ hnc hns hV2 hN2 hC2 hI
theorem ll_regret (hV : lw_V σ P S I) (hN : lw_N σ P S I) (hC : lw_C P S) (hI : lw_I σ) (hd : 85 ≤ d) (hG : G.1 ≤ 3072) (hi : i + 6 ≤ G.1) (K : lw_K G d i S nc ns Q) : mm_W G d 279 (mm_blk 279 2229) [.ref mm_SC, .ref 0, .ref 60, .ref 86, .int (vb_i i), v5, v6] [] (I, P, J, S, nc, ns) Q := by
  refine mm_w1 rfl ?_
  refine mm_w1 rfl ?_
  refine mm_w1 rfl ?_
  refine mm_wv (vb_i 1) rfl (by decide) ?_
  refine mm_nadd ?_
  refine mm_wsa (by omega) (by omega) ?_
  refine mm_w1 rfl ?_
  refine mm_w1 rfl ?_
  refine mm_wv (vb_i 2) rfl (by decide) ?_
  refine mm_nadd ?_
  refine mm_wsa (by omega) (by omega) ?_
  refine mm_w1 rfl ?_
  obtain ⟨r, hgo, c, I1, P1, J1, nc1, ns1, hr, hnc, hns, hV1, hN1, hC1, hm1⟩ := lx_regret (G := G) (d := d - 1) (J := J) (nc := nc) (ns := ns) hV hN hC hI (by omega) (G.2 (i + 1)) (G.2 (i + 2))
  subst hr
  refine mm_csX rfl (by decide) (by omega) hgo rfl ?_
  refine mm_w1 (ls' := [_, _, _, _, _, _, _]) rfl ?_
  refine mm_w1 rfl ?_
  refine mm_w1 rfl ?_
  refine mm_w1 rfl ?_
  refine mm_wv (vb_i 1) rfl (by decide) ?_
  refine mm_nadd ?_
  refine mm_wsa (by omega) (by omega) ?_
  refine mm_w1 rfl ?_
  refine mm_w1 rfl ?_
  refine mm_wv (vb_i 2) rfl (by decide) ?_
  refine mm_nadd ?_
  refine mm_wsa (by omega) (by omega) ?_
  obtain ⟨r, hgo2, z, I2, P2, J2, hr, hJ, hV2, hN2, hC2, hm2⟩ := nc_regret (G := G) (d := d - 1) (J := J1) (nc := nc1) (ns := ns1) (τ := σ) hV1 hN1 hC1 hI (by omega) (G.2 (i + 1)) (G.2 (i + 2))
  subst hr
  refine mm_cvX (vb_cv (vM_S60 hN1.1) rfl rfl rfl rfl) (by decide) (by omega) hgo2 rfl ?_
  refine mm_w1 (ls' := [_, _, _, _, _, _, _]) rfl ?_
  refine mm_w1 rfl ?_
  refine mm_cvp (vb_cv (vM_S60 hN2.1) rfl rfl rfl rfl) (by decide) (by omega) (m_thrown hN2.1 rfl) ?_
  refine mm_w1 rfl ?_
  have h86 := hC2.2.2.2
  cases ho : sp_regret σ (G.2 (i + 1)) (G.2 (i + 2)) with
  | inl w =>
    rw [ho] at hm1 hm2
    obtain ⟨rfl, hj⟩ := hm1
    obtain ⟨rfl, ht⟩ := hm2
    have hj2 := (congrFun hJ 0).trans hj
    refine mm_wiceq (fun _ => ?_) (fun h => absurd ht h)
    refine mm_w1 rfl ?_
    refine mm_nifne (by decide) (fun h => absurd rfl h) (fun _ => ?_)
    refine mm_w1 rfl ?_
    refine mm_wv (vb_i 0) rfl (by decide) ?_
    refine mm_wla h86 (by decide) (by decide) ?_
    refine mm_w1 rfl ?_
    refine mm_w1 rfl ?_
    refine mm_w1 rfl ?_
    refine mm_wifeq (fun _ => ?_) (fun h => absurd (nt_cmp.mpr hj2) h)
    refine mm_wgoto ?_
    exact K σ _ _ _ _ _ _ _ hnc hns hV2 hN2 hC2 hI
  | inr E =>
    rw [ho] at hm1 hm2
    obtain rfl := le_regret ho
    subst hm1
    refine mm_wiceq (fun _ => ?_) (fun h => absurd hm2 h)
    refine mm_w1 rfl ?_
    refine mm_nifne (by decide) (fun _ => ?_) (fun h => absurd h (by decide))
    refine mm_wgoto ?_
    exact K σ _ _ _ _ _ _ _ hnc hns hV2 hN2 hC2 hI
theorem ll_whose (hV : lw_V σ P S I) (hN : lw_N σ P S I) (hC : lw_C P S) (hI : lw_I σ) (hd : 85 ≤ d) (hG : G.1 ≤ 3072) (hi : i + 6 ≤ G.1) (K : lw_K G d i S nc ns Q) : mm_W G d 279 (mm_blk 279 2297) [.ref mm_SC, .ref 0, .ref 60, .ref 86, .int (vb_i i), v5, v6] [] (I, P, J, S, nc, ns) Q := by
  refine mm_w1 rfl ?_
  refine mm_w1 rfl ?_
  refine mm_w1 rfl ?_
  refine mm_wv (vb_i 1) rfl (by decide) ?_
  refine mm_nadd ?_
  refine mm_wsa (by omega) (by omega) ?_
  refine mm_w1 rfl ?_
  obtain ⟨r, hgo, c, I1, P1, J1, nc1, ns1, hr, hnc, hns, hV1, hN1, hC1, hm1⟩ := lx_whose (G := G) (d := d - 1) (J := J) (nc := nc) (ns := ns) hV hN hC hI (by omega) (G.2 (i + 1))
  subst hr
  refine mm_csX rfl (by decide) (by omega) hgo rfl ?_
  refine mm_w1 (ls' := [_, _, _, _, _, _, _]) rfl ?_
  refine mm_w1 rfl ?_
  refine mm_w1 rfl ?_
  refine mm_w1 rfl ?_
  refine mm_wv (vb_i 1) rfl (by decide) ?_
  refine mm_nadd ?_
  refine mm_wsa (by omega) (by omega) ?_
  obtain ⟨r, hgo2, z, I2, P2, J2, hr, hJ, hV2, hN2, hC2, hm2⟩ := nc_whose (G := G) (d := d - 1) (J := J1) (nc := nc1) (ns := ns1) (τ := σ) hV1 hN1 hC1 hI (by omega) (G.2 (i + 1))
  subst hr
  refine mm_cvX (vb_cv (vM_S60 hN1.1) rfl rfl rfl rfl) (by decide) (by omega) hgo2 rfl ?_
  refine mm_w1 (ls' := [_, _, _, _, _, _, _]) rfl ?_
  refine mm_w1 rfl ?_
  refine mm_cvp (vb_cv (vM_S60 hN2.1) rfl rfl rfl rfl) (by decide) (by omega) (m_thrown hN2.1 rfl) ?_
  refine mm_w1 rfl ?_
  have h86 := hC2.2.2.2
  cases ho : sp_whose σ (G.2 (i + 1)) with
  | inl w =>
    rw [ho] at hm1 hm2
    obtain ⟨rfl, hj⟩ := hm1
    obtain ⟨rfl, ht⟩ := hm2
    have hj2 := (congrFun hJ 0).trans hj
    refine mm_wiceq (fun _ => ?_) (fun h => absurd ht h)
    refine mm_w1 rfl ?_
    refine mm_nifne (by decide) (fun h => absurd rfl h) (fun _ => ?_)
    refine mm_w1 rfl ?_
    refine mm_wv (vb_i 0) rfl (by decide) ?_
    refine mm_wla h86 (by decide) (by decide) ?_
    refine mm_w1 rfl ?_
    refine mm_w1 rfl ?_
    refine mm_w1 rfl ?_
    refine mm_wifeq (fun _ => ?_) (fun h => absurd (nt_cmp.mpr hj2) h)
    refine mm_wgoto ?_
    exact K σ _ _ _ _ _ _ _ hnc hns hV2 hN2 hC2 hI
  | inr E =>
    rw [ho] at hm1 hm2
    obtain rfl := le_whose ho
    subst hm1
    refine mm_wiceq (fun _ => ?_) (fun h => absurd hm2 h)
    refine mm_w1 rfl ?_
    refine mm_nifne (by decide) (fun _ => ?_) (fun h => absurd h (by decide))
    refine mm_wgoto ?_
    exact K σ _ _ _ _ _ _ _ hnc hns hV2 hN2 hC2 hI
theorem ll_image (hV : lw_V σ P S I) (hN : lw_N σ P S I) (hC : lw_C P S) (hI : lw_I σ) (hd : 85 ≤ d) (hG : G.1 ≤ 3072) (hi : i + 6 ≤ G.1) (K : lw_K G d i S nc ns Q) : mm_W G d 279 (mm_blk 279 2353) [.ref mm_SC, .ref 0, .ref 60, .ref 86, .int (vb_i i), v5, v6] [] (I, P, J, S, nc, ns) Q := by
  refine mm_w1 rfl ?_
  obtain ⟨r, hgo, I1, P1, J1, nc1, ns1, hr, hnc, hns, hV1, hN1, hC1⟩ := vc_image (G := G) (d := d - 1) (J := J) (nc := nc) (ns := ns) hV hN hC hI (by omega)
  subst hr
  obtain ⟨L0, hW0, _⟩ := id hV
  refine mm_cvX (vb_cv (vV_S0 hW0.1) rfl rfl rfl rfl) (by decide) (by omega) hgo rfl ?_
  refine mm_w1 rfl ?_
  obtain ⟨r, hgo2, I2, P2, J2, hr, hJ, hV2, hN2, hC2⟩ := nc_image (G := G) (d := d - 1) (J := J1) (nc := nc1) (ns := ns1) (τ := (sp_image σ)) hV1 hN1 hC1 hI (by omega)
  subst hr
  refine mm_cvX (vb_cv (vM_S60 hN1.1) rfl rfl rfl rfl) (by decide) (by omega) hgo2 rfl ?_
  refine mm_wgoto ?_
  exact K (sp_image σ) _ _ _ _ _ _ _ hnc hns hV2 hN2 hC2 (li_image hI)
theorem ll_restore (hV : lw_V σ P S I) (hN : lw_N σ P S I) (hC : lw_C P S) (hI : lw_I σ) (hd : 85 ≤ d) (hG : G.1 ≤ 3072) (hi : i + 6 ≤ G.1) (K : lw_K G d i S nc ns Q) : mm_W G d 279 (mm_blk 279 2364) [.ref mm_SC, .ref 0, .ref 60, .ref 86, .int (vb_i i), v5, v6] [] (I, P, J, S, nc, ns) Q := by
  obtain ⟨w, ho⟩ : ∃ w, sp_restore σ = .inl w := by
    simp only [sp_restore]
    (repeat' split) <;> exact ⟨_, rfl⟩
  refine mm_w1 rfl ?_
  obtain ⟨r, hgo, I1, P1, J1, nc1, ns1, hr, hnc, hns, hV1, hN1, hC1⟩ := vc_restore (G := G) (d := d - 1) (J := J) (nc := nc) (ns := ns) hV hN hC hI (by omega)
  rw [ho] at hr
  subst hr
  obtain ⟨L0, hW0, _⟩ := id hV
  refine mm_cvX (vb_cv (vV_S0 hW0.1) rfl rfl rfl rfl) (by decide) (by omega) hgo rfl ?_
  refine mm_w1 rfl ?_
  obtain ⟨r, hgo2, z, I2, P2, J2, hr, hJ, hV2, hN2, hC2, hm2⟩ := nc_restore (G := G) (d := d - 1) (J := J1) (nc := nc1) (ns := ns1) (τ := (st_restore σ)) hV1 hN1 hC1 hI (by omega)
  subst hr
  refine mm_cvX (vb_cv (vM_S60 hN1.1) rfl rfl rfl rfl) (by decide) (by omega) hgo2 rfl ?_
  rw [ho] at hm2
  obtain ⟨rfl, _⟩ := hm2
  refine mm_wiceq (fun _ => ?_) (fun h => absurd rfl h)
  exact K (st_restore σ) _ _ _ _ _ _ _ hnc hns hV2 hN2 hC2 (li_restore hI (vm_10 (vmd_l hN.2)) (vm_sc3 (vmd_l hN.2)))
end LWL
