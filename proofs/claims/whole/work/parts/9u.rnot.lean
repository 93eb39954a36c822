section RD4
variable {G : mm_G} {d : Nat} {I : Nat → Nat → Int32} {P : Nat → Nat → Nat} {J : Nat → Nat → Int64} {S : List (Nat × Nat)} {nc ns : Nat} {μ : mm_M} {L : Nat} {b : Nat → Int32} {n : Nat}
variable {q : (Nat × Nat) ⊕ (Nat × List (Nat × Int32))}
theorem c_not {F w s : Nat} {C : List Int32} (hR : vb_isR P S L) (hb : tx_ok b n) (ih : (∀ g, g < F → ∀ m w' s' q', m ≤ 5 → w' ≤ 5 → s' ≤ n → px b g m w' s' = some q' → ∀ (d : Nat) (I : Nat → Nat → Int32) (C : List Int32), 9 * (5 - w') + rd_lv m ≤ d → rd_D b n I → rd_tk b s' I → rd_C L C I → C.length ≤ s' → mm_C G d 52 [.ref 3, .int (vb_i m), .int (vb_i w')] (I, P, J, S, nc, ns) (vb_R (some (.int (vb_b (rd_is q')))) (fun I' => rd_fx L I I' ∧ rd_P b n L C q' I') P J S nc ns))) (hw : w ≤ 5) (hs : s ≤ n) (h : px b F 20 w s = some q) (hd : 9 * (5 - w) + 9 ≤ d) (dD : rd_D b n I) (hk : rd_tk b s I) (dC : rd_C L C I) (hC : C.length ≤ s) : mm_C G d 53 [.ref 3, .int (vb_i 2), .int (vb_i w)] (I, P, J, S, nc, ns) (vb_R (some (.int (vb_b (rd_is q)))) (fun I' => rd_fx L I I' ∧ rd_P b n L C q I') P J S nc ns) := by
  have hL := vR_L hR
  have hL17 := vR_17 hR
  have hn7 := hb.1
  have hlv : rd_lv 3 = 8 := rfl
  have loop3 : ∀ (j : Nat), j ≤ 6 → ∀ (s : Nat) (c : List (Nat × Int32)), s ≤ n → C.length + px_cl c + 2 * j ≤ 700 → ∀ i, i ≤ j → ∀ (I1 : Nat → Nat → Int32), rd_fx L I I1 → rd_D b n I1 → rd_tk b s I1 → rd_C L (C ++ px_cc c ++ px_cc (List.replicate i (3, 0))) I1 → mm_W G d 53 (mm_blk 53 129) [.ref 3, .int (vb_i 2), .int (vb_i w), .int (vb_i j), .int (vb_i i)] [] (I1, P, J, S, nc, ns) (vb_R (some (.int (vb_b (rd_is (.inr (s, c ++ List.replicate j (3, 0))))))) (fun I' => rd_fx L I I' ∧ rd_P b n L C (.inr (s, c ++ List.replicate j (3, 0))) I') P J S nc ns) := by
    intro j hj s c hs hc
    refine vb_down j ?_
    intro i hi ih3 I1 hx1 dD1 hk1 dC1
    have h61 := hk1.2.2.1
    have hlen : (C ++ px_cc c ++ px_cc (List.replicate i (3, 0))).length = C.length + px_cl c + 2 * i := by rw [List.length_append, List.length_append, px_cc_len, px_cc_len, px_cl_rep]
    refine mm_w1 rfl ?_
    refine mm_w1 rfl ?_
    refine mm_nicge (by omega) (by omega) ?_ ?_
    · intro h132
      refine mm_wv (vb_i 1) rfl (by decide) ?_
      refine mm_wr rfl rfl rfl ?_
      refine ⟨_, ⟨hx1, dD1, hk1, ?_⟩, rfl⟩
      rw [px_cc_app, ← List.append_assoc, show j = i by omega]; exact dC1
    · intro h132
      refine mm_w1 rfl ?_
      refine mm_wgr (vR_S3 hR) (by decide) (by decide) (vR_P3_2 hR) (vL_a0 hL) ?_
      refine mm_wgr (vL_S0 hL) (by decide) (by decide) (vL_P0_9 hL) (vL_a6 hL) ?_
      refine mm_wv (vb_i 0) rfl (by decide) ?_
      refine mm_cvn (vb_cv (vL_S6 hL) rfl rfl rfl rfl) (by decide) (by omega) (c_addNum hL dC1 (by omega) (by omega)) ?_
      intro I2 hq2
      obtain ⟨dC2, hfc2⟩ := hq2
      have hx2 : rd_fx L I I2 := hx1.tr (.ofc hfc2 (by omega))
      have h32 := hfc2 3 (by omega) (by omega)
      have dD2 : rd_D b n I2 := ⟨fun i hi => by rw [hfc2 1 (by omega) (by omega)]; exact dD1.1 i hi, by rw [h32]; exact dD1.2.1, dD1.2.2⟩
      have hk2 := hk1.eq h32
      have h62 := hk2.2.2.1
      refine mm_w1 rfl ?_
      refine mm_wgr (vR_S3 hR) (by decide) (by decide) (vR_P3_2 hR) (vL_a0 hL) ?_
      refine mm_wgr (vL_S0 hL) (by decide) (by decide) (vL_P0_9 hL) (vL_a6 hL) ?_
      refine mm_wv (vb_i 15) rfl (by decide) ?_
      refine mm_cvn (vb_cv (vL_S6 hL) rfl rfl rfl rfl) (by decide) (by omega) (c_addSign hL dC2 (by rw [List.length_append, hlen]; show _ + 1 < 700; omega) (by omega)) ?_
      intro I3 hq3
      obtain ⟨dC3, hfc3⟩ := hq3
      have hx3 : rd_fx L I I3 := hx2.tr (.ofc hfc3 (by omega))
      have h33 := hfc3 3 (by omega) (by omega)
      have dD3 : rd_D b n I3 := ⟨fun i hi => by rw [hfc3 1 (by omega) (by omega)]; exact dD2.1 i hi, by rw [h33]; exact dD2.2.1, dD2.2.2⟩
      have hk3 := hk2.eq h33
      have h63 := hk3.2.2.1
      refine mm_nincL (ls' := [_, _, _, _, _]) 1 rfl (by decide) rfl ?_
      refine mm_wgoto ?_
      refine ih3 (by omega) _ hx3 dD3 hk3 ?_
      rw [List.replicate_succ', px_cc_app, ← List.append_assoc]
      have e : px_cc [((3 : Nat), (0 : Int32))] = [vb_i 0] ++ [-1 - vb_i 15] := by rw [px_cc_cons, px_it3]; rfl
      rw [e, ← List.append_assoc]; exact dC3
  have loop2 : ∀ g, g ≤ F → ∀ j, j ≤ 6 → ∀ (s : Nat) (I1 : Nat → Nat → Int32), s ≤ n → px b g (20 + j) w s = some q → rd_fx L I I1 → rd_D b n I1 → rd_tk b s I1 → rd_C L C I1 → C.length + 2 * j ≤ s → mm_W G d 53 (mm_blk 53 2) [.ref 3, .int (vb_i 2), .int (vb_i w), .int (vb_i j), .null] [] (I1, P, J, S, nc, ns) (vb_R (some (.int (vb_b (rd_is q)))) (fun I' => rd_fx L I I' ∧ rd_P b n L C q I') P J S nc ns) := by
    intro g
    induction g with
    | zero => intro _ j _ s I1 _ h; cases h
    | succ g ihg =>
      intro hg j hj s I1 hs h hx1 dD1 hk1 dC1 hC1
      rw [px_20] at h
      have h61 := hk1.2.2.1
      have hN := tx_N_n hb hs
      have k48 : ¬ tx_w b s = 15 → mm_W G d 53 (mm_blk 53 48) [.ref 3, .int (vb_i 2), .int (vb_i w), .int (vb_i j), .null] [] (I1, P, J, S, nc, ns) (vb_R (some (.int (vb_b (rd_is q)))) (fun I' => rd_fx L I I' ∧ rd_P b n L C q I') P J S nc ns) := by
        intro hno
        rw [if_neg hno] at h
        obtain ⟨q1, e1, hq⟩ := rf_bd_i (r := q) h
        have hq1 := px_q hb g 3 w s _ (Or.inl (by decide)) hw hs e1
        refine mm_w1 rfl ?_
        refine mm_w1 rfl ?_
        refine mm_wv (vb_i 1) rfl (by decide) ?_
        refine mm_nadd ?_
        refine mm_w1 rfl ?_
        refine mm_cvi (vb_cv (vR_S3 hR) rfl rfl rfl rfl) (by decide) (by omega) (ih g (by omega) 3 w s q1 (by decide) hw hs e1 (d - 1) _ C (by omega) dD1 hk1 dC1 (by omega)) ?_
        intro I2 hq2
        obtain ⟨hx22, hP2⟩ := hq2
        have hx2 : rd_fx L I I2 := hx1.tr hx22
        rcases hq with ⟨x, rfl, rfl⟩ | ⟨s1, c1, rfl, h2⟩
        · refine mm_bifne (fun h => by cases h) (fun _ => ?_)
          refine mm_wv (vb_i 0) rfl (by decide) ?_
          refine mm_wr rfl rfl rfl ?_
          exact ⟨_, ⟨hx2, hP2⟩, rfl⟩
        · refine mm_bifne (fun _ => ?_) (fun h => by cases h)
          obtain ⟨dD2, hk2, dC2⟩ := hP2
          have h62 := hk2.2.2.1
          have hs1 := hq1.2.1
          have hc1 := hq1.2.2.2.1
          have hss1 := hq1.1
          have hN1 := tx_N_n hb hs1
          have hK1 := tx_K_le b s1
          have ej6 : tx_K b s1 = 60 → px_j b 2 s1 = 6 := fun h => by simp only [px_j]; simp [h]
          have ej7 : ¬ tx_K b s1 = 60 → tx_K b s1 = 61 → px_j b 2 s1 = 7 := fun h h' => by simp only [px_j]; simp [h']
          have ej0 : ¬ tx_K b s1 = 60 → ¬ tx_K b s1 = 61 → px_j b 2 s1 = 0 := fun h h' => by simp only [px_j]; simp [h, h']
          have k95 : ¬ px_j b 2 s1 = 0 → mm_W G d 53 (mm_blk 53 95) [.ref 3, .int (vb_i 2), .int (vb_i w), .int (vb_i j), .null] [.int (px_cj (px_j b 2 s1))] (I2, P, J, S, nc, ns) (vb_R (some (.int (vb_b (rd_is q)))) (fun I' => rd_fx L I I' ∧ rd_P b n L C q I') P J S nc ns) := by
            intro hj2
            rw [if_neg hj2] at h2
            obtain ⟨q2, e2, hq3⟩ := rf_bd_i (r := q) h2
            have hq2 := px_q hb g 3 w _ _ (Or.inl (by decide)) hw hN1 e2
            have hlt1 := tx_N_lt hb (tx_lt hb hs1 (px_j_K hj2))
            refine mm_w1 (ls' := [_, _, _, _, _]) rfl ?_
            refine mm_w1 rfl ?_
            refine mm_cvn (vb_cv (vR_S3 hR) rfl rfl rfl rfl) (by decide) (by omega) (c_next hR dD2 hb (tx_E_n hb (by omega)) hk2.2.1 (by omega)) ?_
            intro I3 hq3
            obtain ⟨hkS3, hf33⟩ := hq3
            have hk3 : rd_tk b (tx_N b _) I3 := hkS3
            have hx3 : rd_fx L I I3 := hx2.tr (.of3 hf33)
            have dD3 : rd_D b n I3 := dD2.f3 hf33
            have dC3 := dC2.fr (hf33.1 (L + 6) (by omega)) (hf33.1 (L + 7) (by omega))
            have h63 := hk3.2.2.1
            refine mm_w1 rfl ?_
            refine mm_w1 rfl ?_
            refine mm_wv (vb_i 1) rfl (by decide) ?_
            refine mm_nadd ?_
            refine mm_w1 rfl ?_
            refine mm_cvi (vb_cv (vR_S3 hR) rfl rfl rfl rfl) (by decide) (by omega) (ih g (by omega) 3 w _ q2 (by decide) hw hN1 e2 (d - 1) _ (C ++ px_cc c1) (by omega) dD3 hk3 dC3 (by rw [List.length_append, px_cc_len]; omega)) ?_
            intro I4 hq4
            obtain ⟨hx24, hP4⟩ := hq4
            have hx4 : rd_fx L I I4 := hx3.tr hx24
            rcases hq3 with ⟨x, rfl, rfl⟩ | ⟨s2, c2, rfl, h3⟩
            · refine mm_bifne (fun h => by cases h) (fun _ => ?_)
              refine mm_wv (vb_i 0) rfl (by decide) ?_
              refine mm_wr rfl rfl rfl ?_
              exact ⟨_, ⟨hx4, hP4⟩, rfl⟩
            · refine mm_bifne (fun _ => ?_) (fun h => by cases h)
              cases h3
              obtain ⟨dD4, hk4, dC4⟩ := hP4
              have h64 := hk4.2.2.1
              have hs2 := hq2.2.1
              have hc2 := hq2.2.2.2.1
              have hss2 := hq2.1
              have hl4 : (C ++ px_cc c1 ++ px_cc c2).length = C.length + px_cl c1 + px_cl c2 := by rw [List.length_append, List.length_append, px_cc_len, px_cc_len]
              refine mm_w1 rfl ?_
              refine mm_wgr (vR_S3 hR) (by decide) (by decide) (vR_P3_2 hR) (vL_a0 hL) ?_
              refine mm_wgr (vL_S0 hL) (by decide) (by decide) (vL_P0_9 hL) (vL_a6 hL) ?_
              refine mm_w1 rfl ?_
              refine mm_cvn (vb_cv (vL_S6 hL) rfl rfl rfl rfl) (by decide) (by omega) (c_addSign hL dC4 (by rw [hl4]; omega) (by omega)) ?_
              intro I5 hq5
              obtain ⟨dC5, hfc5⟩ := hq5
              have hx5 : rd_fx L I I5 := hx4.tr (.ofc hfc5 (by omega))
              have h35 := hfc5 3 (by omega) (by omega)
              have dD5 : rd_D b n I5 := ⟨fun i hi => by rw [hfc5 1 (by omega) (by omega)]; exact dD4.1 i hi, by rw [h35]; exact dD4.2.1, dD4.2.2⟩
              have hk5 := hk4.eq h35
              have h65 := hk5.2.2.1
              refine mm_wv (vb_i 0) rfl (by decide) ?_
              refine mm_w1 (ls' := [_, _, _, _, _]) rfl ?_
              have := loop3 j hj s2 (c1 ++ c2 ++ [(px_j b 2 s1, 0)]) hs2 (by rw [px_cl_app, px_cl_app, px_cl, px_cl, if_neg (by have := px_j_op hj2; show ¬ px_j b 2 s1 = 3; omega)]; omega) 0 (by omega) _ hx5 dD5 hk5 (by
                rw [px_cc_app, px_cc_app, px_cc_cons, px_cjit hj2, List.replicate_zero, show px_cc ([] : List (Nat × Int32)) = [] from rfl, List.append_nil, List.append_nil]
                have e := dC5
                simp only [List.append_assoc] at e ⊢
                exact e)
              rw [List.append_assoc (c1 ++ c2)] at this
              exact this 
          refine mm_w1 rfl ?_
          refine mm_wgiv _ (vR_S3 hR) (by decide) (by decide) h62 ?_
          refine mm_wv (vb_i 60) rfl (by decide) ?_
          refine mm_niceq (by omega) (by omega) ?_ ?_
          · intro h67
            refine mm_w1 rfl ?_
            refine mm_wgiv _ (vR_S3 hR) (by decide) (by decide) h62 ?_
            refine mm_wv (vb_i 60) rfl (by decide) ?_
            refine mm_nicne (by omega) (by omega) ?_ ?_
            · intro h85
              refine mm_wv (vb_i 15) rfl (by decide) ?_
              first
                | (exfalso; omega)
                | (have e := ej6 h67
                   have t := k95 (by omega)
                   rw [e] at t; exact t)
                | (have e := ej7 h67 h76
                   have t := k95 (by omega)
                   rw [e] at t; exact t)
            · intro h85
              refine mm_wv (vb_i 14) rfl (by decide) ?_
              refine mm_wgoto ?_
              first
                | (exfalso; omega)
                | (have e := ej6 h67
                   have t := k95 (by omega)
                   rw [e] at t; exact t)
                | (have e := ej7 h67 h76
                   have t := k95 (by omega)
                   rw [e] at t; exact t)
          · intro h67
            refine mm_w1 rfl ?_
            refine mm_wgiv _ (vR_S3 hR) (by decide) (by decide) h62 ?_
            refine mm_wv (vb_i 61) rfl (by decide) ?_
            refine mm_nicne (by omega) (by omega) ?_ ?_
            · intro h76
              refine mm_wv (vb_i 0) rfl (by decide) ?_
              refine mm_w1 (ls' := [_, _, _, _, _]) rfl ?_
              rw [if_pos (ej0 h67 h76)] at h2
              cases h2
              exact loop3 j hj s1 c1 hs1 (by omega) 0 (by omega) _ hx2 dD2 hk2 (by rw [List.replicate_zero]; show rd_C L (C ++ px_cc c1 ++ []) _; rw [List.append_nil]; exact dC2)
            · intro h76
              refine mm_w1 rfl ?_
              refine mm_wgiv _ (vR_S3 hR) (by decide) (by decide) h62 ?_
              refine mm_wv (vb_i 60) rfl (by decide) ?_
              refine mm_nicne (by omega) (by omega) ?_ ?_
              · intro h85
                refine mm_wv (vb_i 15) rfl (by decide) ?_
                first
                  | (exfalso; omega)
                  | (have e := ej6 h67
                     have t := k95 (by omega)
                     rw [e] at t; exact t)
                  | (have e := ej7 h67 h76
                     have t := k95 (by omega)
                     rw [e] at t; exact t)
              · intro h85
                refine mm_wv (vb_i 14) rfl (by decide) ?_
                refine mm_wgoto ?_
                first
                  | (exfalso; omega)
                  | (have e := ej6 h67
                     have t := k95 (by omega)
                     rw [e] at t; exact t)
                  | (have e := ej7 h67 h76
                     have t := k95 (by omega)
                     rw [e] at t; exact t) 
      refine mm_w1 rfl ?_
      refine mm_wv (vb_i 6) rfl (by decide) ?_
      refine mm_nicge (by omega) (by omega) ?_ ?_
      · intro h5
        refine mm_w1 rfl ?_
        refine mm_wv (vb_i 6) rfl (by decide) ?_
        refine mm_nicne (by omega) (by omega) ?_ ?_
        · intro h30
          first
            | (exfalso; omega)
            | exact k48 (of_decide_eq_false h14)
            | exact k48 (of_decide_eq_false h39)
        · intro h30
          refine mm_w1 rfl ?_
          refine mm_w1 rfl ?_
          refine mm_cvp (vb_cv (vR_S3 hR) rfl rfl rfl rfl) (by decide) (by omega) (c_isWord hR dD1 hb (by omega) hk1 (by decide)) ?_
          refine mm_bifeq ?_ ?_
          · intro h39
            first
              | (exfalso; omega)
              | exact k48 (of_decide_eq_false h14)
              | exact k48 (of_decide_eq_false h39)
          · intro h39
            refine mm_w1 rfl ?_
            refine mm_wv (vb_i 2) rfl (by decide) ?_
            refine mm_cvi (vb_cv (vR_S3 hR) rfl rfl rfl rfl) (by decide) (by omega) (c_refuse hR) ?_
            intro I2 hI2
            have hx2 : rd_fx L I I2 := hx1.tr (.ofr hI2)
            have hw2 := (congrFun (congrFun hI2 3) 3).trans (vb_up1 _ _ _ _)
            have hp2 := (congrFun (congrFun hI2 3) 4).trans ((vb_up2 _ _ (by decide)).trans hk1.1)
            refine mm_wrb rfl ?_
            have e15 : tx_w b s = 15 := of_decide_eq_true h39
            rw [if_pos e15, if_pos (by omega)] at h
            cases h
            exact ⟨_, ⟨hx2, hw2, hp2⟩, rfl⟩
      · intro h5
        refine mm_w1 rfl ?_
        refine mm_w1 rfl ?_
        refine mm_cvp (vb_cv (vR_S3 hR) rfl rfl rfl rfl) (by decide) (by omega) (c_isWord hR dD1 hb (by omega) hk1 (by decide)) ?_
        refine mm_bifeq ?_ ?_
        · intro h14
          refine mm_w1 rfl ?_
          refine mm_wv (vb_i 6) rfl (by decide) ?_
          refine mm_nicne (by omega) (by omega) ?_ ?_
          · intro h30
            first
              | (exfalso; omega)
              | exact k48 (of_decide_eq_false h14)
              | exact k48 (of_decide_eq_false h39)
          · intro h30
            refine mm_w1 rfl ?_
            refine mm_w1 rfl ?_
            refine mm_cvp (vb_cv (vR_S3 hR) rfl rfl rfl rfl) (by decide) (by omega) (c_isWord hR dD1 hb (by omega) hk1 (by decide)) ?_
            refine mm_bifeq ?_ ?_
            · intro h39
              first
                | (exfalso; omega)
                | exact k48 (of_decide_eq_false h14)
                | exact k48 (of_decide_eq_false h39)
            · intro h39
              refine mm_w1 rfl ?_
              refine mm_wv (vb_i 2) rfl (by decide) ?_
              refine mm_cvi (vb_cv (vR_S3 hR) rfl rfl rfl rfl) (by decide) (by omega) (c_refuse hR) ?_
              intro I2 hI2
              have hx2 : rd_fx L I I2 := hx1.tr (.ofr hI2)
              have hw2 := (congrFun (congrFun hI2 3) 3).trans (vb_up1 _ _ _ _)
              have hp2 := (congrFun (congrFun hI2 3) 4).trans ((vb_up2 _ _ (by decide)).trans hk1.1)
              refine mm_wrb rfl ?_
              have e15 : tx_w b s = 15 := of_decide_eq_true h39
              rw [if_pos e15, if_pos (by omega)] at h
              cases h
              exact ⟨_, ⟨hx2, hw2, hp2⟩, rfl⟩
        · intro h14
          have hw15 : tx_w b s = 15 := of_decide_eq_true h14
          have hN3 : s + 3 ≤ tx_N b s := by
            have h1 := tx_E_N b s
            have h2 := (tx_w_len (b := b) (s := s) (by omega)).2
            have e : (tx_wl.getD (tx_w b s) []).length = 3 := by rw [hw15]; rfl
            omega
          refine mm_w1 rfl ?_ 
          refine mm_cvn (vb_cv (vR_S3 hR) rfl rfl rfl rfl) (by decide) (by omega) (c_next hR dD1 hb (tx_E_n hb (by omega)) hk1.2.1 (by omega)) ?_
          intro I2 hq2
          obtain ⟨hkS2, hf32⟩ := hq2
          have hk2 : rd_tk b (tx_N b _) I2 := hkS2
          have hx2 : rd_fx L I I2 := hx1.tr (.of3 hf32)
          have dD2 : rd_D b n I2 := dD1.f3 hf32
          have dC2 := dC1.fr (hf32.1 (L + 6) (by omega)) (hf32.1 (L + 7) (by omega))
          have h62 := hk2.2.2.1
          refine mm_nincL (ls' := [_, _, _, _, _]) 1 rfl (by decide) rfl ?_
          refine mm_wgoto ?_
          rw [if_pos hw15, if_neg (by omega)] at h
          exact ihg (by omega) (j + 1) (by omega) _ _ hN h hx2 dD2 hk2 dC2 (by omega)
  show mm_W _ _ 53 (mm_blk 53 0) [.ref 3, .int (vb_i 2), .int (vb_i w), .null, .null] [] _ _
  refine mm_wv (vb_i 0) rfl (by decide) ?_
  refine mm_w1 (ls' := [_, _, _, _, _]) rfl ?_
  exact loop2 F (Nat.le_refl _) 0 (by decide) s I hs h .rf dD hk dC hC
end RD4
