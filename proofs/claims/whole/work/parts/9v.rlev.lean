section RD5
variable {G : mm_G} {d : Nat} {I : Nat → Nat → Int32} {P : Nat → Nat → Nat} {J : Nat → Nat → Int64} {S : List (Nat × Nat)} {nc ns : Nat} {μ : mm_M} {L : Nat} {b : Nat → Int32} {n : Nat}
theorem c_lev (hR : vb_isR P S L) (hb : tx_ok b n) : ∀ F, ∀ m w s q, m ≤ 5 → w ≤ 5 → s ≤ n → px b F m w s = some q → ∀ (d : Nat) (I : Nat → Nat → Int32) (C : List Int32), 9 * (5 - w) + rd_lv m ≤ d → rd_D b n I → rd_tk b s I → rd_C L C I → C.length ≤ s → mm_C G d 52 [.ref 3, .int (vb_i m), .int (vb_i w)] (I, P, J, S, nc, ns) (vb_R (some (.int (vb_b (rd_is q)))) (fun I' => rd_fx L I I' ∧ rd_P b n L C q I') P J S nc ns) := by
  intro F
  induction F using Nat.strongRecOn with
  | ind F ih =>
    intro m w s q hm hw hs h d I C hd dD hk dC hC
    have hL := vR_L hR
    have hL17 := vR_17 hR
    have hn7 := hb.1
    obtain ⟨F, rfl⟩ : ∃ f, F = f + 1 := by
      cases F with
      | zero => cases h
      | succ f => exact ⟨f, rfl⟩
    by_cases h5 : m = 5
    · subst h5
      have hd : 9 * (5 - w) + 6 ≤ d := hd
      have hP := c_part (G := G) (J := J) (nc := nc) (ns := ns) (d := d - 1) hR hb (fun w' s' q' a1 a2 a3 => ih F (Nat.lt_succ_self _) 0 w' s' q' (by decide) a1 a2 a3) hw hs h (by omega) dD hk dC hC
      show mm_W _ _ 52 (mm_blk 52 0) [.ref 3, .int (vb_i 5), .int (vb_i w), .null, .null] [] _ _
      refine mm_w1 rfl ?_
      refine mm_wv (vb_i 2) rfl (by decide) ?_
      refine mm_nicne (by omega) (by omega) ?_ ?_
      · intro h2
        refine mm_w1 rfl ?_
        refine mm_wv (vb_i 5) rfl (by decide) ?_
        refine mm_niclt (by omega) (by omega) ?_ ?_
        · intro h14
          omega
        · intro h14
          refine mm_w1 rfl ?_
          refine mm_w1 rfl ?_
          refine mm_cvi (vb_cv (vR_S3 hR) rfl rfl rfl rfl) (by decide) (by omega) hP ?_
          intro I1 hq1
          refine mm_wrb rfl ?_
          exact ⟨_, hq1, rfl⟩
      · intro h2
        omega
    · by_cases h2 : m = 2
      · subst h2
        have hd : 9 * (5 - w) + 10 ≤ d := hd
        rw [px_2] at h
        have hP := c_not (G := G) (J := J) (nc := nc) (ns := ns) (d := d - 1) hR hb (fun g hg m' w' s' q' a0 a1 a2 a3 => ih g (by omega) m' w' s' q' a0 a1 a2 a3) hw hs h (by omega) dD hk dC hC
        show mm_W _ _ 52 (mm_blk 52 0) [.ref 3, .int (vb_i 2), .int (vb_i w), .null, .null] [] _ _
        refine mm_w1 rfl ?_
        refine mm_wv (vb_i 2) rfl (by decide) ?_
        refine mm_nicne (by omega) (by omega) ?_ ?_
        · intro h2
          omega
        · intro h2
          refine mm_w1 rfl ?_
          refine mm_w1 rfl ?_
          refine mm_w1 rfl ?_
          refine mm_cvi (vb_cv (vR_S3 hR) rfl rfl rfl rfl) (by decide) (by omega) hP ?_
          intro I1 hq1
          refine mm_wrb rfl ?_
          exact ⟨_, hq1, rfl⟩
      · have hl : m = 0 ∨ m = 1 ∨ m = 3 ∨ m = 4 := by omega
        have hlv : rd_lv (m + 1) + 1 ≤ rd_lv m ∧ 6 ≤ rd_lv m := by rcases hl with rfl | rfl | rfl | rfl <;> decide
        have hm1 : px_md (m + 1) := by simp only [px_md]; omega
        rw [px_0 _ _ _ _ _ (by omega) h2] at h
        have loop : ∀ g, g ≤ F → ∀ (i s : Nat) (q : (Nat × Nat) ⊕ (Nat × List (Nat × Int32))) (I1 : Nat → Nat → Int32) (C : List Int32) (y4 : Value), px b g (10 + m) w s = some q → s ≤ n → i ≤ s → C.length ≤ s → rd_fx L I I1 → rd_D b n I1 → rd_tk b s I1 → rd_C L C I1 → mm_W G d 52 (mm_blk 52 38) [.ref 3, .int (vb_i m), .int (vb_i w), .int (vb_i i), y4] [] (I1, P, J, S, nc, ns) (vb_R (some (.int (vb_b (rd_is q)))) (fun I' => rd_fx L I I' ∧ rd_P b n L C q I') P J S nc ns) := by
          intro g
          induction g with
          | zero => intro _ i s q I1 C y4 h; cases h
          | succ g ihg =>
            intro hg i s q I1 C y4 h hs his hC hx1 dD1 hk1 dC1
            rw [px_10 _ _ _ _ _ (by omega)] at h
            have h61 := hk1.2.2.1
            have hN := tx_N_n hb hs
            have k96 : px_j b m s = 0 → mm_W G d 52 (mm_blk 52 96) [.ref 3, .int (vb_i m), .int (vb_i w), .int (vb_i i), y4] [] (I1, P, J, S, nc, ns) (vb_R (some (.int (vb_b (rd_is q)))) (fun I' => rd_fx L I I' ∧ rd_P b n L C q I') P J S nc ns) := by
              intro hj
              rw [if_pos hj] at h
              cases h
              refine mm_wv (vb_i 1) rfl (by decide) ?_
              refine mm_wr rfl rfl rfl ?_
              exact ⟨_, ⟨hx1, dD1, hk1, by rw [show px_cc ([] : List (Nat × Int32)) = [] from rfl, List.append_nil]; exact dC1⟩, rfl⟩
            refine mm_w1 rfl ?_
            refine mm_wv (vb_i 700) rfl (by decide) ?_
            refine mm_nicge (by omega) (by omega) ?_ ?_
            · intro h42
              first
                | exact k96 (px_cj0.mp h51)
                | (refine k96 ?_
                   have e0 : tx_K b s = 0 := (tx_K0 hb hs).mpr (by omega)
                   by_cases e : px_j b m s = 0
                   · exact e
                   · exact absurd e0 (px_j_K e))
            · intro h42
              refine mm_w1 rfl ?_
              refine mm_w1 rfl ?_
              refine mm_cvp (vb_cv (vR_S3 hR) rfl rfl rfl rfl) (by decide) (by omega) (c_joint (l := m) hR dD1 hb (by omega) hk1 (by omega) (by omega) (by omega)) ?_
              refine mm_wv (-1) rfl (by decide) ?_
              refine mm_wiceq ?_ ?_
              · intro h51
                first
                  | exact k96 (px_cj0.mp h51)
                  | (refine k96 ?_
                     have e0 : tx_K b s = 0 := (tx_K0 hb hs).mpr (by omega)
                     by_cases e : px_j b m s = 0
                     · exact e
                     · exact absurd e0 (px_j_K e))
              · intro h51
                have hj : ¬ px_j b m s = 0 := fun e => h51 (px_cj0.mpr e)
                rw [if_neg hj] at h
                obtain ⟨q1, e1, hq⟩ := rf_bd_i (r := q) h
                have hq1 := px_q hb g (m + 1) w _ _ hm1 hw hN e1
                have hlt1 := tx_N_lt hb (tx_lt hb hs (px_j_K hj))
                refine mm_w1 rfl ?_ 
                refine mm_w1 rfl ?_
                refine mm_cvp (vb_cv (vR_S3 hR) rfl rfl rfl rfl) (by decide) (by omega) (c_joint (l := m) hR dD1 hb (by omega) hk1 (by omega) (by omega) (by omega)) ?_
                refine mm_w1 (ls' := [_, _, _, _, _]) rfl ?_
                refine mm_w1 rfl ?_
                refine mm_cvn (vb_cv (vR_S3 hR) rfl rfl rfl rfl) (by decide) (by omega) (c_next hR dD1 hb (tx_E_n hb (by omega)) hk1.2.1 (by omega)) ?_
                intro I2 hq2
                obtain ⟨hkS2, hf32⟩ := hq2
                have hk2 : rd_tk b (tx_N b _) I2 := hkS2
                have hx2 : rd_fx L I I2 := hx1.tr (.of3 hf32)
                have dD2 : rd_D b n I2 := dD1.f3 hf32
                have dC2 := dC1.fr (hf32.1 (L + 6) (by omega)) (hf32.1 (L + 7) (by omega))
                have h62 := hk2.2.2.1
                refine mm_w1 rfl ?_
                refine mm_w1 rfl ?_
                refine mm_wv (vb_i 1) rfl (by decide) ?_
                refine mm_nadd ?_
                refine mm_w1 rfl ?_
                refine mm_cvi (vb_cv (vR_S3 hR) rfl rfl rfl rfl) (by decide) (by omega) (ih g (by omega) (m + 1) w _ q1 (by omega) hw hN e1 (d - 1) _ C (by omega) dD2 hk2 dC2 (by omega)) ?_
                intro I3 hq3
                obtain ⟨hx23, hP3⟩ := hq3
                have hx3 : rd_fx L I I3 := hx2.tr hx23
                rcases hq with ⟨x, rfl, rfl⟩ | ⟨s1, c1, rfl, h2⟩
                · refine mm_bifne (fun h => by cases h) (fun _ => ?_)
                  refine mm_wv (vb_i 0) rfl (by decide) ?_
                  refine mm_wr rfl rfl rfl ?_
                  exact ⟨_, ⟨hx3, hP3⟩, rfl⟩
                · refine mm_bifne (fun _ => ?_) (fun h => by cases h)
                  obtain ⟨dD3, hk3, dC3⟩ := hP3
                  have h63 := hk3.2.2.1
                  have hs1 := hq1.2.1
                  have hc1 := hq1.2.2.2.1
                  have hss1 := hq1.1
                  have hlen1 : (C ++ px_cc c1).length = C.length + px_cl c1 := by rw [List.length_append, px_cc_len]
                  obtain ⟨q2, e2, hq4⟩ := rf_bd_i (r := q) h2
                  refine mm_w1 rfl ?_
                  refine mm_wgr (vR_S3 hR) (by decide) (by decide) (vR_P3_2 hR) (vL_a0 hL) ?_
                  refine mm_wgr (vL_S0 hL) (by decide) (by decide) (vL_P0_9 hL) (vL_a6 hL) ?_
                  refine mm_w1 rfl ?_
                  refine mm_cvn (vb_cv (vL_S6 hL) rfl rfl rfl rfl) (by decide) (by omega) (c_addSign hL dC3 (by rw [hlen1]; omega) (by omega)) ?_
                  intro I4 hq4
                  obtain ⟨dC4, hfc4⟩ := hq4
                  have hx4 : rd_fx L I I4 := hx3.tr (.ofc hfc4 (by omega))
                  have h34 := hfc4 3 (by omega) (by omega)
                  have dD4 : rd_D b n I4 := ⟨fun i hi => by rw [hfc4 1 (by omega) (by omega)]; exact dD3.1 i hi, by rw [h34]; exact dD3.2.1, dD3.2.2⟩
                  have hk4 := hk3.eq h34
                  have h64 := hk4.2.2.1
                  refine mm_nincL (ls' := [_, _, _, _, _]) 1 rfl (by decide) rfl ?_
                  refine mm_wgoto ?_
                  have key := ihg (by omega) (i + 1) s1 q2 _ _ (.int (px_cj (px_j b m s))) e2 hs1 (by omega) (by rw [List.length_append, hlen1]; show _ + 1 ≤ s1; omega) hx4 dD4 hk4 dC4
                  refine key.imp (fun r hr => ?_)
                  obtain ⟨I', ⟨hf', hP'⟩, hr⟩ := hr
                  rcases hq4 with ⟨x, rfl, rfl⟩ | ⟨s2, c2, rfl, h3⟩
                  · exact ⟨I', ⟨hf', hP'⟩, hr⟩
                  · cases h3
                    refine ⟨I', ⟨hf', hP'.1, hP'.2.1, ?_⟩, hr⟩
                    have e := hP'.2.2
                    rw [px_cc_app, px_cc_cons, px_cjit hj]
                    simp only [List.append_assoc] at e ⊢
                    exact e 
        obtain ⟨q1, e1, hq⟩ := rf_bd_i (r := q) h
        have hq1 := px_q hb F (m + 1) w _ _ hm1 hw hs e1
        have hx : rd_fx L I I := .rf
        show mm_W _ _ 52 (mm_blk 52 0) [.ref 3, .int (vb_i m), .int (vb_i w), .null, .null] [] _ _
        refine mm_w1 rfl ?_
        refine mm_wv (vb_i 2) rfl (by decide) ?_
        refine mm_nicne (by omega) (by omega) ?_ ?_
        · intro h2
          refine mm_w1 rfl ?_
          refine mm_wv (vb_i 5) rfl (by decide) ?_
          refine mm_niclt (by omega) (by omega) ?_ ?_
          · intro h14
            refine mm_w1 rfl ?_
            refine mm_w1 rfl ?_
            refine mm_wv (vb_i 1) rfl (by decide) ?_
            refine mm_nadd ?_
            refine mm_w1 rfl ?_
            refine mm_cvi (vb_cv (vR_S3 hR) rfl rfl rfl rfl) (by decide) (by omega) (ih F (by omega) (m + 1) w _ q1 (by omega) hw hs e1 (d - 1) _ C (by omega) dD hk dC (by omega)) ?_
            intro I1 hq1
            obtain ⟨hx21, hP1⟩ := hq1
            have hx1 : rd_fx L I I1 := hx.tr hx21
            rcases hq with ⟨x, rfl, rfl⟩ | ⟨s1, c1, rfl, h2⟩
            · refine mm_bifne (fun h => by cases h) (fun _ => ?_)
              refine mm_wv (vb_i 0) rfl (by decide) ?_
              refine mm_wr rfl rfl rfl ?_
              exact ⟨_, ⟨hx1, hP1⟩, rfl⟩
            · refine mm_bifne (fun _ => ?_) (fun h => by cases h)
              obtain ⟨dD1, hk1, dC1⟩ := hP1
              have h61 := hk1.2.2.1
              have hs1 := hq1.2.1
              have hc1 := hq1.2.2.2.1
              have hss1 := hq1.1
              have hlen1 : (C ++ px_cc c1).length = C.length + px_cl c1 := by rw [List.length_append, px_cc_len]
              obtain ⟨q2, e2, hq4⟩ := rf_bd_i (r := q) h2
              refine mm_wv (vb_i 0) rfl (by decide) ?_
              refine mm_w1 (ls' := [_, _, _, _, _]) rfl ?_
              have key := loop F (Nat.le_refl _) 0 s1 q2 _ _ .null e2 hs1 (by omega) (by rw [hlen1]; omega) hx1 dD1 hk1 dC1
              refine key.imp (fun r hr => ?_)
              obtain ⟨I', ⟨hf', hP'⟩, hr⟩ := hr
              rcases hq4 with ⟨x, rfl, rfl⟩ | ⟨s2, c2, rfl, h3⟩
              · exact ⟨I', ⟨hf', hP'⟩, hr⟩
              · cases h3
                refine ⟨I', ⟨hf', hP'.1, hP'.2.1, ?_⟩, hr⟩
                have e := hP'.2.2
                rw [px_cc_app]
                simp only [List.append_assoc] at e ⊢
                exact e 
          · intro h14
            omega
        · intro h2
          omega
end RD5
