/-! A LINE OF THE REFERENCE -/
def pn_S (b : Nat → Int32) (n s : Nat) (p : pl_S) (I : Nat → Nat → Int32) (J : Nat → Nat → Int64) : Prop := nt_D b n I ∧ nt_tk b n s I J ∧ I 60 12 = vb_i 0 ∧ s ≤ n ∧ pl_ok p ∧ ∃ top, pn_C p top I ∧ top ≤ 2 * s
def pn_B (x : Nat × Nat) (I : Nat → Nat → Int32) : Prop := I 60 12 = vb_i x.1 ∧ I 60 13 = vb_i x.2 ∧ 1 ≤ x.1 ∧ x.1 ≤ 5
def pn_Q (b : Nat → Int32) (n : Nat) (q : (Nat × Nat) ⊕ (Nat × pl_S)) (I : Nat → Nat → Int32) (J : Nat → Nat → Int64) : Prop := match q with
  | .inl x => pn_B x I
  | .inr (s, p) => pn_S b n s p I J
theorem pn_B.wr {I I' : Nat → Nat → Int32} {x : Nat × Nat} (h : I' = mm_up (mm_up I 60 12 (vb_i x.1)) 60 13 (vb_i x.2)) (h1 : 1 ≤ x.1) (h5 : x.1 ≤ 5) : pn_B x I' := ⟨by rw [h, vb_up2 _ _ (by decide), vb_up1], by rw [h, vb_up1], h1, h5⟩
theorem pn_f.sa {I I' : Nat → Nat → Int32} {a j : Nat} {v : Int32} (h : I' = mm_up I a j v) (h1 : 68 ≤ a) (h2 : a ≤ 75) : pn_f I I' := by rw [h]; exact pn_f.rf.ua h1 h2
theorem pn_f.s6 {I I' : Nat → Nat → Int32} {q : Nat} {v : Int32} (h : I' = mm_up I 60 q v) (h1 : 22 ≤ q) (h2 : q ≤ 29) : pn_f I I' := by rw [h]; exact pn_f.rf.u60 h1 h2
theorem pn_C.addV {p : pl_S} {top its w f : Nat} {I I' : Nat → Nat → Int32} (hp : pl_ok p) (hn : pl_n p < 10) (hi : its ≤ 2) (h : pn_C p top I) (h23 : I' 60 23 = vb_i (pl_n p + 1)) (hq : ∀ q, 24 ≤ q → q ≤ 27 → I' 60 q = I 60 q) (h68 : I' 68 (pl_n p) = vb_i w) (k68 : ∀ v, v ≠ pl_n p → I' 68 v = I 68 v) (h69 : I' 69 (pl_n p) = vb_i f) (k69 : ∀ v, v ≠ pl_n p → I' 69 v = I 69 v) (h70 : I' 70 (pl_n p) = vb_i its) (k70 : ∀ v, v ≠ pl_n p → I' 70 v = I 70 v) (h71 : I' 71 = I 71) (h72 : I' 72 = I 72) (h74 : I' 74 = I 74) : pn_C (pl_addV p its w f) top I' := by
  obtain ⟨g1, g2, g3, g4, g5, g6, g7, g8, g9, g10, g11⟩ := h
  refine ⟨h23, by rw [hq 24 (by decide) (by decide)]; exact g2, by rw [hq 25 (by decide) (by decide)]; exact g3, by rw [hq 27 (by decide) (by decide)]; exact g4, fun v hv => ?_, fun v hv => ?_, fun v hv => ?_, by rw [h74]; exact g8, by rw [hq 26 (by decide) (by decide)]; exact g9, by rw [hq 26 (by decide) (by decide), h72]; exact g10, by rw [h71, h72]; exact g11⟩
  · have hv : v < pl_n p + 1 := hv
    show _ = (if v = pl_n p then vb_i w else pl_wo p v)
    split
    · rename_i e; rw [e]; exact h68
    · rename_i e; rw [k68 v e]; exact g5 v (by omega)
  · have hv : v < pl_n p + 1 := hv
    show _ = (if v = pl_n p then vb_i f else pl_fo p v)
    split
    · rename_i e; rw [e]; exact h69
    · rename_i e; rw [k69 v e]; exact g6 v (by omega)
  · have hv : v < pl_n p + 1 := hv
    by_cases e : v = pl_n p
    · rw [e, pn_in1 hp hn hi]; exact h70
    · rw [k70 v e, pn_in0 hp (by omega)]; exact g7 v (by omega)
theorem pn_C.addR {p : pl_S} {top a c : Nat} {I I' : Nat → Nat → Int32} (ha : a < 10) (hc : c < 10) (hne : a ≠ c) (h : pn_C p top I) (h24 : I' 60 24 = vb_i (pl_rc p + 1)) (hq : ∀ q, 23 ≤ q → q ≤ 27 → q ≠ 24 → I' 60 q = I 60 q) (hs : ∀ e, 68 ≤ e → e ≤ 72 → I' e = I e) (h74 : I' 74 = mm_up (mm_up I 74 (10 * a + c) (vb_i 1)) 74 (10 * c + a) (vb_i 1) 74) : pn_C (pl_addR p a c) top I' := by
  obtain ⟨g1, g2, g3, g4, g5, g6, g7, g8, g9, g10, g11⟩ := h
  refine ⟨by rw [hq 23 (by decide) (by decide) (by decide)]; exact g1, h24, by rw [hq 25 (by decide) (by decide) (by decide)]; exact g3, by rw [hq 27 (by decide) (by decide) (by decide)]; exact g4, by rw [hs 68 (by decide) (by decide)]; exact g5, by rw [hs 69 (by decide) (by decide)]; exact g6, by rw [hs 70 (by decide) (by decide)]; exact g7, fun u v hu hv => ?_, by rw [hq 26 (by decide) (by decide) (by decide)]; exact g9, by rw [hq 26 (by decide) (by decide) (by decide), hs 72 (by decide) (by decide)]; exact g10, by rw [hs 71 (by decide) (by decide), hs 72 (by decide) (by decide)]; exact g11⟩
  rw [h74, pl_nbR ha hc hne]
  by_cases e1 : u = c ∧ v = a
  · obtain ⟨rfl, rfl⟩ := e1
    rw [vb_up1, decide_eq_true rfl, decide_eq_true rfl, Bool.and_self, Bool.or_true]; rfl
  · rw [vb_up2 _ _ (by omega)]
    by_cases e2 : u = a ∧ v = c
    · obtain ⟨rfl, rfl⟩ := e2
      rw [vb_up1, decide_eq_true rfl, decide_eq_true rfl, Bool.and_self, Bool.or_true, Bool.true_or]; rfl
    · rw [vb_up2 _ _ (by omega), g8 u v hu hv]
      have d1 : (decide (u = a) && decide (v = c)) = false := by
        rw [Bool.and_eq_false_iff]; by_cases e : u = a
        · exact Or.inr (decide_eq_false (fun e3 => e2 ⟨e, e3⟩))
        · exact Or.inl (decide_eq_false e)
      have d2 : (decide (u = c) && decide (v = a)) = false := by
        rw [Bool.and_eq_false_iff]; by_cases e : u = c
        · exact Or.inr (decide_eq_false (fun e3 => e1 ⟨e, e3⟩))
        · exact Or.inl (decide_eq_false e)
      rw [d1, d2, Bool.or_false, Bool.or_false]
section PNL
variable {G : mm_G} {d : Nat} {I : Nat → Nat → Int32} {P : Nat → Nat → Nat} {J : Nat → Nat → Int64} {S : List (Nat × Nat)} {nc ns : Nat} {μ : mm_M} {b : Nat → Int32} {n : Nat}
variable {s : Nat} {p : pl_S} {q : (Nat × Nat) ⊕ (Nat × pl_S)}
theorem m_rV {its : Nat} (hM : vm_isM P S) (hb : tx_ok b n) (hS : pn_S b n s p I J) (hi : its ≤ 2) (h : ln_v b p its s = some q) (hd : 6 ≤ d) : mm_C G d 167 [.ref 60, .int (vb_i its)] (I, P, J, S, nc, ns) (nt_R none (fun I' J' => pn_Q b n q I' J' ∧ pn_f I I') P S nc ns) := by
  obtain ⟨dD, hk, h12, hs, hp, top, dP, htop⟩ := hS
  have hn7 := hb.1
  have hn10 := hp.1
  have hrc18 := hp.2.1
  have hsc3 := hp.2.2.1
  have h18 := hk.2.1
  have hEn := tx_E_n hb hs
  have hN := tx_N_n hb hs
  have hNl := tx_N_le b s
  have h23 := dP.1
  have h24 := dP.2.1
  rw [ln_v] at h
  by_cases hlt : pl_n p < 10
  · rw [if_pos hlt] at h
    have hN2 := tx_N_n hb hN
    have hN3 := tx_N_n hb hN2
    have hNl2 := tx_N_le b (tx_N b s)
    have hNl3 := tx_N_le b (tx_N b (tx_N b s))
    cases h1 : ln_n b 20 (tx_N b s) with
    | inl x =>
      rw [h1] at h
      cases h
      show mm_W _ _ 167 (mm_blk 167 0) [.ref 60, .int (vb_i its)] [] _ _
      refine mm_w1 rfl ?_
      refine mm_wgiv _ (vM_S60 hM) (by decide) (by decide) h23 ?_
      refine mm_wv (vb_i 10) rfl (by decide) ?_
      refine mm_nicne (by omega) (by omega) ?_ ?_
      · intro h6
        refine mm_w1 rfl ?_
        refine mm_cvp (vb_cv (vM_S60 hM) rfl rfl rfl rfl) (by decide) (by omega) (m_good0 hM h12) ?_
        refine mm_nifne (by decide) (fun _ => ?_) (fun h => absurd h (by decide))
        refine mm_w1 rfl ?_
        refine mm_cvnJ (vb_cv (vM_S60 hM) rfl rfl rfl rfl) (by decide) (by omega) (m_goes hM dD hb hEn hk.1 (by omega)) ?_
        intro I1 J1 hq1
        obtain ⟨hkS1, hf1⟩ := hq1
        have hk1 : nt_tk b n (tx_N b s) I1 J1 := hkS1
        have dD1 := dD.f hf1
        have h121 : I1 60 12 = vb_i 0 := (hf1.2 12 (by decide)).trans h12
        have dP1 := dP.f hf1
        have h181 := hk1.2.1
        have h231 := dP1.1
        have h241 := dP1.2.1
        refine mm_w1 rfl ?_
        refine mm_wgr (vM_S60 hM) (by decide) (by decide) (vM_P60_32 hM) (vM_a70 hM) ?_
        refine mm_w1 rfl ?_
        refine mm_wgiv _ (vM_S60 hM) (by decide) (by decide) h231 ?_
        refine mm_w1 rfl ?_
        refine mm_wisN (vM_S70 hM) (by decide) (by omega) ?_
        intro I2 hI2
        have hg2 : pn_g I1 I2 := by rw [hI2]; exact pn_g.rf.ua (by decide)
        have dD2 := dD1.pg hg2
        have hk2 := hk1.pg hg2
        have h122 : I2 60 12 = vb_i 0 := (hg2.2 12 (by decide) (by decide)).trans h121
        have a2 : ∀ e, e ≠ 70 → I2 e = I1 e := fun e he => by rw [hI2, vb_up3 _ _ he]
        have h232 : I2 60 23 = vb_i (pl_n p) := by rw [a2 60 (by decide)]; exact h231
        refine mm_w1 rfl ?_
        refine mm_wgr (vM_S60 hM) (by decide) (by decide) (vM_P60_30 hM) (vM_a68 hM) ?_
        refine mm_w1 rfl ?_
        refine mm_wgiv _ (vM_S60 hM) (by decide) (by decide) h232 ?_
        refine mm_w1 rfl ?_
        refine mm_wv (vb_i 0) rfl (by decide) ?_
        refine mm_wv (vb_i 20) rfl (by decide) ?_
        refine mm_cviJ (vb_cv (vM_S60 hM) rfl rfl rfl rfl) (by decide) (by omega) (m_numB hM hb hN hk2 h122 (by decide) h1 (by omega)) ?_
        intro I3 J3 hq3
        obtain ⟨⟨hI3, _⟩, hx1, hx5⟩ := hq3
        have hB : pn_B x I3 := .wr hI3 hx1 hx5
        have h233 : I3 60 23 = vb_i (pl_n p) := by rw [hI3, vb_up2 _ _ (by decide), vb_up2 _ _ (by decide)]; exact h232
        refine mm_wisN (vM_S68 hM) (by decide) (by omega) ?_
        intro I4 hI4
        have hB : pn_B x I4 := ⟨by rw [hI4, vb_up3 _ _ (by decide)]; exact hB.1, by rw [hI4, vb_up3 _ _ (by decide)]; exact hB.2.1, hB.2.2⟩
        have h234 : I4 60 23 = vb_i (pl_n p) := by rw [hI4, vb_up3 _ _ (by decide)]; exact h233
        refine mm_w1 rfl ?_
        refine mm_wgr (vM_S60 hM) (by decide) (by decide) (vM_P60_31 hM) (vM_a69 hM) ?_
        refine mm_w1 rfl ?_
        refine mm_wgiv _ (vM_S60 hM) (by decide) (by decide) h234 ?_
        refine mm_w1 rfl ?_
        refine mm_wv (vb_i 0) rfl (by decide) ?_
        refine mm_wv (vb_i 9) rfl (by decide) ?_
        refine mm_cvp (vb_cv (vM_S60 hM) rfl rfl rfl rfl) (by decide) (by omega) (m_num1 hM hB.1 hB.2.2.1 hB.2.2.2 (by omega)) ?_
        refine mm_wisN (vM_S69 hM) (by decide) (by omega) ?_
        intro I5 hI5
        have hB : pn_B x I5 := ⟨by rw [hI5, vb_up3 _ _ (by decide)]; exact hB.1, by rw [hI5, vb_up3 _ _ (by decide)]; exact hB.2.1, hB.2.2⟩
        have h235 : I5 60 23 = vb_i (pl_n p) := by rw [hI5, vb_up3 _ _ (by decide)]; exact h234
        refine mm_w1 rfl ?_
        refine mm_cvp (vb_cv (vM_S60 hM) rfl rfl rfl rfl) (by decide) (by omega) (m_good1 hM hB.1 hB.2.2.1 hB.2.2.2) ?_
        refine mm_nifeq (by decide) (fun _ => ?_) (fun h => absurd h (by decide))
        refine mm_wr rfl rfl rfl ?_
        exact ⟨_, _, ⟨hB, (((((pn_f.of hf1).tr (.sa hI2 (by decide) (by decide))).tr (.wr hI3)).tr (.sa hI4 (by decide) (by decide)))).tr (.sa hI5 (by decide) (by decide))⟩, rfl⟩
      · intro h6
        omega
    | inr w =>
      rw [h1] at h
      cases h2 : ln_n b 9 (tx_N b (tx_N b s)) with
      | inl x =>
        simp only [h2] at h
        cases h
        show mm_W _ _ 167 (mm_blk 167 0) [.ref 60, .int (vb_i its)] [] _ _
        refine mm_w1 rfl ?_
        refine mm_wgiv _ (vM_S60 hM) (by decide) (by decide) h23 ?_
        refine mm_wv (vb_i 10) rfl (by decide) ?_
        refine mm_nicne (by omega) (by omega) ?_ ?_
        · intro h6
          refine mm_w1 rfl ?_
          refine mm_cvp (vb_cv (vM_S60 hM) rfl rfl rfl rfl) (by decide) (by omega) (m_good0 hM h12) ?_
          refine mm_nifne (by decide) (fun _ => ?_) (fun h => absurd h (by decide))
          refine mm_w1 rfl ?_
          refine mm_cvnJ (vb_cv (vM_S60 hM) rfl rfl rfl rfl) (by decide) (by omega) (m_goes hM dD hb hEn hk.1 (by omega)) ?_
          intro I1 J1 hq1
          obtain ⟨hkS1, hf1⟩ := hq1
          have hk1 : nt_tk b n (tx_N b s) I1 J1 := hkS1
          have dD1 := dD.f hf1
          have h121 : I1 60 12 = vb_i 0 := (hf1.2 12 (by decide)).trans h12
          have dP1 := dP.f hf1
          have h181 := hk1.2.1
          have h231 := dP1.1
          have h241 := dP1.2.1
          refine mm_w1 rfl ?_
          refine mm_wgr (vM_S60 hM) (by decide) (by decide) (vM_P60_32 hM) (vM_a70 hM) ?_
          refine mm_w1 rfl ?_
          refine mm_wgiv _ (vM_S60 hM) (by decide) (by decide) h231 ?_
          refine mm_w1 rfl ?_
          refine mm_wisN (vM_S70 hM) (by decide) (by omega) ?_
          intro I2 hI2
          have hg2 : pn_g I1 I2 := by rw [hI2]; exact pn_g.rf.ua (by decide)
          have dD2 := dD1.pg hg2
          have hk2 := hk1.pg hg2
          have h122 : I2 60 12 = vb_i 0 := (hg2.2 12 (by decide) (by decide)).trans h121
          have a2 : ∀ e, e ≠ 70 → I2 e = I1 e := fun e he => by rw [hI2, vb_up3 _ _ he]
          have h232 : I2 60 23 = vb_i (pl_n p) := by rw [a2 60 (by decide)]; exact h231
          refine mm_w1 rfl ?_
          refine mm_wgr (vM_S60 hM) (by decide) (by decide) (vM_P60_30 hM) (vM_a68 hM) ?_
          refine mm_w1 rfl ?_
          refine mm_wgiv _ (vM_S60 hM) (by decide) (by decide) h232 ?_
          refine mm_w1 rfl ?_
          refine mm_wv (vb_i 0) rfl (by decide) ?_
          refine mm_wv (vb_i 20) rfl (by decide) ?_
          refine mm_cviJ (vb_cv (vM_S60 hM) rfl rfl rfl rfl) (by decide) (by omega) (m_numG hM hb hN dD2 hk2 h122 (by decide) h1 (by omega)) ?_
          intro I3 J3 hq3
          obtain ⟨hkS3, hf3⟩ := hq3
          have hk3 : nt_tk b n (tx_N b (tx_N b s)) I3 J3 := hkS3
          have dD3 := dD2.f hf3
          have h123 : I3 60 12 = vb_i 0 := (hf3.2 12 (by decide)).trans h122
          have h233 : I3 60 23 = vb_i (pl_n p) := (hf3.2 23 (by decide)).trans h232
          refine mm_wisN (vM_S68 hM) (by decide) (by omega) ?_
          intro I4 hI4
          have hg4 : pn_g I3 I4 := by rw [hI4]; exact pn_g.rf.ua (by decide)
          have dD4 := dD3.pg hg4
          have hk4 := hk3.pg hg4
          have h124 : I4 60 12 = vb_i 0 := (hg4.2 12 (by decide) (by decide)).trans h123
          have a4 : ∀ e, e ≠ 68 → I4 e = I3 e := fun e he => by rw [hI4, vb_up3 _ _ he]
          have h234 : I4 60 23 = vb_i (pl_n p) := by rw [a4 60 (by decide)]; exact h233
          refine mm_w1 rfl ?_
          refine mm_wgr (vM_S60 hM) (by decide) (by decide) (vM_P60_31 hM) (vM_a69 hM) ?_
          refine mm_w1 rfl ?_
          refine mm_wgiv _ (vM_S60 hM) (by decide) (by decide) h234 ?_
          refine mm_w1 rfl ?_
          refine mm_wv (vb_i 0) rfl (by decide) ?_
          refine mm_wv (vb_i 9) rfl (by decide) ?_
          refine mm_cviJ (vb_cv (vM_S60 hM) rfl rfl rfl rfl) (by decide) (by omega) (m_numB hM hb hN2 hk4 h124 (by decide) h2 (by omega)) ?_
          intro I5 J5 hq5
          obtain ⟨⟨hI5, _⟩, hx1, hx5⟩ := hq5
          have hB : pn_B x I5 := .wr hI5 hx1 hx5
          have h235 : I5 60 23 = vb_i (pl_n p) := by rw [hI5, vb_up2 _ _ (by decide), vb_up2 _ _ (by decide)]; exact h234
          refine mm_wisN (vM_S69 hM) (by decide) (by omega) ?_
          intro I6 hI6
          have hB : pn_B x I6 := ⟨by rw [hI6, vb_up3 _ _ (by decide)]; exact hB.1, by rw [hI6, vb_up3 _ _ (by decide)]; exact hB.2.1, hB.2.2⟩
          have h236 : I6 60 23 = vb_i (pl_n p) := by rw [hI6, vb_up3 _ _ (by decide)]; exact h235
          refine mm_w1 rfl ?_
          refine mm_cvp (vb_cv (vM_S60 hM) rfl rfl rfl rfl) (by decide) (by omega) (m_good1 hM hB.1 hB.2.2.1 hB.2.2.2) ?_
          refine mm_nifeq (by decide) (fun _ => ?_) (fun h => absurd h (by decide))
          refine mm_wr rfl rfl rfl ?_
          exact ⟨_, _, ⟨hB, (((((pn_f.of hf1).tr (.sa hI2 (by decide) (by decide))).tr (.of hf3)).tr (.sa hI4 (by decide) (by decide))).tr (.wr hI5)).tr (.sa hI6 (by decide) (by decide))⟩, rfl⟩
        · intro h6
          omega
      | inr f =>
        simp only [h2] at h
        cases h
        show mm_W _ _ 167 (mm_blk 167 0) [.ref 60, .int (vb_i its)] [] _ _
        refine mm_w1 rfl ?_
        refine mm_wgiv _ (vM_S60 hM) (by decide) (by decide) h23 ?_
        refine mm_wv (vb_i 10) rfl (by decide) ?_
        refine mm_nicne (by omega) (by omega) ?_ ?_
        · intro h6
          refine mm_w1 rfl ?_
          refine mm_cvp (vb_cv (vM_S60 hM) rfl rfl rfl rfl) (by decide) (by omega) (m_good0 hM h12) ?_
          refine mm_nifne (by decide) (fun _ => ?_) (fun h => absurd h (by decide))
          refine mm_w1 rfl ?_
          refine mm_cvnJ (vb_cv (vM_S60 hM) rfl rfl rfl rfl) (by decide) (by omega) (m_goes hM dD hb hEn hk.1 (by omega)) ?_
          intro I1 J1 hq1
          obtain ⟨hkS1, hf1⟩ := hq1
          have hk1 : nt_tk b n (tx_N b s) I1 J1 := hkS1
          have dD1 := dD.f hf1
          have h121 : I1 60 12 = vb_i 0 := (hf1.2 12 (by decide)).trans h12
          have dP1 := dP.f hf1
          have h181 := hk1.2.1
          have h231 := dP1.1
          have h241 := dP1.2.1
          refine mm_w1 rfl ?_
          refine mm_wgr (vM_S60 hM) (by decide) (by decide) (vM_P60_32 hM) (vM_a70 hM) ?_
          refine mm_w1 rfl ?_
          refine mm_wgiv _ (vM_S60 hM) (by decide) (by decide) h231 ?_
          refine mm_w1 rfl ?_
          refine mm_wisN (vM_S70 hM) (by decide) (by omega) ?_
          intro I2 hI2
          have hg2 : pn_g I1 I2 := by rw [hI2]; exact pn_g.rf.ua (by decide)
          have dD2 := dD1.pg hg2
          have hk2 := hk1.pg hg2
          have h122 : I2 60 12 = vb_i 0 := (hg2.2 12 (by decide) (by decide)).trans h121
          have a2 : ∀ e, e ≠ 70 → I2 e = I1 e := fun e he => by rw [hI2, vb_up3 _ _ he]
          have h232 : I2 60 23 = vb_i (pl_n p) := by rw [a2 60 (by decide)]; exact h231
          refine mm_w1 rfl ?_
          refine mm_wgr (vM_S60 hM) (by decide) (by decide) (vM_P60_30 hM) (vM_a68 hM) ?_
          refine mm_w1 rfl ?_
          refine mm_wgiv _ (vM_S60 hM) (by decide) (by decide) h232 ?_
          refine mm_w1 rfl ?_
          refine mm_wv (vb_i 0) rfl (by decide) ?_
          refine mm_wv (vb_i 20) rfl (by decide) ?_
          refine mm_cviJ (vb_cv (vM_S60 hM) rfl rfl rfl rfl) (by decide) (by omega) (m_numG hM hb hN dD2 hk2 h122 (by decide) h1 (by omega)) ?_
          intro I3 J3 hq3
          obtain ⟨hkS3, hf3⟩ := hq3
          have hk3 : nt_tk b n (tx_N b (tx_N b s)) I3 J3 := hkS3
          have dD3 := dD2.f hf3
          have h123 : I3 60 12 = vb_i 0 := (hf3.2 12 (by decide)).trans h122
          have h233 : I3 60 23 = vb_i (pl_n p) := (hf3.2 23 (by decide)).trans h232
          refine mm_wisN (vM_S68 hM) (by decide) (by omega) ?_
          intro I4 hI4
          have hg4 : pn_g I3 I4 := by rw [hI4]; exact pn_g.rf.ua (by decide)
          have dD4 := dD3.pg hg4
          have hk4 := hk3.pg hg4
          have h124 : I4 60 12 = vb_i 0 := (hg4.2 12 (by decide) (by decide)).trans h123
          have a4 : ∀ e, e ≠ 68 → I4 e = I3 e := fun e he => by rw [hI4, vb_up3 _ _ he]
          have h234 : I4 60 23 = vb_i (pl_n p) := by rw [a4 60 (by decide)]; exact h233
          refine mm_w1 rfl ?_
          refine mm_wgr (vM_S60 hM) (by decide) (by decide) (vM_P60_31 hM) (vM_a69 hM) ?_
          refine mm_w1 rfl ?_
          refine mm_wgiv _ (vM_S60 hM) (by decide) (by decide) h234 ?_
          refine mm_w1 rfl ?_
          refine mm_wv (vb_i 0) rfl (by decide) ?_
          refine mm_wv (vb_i 9) rfl (by decide) ?_
          refine mm_cviJ (vb_cv (vM_S60 hM) rfl rfl rfl rfl) (by decide) (by omega) (m_numG hM hb hN2 dD4 hk4 h124 (by decide) h2 (by omega)) ?_
          intro I5 J5 hq5
          obtain ⟨hkS5, hf5⟩ := hq5
          have hk5 : nt_tk b n (tx_N b (tx_N b (tx_N b s))) I5 J5 := hkS5
          have dD5 := dD4.f hf5
          have h125 : I5 60 12 = vb_i 0 := (hf5.2 12 (by decide)).trans h124
          have h235 : I5 60 23 = vb_i (pl_n p) := (hf5.2 23 (by decide)).trans h234
          refine mm_wisN (vM_S69 hM) (by decide) (by omega) ?_
          intro I6 hI6
          have hg6 : pn_g I5 I6 := by rw [hI6]; exact pn_g.rf.ua (by decide)
          have dD6 := dD5.pg hg6
          have hk6 := hk5.pg hg6
          have h126 : I6 60 12 = vb_i 0 := (hg6.2 12 (by decide) (by decide)).trans h125
          have a6 : ∀ e, e ≠ 69 → I6 e = I5 e := fun e he => by rw [hI6, vb_up3 _ _ he]
          have h236 : I6 60 23 = vb_i (pl_n p) := by rw [a6 60 (by decide)]; exact h235
          refine mm_w1 rfl ?_
          refine mm_cvp (vb_cv (vM_S60 hM) rfl rfl rfl rfl) (by decide) (by omega) (m_good0 hM h126) ?_
          refine mm_nifeq (by decide) (fun h => absurd h (by decide)) (fun _ => ?_)
          refine mm_w1 rfl ?_
          refine mm_w1 rfl ?_
          refine mm_wgiv _ (vM_S60 hM) (by decide) (by decide) h236 ?_
          refine mm_wv (vb_i 1) rfl (by decide) ?_
          refine mm_nadd ?_
          refine mm_wpiN (vM_S60 hM) (by decide) (by decide) ?_
          intro I7 hI7
          have hg7 : pn_g I6 I7 := by rw [hI7]; exact pn_g.rf.u60 (by decide)
          have a7 : ∀ e, e ≠ 60 → I7 e = I6 e := fun e he => by rw [hI7, vb_up3 _ _ he]
          refine mm_wr rfl rfl rfl ?_
          have eA : ∀ e, e ≠ 60 → e ≠ 68 → e ≠ 69 → e ≠ 70 → I7 e = I e := fun e k1 k2 k3 k4 => by rw [a7 e k1, a6 e k3, hf5.1 e k1, a4 e k2, hf3.1 e k1, a2 e k4, hf1.1 e k1]
          refine ⟨_, _, ⟨⟨dD6.pg hg7, hk6.pg hg7, (hg7.2 12 (by decide) (by decide)).trans h126, hN3, pl_okV hp hlt _ _ _, top, pn_C.addV hp hlt hi dP ?_ (fun q k1 k2 => ?_) ?_ (fun v hv => ?_) ?_ (fun v hv => ?_) ?_ (fun v hv => ?_) (eA 71 (by decide) (by decide) (by decide) (by decide)) (eA 72 (by decide) (by decide) (by decide) (by decide)) (eA 74 (by decide) (by decide) (by decide) (by decide)), by omega⟩, ((((((pn_f.of hf1).tr (.sa hI2 (by decide) (by decide))).tr (.of hf3)).tr (.sa hI4 (by decide) (by decide))).tr (.of hf5)).tr (.sa hI6 (by decide) (by decide))).tr (.s6 hI7 (by decide) (by decide))⟩, rfl⟩
          · rw [hI7, vb_up1]
          · rw [hI7, vb_up2 _ _ (by omega), a6 60 (by decide), hf5.2 q (by omega), a4 60 (by decide), hf3.2 q (by omega), a2 60 (by decide), hf1.2 q (by omega)]
          · rw [a7 68 (by decide), a6 68 (by decide), hf5.1 68 (by decide), hI4, vb_up1]
          · rw [a7 68 (by decide), a6 68 (by decide), hf5.1 68 (by decide), hI4, vb_up2 _ _ (by omega), hf3.1 68 (by decide), a2 68 (by decide), hf1.1 68 (by decide)]
          · rw [a7 69 (by decide), hI6, vb_up1]
          · rw [a7 69 (by decide), hI6, vb_up2 _ _ (by omega), hf5.1 69 (by decide), a4 69 (by decide), hf3.1 69 (by decide), a2 69 (by decide), hf1.1 69 (by decide)]
          · rw [a7 70 (by decide), a6 70 (by decide), hf5.1 70 (by decide), a4 70 (by decide), hf3.1 70 (by decide), hI2, vb_up1]
          · rw [a7 70 (by decide), a6 70 (by decide), hf5.1 70 (by decide), a4 70 (by decide), hf3.1 70 (by decide), hI2, vb_up2 _ _ (by omega), hf1.1 70 (by decide)]
        · intro h6
          omega
  · rw [if_neg hlt] at h
    cases h
    show mm_W _ _ 167 (mm_blk 167 0) [.ref 60, .int (vb_i its)] [] _ _
    refine mm_w1 rfl ?_
    refine mm_wgiv _ (vM_S60 hM) (by decide) (by decide) h23 ?_
    refine mm_wv (vb_i 10) rfl (by decide) ?_
    refine mm_nicne (by omega) (by omega) ?_ ?_
    · intro h6
      omega
    · intro h6
      refine mm_w1 rfl ?_
      refine mm_wv (vb_i 2) rfl (by decide) ?_
      refine mm_cvn (vb_cv (vM_S60 hM) rfl rfl rfl rfl) (by decide) (by omega) (m_wrong0 hM h12 h18) ?_
      intro I1 hI1
      have hB : pn_B (2, s) I1 := .wr hI1 (of_decide_eq_true rfl) (of_decide_eq_true rfl)
      refine mm_w1 rfl ?_
      refine mm_cvp (vb_cv (vM_S60 hM) rfl rfl rfl rfl) (by decide) (by omega) (m_good1 hM hB.1 hB.2.2.1 hB.2.2.2) ?_
      refine mm_nifne (by decide) (fun h => absurd h (by decide)) (fun _ => ?_)
      refine mm_wr rfl rfl rfl ?_
      exact ⟨_, _, ⟨hB, .wr hI1⟩, rfl⟩
theorem m_rR (hM : vm_isM P S) (hb : tx_ok b n) (hS : pn_S b n s p I J) (h : ln_r b p s = some q) (hd : 6 ≤ d) : mm_C G d 168 [.ref 60] (I, P, J, S, nc, ns) (nt_R none (fun I' J' => pn_Q b n q I' J' ∧ pn_f I I') P S nc ns) := by
  obtain ⟨dD, hk, h12, hs, hp, top, dP, htop⟩ := hS
  have hn7 := hb.1
  have hn10 := hp.1
  have hrc18 := hp.2.1
  have hsc3 := hp.2.2.1
  have h18 := hk.2.1
  have hEn := tx_E_n hb hs
  have hN := tx_N_n hb hs
  have hNl := tx_N_le b s
  have h23 := dP.1
  have h24 := dP.2.1
  rw [ln_r] at h
  by_cases hlt : pl_rc p < 18
  · rw [if_pos hlt] at h
    have hN2 := tx_N_n hb hN
    have hN3 := tx_N_n hb hN2
    have hNl2 := tx_N_le b (tx_N b s)
    have hNl3 := tx_N_le b (tx_N b (tx_N b s))
    cases h1 : ln_a b (pl_n p) (tx_N b s) with
    | inl x =>
      rw [h1] at h
      cases h
      show mm_W _ _ 168 (mm_blk 168 0) [.ref 60, .null, .null] [] _ _
      refine mm_w1 rfl ?_
      refine mm_wgiv _ (vM_S60 hM) (by decide) (by decide) h24 ?_
      refine mm_wv (vb_i 18) rfl (by decide) ?_
      refine mm_nicne (by omega) (by omega) ?_ ?_
      · intro h6
        refine mm_w1 rfl ?_
        refine mm_cvp (vb_cv (vM_S60 hM) rfl rfl rfl rfl) (by decide) (by omega) (m_good0 hM h12) ?_
        refine mm_nifne (by decide) (fun _ => ?_) (fun h => absurd h (by decide))
        refine mm_w1 rfl ?_
        refine mm_cvnJ (vb_cv (vM_S60 hM) rfl rfl rfl rfl) (by decide) (by omega) (m_goes hM dD hb hEn hk.1 (by omega)) ?_
        intro I1 J1 hq1
        obtain ⟨hkS1, hf1⟩ := hq1
        have hk1 : nt_tk b n (tx_N b s) I1 J1 := hkS1
        have dD1 := dD.f hf1
        have h121 : I1 60 12 = vb_i 0 := (hf1.2 12 (by decide)).trans h12
        have dP1 := dP.f hf1
        have h181 := hk1.2.1
        have h231 := dP1.1
        have h241 := dP1.2.1
        refine mm_w1 rfl ?_
        refine mm_w1 rfl ?_
        refine mm_wgiv _ (vM_S60 hM) (by decide) (by decide) h231 ?_
        refine mm_cvi (vb_cv (vM_S60 hM) rfl rfl rfl rfl) (by decide) (by omega) (m_amB hM hb hN hk1 h121 hn10 h1 (by omega)) ?_
        intro I2 hq2
        obtain ⟨hI2, hx1, hx5⟩ := hq2
        have hB : pn_B x I2 := .wr hI2 hx1 hx5
        refine mm_nifne (by decide) (fun h => absurd h (by decide)) (fun _ => ?_)
        refine mm_wr rfl rfl rfl ?_
        exact ⟨_, _, ⟨hB, (pn_f.of hf1).tr (.wr hI2)⟩, rfl⟩
      · intro h6
        omega
    | inr a =>
      rw [h1] at h
      obtain ⟨hKa, hva, hla⟩ := ln_a_r h1
      cases h2 : ln_a b (pl_n p) (tx_N b (tx_N b s)) with
      | inl x =>
        simp only [h2] at h
        cases h
        show mm_W _ _ 168 (mm_blk 168 0) [.ref 60, .null, .null] [] _ _
        refine mm_w1 rfl ?_
        refine mm_wgiv _ (vM_S60 hM) (by decide) (by decide) h24 ?_
        refine mm_wv (vb_i 18) rfl (by decide) ?_
        refine mm_nicne (by omega) (by omega) ?_ ?_
        · intro h6
          refine mm_w1 rfl ?_
          refine mm_cvp (vb_cv (vM_S60 hM) rfl rfl rfl rfl) (by decide) (by omega) (m_good0 hM h12) ?_
          refine mm_nifne (by decide) (fun _ => ?_) (fun h => absurd h (by decide))
          refine mm_w1 rfl ?_
          refine mm_cvnJ (vb_cv (vM_S60 hM) rfl rfl rfl rfl) (by decide) (by omega) (m_goes hM dD hb hEn hk.1 (by omega)) ?_
          intro I1 J1 hq1
          obtain ⟨hkS1, hf1⟩ := hq1
          have hk1 : nt_tk b n (tx_N b s) I1 J1 := hkS1
          have dD1 := dD.f hf1
          have h121 : I1 60 12 = vb_i 0 := (hf1.2 12 (by decide)).trans h12
          have dP1 := dP.f hf1
          have h181 := hk1.2.1
          have h231 := dP1.1
          have h241 := dP1.2.1
          refine mm_w1 rfl ?_
          refine mm_w1 rfl ?_
          refine mm_wgiv _ (vM_S60 hM) (by decide) (by decide) h231 ?_
          refine mm_cvp (vb_cv (vM_S60 hM) rfl rfl rfl rfl) (by decide) (by omega) (m_amG hM hb hN hk1 h121 hn10 h1 (by omega)) ?_
          refine mm_nifne (by decide) (fun _ => ?_) (fun h => absurd h (by decide))
          refine mm_w1 rfl ?_
          refine mm_wgiv (vb_i a) (vM_S60 hM) (by decide) (by decide) (by rw [nt_val hk1 hKa, hva]; rfl) ?_
          refine mm_w1 (ls' := [_, _, _]) rfl ?_
          refine mm_w1 rfl ?_
          refine mm_cvnJ (vb_cv (vM_S60 hM) rfl rfl rfl rfl) (by decide) (by omega) (m_goes hM dD1 hb (tx_E_n hb hN) hk1.1 (by omega)) ?_
          intro I2 J2 hq2
          obtain ⟨hkS2, hf2⟩ := hq2
          have hk2 : nt_tk b n (tx_N b (tx_N b s)) I2 J2 := hkS2
          have dD2 := dD1.f hf2
          have h122 : I2 60 12 = vb_i 0 := (hf2.2 12 (by decide)).trans h121
          have dP2 := dP1.f hf2
          have h182 := hk2.2.1
          have h232 := dP2.1
          have h242 := dP2.2.1
          refine mm_w1 rfl ?_
          refine mm_w1 rfl ?_
          refine mm_wgiv _ (vM_S60 hM) (by decide) (by decide) h232 ?_
          refine mm_cvi (vb_cv (vM_S60 hM) rfl rfl rfl rfl) (by decide) (by omega) (m_amB hM hb hN2 hk2 h122 hn10 h2 (by omega)) ?_
          intro I3 hq3
          obtain ⟨hI3, hx1, hx5⟩ := hq3
          have hB : pn_B x I3 := .wr hI3 hx1 hx5
          refine mm_nifne (by decide) (fun h => absurd h (by decide)) (fun _ => ?_)
          refine mm_wr rfl rfl rfl ?_
          exact ⟨_, _, ⟨hB, ((pn_f.of hf1).tr (.of hf2)).tr (.wr hI3)⟩, rfl⟩
        · intro h6
          omega
      | inr c =>
        simp only [h2] at h
        obtain ⟨hKc, hvc, hlc⟩ := ln_a_r h2
        have h74 : ∀ u v, u < 10 → v < 10 → I 74 (10 * u + v) = vb_b (vb_has (pl_nb p u) v) := dP.2.2.2.2.2.2.2.1
        by_cases hac : a = c ∨ vb_has (pl_nb p a) c = true
        · rw [if_pos hac] at h
          cases h
          show mm_W _ _ 168 (mm_blk 168 0) [.ref 60, .null, .null] [] _ _
          refine mm_w1 rfl ?_
          refine mm_wgiv _ (vM_S60 hM) (by decide) (by decide) h24 ?_
          refine mm_wv (vb_i 18) rfl (by decide) ?_
          refine mm_nicne (by omega) (by omega) ?_ ?_
          · intro h6
            refine mm_w1 rfl ?_
            refine mm_cvp (vb_cv (vM_S60 hM) rfl rfl rfl rfl) (by decide) (by omega) (m_good0 hM h12) ?_
            refine mm_nifne (by decide) (fun _ => ?_) (fun h => absurd h (by decide))
            refine mm_w1 rfl ?_
            refine mm_cvnJ (vb_cv (vM_S60 hM) rfl rfl rfl rfl) (by decide) (by omega) (m_goes hM dD hb hEn hk.1 (by omega)) ?_
            intro I1 J1 hq1
            obtain ⟨hkS1, hf1⟩ := hq1
            have hk1 : nt_tk b n (tx_N b s) I1 J1 := hkS1
            have dD1 := dD.f hf1
            have h121 : I1 60 12 = vb_i 0 := (hf1.2 12 (by decide)).trans h12
            have dP1 := dP.f hf1
            have h181 := hk1.2.1
            have h231 := dP1.1
            have h241 := dP1.2.1
            refine mm_w1 rfl ?_
            refine mm_w1 rfl ?_
            refine mm_wgiv _ (vM_S60 hM) (by decide) (by decide) h231 ?_
            refine mm_cvp (vb_cv (vM_S60 hM) rfl rfl rfl rfl) (by decide) (by omega) (m_amG hM hb hN hk1 h121 hn10 h1 (by omega)) ?_
            refine mm_nifne (by decide) (fun _ => ?_) (fun h => absurd h (by decide))
            refine mm_w1 rfl ?_
            refine mm_wgiv (vb_i a) (vM_S60 hM) (by decide) (by decide) (by rw [nt_val hk1 hKa, hva]; rfl) ?_
            refine mm_w1 (ls' := [_, _, _]) rfl ?_
            refine mm_w1 rfl ?_
            refine mm_cvnJ (vb_cv (vM_S60 hM) rfl rfl rfl rfl) (by decide) (by omega) (m_goes hM dD1 hb (tx_E_n hb hN) hk1.1 (by omega)) ?_
            intro I2 J2 hq2
            obtain ⟨hkS2, hf2⟩ := hq2
            have hk2 : nt_tk b n (tx_N b (tx_N b s)) I2 J2 := hkS2
            have dD2 := dD1.f hf2
            have h122 : I2 60 12 = vb_i 0 := (hf2.2 12 (by decide)).trans h121
            have dP2 := dP1.f hf2
            have h182 := hk2.2.1
            have h232 := dP2.1
            have h242 := dP2.2.1
            refine mm_w1 rfl ?_
            refine mm_w1 rfl ?_
            refine mm_wgiv _ (vM_S60 hM) (by decide) (by decide) h232 ?_
            refine mm_cvp (vb_cv (vM_S60 hM) rfl rfl rfl rfl) (by decide) (by omega) (m_amG hM hb hN2 hk2 h122 hn10 h2 (by omega)) ?_
            refine mm_nifne (by decide) (fun _ => ?_) (fun h => absurd h (by decide))
            refine mm_w1 rfl ?_
            refine mm_wgiv (vb_i c) (vM_S60 hM) (by decide) (by decide) (by rw [nt_val hk2 hKc, hvc]; rfl) ?_
            refine mm_w1 (ls' := [_, _, _]) rfl ?_
            refine mm_w1 rfl ?_
            refine mm_w1 rfl ?_
            refine mm_niceq (by omega) (by omega) ?_ ?_
            · intro h66
              refine mm_w1 rfl ?_
              refine mm_wv (vb_i 4) rfl (by decide) ?_
              refine mm_cvn (vb_cv (vM_S60 hM) rfl rfl rfl rfl) (by decide) (by omega) (m_wrong0 hM h122 h182) ?_
              intro I3 hI3
              have hB : pn_B (4, tx_N b (tx_N b s)) I3 := .wr hI3 (of_decide_eq_true rfl) (of_decide_eq_true rfl)
              refine mm_w1 rfl ?_
              refine mm_cvp (vb_cv (vM_S60 hM) rfl rfl rfl rfl) (by decide) (by omega) (m_good1 hM hB.1 hB.2.2.1 hB.2.2.2) ?_
              refine mm_nifne (by decide) (fun h => absurd h (by decide)) (fun _ => ?_)
              refine mm_wr rfl rfl rfl ?_
              exact ⟨_, _, ⟨hB, ((pn_f.of hf1).tr (.of hf2)).tr (.wr hI3)⟩, rfl⟩
            · intro h66
              refine mm_w1 rfl ?_
              refine mm_wgr (vM_S60 hM) (by decide) (by decide) (vM_P60_36 hM) (vM_a74 hM) ?_
              refine mm_wv (vb_i 10) rfl (by decide) ?_
              refine mm_w1 rfl ?_
              refine mm_nmul ?_
              refine mm_w1 rfl ?_
              refine mm_nadd ?_
              refine mm_wzav (vb_b (vb_has (pl_nb p a) c)) (vM_S74 hM) (by decide) (by omega) (by rw [hf2.1 74 (by decide), hf1.1 74 (by decide)]; exact h74 a c (by omega) (by omega)) ?_
              refine mm_bifeq ?_ ?_
              · intro h80
                exact absurd h80 (by rw [hac.resolve_left h66]; decide)
              · intro h80
                refine mm_w1 rfl ?_
                refine mm_wv (vb_i 4) rfl (by decide) ?_
                refine mm_cvn (vb_cv (vM_S60 hM) rfl rfl rfl rfl) (by decide) (by omega) (m_wrong0 hM h122 h182) ?_
                intro I3 hI3
                have hB : pn_B (4, tx_N b (tx_N b s)) I3 := .wr hI3 (of_decide_eq_true rfl) (of_decide_eq_true rfl)
                refine mm_w1 rfl ?_
                refine mm_cvp (vb_cv (vM_S60 hM) rfl rfl rfl rfl) (by decide) (by omega) (m_good1 hM hB.1 hB.2.2.1 hB.2.2.2) ?_
                refine mm_nifne (by decide) (fun h => absurd h (by decide)) (fun _ => ?_)
                refine mm_wr rfl rfl rfl ?_
                exact ⟨_, _, ⟨hB, ((pn_f.of hf1).tr (.of hf2)).tr (.wr hI3)⟩, rfl⟩
          · intro h6
            omega
        · rw [if_neg hac] at h
          cases h
          have hne : a ≠ c := fun e => hac (Or.inl e)
          have hno : vb_has (pl_nb p a) c = false := (Bool.not_eq_true _).mp (fun e => hac (Or.inr e))
          show mm_W _ _ 168 (mm_blk 168 0) [.ref 60, .null, .null] [] _ _
          refine mm_w1 rfl ?_
          refine mm_wgiv _ (vM_S60 hM) (by decide) (by decide) h24 ?_
          refine mm_wv (vb_i 18) rfl (by decide) ?_
          refine mm_nicne (by omega) (by omega) ?_ ?_
          · intro h6
            refine mm_w1 rfl ?_
            refine mm_cvp (vb_cv (vM_S60 hM) rfl rfl rfl rfl) (by decide) (by omega) (m_good0 hM h12) ?_
            refine mm_nifne (by decide) (fun _ => ?_) (fun h => absurd h (by decide))
            refine mm_w1 rfl ?_
            refine mm_cvnJ (vb_cv (vM_S60 hM) rfl rfl rfl rfl) (by decide) (by omega) (m_goes hM dD hb hEn hk.1 (by omega)) ?_
            intro I1 J1 hq1
            obtain ⟨hkS1, hf1⟩ := hq1
            have hk1 : nt_tk b n (tx_N b s) I1 J1 := hkS1
            have dD1 := dD.f hf1
            have h121 : I1 60 12 = vb_i 0 := (hf1.2 12 (by decide)).trans h12
            have dP1 := dP.f hf1
            have h181 := hk1.2.1
            have h231 := dP1.1
            have h241 := dP1.2.1
            refine mm_w1 rfl ?_
            refine mm_w1 rfl ?_
            refine mm_wgiv _ (vM_S60 hM) (by decide) (by decide) h231 ?_
            refine mm_cvp (vb_cv (vM_S60 hM) rfl rfl rfl rfl) (by decide) (by omega) (m_amG hM hb hN hk1 h121 hn10 h1 (by omega)) ?_
            refine mm_nifne (by decide) (fun _ => ?_) (fun h => absurd h (by decide))
            refine mm_w1 rfl ?_
            refine mm_wgiv (vb_i a) (vM_S60 hM) (by decide) (by decide) (by rw [nt_val hk1 hKa, hva]; rfl) ?_
            refine mm_w1 (ls' := [_, _, _]) rfl ?_
            refine mm_w1 rfl ?_
            refine mm_cvnJ (vb_cv (vM_S60 hM) rfl rfl rfl rfl) (by decide) (by omega) (m_goes hM dD1 hb (tx_E_n hb hN) hk1.1 (by omega)) ?_
            intro I2 J2 hq2
            obtain ⟨hkS2, hf2⟩ := hq2
            have hk2 : nt_tk b n (tx_N b (tx_N b s)) I2 J2 := hkS2
            have dD2 := dD1.f hf2
            have h122 : I2 60 12 = vb_i 0 := (hf2.2 12 (by decide)).trans h121
            have dP2 := dP1.f hf2
            have h182 := hk2.2.1
            have h232 := dP2.1
            have h242 := dP2.2.1
            refine mm_w1 rfl ?_
            refine mm_w1 rfl ?_
            refine mm_wgiv _ (vM_S60 hM) (by decide) (by decide) h232 ?_
            refine mm_cvp (vb_cv (vM_S60 hM) rfl rfl rfl rfl) (by decide) (by omega) (m_amG hM hb hN2 hk2 h122 hn10 h2 (by omega)) ?_
            refine mm_nifne (by decide) (fun _ => ?_) (fun h => absurd h (by decide))
            refine mm_w1 rfl ?_
            refine mm_wgiv (vb_i c) (vM_S60 hM) (by decide) (by decide) (by rw [nt_val hk2 hKc, hvc]; rfl) ?_
            refine mm_w1 (ls' := [_, _, _]) rfl ?_
            refine mm_w1 rfl ?_
            refine mm_w1 rfl ?_
            refine mm_niceq (by omega) (by omega) ?_ ?_
            · intro h66
              exact absurd h66 hne
            · intro h66
              refine mm_w1 rfl ?_
              refine mm_wgr (vM_S60 hM) (by decide) (by decide) (vM_P60_36 hM) (vM_a74 hM) ?_
              refine mm_wv (vb_i 10) rfl (by decide) ?_
              refine mm_w1 rfl ?_
              refine mm_nmul ?_
              refine mm_w1 rfl ?_
              refine mm_nadd ?_
              refine mm_wzav (vb_b (vb_has (pl_nb p a) c)) (vM_S74 hM) (by decide) (by omega) (by rw [hf2.1 74 (by decide), hf1.1 74 (by decide)]; exact h74 a c (by omega) (by omega)) ?_
              refine mm_bifeq ?_ ?_
              · intro h80
                refine mm_w1 rfl ?_
                refine mm_cvp (vb_cv (vM_S60 hM) rfl rfl rfl rfl) (by decide) (by omega) (m_good0 hM h122) ?_
                refine mm_nifne (by decide) (fun _ => ?_) (fun h => absurd h (by decide))
                refine mm_w1 rfl ?_
                refine mm_cvnJ (vb_cv (vM_S60 hM) rfl rfl rfl rfl) (by decide) (by omega) (m_goes hM dD2 hb (tx_E_n hb hN2) hk2.1 (by omega)) ?_
                intro I3 J3 hq3
                obtain ⟨hkS3, hf3⟩ := hq3
                have hk3 : nt_tk b n (tx_N b (tx_N b (tx_N b s))) I3 J3 := hkS3
                have dD3 := dD2.f hf3
                have h123 : I3 60 12 = vb_i 0 := (hf3.2 12 (by decide)).trans h122
                have dP3 := dP2.f hf3
                have h183 := hk3.2.1
                have h233 := dP3.1
                have h243 := dP3.2.1
                refine mm_w1 rfl ?_
                refine mm_wgr (vM_S60 hM) (by decide) (by decide) (vM_P60_36 hM) (vM_a74 hM) ?_
                refine mm_wv (vb_i 10) rfl (by decide) ?_
                refine mm_w1 rfl ?_
                refine mm_nmul ?_
                refine mm_w1 rfl ?_
                refine mm_nadd ?_
                refine mm_wv (vb_i 1) rfl (by decide) ?_
                refine mm_wzsN (vM_S74 hM) (by decide) (by omega) (Or.inr rfl) ?_
                intro I4 hI4
                have hg4 : pn_g I3 I4 := by rw [hI4]; exact pn_g.rf.ua (by decide)
                have h244 : I4 60 24 = vb_i (pl_rc p) := by rw [hI4, vb_up3 _ _ (by decide)]; exact h243
                refine mm_w1 rfl ?_
                refine mm_wgr (vM_S60 hM) (by decide) (by decide) (vM_P60_36 hM) (vM_a74 hM) ?_
                refine mm_wv (vb_i 10) rfl (by decide) ?_
                refine mm_w1 rfl ?_
                refine mm_nmul ?_
                refine mm_w1 rfl ?_
                refine mm_nadd ?_
                refine mm_wv (vb_i 1) rfl (by decide) ?_
                refine mm_wzsN (vM_S74 hM) (by decide) (by omega) (Or.inr rfl) ?_
                intro I5 hI5
                have hg5 : pn_g I4 I5 := by rw [hI5]; exact pn_g.rf.ua (by decide)
                have h245 : I5 60 24 = vb_i (pl_rc p) := by rw [hI5, vb_up3 _ _ (by decide)]; exact h244
                refine mm_w1 rfl ?_
                refine mm_w1 rfl ?_
                refine mm_wgiv _ (vM_S60 hM) (by decide) (by decide) h245 ?_
                refine mm_wv (vb_i 1) rfl (by decide) ?_
                refine mm_nadd ?_
                refine mm_wpiN (vM_S60 hM) (by decide) (by decide) ?_
                intro I6 hI6
                have hg6 : pn_g I5 I6 := by rw [hI6]; exact pn_g.rf.u60 (by decide)
                refine mm_wr rfl rfl rfl ?_
                have hga : pn_g I3 I6 := by rw [hI6, hI5, hI4]; exact ((pn_g.rf.ua (by decide)).ua (by decide)).u60 (by decide)
                have hfa : nt_f I I3 := (hf1.tr hf2).tr hf3
                refine ⟨_, _, ⟨⟨dD3.pg hga, hk3.pg hga, (hga.2 12 (by decide) (by decide)).trans h123, hN3, pl_okR hp hlt hla hlc hne hno, top, pn_C.addR (by omega) (by omega) hne dP ?_ (fun q k1 k2 k3 => ?_) (fun e k1 k2 => ?_) ?_, by omega⟩, (pn_f.of hfa).tr (by rw [hI6, hI5, hI4]; exact ((pn_f.rf.ua (by decide) (by decide)).ua (by decide) (by decide)).u60 (by decide) (by decide))⟩, rfl⟩
                · rw [hI6, vb_up1]
                · rw [hI6, vb_up2 _ _ (by omega), hI5, vb_up3 _ _ (by decide), hI4, vb_up3 _ _ (by decide), hfa.2 q (by omega)]
                · rw [hI6, vb_up3 _ _ (by omega), hI5, vb_up3 _ _ (by omega), hI4, vb_up3 _ _ (by omega), hfa.1 e (by omega)]
                · rw [hI6, vb_up3 _ _ (by decide), hI5, hI4]
                  funext j
                  simp only [mm_up, hfa.1 74 (by decide)]
              · intro h80
                rw [hno] at h80
                cases h80
          · intro h6
            omega
  · rw [if_neg hlt] at h
    cases h
    show mm_W _ _ 168 (mm_blk 168 0) [.ref 60, .null, .null] [] _ _
    refine mm_w1 rfl ?_
    refine mm_wgiv _ (vM_S60 hM) (by decide) (by decide) h24 ?_
    refine mm_wv (vb_i 18) rfl (by decide) ?_
    refine mm_nicne (by omega) (by omega) ?_ ?_
    · intro h6
      omega
    · intro h6
      refine mm_w1 rfl ?_
      refine mm_wv (vb_i 2) rfl (by decide) ?_
      refine mm_cvn (vb_cv (vM_S60 hM) rfl rfl rfl rfl) (by decide) (by omega) (m_wrong0 hM h12 h18) ?_
      intro I1 hI1
      have hB : pn_B (2, s) I1 := .wr hI1 (of_decide_eq_true rfl) (of_decide_eq_true rfl)
      refine mm_w1 rfl ?_
      refine mm_cvp (vb_cv (vM_S60 hM) rfl rfl rfl rfl) (by decide) (by omega) (m_good1 hM hB.1 hB.2.2.1 hB.2.2.2) ?_
      refine mm_nifne (by decide) (fun h => absurd h (by decide)) (fun _ => ?_)
      refine mm_wr rfl rfl rfl ?_
      exact ⟨_, _, ⟨hB, .wr hI1⟩, rfl⟩
end PNL
