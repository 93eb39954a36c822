/-! THE CLASS'S READER: expressions -/
def rd_fx (L : Nat) (I I' : Nat → Nat → Int32) : Prop := (∀ a, a ≠ 3 → a ≠ L + 6 → a ≠ L + 7 → I' a = I a) ∧ ∀ q, q < 3 → I' 3 q = I 3 q
theorem rd_tk.eq {b : Nat → Int32} {s : Nat} {I I' : Nat → Nat → Int32} (h : rd_tk b s I) (e : I' 3 = I 3) : rd_tk b s I' := by rw [rd_tk, e]; exact h
theorem rd_fx.rf {L : Nat} {I : Nat → Nat → Int32} : rd_fx L I I := ⟨fun _ _ _ _ => rfl, fun _ _ => rfl⟩
theorem rd_fx.tr {L : Nat} {I I' I'' : Nat → Nat → Int32} (h : rd_fx L I I') (h' : rd_fx L I' I'') : rd_fx L I I'' := ⟨fun a h1 h2 h3 => (h'.1 a h1 h2 h3).trans (h.1 a h1 h2 h3), fun q hq => (h'.2 q hq).trans (h.2 q hq)⟩
theorem rd_fx.of3 {L : Nat} {I I' : Nat → Nat → Int32} (h : rd_f3 I I') : rd_fx L I I' := ⟨fun a h1 _ _ => h.1 a h1, fun q hq => h.2 q (by omega)⟩
theorem rd_fx.ofc {L : Nat} {I I' : Nat → Nat → Int32} (h : rd_fc L I I') (hL : 5 ≤ L) : rd_fx L I I' := ⟨fun a _ h2 h3 => h a h2 h3, fun q _ => by rw [h 3 (by omega) (by omega)]⟩
theorem rd_fx.ofr {L : Nat} {I I' : Nat → Nat → Int32} {v : Int32} (h : I' = mm_up I 3 3 v) : rd_fx L I I' := by
  subst h
  exact ⟨fun a h1 _ _ => vb_up3 _ _ h1, fun q hq => vb_up2 _ _ (by omega)⟩
def rd_P (b : Nat → Int32) (n L : Nat) (C : List Int32) (q : (Nat × Nat) ⊕ (Nat × List (Nat × Int32))) (I : Nat → Nat → Int32) : Prop := match q with
  | .inl (why, pl) => I 3 3 = vb_i why ∧ I 3 4 = vb_i pl
  | .inr (s, c) => rd_D b n I ∧ rd_tk b s I ∧ rd_C L (C ++ px_cc c) I
def rd_is (q : (Nat × Nat) ⊕ (Nat × List (Nat × Int32))) : Bool := match q with
  | .inl _ => false
  | .inr _ => true
def rd_lv (m : Nat) : Nat := if m = 0 then 12 else if m = 1 then 11 else if m = 2 then 10 else if m = 3 then 8 else if m = 4 then 7 else 6
theorem px_cj0 {b : Nat → Int32} {l s : Nat} : px_cj (px_j b l s) = -1 ↔ px_j b l s = 0 := by
  by_cases e : px_j b l s = 0
  · rw [e]; simp [px_cj]
  · have h := px_j_op e
    have : ∀ q, q < 12 → 4 ≤ q → px_cj q ≠ -1 := by decide
    exact ⟨fun h2 => absurd h2 (this _ (by omega) h.1), fun h2 => absurd h2 e⟩
theorem px_cjit {b : Nat → Int32} {l s : Nat} (h : px_j b l s ≠ 0) : px_it (px_j b l s, 0) = [-1 - px_cj (px_j b l s)] := by
  rw [px_it4 (px_j_op h).1, px_cj, if_neg h]
section RD3
variable {G : mm_G} {d : Nat} {I : Nat → Nat → Int32} {P : Nat → Nat → Nat} {J : Nat → Nat → Int64} {S : List (Nat × Nat)} {nc ns : Nat} {μ : mm_M} {L : Nat} {b : Nat → Int32} {n : Nat}
variable {q : (Nat × Nat) ⊕ (Nat × List (Nat × Int32))}
theorem c_part {f w s : Nat} {C : List Int32} (hR : vb_isR P S L) (hb : tx_ok b n) (ih : ∀ w' s' q', w' ≤ 5 → s' ≤ n → px b f 0 w' s' = some q' → ∀ (d : Nat) (I : Nat → Nat → Int32) (C : List Int32), 9 * (5 - w') + rd_lv 0 ≤ d → rd_D b n I → rd_tk b s' I → rd_C L C I → C.length ≤ s' → mm_C G d 52 [.ref 3, .int (vb_i 0), .int (vb_i w')] (I, P, J, S, nc, ns) (vb_R (some (.int (vb_b (rd_is q')))) (fun I' => rd_fx L I I' ∧ rd_P b n L C q' I') P J S nc ns)) (hw : w ≤ 5) (hs : s ≤ n) (h : px b (f + 1) 5 w s = some q) (hd : 9 * (5 - w) + 5 ≤ d) (dD : rd_D b n I) (hk : rd_tk b s I) (dC : rd_C L C I) (hC : C.length ≤ s) : mm_C G d 54 [.ref 3, .int (vb_i w)] (I, P, J, S, nc, ns) (vb_R (some (.int (vb_b (rd_is q)))) (fun I' => rd_fx L I I' ∧ rd_P b n L C q I') P J S nc ns) := by
  have hL := vR_L hR
  have hL17 := vR_17 hR
  have hn7 := hb.1
  have hx : rd_fx L I I := .rf
  have h6 := hk.2.2.1
  have hK := tx_K_le b s
  have hN := tx_N_n hb hs
  have hKN := tx_K_le b (tx_N b s)
  have hlt : tx_K b s ≠ 0 → s < n ∧ s < tx_N b s := fun hk => ⟨tx_lt hb hs hk, tx_N_lt hb (tx_lt hb hs hk)⟩
  have dD0 := dD
  have hk0 := hk
  have dC0 := dC
  have h60 := h6
  have hx0 := hx
  rw [px_5] at h
  show mm_W _ _ 54 (mm_blk 54 0) [.ref 3, .int (vb_i w), .null, .null] [] _ _
  by_cases hK40 : tx_K b s = 40
  · rw [if_pos hK40] at h
    have hlt := hlt (by omega)
    have go : mm_W G d 54 (mm_blk 54 0) [.ref 3, .int (vb_i w), .null, .null] [] (I, P, J, S, nc, ns) (vb_R (some (.int (vb_b (rd_is q)))) (fun I' => rd_fx L I I' ∧ rd_P b n L C q I') P J S nc ns) := by
      refine mm_w1 rfl ?_
      refine mm_wgiv _ (vR_S3 hR) (by decide) (by decide) h60 ?_
      refine mm_wv (vb_i 40) rfl (by decide) ?_
      refine mm_nicne (by omega) (by omega) ?_ ?_
      · intro h6
        omega
      · intro h6
        refine mm_w1 rfl ?_
        refine mm_cvn (vb_cv (vR_S3 hR) rfl rfl rfl rfl) (by decide) (by omega) (c_next hR dD0 hb (tx_E_n hb (by omega)) hk0.2.1 (by omega)) ?_
        intro I1 hq1
        obtain ⟨hkS1, hf31⟩ := hq1
        have hk1 : rd_tk b (tx_N b _) I1 := hkS1
        have hx1 : rd_fx L I I1 := hx0.tr (.of3 hf31)
        have dD1 : rd_D b n I1 := dD0.f3 hf31
        have dC1 := dC0.fr (hf31.1 (L + 6) (by omega)) (hf31.1 (L + 7) (by omega))
        have h61 := hk1.2.2.1
        refine mm_w1 rfl ?_
        refine mm_wv (vb_i 1) rfl (by decide) ?_
        refine mm_nadd ?_
        refine mm_wv (vb_i 6) rfl (by decide) ?_
        refine mm_niclt (by omega) (by omega) ?_ ?_
        · intro h18
          rw [if_pos (by omega)] at h
          obtain ⟨q1, e1, hq⟩ := rf_bd_i (r := q) h
          refine mm_w1 rfl ?_ 
          refine mm_wv (vb_i 0) rfl (by decide) ?_
          refine mm_w1 rfl ?_
          refine mm_wv (vb_i 1) rfl (by decide) ?_
          refine mm_nadd ?_
          refine mm_cvi (vb_cv (vR_S3 hR) rfl rfl rfl rfl) (by decide) (by omega) (ih _ _ q1 (by omega) hN e1 (d - 1) _ C (by show 9 * (5 - (w + 1)) + 12 ≤ d - 1; omega) dD1 hk1 dC1 (by omega)) ?_
          intro I2 hq2
          obtain ⟨hx22, hP2⟩ := hq2
          have hx2 : rd_fx L I I2 := hx1.tr hx22
          rcases hq with ⟨x, rfl, rfl⟩ | ⟨s2, c2, rfl, h2⟩
          · refine mm_bifne (fun h => by cases h) (fun _ => ?_)
            refine mm_wv (vb_i 0) rfl (by decide) ?_
            refine mm_wr rfl rfl rfl ?_
            exact ⟨_, ⟨hx2, hP2⟩, rfl⟩
          · refine mm_bifne (fun _ => ?_) (fun h => by cases h)
            obtain ⟨dD2, hk2, dC2⟩ := hP2
            have h62 := hk2.2.2.1
            have hq2 := px_q hb f 0 (w + 1) _ _ (Or.inl (by decide)) (by omega) hN e1
            have hs2 := hq2.2.1
            have hs1 := hq2.1
            have hK2 := tx_K_le b s2
            refine mm_w1 rfl ?_
            refine mm_wgiv _ (vR_S3 hR) (by decide) (by decide) h62 ?_
            refine mm_wv (vb_i 41) rfl (by decide) ?_
            refine mm_niceq (by omega) (by omega) ?_ ?_
            · intro h57
              refine mm_w1 rfl ?_
              refine mm_cvn (vb_cv (vR_S3 hR) rfl rfl rfl rfl) (by decide) (by omega) (c_next hR dD2 hb (tx_E_n hb (by omega)) hk2.2.1 (by omega)) ?_
              intro I3 hq3
              obtain ⟨hkS3, hf33⟩ := hq3
              have hk3 : rd_tk b (tx_N b _) I3 := hkS3
              have hx3 : rd_fx L I I3 := hx2.tr (.of3 hf33)
              have dD3 : rd_D b n I3 := dD2.f3 hf33
              have dC3 := dC2.fr (hf33.1 (L + 6) (by omega)) (hf33.1 (L + 7) (by omega))
              have h63 := hk3.2.2.1
              refine mm_wv (vb_i 1) rfl (by decide) ?_
              refine mm_wr rfl rfl rfl ?_
              rw [if_pos (by omega)] at h2
              cases h2
              exact ⟨_, ⟨hx3, dD3, hk3, dC3⟩, rfl⟩
            · intro h57
              refine mm_w1 rfl ?_
              refine mm_wv (vb_i 1) rfl (by decide) ?_
              refine mm_cvi (vb_cv (vR_S3 hR) rfl rfl rfl rfl) (by decide) (by omega) (c_refuse hR) ?_
              intro I3 hI3
              have hx3 : rd_fx L I I3 := hx2.tr (.ofr hI3)
              have hw3 := (congrFun (congrFun hI3 3) 3).trans (vb_up1 _ _ _ _)
              have hp3 := (congrFun (congrFun hI3 3) 4).trans ((vb_up2 _ _ (by decide)).trans hk2.1)
              refine mm_wrb rfl ?_
              rw [if_neg (by omega)] at h2
              cases h2
              exact ⟨_, ⟨hx3, hw3, hp3⟩, rfl⟩ 
        · intro h18
          refine mm_w1 rfl ?_
          refine mm_w1 rfl ?_
          refine mm_cvp (vb_cv (vR_S3 hR) rfl rfl rfl rfl) (by decide) (by omega) (c_canBegin hR dD1 hb hk1) ?_
          refine mm_bifeq ?_ ?_
          · intro h26
            refine mm_wv (vb_i 1) rfl (by decide) ?_
            refine mm_cvi (vb_cv (vR_S3 hR) rfl rfl rfl rfl) (by decide) (by omega) (c_refuse hR) ?_
            intro I2 hI2
            have hx2 : rd_fx L I I2 := hx1.tr (.ofr hI2)
            have hw2 := (congrFun (congrFun hI2 3) 3).trans (vb_up1 _ _ _ _)
            have hp2 := (congrFun (congrFun hI2 3) 4).trans ((vb_up2 _ _ (by decide)).trans hk1.1)
            refine mm_wrb rfl ?_
            rw [if_neg (by omega)] at h
            cases h
            refine ⟨_, ⟨hx2, ?_, hp2⟩, rfl⟩
            first
              | (rw [if_pos h26]; exact hw2)
              | (rw [if_neg (by rw [h26]; decide)]; exact hw2)
          · intro h26
            refine mm_wv (vb_i 2) rfl (by decide) ?_
            refine mm_wgoto ?_
            refine mm_cvi (vb_cv (vR_S3 hR) rfl rfl rfl rfl) (by decide) (by omega) (c_refuse hR) ?_
            intro I2 hI2
            have hx2 : rd_fx L I I2 := hx1.tr (.ofr hI2)
            have hw2 := (congrFun (congrFun hI2 3) 3).trans (vb_up1 _ _ _ _)
            have hp2 := (congrFun (congrFun hI2 3) 4).trans ((vb_up2 _ _ (by decide)).trans hk1.1)
            refine mm_wrb rfl ?_
            rw [if_neg (by omega)] at h
            cases h
            refine ⟨_, ⟨hx2, ?_, hp2⟩, rfl⟩
            first
              | (rw [if_pos h26]; exact hw2)
              | (rw [if_neg (by rw [h26]; decide)]; exact hw2)
    exact go
  · rw [if_neg hK40] at h
    by_cases hK1 : tx_K b s = 1
    · rw [if_pos hK1] at h
      have hlt := hlt (by omega)
      have go107 : ∀ (n3 : Nat), mm_W G d 54 (mm_blk 54 107) [.ref 3, .int (vb_i w), .int (px_vw b s 8), .int (vb_i n3)] [] (I, P, J, S, nc, ns) (vb_R (some (.int (vb_b (rd_is q)))) (fun I' => rd_fx L I I' ∧ rd_P b n L C q I') P J S nc ns) := by
        intro n3
        by_cases hw8 : tx_w b s < 8
        · rw [if_pos hw8] at h
          cases h
          rw [show px_vw b s 8 = vb_i (tx_w b s) from if_pos hw8]
          refine mm_w1 rfl ?_
          refine mm_wv (-1) rfl (by decide) ?_
          refine mm_wicne ?_ ?_
          · intro h109
            refine mm_w1 rfl ?_
            refine mm_wgr (vR_S3 hR) (by decide) (by decide) (vR_P3_2 hR) (vL_a0 hL) ?_
            refine mm_wgr (vL_S0 hL) (by decide) (by decide) (vL_P0_9 hL) (vL_a6 hL) ?_
            refine mm_w1 rfl ?_
            refine mm_cvn (vb_cv (vL_S6 hL) rfl rfl rfl rfl) (by decide) (by omega) (c_addSign hL dC0 (by omega) (by omega)) ?_
            intro I1 hq1
            obtain ⟨dC1, hfc1⟩ := hq1
            have hx1 : rd_fx L I I1 := hx0.tr (.ofc hfc1 (by omega))
            have h31 := hfc1 3 (by omega) (by omega)
            have dD1 : rd_D b n I1 := ⟨fun i hi => by rw [hfc1 1 (by omega) (by omega)]; exact dD0.1 i hi, by rw [h31]; exact dD0.2.1, dD0.2.2⟩
            have hk1 := hk0.eq h31
            have h61 := hk1.2.2.1
            refine mm_wgoto ?_
            refine mm_w1 rfl ?_
            refine mm_cvn (vb_cv (vR_S3 hR) rfl rfl rfl rfl) (by decide) (by omega) (c_next hR dD1 hb (tx_E_n hb (by omega)) hk1.2.1 (by omega)) ?_
            intro I2 hq2
            obtain ⟨hkS2, hf32⟩ := hq2
            have hk2 : rd_tk b (tx_N b _) I2 := hkS2
            have hx2 : rd_fx L I I2 := hx1.tr (.of3 hf32)
            have dD2 : rd_D b n I2 := dD1.f3 hf32
            have dC2 := dC1.fr (hf32.1 (L + 6) (by omega)) (hf32.1 (L + 7) (by omega))
            have h62 := hk2.2.2.1
            refine mm_wv (vb_i 1) rfl (by decide) ?_
            refine mm_wr rfl rfl rfl ?_
            exact ⟨_, ⟨hx2, dD2, hk2, dC2⟩, rfl⟩
          · intro h109
            exact absurd h109 (vb_b_m1 _ (by omega))
        · rw [if_neg hw8] at h
          cases h
          rw [show px_vw b s 8 = -1 from if_neg hw8]
          refine mm_w1 rfl ?_
          refine mm_wv (-1) rfl (by decide) ?_
          refine mm_wicne ?_ ?_
          · intro h109
            exact absurd rfl h109
          · intro h109
            refine mm_w1 rfl ?_
            refine mm_wv (vb_i 3) rfl (by decide) ?_
            refine mm_cvi (vb_cv (vR_S3 hR) rfl rfl rfl rfl) (by decide) (by omega) (c_refuse hR) ?_
            intro I1 hI1
            have hx1 : rd_fx L I I1 := hx0.tr (.ofr hI1)
            have hw1 := (congrFun (congrFun hI1 3) 3).trans (vb_up1 _ _ _ _)
            have hp1 := (congrFun (congrFun hI1 3) 4).trans ((vb_up2 _ _ (by decide)).trans hk0.1)
            refine mm_wrb rfl ?_
            exact ⟨_, ⟨hx1, hw1, hp1⟩, rfl⟩
      have loopw : ∀ i, i ≤ 8 → mm_W G d 54 (mm_blk 54 78) [.ref 3, .int (vb_i w), .int (px_vw b s i), .int (vb_i i)] [] (I, P, J, S, nc, ns) (vb_R (some (.int (vb_b (rd_is q)))) (fun I' => rd_fx L I I' ∧ rd_P b n L C q I') P J S nc ns) := by
        refine vb_down 8 ?_
        intro i hi ih
        refine mm_w1 rfl ?_
        refine mm_wv (vb_i 8) rfl (by decide) ?_
        refine mm_nicge (by omega) (by omega) ?_ ?_
        · intro h81
          have e : i = 8 := by omega
          subst e
          exact go107 _
        · intro h81
          refine mm_w1 rfl ?_
          refine mm_w1 rfl ?_
          refine mm_csp rfl (by decide) (by omega) (c_nameOf (by omega)) ?_ 
          refine mm_cvp (vb_cv (vR_S3 hR) rfl rfl rfl rfl) (by decide) (by omega) (c_isWord (j := 6 + i) hR dD0 hb (by omega) hk0 (by omega)) ?_
          refine mm_bifeq ?_ ?_
          · intro h92
            refine mm_w1 rfl ?_
            refine mm_w1 (ls' := [_, _, _, _]) rfl ?_
            refine mm_nincL (ls' := [_, _, _, _]) 1 rfl (by decide) rfl ?_
            refine mm_wgoto ?_
            have t := ih (by omega)
            first
              | (have e : tx_w b s = i := (of_decide_eq_true h92).trans (px_si6 i (by omega))
                 rw [px_vw1 e] at t; exact t)
              | (have e : ¬ tx_w b s = i := fun e => of_decide_eq_false h92 (e.trans (px_si6 i (by omega)).symm)
                 rw [px_vw0 e] at t; exact t)
          · intro h92
            refine mm_w1 rfl ?_
            refine mm_wgoto ?_
            refine mm_w1 (ls' := [_, _, _, _]) rfl ?_
            refine mm_nincL (ls' := [_, _, _, _]) 1 rfl (by decide) rfl ?_
            refine mm_wgoto ?_
            have t := ih (by omega)
            first
              | (have e : tx_w b s = i := (of_decide_eq_true h92).trans (px_si6 i (by omega))
                 rw [px_vw1 e] at t; exact t)
              | (have e : ¬ tx_w b s = i := fun e => of_decide_eq_false h92 (e.trans (px_si6 i (by omega)).symm)
                 rw [px_vw0 e] at t; exact t)
      have start := loopw 0 (by omega)
      rw [show px_vw b s 0 = -1 from if_neg (Nat.not_lt_zero _)] at start
      refine mm_w1 rfl ?_
      refine mm_wgiv _ (vR_S3 hR) (by decide) (by decide) h60 ?_
      refine mm_wv (vb_i 40) rfl (by decide) ?_
      refine mm_nicne (by omega) (by omega) ?_ ?_
      · intro h6
        refine mm_w1 rfl ?_
        refine mm_wgiv _ (vR_S3 hR) (by decide) (by decide) h60 ?_
        refine mm_wv (vb_i 1) rfl (by decide) ?_
        refine mm_nicne (by omega) (by omega) ?_ ?_
        · intro h71
          omega
        · intro h71
          refine mm_wv (-1) rfl (by decide) ?_
          refine mm_w1 (ls' := [_, _, _, _]) rfl ?_
          refine mm_wv (vb_i 0) rfl (by decide) ?_
          refine mm_w1 (ls' := [_, _, _, _]) rfl ?_
          exact start
      · intro h6
        omega
    · rw [if_neg hK1] at h
      by_cases hK2 : tx_K b s = 2
      · rw [if_pos hK2] at h
        have hlt := hlt (by omega)
        cases h
        refine mm_w1 rfl ?_
        refine mm_wgiv _ (vR_S3 hR) (by decide) (by decide) h60 ?_
        refine mm_wv (vb_i 40) rfl (by decide) ?_
        refine mm_nicne (by omega) (by omega) ?_ ?_
        · intro h6
          refine mm_w1 rfl ?_
          refine mm_wgiv _ (vR_S3 hR) (by decide) (by decide) h60 ?_
          refine mm_wv (vb_i 1) rfl (by decide) ?_
          refine mm_nicne (by omega) (by omega) ?_ ?_
          · intro h71
            refine mm_w1 rfl ?_
            refine mm_wgiv _ (vR_S3 hR) (by decide) (by decide) h60 ?_
            refine mm_wv (vb_i 2) rfl (by decide) ?_
            refine mm_nicne (by omega) (by omega) ?_ ?_
            · intro h137
              omega
            · intro h137
              refine mm_w1 rfl ?_
              refine mm_wgr (vR_S3 hR) (by decide) (by decide) (vR_P3_2 hR) (vL_a0 hL) ?_
              refine mm_wgr (vL_S0 hL) (by decide) (by decide) (vL_P0_9 hL) (vL_a6 hL) ?_
              refine mm_w1 rfl ?_
              refine mm_wgiv _ (vR_S3 hR) (by decide) (by decide) (hk0.2.2.2 (by omega)) ?_
              refine mm_cvn (vb_cv (vL_S6 hL) rfl rfl rfl rfl) (by decide) (by omega) (c_addNum hL dC0 (by omega) (by omega)) ?_
              intro I1 hq1
              obtain ⟨dC1, hfc1⟩ := hq1
              have hx1 : rd_fx L I I1 := hx0.tr (.ofc hfc1 (by omega))
              have h31 := hfc1 3 (by omega) (by omega)
              have dD1 : rd_D b n I1 := ⟨fun i hi => by rw [hfc1 1 (by omega) (by omega)]; exact dD0.1 i hi, by rw [h31]; exact dD0.2.1, dD0.2.2⟩
              have hk1 := hk0.eq h31
              have h61 := hk1.2.2.1
              refine mm_wgoto ?_
              refine mm_w1 rfl ?_
              refine mm_cvn (vb_cv (vR_S3 hR) rfl rfl rfl rfl) (by decide) (by omega) (c_next hR dD1 hb (tx_E_n hb (by omega)) hk1.2.1 (by omega)) ?_
              intro I2 hq2
              obtain ⟨hkS2, hf32⟩ := hq2
              have hk2 : rd_tk b (tx_N b _) I2 := hkS2
              have hx2 : rd_fx L I I2 := hx1.tr (.of3 hf32)
              have dD2 : rd_D b n I2 := dD1.f3 hf32
              have dC2 := dC1.fr (hf32.1 (L + 6) (by omega)) (hf32.1 (L + 7) (by omega))
              have h62 := hk2.2.2.1
              refine mm_wv (vb_i 1) rfl (by decide) ?_
              refine mm_wr rfl rfl rfl ?_
              exact ⟨_, ⟨hx2, dD2, hk2, dC2⟩, rfl⟩
          · intro h71
            omega
        · intro h6
          omega
      · rw [if_neg hK2] at h
        cases h
        refine mm_w1 rfl ?_
        refine mm_wgiv _ (vR_S3 hR) (by decide) (by decide) h60 ?_
        refine mm_wv (vb_i 40) rfl (by decide) ?_
        refine mm_nicne (by omega) (by omega) ?_ ?_
        · intro h6
          refine mm_w1 rfl ?_
          refine mm_wgiv _ (vR_S3 hR) (by decide) (by decide) h60 ?_
          refine mm_wv (vb_i 1) rfl (by decide) ?_
          refine mm_nicne (by omega) (by omega) ?_ ?_
          · intro h71
            refine mm_w1 rfl ?_
            refine mm_wgiv _ (vR_S3 hR) (by decide) (by decide) h60 ?_
            refine mm_wv (vb_i 2) rfl (by decide) ?_
            refine mm_nicne (by omega) (by omega) ?_ ?_
            · intro h137
              refine mm_w1 rfl ?_
              refine mm_w1 rfl ?_
              refine mm_wgiv _ (vR_S3 hR) (by decide) (by decide) h60 ?_
              refine mm_wv (vb_i 3) rfl (by decide) ?_
              refine mm_nicne (by omega) (by omega) ?_ ?_
              · intro h163
                refine mm_wv (vb_i 1) rfl (by decide) ?_
                refine mm_cvi (vb_cv (vR_S3 hR) rfl rfl rfl rfl) (by decide) (by omega) (c_refuse hR) ?_
                intro I1 hI1
                have hx1 : rd_fx L I I1 := hx0.tr (.ofr hI1)
                have hw1 := (congrFun (congrFun hI1 3) 3).trans (vb_up1 _ _ _ _)
                have hp1 := (congrFun (congrFun hI1 3) 4).trans ((vb_up2 _ _ (by decide)).trans hk0.1)
                refine mm_wrb rfl ?_
                refine ⟨_, ⟨hx1, ?_, hp1⟩, rfl⟩
                first
                  | (rw [if_pos (by omega)]; exact hw1)
                  | (rw [if_neg (by omega)]; exact hw1)
              · intro h163
                refine mm_wv (vb_i 2) rfl (by decide) ?_
                refine mm_wgoto ?_
                refine mm_cvi (vb_cv (vR_S3 hR) rfl rfl rfl rfl) (by decide) (by omega) (c_refuse hR) ?_
                intro I1 hI1
                have hx1 : rd_fx L I I1 := hx0.tr (.ofr hI1)
                have hw1 := (congrFun (congrFun hI1 3) 3).trans (vb_up1 _ _ _ _)
                have hp1 := (congrFun (congrFun hI1 3) 4).trans ((vb_up2 _ _ (by decide)).trans hk0.1)
                refine mm_wrb rfl ?_
                refine ⟨_, ⟨hx1, ?_, hp1⟩, rfl⟩
                first
                  | (rw [if_pos (by omega)]; exact hw1)
                  | (rw [if_neg (by omega)]; exact hw1)
            · intro h137
              omega
          · intro h71
            omega
        · intro h6
          omega
end RD3
