section VBD
variable {G : mm_G} {d : Nat} {I : Nat → Nat → Int32} {P : Nat → Nat → Nat} {J : Nat → Nat → Int64} {S : List (Nat × Nat)} {nc ns : Nat} {μ : mm_M} {σ : vb_St} {L : Nat}
variable {k : Nat} {is : List mm_I} {ls st : List Value} {Q : mm_R → Prop}
theorem mm_cvP {idx kk nA w : Nat} {c : Int32} {args rest : List Value} {y : Value} {Φ : (Nat → Nat → Int32) → Prop} {P' : Nat → Nat → Nat} {J' : Nat → Nat → Int64} (h5 : mm_call (.invokevirtual idx, kk, nA, w, c) st (I, P, J, S, nc, ns) = some (kk, args, rest)) (h9 : kk < 9000) (hd : 0 < d) (hc : mm_C G (d - 1) kk args (I, P, J, S, nc, ns) (vb_R (some y) Φ P' J' S nc ns)) (k2 : ∀ I', Φ I' → mm_W G d k is ls (y :: rest) (I', P', J', S, nc, ns) Q) : mm_W G d k ((.invokevirtual idx, kk, nA, w, c) :: is) ls st (I, P, J, S, nc, ns) Q :=
  mm_wcv h5 h9 hd hc (fun r ⟨I', h, e⟩ => ⟨some y, _, e, rfl, k2 I' h⟩)
theorem c_hand {L0 L1 : Nat} (hS : S[3]? = some (4, 8)) (hP : P 3 2 = L1) (h1 : L1 < 600) (h0 : L0 < 600) : mm_C G d 45 [.ref 3, .ref L0] (I, P, J, S, nc, ns) (vb_R (some (.ref L1)) (fun I' => I' = I) (mm_up P 3 2 L0) J S nc ns) := by
  show mm_W _ _ 45 (mm_blk 45 0) [.ref 3, .ref L0, .null] [] _ _
  refine mm_w1 rfl ?_
  refine mm_wgr hS (by decide) (by decide) hP (by omega) ?_
  refine mm_w1 (ls' := [_, _, _]) rfl ?_
  refine mm_w1 rfl ?_
  refine mm_w1 rfl ?_
  refine mm_wpr hS (by decide) (by decide) (by omega) ?_
  refine mm_w1 rfl ?_
  refine mm_wr rfl rfl rfl ?_
  exact ⟨_, rfl, rfl⟩
def vb_RB (o : Int32 ⊕ Nat) (σ' : vb_St) (J : Nat → Nat → Int64) (S : List (Nat × Nat)) (nc ns : Nat) : mm_R → Prop := fun r => ∃ (I' : Nat → Nat → Int32) (P' : Nat → Nat → Nat) (L' : Nat), vb_isW P' S L' ∧ vb_VD σ' L' I' ∧ (match o with
  | .inl v => r = (.inl (some (.int v)), (I', P', J, S, nc, ns))
  | .inr E => r = (.inr E, (I', P', J, S, nc + 1, ns + 6)))
theorem vb_le1 {m : Nat} {v : Int32} (hm : m < 5000) (h : ¬ v < vb_i (m + 1)) : ¬ v ≤ vb_i m := by
  rw [Int32.lt_iff_toInt_lt, vb_i, Int32.toInt_ofNat_of_lt (by omega)] at h
  rw [Int32.le_iff_toInt_le, vb_i, Int32.toInt_ofNat_of_lt (by omega)]
  omega
theorem vb_le2 {v w : Int32} (e : ¬ v ≤ w) : w < v := by rw [Int32.le_iff_toInt_le] at e; rw [Int32.lt_iff_toInt_lt]; omega
theorem vb_VD.rd {σ : vb_St} {L : Nat} {I I' : Nat → Nat → Int32} (h : vb_VD σ L I) (hL : L = 5 ∨ L = 17) (hf : ∀ a, a ≠ 3 → ¬ (22 - L ≤ a ∧ a < 22 - L + 12) → I' a = I a) : vb_VD σ L I' := by
  have hf : vb_fr (fun a => a = 3 ∨ (22 - L ≤ a ∧ a < 22 - L + 12)) I I' := fun a ha => hf a (by omega) (by omega)
  obtain ⟨h1, h2, h3, h4, h5, h6, h7, h8, h9, h10, h11⟩ := h
  have e0 := hf 0 (by omega)
  have e1 := hf 1 (by omega)
  have e2 := hf 2 (by omega)
  refine ⟨h1.kp hf (fun j a b => by omega), h2.fr hf (fun j a b => by omega), h3.fr hf (fun j a b => by omega), h4.fr hf (fun j a b => by omega), by rw [e0]; exact h5, h6.fr hf (fun a b c d => by omega), by rw [e0]; exact h7, h8, by rw [e1]; exact h9, by rw [e0]; exact h10, by rw [e2]; exact h11⟩
theorem px_why {b : Nat → Int32} {n F s : Nat} {x : Nat × Nat} (hb : tx_ok b n) (hs : s ≤ n) {k : List (Nat × Int32) → pl_S} (h : ln_e (px b F 0 0 s) k = some (.inl x)) : 1 ≤ x.1 ∧ x.1 ≤ 5 := by
  cases e : px b F 0 0 s with
  | none => rw [e] at h; cases h
  | some q =>
    rw [e] at h
    cases q with
    | inl y =>
      cases h
      have := px_q hb F 0 0 s _ (Or.inl (by decide)) (by decide) hs e
      obtain ⟨w, pl⟩ := x
      have h2 : 1 ≤ w ∧ w ≤ 3 ∧ pl ≤ n := this
      exact ⟨h2.1, by show w ≤ 5; omega⟩
    | inr y => cases h
theorem lnv_why {b : Nat → Int32} {s its : Nat} {p : pl_S} {x : Nat × Nat} (h : ln_v b p its s = some (.inl x)) : 1 ≤ x.1 ∧ x.1 ≤ 5 := by
  have hn : ∀ most s x, ln_n b most s = .inl x → 1 ≤ x.1 ∧ x.1 ≤ 5 := fun most s x h => by
    simp only [ln_n] at h
    (repeat' split at h) <;> cases h <;> exact ⟨of_decide_eq_true rfl, of_decide_eq_true rfl⟩
  rw [ln_v] at h
  split at h
  · split at h
    · rename_i e; cases h; exact hn _ _ _ e
    · split at h
      · rename_i e; cases h; exact hn _ _ _ e
      · cases h
  · cases h; exact ⟨of_decide_eq_true rfl, of_decide_eq_true rfl⟩
theorem lnr_why {b : Nat → Int32} {s : Nat} {p : pl_S} {x : Nat × Nat} (h : ln_r b p s = some (.inl x)) : 1 ≤ x.1 ∧ x.1 ≤ 5 := by
  have hn : ∀ m s x, ln_a b m s = .inl x → 1 ≤ x.1 ∧ x.1 ≤ 5 := fun most s x h => by
    simp only [ln_a] at h
    (repeat' split at h) <;> cases h <;> exact ⟨of_decide_eq_true rfl, of_decide_eq_true rfl⟩
  rw [ln_r] at h
  split at h
  · split at h
    · rename_i e; cases h; exact hn _ _ _ e
    · split at h
      · rename_i e; cases h; exact hn _ _ _ e
      · split at h
        · cases h; exact ⟨of_decide_eq_true rfl, of_decide_eq_true rfl⟩
        · cases h
  · cases h; exact ⟨of_decide_eq_true rfl, of_decide_eq_true rfl⟩
theorem ln_why {b : Nat → Int32} {n F s : Nat} {p : pl_S} {x : Nat × Nat} (hb : tx_ok b n) (hs : s ≤ n) (h : ln b F p s = some (.inl x)) : 1 ≤ x.1 ∧ x.1 ≤ 5 := by
  have hN := tx_N_n hb hs
  have h0 : ∀ x, ln_0 b F p s = some (.inl x) → 1 ≤ x.1 ∧ x.1 ≤ 5 := fun x h => by
    rw [ln_0] at h
    split at h
    · exact lnv_why h
    · split at h
      · exact lnv_why h
      · split at h
        · exact lnv_why h
        · split at h
          · exact lnr_why h
          · split at h
            · split at h
              · cases h; exact ⟨of_decide_eq_true rfl, of_decide_eq_true rfl⟩
              · exact px_why hb hN h
            · split at h
              · split at h
                · exact px_why hb hN h
                · cases h; exact ⟨of_decide_eq_true rfl, of_decide_eq_true rfl⟩
              · cases h; exact ⟨of_decide_eq_true rfl, of_decide_eq_true rfl⟩
  rw [ln] at h
  split at h
  · cases h
  · rename_i e; cases h; exact h0 _ e
  · split at h
    · cases h
    · cases h; exact ⟨of_decide_eq_true rfl, of_decide_eq_true rfl⟩
theorem rd_why {b : Nat → Int32} {n : Nat} (hb : tx_ok b n) : ∀ g p s x, s ≤ n → rd b 8000 g p s = some (.inl x) → 1 ≤ x.1 ∧ x.1 ≤ 5 := by
  intro g
  induction g with
  | zero => intro p s x _ h; cases h
  | succ g ih =>
    intro p s x hs h
    rw [rd] at h
    split at h
    · cases h
    · split at h
      · cases h
      · rename_i e; cases h; exact ln_why hb hs e
      · rename_i e; exact ih _ _ _ (ln_q hb hs e).2 h
theorem v_board (hW : vb_isW P S L) (dV : vb_VD σ L I) (hI : vs_inv σ) (htb : vs_tb σ) (hd : 70 ≤ d) (v : Int32) : mm_C G d 77 [.ref 0, .int v] (I, P, J, S, nc, ns) (vb_RB (sp_board σ v) (st_board σ v) J S nc ns) := by
  have hV := hW.1
  have hL17 := vV_L17 hV
  have hR := hW.rd
  have hp7 := vd_p7 dV
  cases hv : vb_idx ((vs_p σ).length + 1) v with
  | none =>
    rw [show sp_board σ v = .inr 1 by simp only [sp_board, hv], show st_board σ v = σ by simp only [st_board, hv]]
    show mm_W _ _ 77 (mm_blk 77 0) [.ref 0, .int v, .null] [] _ _
    refine mm_w1 rfl ?_
    refine mm_wiflt ?_ ?_
    · intro h1
      refine mm_wthr rfl rfl rfl rfl ?_
      exact ⟨I, P, L, hW, dV, rfl⟩
    · intro h1
      refine mm_w1 rfl ?_
      refine mm_w1 rfl ?_
      refine mm_wgiv _ (vV_S0 hV) (by decide) (by decide) (vd_p dV) ?_
      refine mm_wicle ?_ ?_
      · intro h9
        rcases vb_idx_none hv with h | ⟨_, h⟩
        · exact absurd h h1
        · exact absurd (Classical.byContradiction (fun e => h9 (vb_le2 e))) (vb_le1 (by omega) h)
      · intro h9
        refine mm_wthr rfl rfl rfl rfl ?_
        exact ⟨I, P, L, hW, dV, rfl⟩
  | some m =>
    obtain ⟨lm, rfl⟩ := vb_idx_some (by omega) hv
    have hb := q_b_ok (t := vs_p σ) (n := m) (by omega) hp7 htb
    obtain ⟨r, hr⟩ := q_rd_tot hb
    rw [show sp_board σ (vb_i m) = .inl (rr_z r) by simp only [sp_board, hv, hr], show st_board σ (vb_i m) = st_bd σ r by simp only [st_board, hv, hr]]
    have hT : ∀ i, i < m → I 1 i = q_b (vs_p σ) m i := fun i hi => by
      rw [q_b, if_pos hi, List.getD_eq_getElem?_getD, List.getElem?_eq_getElem (by omega)]
      exact vd_tp dV i _ (List.getElem?_eq_getElem (by omega))
    have hread := c_read (G := G) (I := I) (J := J) (nc := nc) (ns := ns) (d := d - 1) hR hb hT hr (by omega)
    have hV1 : vb_isV (mm_up P 3 0 1) S L := hV.up
    show mm_W _ _ 77 (mm_blk 77 0) [.ref 0, .int (vb_i m), .null] [] _ _
    refine mm_w1 rfl ?_
    refine mm_niflt (by omega) ?_
    refine mm_w1 rfl ?_
    refine mm_w1 rfl ?_
    refine mm_wgiv _ (vV_S0 hV) (by decide) (by decide) (vd_p dV) ?_
    refine mm_nicle (by omega) (by omega) ?_ ?_
    · intro h9
      refine mm_w1 rfl ?_
      refine mm_wgr (vV_S0 hV) (by decide) (by decide) (vV_P0_4 hV) (vR_a3 hR) ?_
      refine mm_w1 rfl ?_
      refine mm_wgr (vV_S0 hV) (by decide) (by decide) (vV_P0_0 hV) (vV_a1 hV) ?_
      refine mm_w1 rfl ?_
      refine mm_cvP (vb_cv (vR_S3 hR) rfl rfl rfl rfl) (by decide) (by omega) hread ?_
      intro I1 hq1
      obtain ⟨hf1, hP1⟩ := hq1
      have hV := hV1
      have hL := vV_hL hV
      have hLr := vR_L hR
      have hX := vV_hX hV
      have hA := vV_hA hV
      have hTT := vV_hT hV
      have dV1 : vb_VD σ L I1 := dV.rd hL17 hf1
      have hW1 : vb_isW (mm_up P 3 0 1) S L := ⟨hV, hR.1, hR.2.2.2.1, hLr⟩
      cases r with
      | inl x =>
        obtain ⟨why, pl⟩ := x
        have hPl : I1 3 4 = vb_i pl := hP1
        have hne : ¬ vb_i why = 0 := by
          have := rd_why hb 800 pl_0 _ _ (tx_S_n hb (Nat.zero_le _)) hr
          have h1 : 1 ≤ why := this.1
          have h5 : why ≤ 5 := this.2
          exact vb_ne0 (by omega) (by omega)
        refine mm_w1 (ls' := [_, _, _]) rfl ?_
        refine mm_w1 rfl ?_
        refine mm_wv (vb_i 0) rfl (by decide) ?_
        refine mm_wpiN (vV_S0 hV) (by decide) (by decide) ?_
        intro I2 hI2
        have _u := hI2
        refine mm_w1 rfl ?_
        refine mm_wifeq ?_ ?_
        · intro h41
          exact absurd h41 hne
        · intro h41
          refine mm_w1 rfl ?_
          refine mm_w1 rfl ?_
          refine mm_wgr (vV_S0 hV) (by decide) (by decide) (vV_P0_4 hV) (vR_a3 hR) ?_
          refine mm_wgiv (vb_i pl) (vR_S3 hR) (by decide) (by decide) (by rw [hI2, vb_up3 _ _ (by decide)]; exact hPl) ?_
          refine mm_wpiN (vV_S0 hV) (by decide) (by decide) ?_
          intro I3 hI3
          have _u := hI3
          refine mm_w1 rfl ?_
          refine mm_wgr (vV_S0 hV) (by decide) (by decide) (vV_P0_3 hV) (vV_a2 hV) ?_
          refine mm_wv (vb_i 0) rfl (by decide) ?_
          refine mm_w1 rfl ?_
          refine mm_wiav (vs_r σ 0) (vV_a2 hV) (vV_S2 hV) (by decide) (by omega) (by rw [hI3, vb_up3 _ _ (by decide), hI2, vb_up3 _ _ (by decide)]; exact vd_r dV1 (by decide)) ?_
          refine mm_wv (vb_i 1) rfl (by decide) ?_
          refine mm_w1 rfl ?_
          refine mm_wisN (vV_S2 hV) (by decide) (by omega) ?_
          intro I4 hI4
          have _u := hI4
          refine mm_w1 rfl ?_
          refine mm_wr rfl rfl rfl ?_
          refine ⟨_, _, L, hW1, ?_, rfl⟩
          obtain ⟨g1, g2, g3, g4, g5, g6, g7, g8, g9, g10, g11⟩ := dV1
          have hf : vb_fr (fun a => a = 0 ∨ a = 2) I1 I4 := fun a ha => by rw [hI4, vb_up3 _ _ (by omega), hI3, vb_up3 _ _ (by omega), hI2, vb_up3 _ _ (by omega)]
          have e0 : ∀ q, q ≠ 1 → q ≠ 2 → I4 0 q = I1 0 q := fun q h1 h2 => by rw [hI4, vb_up3 _ _ (by decide), hI3, vb_up2 _ _ (by omega), hI2, vb_up2 _ _ (by omega)]
          refine ⟨g1.kp hf (fun j a b => by omega), g2.fr hf (fun j a b => by omega), g3.fr hf (fun j a b => by omega), g4.fr hf (fun j a b => by omega), by rw [e0 _ (by decide) (by decide)]; exact g5, g6.fr hf (fun a b c d => by omega), ?_, Nat.zero_le _, (fun i b h => by cases h), ?_, fun j hj => ?_⟩
          · rw [hI4, vb_up3 _ _ (by decide), hI3, vb_up2 _ _ (by decide), hI2, vb_up1]; rfl
          · rw [hI4, vb_up3 _ _ (by decide), hI3, vb_up1]; rfl
          · show _ = if j = 0 then vs_r σ j + vb_i 1 else vs_r σ j
            rw [hI4]
            by_cases e : j = 0
            · subst e; rw [vb_up1, if_pos rfl]
            · rw [vb_up2 _ _ (by omega), if_neg e, hI3, vb_up3 _ _ (by decide), hI2, vb_up3 _ _ (by decide)]; exact g11 j hj
      | inr p =>
        obtain ⟨hp, C, hC, dP⟩ := hP1
        refine mm_w1 (ls' := [_, _, _]) rfl ?_
        refine mm_w1 rfl ?_
        refine mm_wv (vb_i 0) rfl (by decide) ?_
        refine mm_wpiN (vV_S0 hV) (by decide) (by decide) ?_
        intro I2 hI2
        have hz2 : ∀ a, a ≠ 0 → I2 a = I1 a := fun a ha => by rw [hI2, vb_up3 _ _ ha]
        refine mm_w1 rfl ?_
        refine mm_nifeq (by omega) ?_ ?_
        · intro h41
          refine mm_w1 rfl ?_
          refine mm_wv (-1) rfl (by decide) ?_
          refine mm_wpiN (vV_S0 hV) (by decide) (by decide) ?_
          intro I3 hI3
          have hz3 : ∀ a, a ≠ 0 → I3 a = I1 a := fun a ha => by rw [hI3, vb_up3 _ _ ha]; exact hz2 a ha
          refine mm_w1 rfl ?_
          refine mm_w1 rfl ?_
          refine mm_wgr (vV_S0 hV) (by decide) (by decide) (vV_P0_4 hV) (vR_a3 hR) ?_
          refine mm_w1 rfl ?_
          refine mm_wgr (vV_S0 hV) (by decide) (by decide) (vV_P0_5 hV) (vL_a0 hL) ?_
          refine mm_cvP (vb_cv (vR_S3 hR) rfl rfl rfl rfl) (by decide) (by omega) (c_hand (L0 := L) (L1 := 22 - L) hR.1 hR.2.2.2.1 (by omega) (by omega)) ?_
          intro I4 hI4
          have hz4 : ∀ a, a ≠ 0 → I4 a = I1 a := fun a ha => by rw [hI4]; exact hz3 a ha 
          refine mm_wpr (vV_S0 hV) (by decide) (by decide) (by omega) ?_
          have hW2 := hW.sw
          have hV := hW2.1
          have hL := vV_hL hV
          have hX := vV_hX hV
          have hA := vV_hA hV
          have hT := vV_hT hV 
          refine mm_w1 rfl ?_
          refine mm_wgr (vV_S0 hV) (by decide) (by decide) (vV_P0_6 hV) (vX_a0 hX) ?_
          refine mm_w1 rfl ?_
          refine mm_wgr (vV_S0 hV) (by decide) (by decide) (vV_P0_5 hV) (vL_a0 hL) ?_
          refine mm_cvn (vb_cv (vX_S0 hX) rfl rfl rfl rfl) (by decide) (by omega) (c_beginL (p := p) hX hL (by omega) (fun j hj => by rw [hz4 _ (by omega)]; exact dP.2.2.2.2.1 j hj) (by rw [hz4 _ (by omega)]; exact dP.1.2.2.1) hp.2.2.1) ?_
          intro I5 hq5
          obtain ⟨dX5, hf5⟩ := hq5
          refine mm_w1 rfl ?_
          refine mm_wgr (vV_S0 hV) (by decide) (by decide) (vV_P0_8 hV) (vA_a0 hA) ?_
          refine mm_cvn (vb_cv (vA_S0 hA) rfl rfl rfl rfl) (by decide) (by omega) (c_clrA hA) ?_
          intro I6 hq6
          obtain ⟨dA6, hf6⟩ := hq6
          refine mm_w1 rfl ?_
          refine mm_wgr (vV_S0 hV) (by decide) (by decide) (vV_P0_9 hV) (vT_a0 hT) ?_
          refine mm_cvn (vb_cv (vT_S0 hT) rfl rfl rfl rfl) (by decide) (by omega) (c_clrT hT) ?_
          intro I7 hq7
          obtain ⟨dT7, hf7⟩ := hq7
          refine mm_w1 rfl ?_
          refine mm_wv (vb_i 0) rfl (by decide) ?_
          refine mm_wpzN (vV_S0 hV) (by decide) (by decide) (Or.inl rfl) ?_
          intro I8 hI8
          have _u := hI8
          refine mm_wv (vb_i 0) rfl (by decide) ?_
          refine mm_wr rfl rfl rfl ?_
          refine ⟨_, _, 22 - L, hW2, ?_, rfl⟩
          obtain ⟨g1, g2, g3, g4, g5, g6, g7, g8, g9, g10, g11⟩ := dV1
          have hf8 : vb_fr (fun a => a = 0) I7 I8 := fun a ha => by rw [hI8, vb_up3 _ _ ha]
          have hf68 : vb_fr (fun a => a = 0 ∨ (43 ≤ a ∧ a < 46)) I6 I8 := fun a ha => by rw [hf8 a (by omega), hf7 a (by simp only [vb_tc]; omega)]
          have hf58 : vb_fr (fun a => a = 0 ∨ (41 ≤ a ∧ a < 46)) I5 I8 := fun a ha => by rw [hf68 a (by omega), hf6 a (by simp only [vb_ac]; omega)]
          have hf18 : vb_fr (fun a => a = 0 ∨ (29 ≤ a ∧ a < 35) ∨ (41 ≤ a ∧ a < 46)) I1 I8 := fun a ha => by rw [hf58 a (by omega), hf5 a (by omega), hz4 a (by omega)]
          have e0 : ∀ q, q ≠ 10 → I8 0 q = I3 0 q := fun q hq => by rw [hI8, vb_up2 _ _ (by omega), hf7 0 (by simp only [vb_tc]; omega), hf6 0 (by simp only [vb_ac]; omega), hf5 0 (by omega), hI4]
          refine ⟨(pl_LD hp hC dP).kp hf18 (fun j a b => by omega), dX5.fr hf58 (fun j a b => by omega), dA6.fr hf68 (fun j a b => by omega), dT7.fr hf8 (fun j a b => by omega), ?_, (fun z h => by cases h), ?_, Nat.zero_le _, (fun i b h => by cases h), ?_, fun j hj => ?_⟩
          · rw [hI8, vb_up1]; rfl
          · rw [e0 1 (by decide), hI3, vb_up2 _ _ (by decide), hI2, vb_up1]; rfl
          · rw [e0 2 (by decide), hI3, vb_up1]; rfl
          · rw [hf18 2 (by omega)]; exact g11 j hj
        · intro h41
          exact absurd rfl h41 
    · intro h9
      omega
end VBD
