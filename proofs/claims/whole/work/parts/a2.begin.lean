/-! A NEW BOARD: what is asked of both sides -/
def q_y0 (sc j : Nat) : Int32 := if j < sc then vb_i j else if sc = 0 then -1 else vb_i (sc - 1)
def q_x0 (p : pl_S) : vb_X := (pl_fs p, pl_fs p, (fun _ => 0), q_y0 (pl_sc p), (fun _ => 0), 0)
theorem q_y0_min : ∀ sc, sc ≤ 3 → ∀ j, j < 2 → (if vb_i sc - vb_i 1 < vb_i j then vb_i sc - vb_i 1 else vb_i j) = q_y0 sc j := by decide
def q_b (t : List Int32) (n i : Nat) : Int32 := if i < n then t.getD i 0 else -1
def q_rd (t : List Int32) (n : Nat) : Option ((Nat × Nat) ⊕ pl_S) := rd (q_b t n) 8000 800 pl_0 (tx_S (q_b t n) 0)
def st_bd (σ : vb_St) (r : (Nat × Nat) ⊕ pl_S) : vb_St := match r with
  | .inl (_, pl) => (vs_l σ, vs_x σ, vs_a σ, vs_t σ, vs_i σ, [], vb_i pl, fun i => if i = 0 then vs_r σ i + vb_i 1 else vs_r σ i)
  | .inr p => (pl_l p, q_x0 p, [], [], none, [], -1, vs_r σ)
def st_board (σ : vb_St) (v : Int32) : vb_St := match vb_idx ((vs_p σ).length + 1) v with
  | none => σ
  | some n => match q_rd (vs_p σ) n with
    | none => σ
    | some r => st_bd σ r
def sp_board (σ : vb_St) (v : Int32) : Int32 ⊕ Nat := match vb_idx ((vs_p σ).length + 1) v with
  | none => .inr 1
  | some n => match q_rd (vs_p σ) n with
    | none => .inr 9
    | some r => .inl (rr_z r)
/-- bytes lie on the tape -/
def vs_tb (σ : vb_St) : Prop := ∀ x, x ∈ vs_p σ → 0 ≤ x
theorem q_b_ok {t : List Int32} {n : Nat} (hn : n ≤ t.length) (ht : t.length ≤ 700) (hb : ∀ x, x ∈ t → 0 ≤ x) : tx_ok (q_b t n) n := by
  refine ⟨by omega, fun i hi => if_neg (by omega), fun i hi => ?_⟩
  rw [q_b, if_pos hi, List.getD_eq_getElem?_getD, List.getElem?_eq_getElem (by omega)]
  exact hb _ (List.getElem_mem _)
theorem ln_tot {b : Nat → Int32} {n s : Nat} (hb : tx_ok b n) (hs : s ≤ n) (p : pl_S) : ∃ q, ln b 8000 p s = some q := by
  have hn := hb.1
  have hpx : ∀ k : List (Nat × Int32) → pl_S, ∃ q, ln_e (px b 8000 0 0 (tx_N b s)) k = some q := fun k => by
    obtain ⟨q, hq⟩ := px_tot hb 8000 0 0 (tx_N b s) (Or.inl (by decide)) (by decide) (tx_N_n hb hs) (by show 10 * (n - tx_N b s) + 7 ≤ 8000; omega)
    rw [hq]
    cases q with
    | inl x => exact ⟨_, rfl⟩
    | inr y => exact ⟨_, rfl⟩
  have hv : ∀ its, ∃ q, ln_v b p its s = some q := fun its => by
    rw [ln_v]
    split
    · split
      · exact ⟨_, rfl⟩
      · split <;> exact ⟨_, rfl⟩
    · exact ⟨_, rfl⟩
  have h0 : ∃ q, ln_0 b 8000 p s = some q := by
    rw [ln_0]
    split
    · exact hv _
    · split
      · exact hv _
      · split
        · exact hv _
        · split
          · rw [ln_r]
            split
            · split
              · exact ⟨_, rfl⟩
              · split
                · exact ⟨_, rfl⟩
                · split <;> exact ⟨_, rfl⟩
            · exact ⟨_, rfl⟩
          · split
            · split
              · exact ⟨_, rfl⟩
              · exact hpx _
            · split
              · split
                · exact hpx _
                · exact ⟨_, rfl⟩
              · exact ⟨_, rfl⟩
  obtain ⟨q, hq⟩ := h0
  rw [ln, hq]
  cases q with
  | inl x => exact ⟨_, rfl⟩
  | inr y =>
    obtain ⟨s', p'⟩ := y
    simp only
    split <;> exact ⟨_, rfl⟩
theorem rd_tot {b : Nat → Int32} {n : Nat} (hb : tx_ok b n) : ∀ g p s, s ≤ n → n - s < g → ∃ r, rd b 8000 g p s = some r := by
  intro g
  induction g with
  | zero => intro p s _ h; omega
  | succ g ih =>
    intro p s hs hg
    rw [rd]
    split
    · exact ⟨_, rfl⟩
    · obtain ⟨q, hq⟩ := ln_tot hb hs p
      rw [hq]
      cases q with
      | inl x => exact ⟨_, rfl⟩
      | inr y =>
        obtain ⟨s', p'⟩ := y
        have := ln_q hb hs hq
        exact ih p' s' this.2 (by omega)
theorem q_rd_tot {t : List Int32} {n : Nat} (hb : tx_ok (q_b t n) n) : ∃ r, q_rd t n = some r := rd_tot hb 800 pl_0 _ (tx_S_n hb (Nat.zero_le _)) (by have := hb.1; omega)
/-! pointers that change elsewhere -/
theorem vb_isL.cg {P P' : Nat → Nat → Nat} {S : List (Nat × Nat)} {L : Nat} (h : vb_isL P S L) (e0 : P' L = P L) (e6 : P' (L + 6) = P (L + 6)) : vb_isL P' S L := by
  simp only [vb_isL, e0, e6]; exact h
theorem vb_isX.cg {P P' : Nat → Nat → Nat} {S : List (Nat × Nat)} {X : Nat} (h : vb_isX P S X) (e0 : P' X = P X) : vb_isX P' S X := by
  simp only [vb_isX, e0]; exact h
theorem vb_isA.cg {P P' : Nat → Nat → Nat} {S : List (Nat × Nat)} {X : Nat} (h : vb_isA P S X) (e0 : P' X = P X) : vb_isA P' S X := by
  simp only [vb_isA, e0]; exact h
theorem vb_isT.cg {P P' : Nat → Nat → Nat} {S : List (Nat × Nat)} {X : Nat} (h : vb_isT P S X) (e0 : P' X = P X) : vb_isT P' S X := by
  simp only [vb_isT, e0]; exact h
theorem vb_isC.cg {P P' : Nat → Nat → Nat} {S : List (Nat × Nat)} {X : Nat} (h : vb_isC P S X) (e0 : P' X = P X) : vb_isC P' S X := by
  simp only [vb_isC, e0]; exact h
/-- the class's object, its reader with the other land -/
def vb_isW (P : Nat → Nat → Nat) (S : List (Nat × Nat)) (L : Nat) : Prop := vb_isV P S L ∧ S[3]? = some (4, 8) ∧ P 3 2 = 22 - L ∧ vb_isL P S (22 - L)
theorem vb_isW.rd {P : Nat → Nat → Nat} {S : List (Nat × Nat)} {L : Nat} (h : vb_isW P S L) : vb_isR (mm_up P 3 0 1) S (22 - L) := by
  have hL := vV_L17 h.1
  refine ⟨h.2.1, vV_S1 h.1, vb_up1 _ _ _ _, ?_, h.2.2.2.cg (vb_up3 _ _ (by omega)) (vb_up3 _ _ (by omega)), by omega⟩
  rw [vb_up2 _ _ (by decide)]; exact h.2.2.1
theorem vb_isV.up {P : Nat → Nat → Nat} {S : List (Nat × Nat)} {L q v : Nat} (h : vb_isV P S L) : vb_isV (mm_up P 3 q v) S L := by
  have hL := vV_L17 h
  have e : ∀ a, a ≠ 3 → mm_up P 3 q v a = P a := fun a ha => vb_up3 _ _ ha
  obtain ⟨h1, h2, h3, h4, h5, h6, h7, h8, h9, h10, h11⟩ := h
  refine ⟨h1, by rw [e 0 (by decide)]; exact h2, h3.cg (e _ (by omega)) (e _ (by omega)), h4.cg (e _ (by decide)), h5.cg (e _ (by decide)), h6.cg (e _ (by decide)), h7.cg (e _ (by decide)), h8.cg (e _ (by decide)), h9.cg (e _ (by decide)), h10.cg (e _ (by decide)), h11.cg (e _ (by decide))⟩
/-- the lands have been swapped -/
theorem vb_isW.sw {P : Nat → Nat → Nat} {S : List (Nat × Nat)} {L : Nat} (h : vb_isW P S L) : vb_isW (mm_up (mm_up (mm_up P 3 0 1) 3 2 L) 0 5 (22 - L)) S (22 - L) := by
  have hL := vV_L17 h.1
  obtain ⟨⟨h1, h2, h3, h4, h5, h6, h7, h8, h9, h10, h11⟩, k1, k2, k3⟩ := h
  have e : ∀ a, a ≠ 3 → a ≠ 0 → mm_up (mm_up (mm_up P 3 0 1) 3 2 L) 0 5 (22 - L) a = P a := fun a ha h0 => by rw [vb_up3 _ _ h0, vb_up3 _ _ ha, vb_up3 _ _ ha]
  have e0 : ∀ s, s ≠ 5 → mm_up (mm_up (mm_up P 3 0 1) 3 2 L) 0 5 (22 - L) 0 s = P 0 s := fun s hs => by rw [vb_up2 _ _ (by omega), vb_up3 _ _ (by decide), vb_up3 _ _ (by decide)]
  obtain ⟨p0, p1, p2, p3, p4, p5, p6, p7, p8, p9, p10, p11, p12⟩ := h2
  refine ⟨⟨⟨h1.1, h1.2.1, h1.2.2.1, h1.2.2.2.1, by omega⟩, ⟨?_, ?_, ?_, ?_, ?_, ?_, ?_, ?_, ?_, ?_, ?_, ?_, ?_⟩, k3.cg (e _ (by omega) (by omega)) (e _ (by omega) (by omega)), h4.cg (e _ (by decide) (by decide)), h5.cg (e _ (by decide) (by decide)), h6.cg (e _ (by decide) (by decide)), h7.cg (e _ (by decide) (by decide)), h8.cg (e _ (by decide) (by decide)), h9.cg (e _ (by decide) (by decide)), h10.cg (e _ (by decide) (by decide)), h11.cg (e _ (by decide) (by decide))⟩, k1, ?_, ?_⟩
  · rw [e0 _ (by decide)]; exact p0
  · rw [e0 _ (by decide)]; exact p1
  · exact vb_up1 _ _ _ _
  · rw [e0 _ (by decide)]; exact p3
  · rw [e0 _ (by decide)]; exact p4
  · rw [e0 _ (by decide)]; exact p5
  · rw [e0 _ (by decide)]; exact p6
  · rw [e0 _ (by decide)]; exact p7
  · rw [e0 _ (by decide)]; exact p8
  · rw [e0 _ (by decide)]; exact p9
  · rw [e0 _ (by decide)]; exact p10
  · rw [e0 _ (by decide)]; exact p11
  · rw [e0 _ (by decide)]; exact p12
  · rw [vb_up3 _ _ (by decide), vb_up1]; omega
  · rw [show 22 - (22 - L) = L by omega]; exact h3.cg (e _ (by omega) (by omega)) (e _ (by omega) (by omega))
/-- the land that was read -/
theorem pl_LD {L : Nat} {p : pl_S} {C : List Int32} {I : Nat → Nat → Int32} (hp : pl_ok p) (hC : C.length ≤ 700) (dP : pl_C L p C I) : vb_LD (pl_l p) L I := by
  obtain ⟨⟨q1, q2, q3, q4⟩, k1, k2, k3, k4, k5, k6, k7⟩ := dP
  obtain ⟨h1, h2, h3, h4, h5, h6, h7, h8, h9, h10, h11, h12⟩ := hp
  have hru : ∀ r, px_ht (pl_ru p r) 0 1 → pl_R C (I (L + 8)) (I (L + 9)) r (pl_ru p r) → vb_RD (I (L + 7)) (I (L + 8)) (I (L + 9)) r (px_f (pl_ru p r)) := fun r hh hr => by
    obtain ⟨st, e1, e2, e3, e4⟩ := hr
    exact px_RD hh e1 e2 (by omega) (fun j hj => by rw [k5.2 _ (by omega)]; exact e4 j hj)
  exact ⟨h1, q1, q4, k1, k2, k3, fun v _ => h5 v, fun h => hru 3 (h11 h) (k6 h), fun r hr => hru r (h12 r hr) (k7 r hr), by have e : vb_deg (pl_l p) (vb_n (pl_l p)) = 2 * pl_rc p := h8; rw [e]; omega, q3, h3, q2, h2⟩
section RDC
variable {G : mm_G} {d : Nat} {I : Nat → Nat → Int32} {P : Nat → Nat → Nat} {J : Nat → Nat → Int64} {S : List (Nat × Nat)} {nc ns : Nat} {μ : mm_M} {L : Nat} {b : Nat → Int32} {n : Nat}
theorem c_beginL {p : pl_S} (hX : vb_isX P S 29) (hL : vb_isL P S L) (hL17 : L = 5 ∨ L = 17) (hfs : ∀ j, j < 2 → I (L + 4) j = pl_fs p j) (hsc : I L 2 = vb_i (pl_sc p)) (hs3 : pl_sc p ≤ 3) : mm_C G d 30 [.ref 29, .ref L] (I, P, J, S, nc, ns) (vb_R none (fun I' => vb_XD (q_x0 p) 29 I' ∧ ∀ a, ¬ (29 ≤ a ∧ a < 35) → I' a = I a) P J S nc ns) := by
  have k62 : ∀ i, i ≤ 20 → ∀ (I1 : Nat → Nat → Int32), (∀ a, ¬ (29 ≤ a ∧ a < 35) → I1 a = I a) → (∀ j, j < 2 → I1 30 j = pl_fs p j ∧ I1 31 j = pl_fs p j ∧ I1 32 j = 0 ∧ I1 33 j = q_y0 (pl_sc p) j) → (∀ j, j < i → I1 34 j = 0) → mm_W G d 30 (mm_blk 30 62) [.ref 29, .ref L, .int (vb_i i)] [] (I1, P, J, S, nc, ns) (vb_R none (fun I' => vb_XD (q_x0 p) 29 I' ∧ ∀ a, ¬ (29 ≤ a ∧ a < 35) → I' a = I a) P J S nc ns) := by
    refine vb_down 20 ?_
    intro i hi ih I1 hf hx hbk
    refine mm_w1 rfl ?_
    refine mm_wv (vb_i 20) rfl (by decide) ?_
    refine mm_nicge (by omega) (by omega) ?_ ?_
    · intro h65
      refine mm_w1 rfl ?_
      refine mm_wv (vb_i 0) rfl (by decide) ?_
      refine mm_wpi (vX_S0 hX) (by decide) (by decide) ?_
      refine mm_wr rfl rfl rfl ?_
      refine ⟨_, ⟨⟨fun j hj => ?_, fun j hj => ?_, fun j hj => ?_, fun j hj => ?_, fun j hj => ?_, ?_, (show (0 : Nat) ≤ 2000 by decide)⟩, fun a ha => ?_⟩, rfl⟩
      · rw [vb_up3 _ _ (by decide)]; exact (hx j hj).1
      · rw [vb_up3 _ _ (by decide)]; exact (hx j hj).2.1
      · rw [vb_up3 _ _ (by decide)]; exact (hx j hj).2.2.1
      · rw [vb_up3 _ _ (by decide)]; exact (hx j hj).2.2.2
      · rw [vb_up3 _ _ (by decide)]; exact hbk j (by omega)
      · rw [vb_up1]; rfl
      · rw [vb_up3 _ _ (by omega)]; exact hf a ha
    · intro h65
      refine mm_w1 rfl ?_
      refine mm_wgr (vX_S0 hX) (by decide) (by decide) (vX_P0_4 hX) (vX_a5 hX) ?_
      refine mm_w1 rfl ?_
      refine mm_wv (vb_i 0) rfl (by decide) ?_
      refine mm_wisN (vX_S5 hX) (by decide) (by omega) ?_
      intro I2 hI2
      have _u := hI2
      refine mm_nincL (ls' := [_, _, _]) 1 rfl (by decide) rfl ?_
      refine mm_wgoto ?_
      refine ih (by omega) _ (fun a ha => by rw [hI2, vb_up3 _ _ (by omega)]; exact hf a ha) (fun j hj => by rw [hI2, vb_up3 _ _ (by decide), vb_up3 _ _ (by decide), vb_up3 _ _ (by decide), vb_up3 _ _ (by decide)]; exact hx j hj) (fun j hj => ?_)
      rw [hI2]
      by_cases e : j = i
      · rw [e, vb_up1]; rfl
      · rw [vb_up2 _ _ (by omega)]; exact hbk j (by omega)
  have k2 : ∀ i, i ≤ 2 → ∀ (I1 : Nat → Nat → Int32), (∀ a, ¬ (29 ≤ a ∧ a < 35) → I1 a = I a) → (∀ j, j < i → I1 30 j = pl_fs p j ∧ I1 31 j = pl_fs p j ∧ I1 32 j = 0 ∧ I1 33 j = q_y0 (pl_sc p) j) → mm_W G d 30 (mm_blk 30 2) [.ref 29, .ref L, .int (vb_i i)] [] (I1, P, J, S, nc, ns) (vb_R none (fun I' => vb_XD (q_x0 p) 29 I' ∧ ∀ a, ¬ (29 ≤ a ∧ a < 35) → I' a = I a) P J S nc ns) := by
    refine vb_down 2 ?_
    intro i hi ih I1 hf hx
    have hf1 := hf
    refine mm_w1 rfl ?_
    refine mm_wv (vb_i 2) rfl (by decide) ?_
    refine mm_nicge (by omega) (by omega) ?_ ?_
    · intro h4
      refine mm_wv (vb_i 0) rfl (by decide) ?_
      refine mm_w1 (ls' := [_, _, _]) rfl ?_
      exact k62 0 (by decide) _ hf1 (fun j hj => hx j (by omega)) (fun j h => absurd h (Nat.not_lt_zero j))
    · intro h4
      refine mm_w1 rfl ?_
      refine mm_wgr (vX_S0 hX) (by decide) (by decide) (vX_P0_0 hX) (vX_a1 hX) ?_
      refine mm_w1 rfl ?_
      refine mm_w1 rfl ?_
      refine mm_wgr (vL_S0 hL) (by decide) (by decide) (vL_P0_7 hL) (vL_a4 hL) ?_
      refine mm_w1 rfl ?_
      refine mm_wiav (pl_fs p i) (vL_a4 hL) (vL_S4 hL) (by decide) (by omega) (by rw [hf1 _ (by omega)]; exact hfs i (by omega)) ?_
      refine mm_wisN (vX_S1 hX) (by decide) (by omega) ?_
      intro I2 hI2
      have hf2 : ∀ a, ¬ (29 ≤ a ∧ a < 35) → I2 a = I a := fun a ha => by rw [hI2, vb_up3 _ _ (by omega)]; exact hf1 a ha
      refine mm_w1 rfl ?_
      refine mm_wgr (vX_S0 hX) (by decide) (by decide) (vX_P0_1 hX) (vX_a2 hX) ?_
      refine mm_w1 rfl ?_
      refine mm_w1 rfl ?_
      refine mm_wgr (vL_S0 hL) (by decide) (by decide) (vL_P0_7 hL) (vL_a4 hL) ?_
      refine mm_w1 rfl ?_
      refine mm_wiav (pl_fs p i) (vL_a4 hL) (vL_S4 hL) (by decide) (by omega) (by rw [hf2 _ (by omega)]; exact hfs i (by omega)) ?_
      refine mm_wisN (vX_S2 hX) (by decide) (by omega) ?_
      intro I3 hI3
      have hf3 : ∀ a, ¬ (29 ≤ a ∧ a < 35) → I3 a = I a := fun a ha => by rw [hI3, vb_up3 _ _ (by omega)]; exact hf2 a ha
      refine mm_w1 rfl ?_
      refine mm_wgr (vX_S0 hX) (by decide) (by decide) (vX_P0_2 hX) (vX_a3 hX) ?_
      refine mm_w1 rfl ?_
      refine mm_wv (vb_i 0) rfl (by decide) ?_
      refine mm_wisN (vX_S3 hX) (by decide) (by omega) ?_
      intro I4 hI4
      have hf4 : ∀ a, ¬ (29 ≤ a ∧ a < 35) → I4 a = I a := fun a ha => by rw [hI4, vb_up3 _ _ (by omega)]; exact hf3 a ha
      refine mm_w1 rfl ?_
      refine mm_wgr (vX_S0 hX) (by decide) (by decide) (vX_P0_3 hX) (vX_a4 hX) ?_
      refine mm_w1 rfl ?_
      refine mm_w1 rfl ?_
      refine mm_w1 rfl ?_
      refine mm_wgiv (vb_i (pl_sc p)) (vL_S0 hL) (by decide) (by decide) (by rw [hf4 _ (by omega)]; exact hsc) ?_
      refine mm_wv (vb_i 1) rfl (by decide) ?_
      refine mm_w1 rfl ?_
      refine mm_wv (q_y0 (pl_sc p) i) rfl (q_y0_min _ hs3 _ (by omega)) ?_ 
      refine mm_wisN (vX_S4 hX) (by decide) (by omega) ?_
      intro I5 hI5
      have hf5 : ∀ a, ¬ (29 ≤ a ∧ a < 35) → I5 a = I a := fun a ha => by rw [hI5, vb_up3 _ _ (by omega)]; exact hf4 a ha
      refine mm_nincL (ls' := [_, _, _]) 1 rfl (by decide) rfl ?_
      refine mm_wgoto ?_
      refine ih (by omega) _ hf5 (fun j hj => ?_)
      by_cases e : j = i
      · subst e
        refine ⟨?_, ?_, ?_, ?_⟩
        · rw [hI5, vb_up3 _ _ (by decide), hI4, vb_up3 _ _ (by decide), hI3, vb_up3 _ _ (by decide), hI2, vb_up1]
        · rw [hI5, vb_up3 _ _ (by decide), hI4, vb_up3 _ _ (by decide), hI3, vb_up1]
        · rw [hI5, vb_up3 _ _ (by decide), hI4, vb_up1]; rfl
        · rw [hI5, vb_up1]
      · have h := hx j (by omega)
        refine ⟨?_, ?_, ?_, ?_⟩
        · rw [hI5, vb_up3 _ _ (by decide), hI4, vb_up3 _ _ (by decide), hI3, vb_up3 _ _ (by decide), hI2, vb_up2 _ _ (by omega)]; exact h.1
        · rw [hI5, vb_up3 _ _ (by decide), hI4, vb_up3 _ _ (by decide), hI3, vb_up2 _ _ (by omega), hI2, vb_up3 _ _ (by decide)]; exact h.2.1
        · rw [hI5, vb_up3 _ _ (by decide), hI4, vb_up2 _ _ (by omega), hI3, vb_up3 _ _ (by decide), hI2, vb_up3 _ _ (by decide)]; exact h.2.2.1
        · rw [hI5, vb_up2 _ _ (by omega), hI4, vb_up3 _ _ (by decide), hI3, vb_up3 _ _ (by decide), hI2, vb_up3 _ _ (by decide)]; exact h.2.2.2
  show mm_W _ _ 30 (mm_blk 30 0) [.ref 29, .ref L, .null] [] _ _
  refine mm_wv (vb_i 0) rfl (by decide) ?_
  refine mm_w1 (ls' := [_, _, _]) rfl ?_
  exact k2 0 (by decide) _ (fun _ _ => rfl) (fun j h => absurd h (Nat.not_lt_zero j))
end RDC
