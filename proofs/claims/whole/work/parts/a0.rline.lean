section RDA
variable {G : mm_G} {d : Nat} {I : Nat → Nat → Int32} {P : Nat → Nat → Nat} {J : Nat → Nat → Int64} {S : List (Nat × Nat)} {nc ns : Nat} {μ : mm_M} {L : Nat} {b : Nat → Int32} {n : Nat}
theorem tx_N_le (b : Nat → Int32) (s : Nat) : s ≤ tx_N b s := Nat.le_trans (tx_E_le b s) (tx_E_N b s)
theorem ln_0q {F s s' : Nat} {p p' : pl_S} (hb : tx_ok b n) (hs : s ≤ n) (h : ln_0 b F p s = some (.inr (s', p'))) : s ≤ s' ∧ s' ≤ n := by
  have hv : ∀ its, ln_v b p its s = some (.inr (s', p')) → s ≤ s' ∧ s' ≤ n := fun its h => by
    rw [ln_v] at h
    split at h
    · split at h
      · cases h
      · split at h
        · cases h
        · cases h
          exact ⟨Nat.le_trans (tx_N_le b s) (Nat.le_trans (tx_N_le b _) (tx_N_le b _)), tx_N_n hb (tx_N_n hb (tx_N_n hb hs))⟩
    · cases h
  have he : ∀ (k : List (Nat × Int32) → pl_S), ln_e (px b F 0 0 (tx_N b s)) k = some (.inr (s', p')) → s ≤ s' ∧ s' ≤ n := fun k h => by
    cases e : px b F 0 0 (tx_N b s) with
    | none => rw [e] at h; cases h
    | some q =>
      rw [e] at h
      have := px_q hb F 0 0 _ _ (Or.inl (by decide)) (by decide) (tx_N_n hb hs) e
      cases q with
      | inl x => cases h
      | inr y => cases h; exact ⟨Nat.le_trans (tx_N_le b s) this.1, this.2.1⟩
  rw [ln_0] at h
  split at h
  · exact hv _ h
  · split at h
    · exact hv _ h
    · split at h
      · exact hv _ h
      · split at h
        · rw [ln_r] at h
          split at h
          · split at h
            · cases h
            · split at h
              · cases h
              · split at h
                · cases h
                · cases h
                  exact ⟨Nat.le_trans (tx_N_le b s) (Nat.le_trans (tx_N_le b _) (tx_N_le b _)), tx_N_n hb (tx_N_n hb (tx_N_n hb hs))⟩
          · cases h
        · split at h
          · split at h
            · cases h
            · exact he _ h
          · split at h
            · split at h
              · exact he _ h
              · cases h
            · cases h
theorem ln_q {F s s' : Nat} {p p' : pl_S} (hb : tx_ok b n) (hs : s ≤ n) (h : ln b F p s = some (.inr (s', p'))) : s < s' ∧ s' ≤ n := by
  rw [ln] at h
  split at h
  · cases h
  · cases h
  · rename_i s0 p0 e
    have h0 := ln_0q hb hs e
    split at h
    · rename_i hK
      cases h
      have := tx_N_lt hb (tx_lt hb h0.2 (by rw [hK]; decide))
      exact ⟨by omega, tx_N_n hb h0.2⟩
    · cases h
theorem c_rL {s F : Nat} {p : pl_S} {C : List Int32} {q : (Nat × Nat) ⊕ (Nat × pl_S)} (hR : vb_isR P S L) (hb : tx_ok b n) (hs : s < n) (dD : rd_D b n I) (hk : rd_tk b s I) (hp : pl_ok p) (hC : C.length ≤ s) (dP : pl_C L p C I) (h : ln b F p s = some q) (hd : 62 ≤ d) : mm_C G d 47 [.ref 3] (I, P, J, S, nc, ns) (vb_R (some (.int (vb_b (rl_is q)))) (fun I' => rd_fl L I I' ∧ rl_P b n L q I') P J S nc ns) := by
  have hL := vR_L hR
  have hL17 := vR_17 hR
  have hn7 := hb.1
  have hn10 := hp.1
  have hrc18 := hp.2.1
  have hsc3 := hp.2.2.1
  have hx0 : rd_fl L I I := .rf
  have h60 := hk.2.2.1
  have hk0 := hk
  have dD0 := dD
  have dP0 := dP
  have hn0 := dP.1.1
  have hr0 := dP.1.2.1
  have hs0 := dP.1.2.2.1
  have ht0 := dP.1.2.2.2
  have hN := tx_N_n hb (Nat.le_of_lt hs)
  have hNlt := tx_N_lt hb hs
  have hN2 := tx_N_n hb hN
  have hN3 := tx_N_n hb hN2
  have hK1 := tx_K_le b (tx_N b s)
  have hK2 := tx_K_le b (tx_N b (tx_N b s))
  have k156 : ∀ (q0 : (Nat × Nat) ⊕ (Nat × pl_S)), ln_0 b F p s = some q0 → ∀ (I1 : Nat → Nat → Int32), rd_fl L I I1 → rl_P b n L q0 I1 → mm_W G d 47 (mm_blk 47 156) [.ref 3, .int (vb_b (rl_is q0))] [] (I1, P, J, S, nc, ns) (vb_R (some (.int (vb_b (rl_is q)))) (fun I' => rd_fl L I I' ∧ rl_P b n L q I') P J S nc ns) := by
    intro q0 e0 I1 hx1 hP1
    rw [ln, e0] at h
    cases q0 with
    | inl x =>
      cases h
      refine mm_w1 rfl ?_
      refine mm_bifeq ?_ ?_
      · intro h157
        refine mm_w1 rfl ?_
        refine mm_bifeq ?_ ?_
        · intro h176
          refine mm_w1 rfl ?_
          refine mm_wrb rfl ?_
          exact ⟨_, ⟨hx1, hP1⟩, rfl⟩
        · intro h176
          cases h176
      · intro h157
        cases h157
    | inr y =>
      obtain ⟨s1, p1⟩ := y
      obtain ⟨dD1, hk1, hs1, hp1, C1, hC1, dP1⟩ := hP1
      have h61 := hk1.2.2.1
      have hK1 := tx_K_le b s1
      have hN1 := tx_N_n hb hs1
      have hn1 := dP1.1.1
      have hle1 := tx_N_le b s1
      simp only at h
      refine mm_w1 rfl ?_
      refine mm_bifeq ?_ ?_
      · intro h157
        cases h157
      · intro h157
        refine mm_w1 rfl ?_
        refine mm_wgiv _ (vR_S3 hR) (by decide) (by decide) h61 ?_
        refine mm_wv (vb_i 59) rfl (by decide) ?_
        refine mm_niceq (by omega) (by omega) ?_ ?_
        · intro h166
          refine mm_w1 rfl ?_
          first
            | (refine mm_bifeq (fun h => by cases h) (fun _ => ?_)
               rw [if_pos (by omega)] at h
               cases h
               refine mm_w1 rfl ?_
               refine mm_cvn (vb_cv (vR_S3 hR) rfl rfl rfl rfl) (by decide) (by omega) (c_next hR dD1 hb (tx_E_n hb hs1) hk1.2.1 (by omega)) ?_
               intro I2 hq2
               obtain ⟨hkS2, hf32⟩ := hq2
               have hg2 := rd_g3.of3 hf32
               refine mm_w1 rfl ?_
               refine mm_wrb rfl ?_
               exact ⟨_, ⟨hx1.tr (.ofg hg2), dD1.g3 hg2, hkS2, hN1, hp1, C1, by omega, dP1.g3 hg2 (by omega)⟩, rfl⟩)
            | (refine mm_bifeq (fun _ => ?_) (fun h => by cases h)
               rw [if_neg (by omega)] at h
               cases h
               refine mm_w1 rfl ?_
               refine mm_wrb rfl ?_
               exact ⟨_, ⟨hx1, hw1, hp1⟩, rfl⟩) 
        · intro h166
          refine mm_w1 rfl ?_
          refine mm_wv (vb_i 1) rfl (by decide) ?_
          refine mm_cvi (vb_cv (vR_S3 hR) rfl rfl rfl rfl) (by decide) (by omega) (c_refuse hR) ?_
          intro I2 hI2
          have hx2 : rd_fl L I I2 := hx1.tr (.ofg (.ofr hI2))
          have hw2 := (congrFun (congrFun hI2 3) 3).trans (vb_up1 _ _ _ _)
          have hp2 := (congrFun (congrFun hI2 3) 4).trans ((vb_up2 _ _ (by decide)).trans hk1.1)
          refine mm_w1 (ls' := [_, _]) rfl ?_
          refine mm_w1 rfl ?_
          first
            | (refine mm_bifeq (fun h => by cases h) (fun _ => ?_)
               rw [if_pos (by omega)] at h
               cases h
               refine mm_w1 rfl ?_
               refine mm_cvn (vb_cv (vR_S3 hR) rfl rfl rfl rfl) (by decide) (by omega) (c_next hR dD1 hb (tx_E_n hb hs1) hk1.2.1 (by omega)) ?_
               intro I2 hq2
               obtain ⟨hkS2, hf32⟩ := hq2
               have hg2 := rd_g3.of3 hf32
               refine mm_w1 rfl ?_
               refine mm_wrb rfl ?_
               exact ⟨_, ⟨hx1.tr (.ofg hg2), dD1.g3 hg2, hkS2, hN1, hp1, C1, by omega, dP1.g3 hg2 (by omega)⟩, rfl⟩)
            | (refine mm_bifeq (fun _ => ?_) (fun h => by cases h)
               rw [if_neg (by omega)] at h
               cases h
               refine mm_w1 rfl ?_
               refine mm_wrb rfl ?_
               exact ⟨_, ⟨hx2, hw2, hp2⟩, rfl⟩) 
  have hd60 : 60 ≤ d - 1 := by omega
  by_cases hw : tx_w b s = 8
  · have e0 : ln_0 b F p s = ln_v b p 0 s := by rw [ln_0, if_pos hw]
    obtain ⟨q0, hq0⟩ : ∃ q0, ln_0 b F p s = some q0 := by
      cases e : ln_0 b F p s with
      | none => rw [ln, e] at h; cases h
      | some q0 => exact ⟨q0, rfl⟩
    show mm_W _ _ 47 (mm_blk 47 0) [.ref 3, .null] [] _ _
    refine mm_w1 rfl ?_
    refine mm_w1 rfl ?_
    refine mm_cvp (vb_cv (vR_S3 hR) rfl rfl rfl rfl) (by decide) (by omega) (c_isWord hR dD0 hb (by omega) hk0 (by decide)) ?_
    refine mm_bifeq ?_ ?_
    · intro h6
      exact absurd hw (of_decide_eq_false h6)
    · intro h6
      refine mm_w1 rfl ?_
      refine mm_wv (vb_i 0) rfl (by decide) ?_
      refine mm_cvi (vb_cv (vR_S3 hR) rfl rfl rfl rfl) (by decide) (by omega) (c_rV (its := 0) hR hb hs dD hk hp hC dP (by decide) (e0.symm.trans hq0) (by omega)) ?_
      intro I1 hq1
      obtain ⟨hx1, hP1⟩ := hq1
      refine mm_w1 (ls' := [_, _]) rfl ?_
      refine mm_wgoto ?_
      exact k156 q0 hq0 _ hx1 hP1
  have h8x := hw
  by_cases hw : tx_w b s = 9
  · have e0 : ln_0 b F p s = ln_v b p 1 s := by rw [ln_0, if_neg h8x, if_pos hw]
    obtain ⟨q0, hq0⟩ : ∃ q0, ln_0 b F p s = some q0 := by
      cases e : ln_0 b F p s with
      | none => rw [ln, e] at h; cases h
      | some q0 => exact ⟨q0, rfl⟩
    show mm_W _ _ 47 (mm_blk 47 0) [.ref 3, .null] [] _ _
    refine mm_w1 rfl ?_
    refine mm_w1 rfl ?_
    refine mm_cvp (vb_cv (vR_S3 hR) rfl rfl rfl rfl) (by decide) (by omega) (c_isWord hR dD0 hb (by omega) hk0 (by decide)) ?_
    refine mm_bifeq ?_ ?_
    · intro h6
      refine mm_w1 rfl ?_
      refine mm_w1 rfl ?_
      refine mm_cvp (vb_cv (vR_S3 hR) rfl rfl rfl rfl) (by decide) (by omega) (c_isWord hR dD0 hb (by omega) hk0 (by decide)) ?_
      refine mm_bifeq ?_ ?_
      · intro h24
        exact absurd hw (of_decide_eq_false h24)
      · intro h24
        refine mm_w1 rfl ?_
        refine mm_wv (vb_i 1) rfl (by decide) ?_
        refine mm_cvi (vb_cv (vR_S3 hR) rfl rfl rfl rfl) (by decide) (by omega) (c_rV (its := 1) hR hb hs dD hk hp hC dP (by decide) (e0.symm.trans hq0) (by omega)) ?_
        intro I1 hq1
        obtain ⟨hx1, hP1⟩ := hq1
        refine mm_w1 (ls' := [_, _]) rfl ?_
        refine mm_wgoto ?_
        exact k156 q0 hq0 _ hx1 hP1
    · intro h6
      exact absurd ((of_decide_eq_true h6 : tx_w b s = 8).symm.trans hw) (by decide)
  have h9x := hw
  by_cases hw : tx_w b s = 10
  · have e0 : ln_0 b F p s = ln_v b p 2 s := by rw [ln_0, if_neg h8x, if_neg h9x, if_pos hw]
    obtain ⟨q0, hq0⟩ : ∃ q0, ln_0 b F p s = some q0 := by
      cases e : ln_0 b F p s with
      | none => rw [ln, e] at h; cases h
      | some q0 => exact ⟨q0, rfl⟩
    show mm_W _ _ 47 (mm_blk 47 0) [.ref 3, .null] [] _ _
    refine mm_w1 rfl ?_
    refine mm_w1 rfl ?_
    refine mm_cvp (vb_cv (vR_S3 hR) rfl rfl rfl rfl) (by decide) (by omega) (c_isWord hR dD0 hb (by omega) hk0 (by decide)) ?_
    refine mm_bifeq ?_ ?_
    · intro h6
      refine mm_w1 rfl ?_
      refine mm_w1 rfl ?_
      refine mm_cvp (vb_cv (vR_S3 hR) rfl rfl rfl rfl) (by decide) (by omega) (c_isWord hR dD0 hb (by omega) hk0 (by decide)) ?_
      refine mm_bifeq ?_ ?_
      · intro h24
        refine mm_w1 rfl ?_
        refine mm_w1 rfl ?_
        refine mm_cvp (vb_cv (vR_S3 hR) rfl rfl rfl rfl) (by decide) (by omega) (c_isWord hR dD0 hb (by omega) hk0 (by decide)) ?_
        refine mm_bifeq ?_ ?_
        · intro h42
          exact absurd hw (of_decide_eq_false h42)
        · intro h42
          refine mm_w1 rfl ?_
          refine mm_wv (vb_i 2) rfl (by decide) ?_
          refine mm_cvi (vb_cv (vR_S3 hR) rfl rfl rfl rfl) (by decide) (by omega) (c_rV (its := 2) hR hb hs dD hk hp hC dP (by decide) (e0.symm.trans hq0) (by omega)) ?_
          intro I1 hq1
          obtain ⟨hx1, hP1⟩ := hq1
          refine mm_w1 (ls' := [_, _]) rfl ?_
          refine mm_wgoto ?_
          exact k156 q0 hq0 _ hx1 hP1
      · intro h24
        exact absurd ((of_decide_eq_true h24 : tx_w b s = 9).symm.trans hw) (by decide)
    · intro h6
      exact absurd ((of_decide_eq_true h6 : tx_w b s = 8).symm.trans hw) (by decide)
  have h10x := hw
  by_cases hw : tx_w b s = 11
  · have e0 : ln_0 b F p s = ln_r b p s := by rw [ln_0, if_neg h8x, if_neg h9x, if_neg h10x, if_pos hw]
    obtain ⟨q0, hq0⟩ : ∃ q0, ln_0 b F p s = some q0 := by
      cases e : ln_0 b F p s with
      | none => rw [ln, e] at h; cases h
      | some q0 => exact ⟨q0, rfl⟩
    show mm_W _ _ 47 (mm_blk 47 0) [.ref 3, .null] [] _ _
    refine mm_w1 rfl ?_
    refine mm_w1 rfl ?_
    refine mm_cvp (vb_cv (vR_S3 hR) rfl rfl rfl rfl) (by decide) (by omega) (c_isWord hR dD0 hb (by omega) hk0 (by decide)) ?_
    refine mm_bifeq ?_ ?_
    · intro h6
      refine mm_w1 rfl ?_
      refine mm_w1 rfl ?_
      refine mm_cvp (vb_cv (vR_S3 hR) rfl rfl rfl rfl) (by decide) (by omega) (c_isWord hR dD0 hb (by omega) hk0 (by decide)) ?_
      refine mm_bifeq ?_ ?_
      · intro h24
        refine mm_w1 rfl ?_
        refine mm_w1 rfl ?_
        refine mm_cvp (vb_cv (vR_S3 hR) rfl rfl rfl rfl) (by decide) (by omega) (c_isWord hR dD0 hb (by omega) hk0 (by decide)) ?_
        refine mm_bifeq ?_ ?_
        · intro h42
          refine mm_w1 rfl ?_
          refine mm_w1 rfl ?_
          refine mm_cvp (vb_cv (vR_S3 hR) rfl rfl rfl rfl) (by decide) (by omega) (c_isWord hR dD0 hb (by omega) hk0 (by decide)) ?_
          refine mm_bifeq ?_ ?_
          · intro h60
            exact absurd hw (of_decide_eq_false h60)
          · intro h60
            refine mm_w1 rfl ?_
            refine mm_cvi (vb_cv (vR_S3 hR) rfl rfl rfl rfl) (by decide) (by omega) (c_rR hR hb hs dD hk hp hC dP (e0.symm.trans hq0) (by omega)) ?_
            intro I1 hq1
            obtain ⟨hx1, hP1⟩ := hq1
            refine mm_w1 (ls' := [_, _]) rfl ?_
            refine mm_wgoto ?_
            exact k156 q0 hq0 _ hx1 hP1
        · intro h42
          exact absurd ((of_decide_eq_true h42 : tx_w b s = 10).symm.trans hw) (by decide)
      · intro h24
        exact absurd ((of_decide_eq_true h24 : tx_w b s = 9).symm.trans hw) (by decide)
    · intro h6
      exact absurd ((of_decide_eq_true h6 : tx_w b s = 8).symm.trans hw) (by decide)
  have h11x := hw
  by_cases hw : tx_w b s = 5
  · by_cases hh : pl_ht p = true
    · have e0 : ln_0 b F p s = some (.inl (5, s)) := by rw [ln_0, if_neg h8x, if_neg h9x, if_neg h10x, if_neg h11x, if_pos hw, if_pos hh]
      show mm_W _ _ 47 (mm_blk 47 0) [.ref 3, .null] [] _ _
      refine mm_w1 rfl ?_
      refine mm_w1 rfl ?_
      refine mm_cvp (vb_cv (vR_S3 hR) rfl rfl rfl rfl) (by decide) (by omega) (c_isWord hR dD0 hb (by omega) hk0 (by decide)) ?_
      refine mm_bifeq ?_ ?_
      · intro h6
        refine mm_w1 rfl ?_
        refine mm_w1 rfl ?_
        refine mm_cvp (vb_cv (vR_S3 hR) rfl rfl rfl rfl) (by decide) (by omega) (c_isWord hR dD0 hb (by omega) hk0 (by decide)) ?_
        refine mm_bifeq ?_ ?_
        · intro h24
          refine mm_w1 rfl ?_
          refine mm_w1 rfl ?_
          refine mm_cvp (vb_cv (vR_S3 hR) rfl rfl rfl rfl) (by decide) (by omega) (c_isWord hR dD0 hb (by omega) hk0 (by decide)) ?_
          refine mm_bifeq ?_ ?_
          · intro h42
            refine mm_w1 rfl ?_
            refine mm_w1 rfl ?_
            refine mm_cvp (vb_cv (vR_S3 hR) rfl rfl rfl rfl) (by decide) (by omega) (c_isWord hR dD0 hb (by omega) hk0 (by decide)) ?_
            refine mm_bifeq ?_ ?_
            · intro h60
              refine mm_w1 rfl ?_
              refine mm_w1 rfl ?_
              refine mm_cvp (vb_cv (vR_S3 hR) rfl rfl rfl rfl) (by decide) (by omega) (c_isWord hR dD0 hb (by omega) hk0 (by decide)) ?_
              refine mm_bifeq ?_ ?_
              · intro h77
                exact absurd hw (of_decide_eq_false h77)
              · intro h77
                refine mm_w1 rfl ?_
                refine mm_wgr (vR_S3 hR) (by decide) (by decide) (vR_P3_2 hR) (vL_a0 hL) ?_
                refine mm_wgiv _ (vL_S0 hL) (by decide) (by decide) ht0 ?_
                refine mm_bifeq ?_ ?_
                · intro h87
                  rw [hh] at h87; cases h87
                · intro h87
                  refine mm_w1 rfl ?_
                  refine mm_wv (vb_i 5) rfl (by decide) ?_
                  refine mm_cvi (vb_cv (vR_S3 hR) rfl rfl rfl rfl) (by decide) (by omega) (c_refuse hR) ?_
                  intro I1 hI1
                  have hx1 : rd_fl L I I1 := hx0.tr (.ofg (.ofr hI1))
                  have hw1 := (congrFun (congrFun hI1 3) 3).trans (vb_up1 _ _ _ _)
                  have hp1 := (congrFun (congrFun hI1 3) 4).trans ((vb_up2 _ _ (by decide)).trans hk0.1)
                  refine mm_wgoto ?_
                  refine mm_w1 (ls' := [_, _]) rfl ?_
                  refine mm_wgoto ?_
                  exact k156 _ e0 _ hx1 ⟨hw1, hp1⟩
            · intro h60
              exact absurd ((of_decide_eq_true h60 : tx_w b s = 11).symm.trans hw) (by decide)
          · intro h42
            exact absurd ((of_decide_eq_true h42 : tx_w b s = 10).symm.trans hw) (by decide)
        · intro h24
          exact absurd ((of_decide_eq_true h24 : tx_w b s = 9).symm.trans hw) (by decide)
      · intro h6
        exact absurd ((of_decide_eq_true h6 : tx_w b s = 8).symm.trans hw) (by decide)
    · have e0 : ln_0 b F p s = ln_e (px b F 0 0 (tx_N b s)) (pl_addT p) := by rw [ln_0, if_neg h8x, if_neg h9x, if_neg h10x, if_neg h11x, if_pos hw, if_neg hh]
      obtain ⟨q0, hq0⟩ : ∃ q0, ln_0 b F p s = some q0 := by
        cases e : ln_0 b F p s with
        | none => rw [ln, e] at h; cases h
        | some q0 => exact ⟨q0, rfl⟩
      show mm_W _ _ 47 (mm_blk 47 0) [.ref 3, .null] [] _ _
      refine mm_w1 rfl ?_
      refine mm_w1 rfl ?_
      refine mm_cvp (vb_cv (vR_S3 hR) rfl rfl rfl rfl) (by decide) (by omega) (c_isWord hR dD0 hb (by omega) hk0 (by decide)) ?_
      refine mm_bifeq ?_ ?_
      · intro h6
        refine mm_w1 rfl ?_
        refine mm_w1 rfl ?_
        refine mm_cvp (vb_cv (vR_S3 hR) rfl rfl rfl rfl) (by decide) (by omega) (c_isWord hR dD0 hb (by omega) hk0 (by decide)) ?_
        refine mm_bifeq ?_ ?_
        · intro h24
          refine mm_w1 rfl ?_
          refine mm_w1 rfl ?_
          refine mm_cvp (vb_cv (vR_S3 hR) rfl rfl rfl rfl) (by decide) (by omega) (c_isWord hR dD0 hb (by omega) hk0 (by decide)) ?_
          refine mm_bifeq ?_ ?_
          · intro h42
            refine mm_w1 rfl ?_
            refine mm_w1 rfl ?_
            refine mm_cvp (vb_cv (vR_S3 hR) rfl rfl rfl rfl) (by decide) (by omega) (c_isWord hR dD0 hb (by omega) hk0 (by decide)) ?_
            refine mm_bifeq ?_ ?_
            · intro h60
              refine mm_w1 rfl ?_
              refine mm_w1 rfl ?_
              refine mm_cvp (vb_cv (vR_S3 hR) rfl rfl rfl rfl) (by decide) (by omega) (c_isWord hR dD0 hb (by omega) hk0 (by decide)) ?_
              refine mm_bifeq ?_ ?_
              · intro h77
                exact absurd hw (of_decide_eq_false h77)
              · intro h77
                refine mm_w1 rfl ?_
                refine mm_wgr (vR_S3 hR) (by decide) (by decide) (vR_P3_2 hR) (vL_a0 hL) ?_
                refine mm_wgiv _ (vL_S0 hL) (by decide) (by decide) ht0 ?_
                refine mm_bifeq ?_ ?_
                · intro h87
                  refine mm_w1 rfl ?_
                  refine mm_wv (vb_i 3) rfl (by decide) ?_
                  refine mm_cvi (vb_cv (vR_S3 hR) rfl rfl rfl rfl) (by decide) (by omega) (c_rT hR hb hs dD hk hp hC dP (e0.symm.trans hq0) (by omega)) ?_
                  intro I1 hq1
                  obtain ⟨hx1, hP1⟩ := hq1
                  refine mm_w1 (ls' := [_, _]) rfl ?_
                  refine mm_wgoto ?_
                  exact k156 q0 hq0 _ hx1 hP1
                · intro h87
                  exact absurd h87 hh
            · intro h60
              exact absurd ((of_decide_eq_true h60 : tx_w b s = 11).symm.trans hw) (by decide)
          · intro h42
            exact absurd ((of_decide_eq_true h42 : tx_w b s = 10).symm.trans hw) (by decide)
        · intro h24
          exact absurd ((of_decide_eq_true h24 : tx_w b s = 9).symm.trans hw) (by decide)
      · intro h6
        exact absurd ((of_decide_eq_true h6 : tx_w b s = 8).symm.trans hw) (by decide)
  have h5x := hw
  by_cases hw : tx_w b s = 12
  · by_cases hh : pl_sc p < 3
    · have e0 : ln_0 b F p s = ln_e (px b F 0 0 (tx_N b s)) (pl_addS p) := by rw [ln_0, if_neg h8x, if_neg h9x, if_neg h10x, if_neg h11x, if_neg h5x, if_pos hw, if_pos hh]
      obtain ⟨q0, hq0⟩ : ∃ q0, ln_0 b F p s = some q0 := by
        cases e : ln_0 b F p s with
        | none => rw [ln, e] at h; cases h
        | some q0 => exact ⟨q0, rfl⟩
      show mm_W _ _ 47 (mm_blk 47 0) [.ref 3, .null] [] _ _
      refine mm_w1 rfl ?_
      refine mm_w1 rfl ?_
      refine mm_cvp (vb_cv (vR_S3 hR) rfl rfl rfl rfl) (by decide) (by omega) (c_isWord hR dD0 hb (by omega) hk0 (by decide)) ?_
      refine mm_bifeq ?_ ?_
      · intro h6
        refine mm_w1 rfl ?_
        refine mm_w1 rfl ?_
        refine mm_cvp (vb_cv (vR_S3 hR) rfl rfl rfl rfl) (by decide) (by omega) (c_isWord hR dD0 hb (by omega) hk0 (by decide)) ?_
        refine mm_bifeq ?_ ?_
        · intro h24
          refine mm_w1 rfl ?_
          refine mm_w1 rfl ?_
          refine mm_cvp (vb_cv (vR_S3 hR) rfl rfl rfl rfl) (by decide) (by omega) (c_isWord hR dD0 hb (by omega) hk0 (by decide)) ?_
          refine mm_bifeq ?_ ?_
          · intro h42
            refine mm_w1 rfl ?_
            refine mm_w1 rfl ?_
            refine mm_cvp (vb_cv (vR_S3 hR) rfl rfl rfl rfl) (by decide) (by omega) (c_isWord hR dD0 hb (by omega) hk0 (by decide)) ?_
            refine mm_bifeq ?_ ?_
            · intro h60
              refine mm_w1 rfl ?_
              refine mm_w1 rfl ?_
              refine mm_cvp (vb_cv (vR_S3 hR) rfl rfl rfl rfl) (by decide) (by omega) (c_isWord hR dD0 hb (by omega) hk0 (by decide)) ?_
              refine mm_bifeq ?_ ?_
              · intro h77
                refine mm_w1 rfl ?_
                refine mm_w1 rfl ?_
                refine mm_cvp (vb_cv (vR_S3 hR) rfl rfl rfl rfl) (by decide) (by omega) (c_isWord hR dD0 hb (by omega) hk0 (by decide)) ?_
                refine mm_bifeq ?_ ?_
                · intro h113
                  exact absurd hw (of_decide_eq_false h113)
                · intro h113
                  refine mm_w1 rfl ?_
                  refine mm_wgr (vR_S3 hR) (by decide) (by decide) (vR_P3_2 hR) (vL_a0 hL) ?_
                  refine mm_wgiv _ (vL_S0 hL) (by decide) (by decide) hs0 ?_
                  refine mm_wv (vb_i 3) rfl (by decide) ?_
                  refine mm_nicge (by omega) (by omega) ?_ ?_
                  · intro h124
                    omega
                  · intro h124
                    refine mm_w1 rfl ?_
                    refine mm_w1 rfl ?_
                    refine mm_wgr (vR_S3 hR) (by decide) (by decide) (vR_P3_2 hR) (vL_a0 hL) ?_
                    refine mm_wgiv _ (vL_S0 hL) (by decide) (by decide) hs0 ?_
                    refine mm_cvi (vb_cv (vR_S3 hR) rfl rfl rfl rfl) (by decide) (by omega) (c_rS hR hb hs dD hk hp hC dP (e0.symm.trans hq0) hh (by omega)) ?_
                    intro I1 hq1
                    obtain ⟨hx1, hP1⟩ := hq1
                    refine mm_wgoto ?_
                    refine mm_w1 (ls' := [_, _]) rfl ?_
                    refine mm_wgoto ?_
                    exact k156 q0 hq0 _ hx1 hP1
              · intro h77
                exact absurd ((of_decide_eq_true h77 : tx_w b s = 5).symm.trans hw) (by decide)
            · intro h60
              exact absurd ((of_decide_eq_true h60 : tx_w b s = 11).symm.trans hw) (by decide)
          · intro h42
            exact absurd ((of_decide_eq_true h42 : tx_w b s = 10).symm.trans hw) (by decide)
        · intro h24
          exact absurd ((of_decide_eq_true h24 : tx_w b s = 9).symm.trans hw) (by decide)
      · intro h6
        exact absurd ((of_decide_eq_true h6 : tx_w b s = 8).symm.trans hw) (by decide)
    · have e0 : ln_0 b F p s = some (.inl (2, s)) := by rw [ln_0, if_neg h8x, if_neg h9x, if_neg h10x, if_neg h11x, if_neg h5x, if_pos hw, if_neg hh]
      show mm_W _ _ 47 (mm_blk 47 0) [.ref 3, .null] [] _ _
      refine mm_w1 rfl ?_
      refine mm_w1 rfl ?_
      refine mm_cvp (vb_cv (vR_S3 hR) rfl rfl rfl rfl) (by decide) (by omega) (c_isWord hR dD0 hb (by omega) hk0 (by decide)) ?_
      refine mm_bifeq ?_ ?_
      · intro h6
        refine mm_w1 rfl ?_
        refine mm_w1 rfl ?_
        refine mm_cvp (vb_cv (vR_S3 hR) rfl rfl rfl rfl) (by decide) (by omega) (c_isWord hR dD0 hb (by omega) hk0 (by decide)) ?_
        refine mm_bifeq ?_ ?_
        · intro h24
          refine mm_w1 rfl ?_
          refine mm_w1 rfl ?_
          refine mm_cvp (vb_cv (vR_S3 hR) rfl rfl rfl rfl) (by decide) (by omega) (c_isWord hR dD0 hb (by omega) hk0 (by decide)) ?_
          refine mm_bifeq ?_ ?_
          · intro h42
            refine mm_w1 rfl ?_
            refine mm_w1 rfl ?_
            refine mm_cvp (vb_cv (vR_S3 hR) rfl rfl rfl rfl) (by decide) (by omega) (c_isWord hR dD0 hb (by omega) hk0 (by decide)) ?_
            refine mm_bifeq ?_ ?_
            · intro h60
              refine mm_w1 rfl ?_
              refine mm_w1 rfl ?_
              refine mm_cvp (vb_cv (vR_S3 hR) rfl rfl rfl rfl) (by decide) (by omega) (c_isWord hR dD0 hb (by omega) hk0 (by decide)) ?_
              refine mm_bifeq ?_ ?_
              · intro h77
                refine mm_w1 rfl ?_
                refine mm_w1 rfl ?_
                refine mm_cvp (vb_cv (vR_S3 hR) rfl rfl rfl rfl) (by decide) (by omega) (c_isWord hR dD0 hb (by omega) hk0 (by decide)) ?_
                refine mm_bifeq ?_ ?_
                · intro h113
                  exact absurd hw (of_decide_eq_false h113)
                · intro h113
                  refine mm_w1 rfl ?_
                  refine mm_wgr (vR_S3 hR) (by decide) (by decide) (vR_P3_2 hR) (vL_a0 hL) ?_
                  refine mm_wgiv _ (vL_S0 hL) (by decide) (by decide) hs0 ?_
                  refine mm_wv (vb_i 3) rfl (by decide) ?_
                  refine mm_nicge (by omega) (by omega) ?_ ?_
                  · intro h124
                    refine mm_w1 rfl ?_
                    refine mm_wv (vb_i 2) rfl (by decide) ?_
                    refine mm_cvi (vb_cv (vR_S3 hR) rfl rfl rfl rfl) (by decide) (by omega) (c_refuse hR) ?_
                    intro I1 hI1
                    have hx1 : rd_fl L I I1 := hx0.tr (.ofg (.ofr hI1))
                    have hw1 := (congrFun (congrFun hI1 3) 3).trans (vb_up1 _ _ _ _)
                    have hp1 := (congrFun (congrFun hI1 3) 4).trans ((vb_up2 _ _ (by decide)).trans hk0.1)
                    refine mm_w1 (ls' := [_, _]) rfl ?_
                    refine mm_wgoto ?_
                    exact k156 _ e0 _ hx1 ⟨hw1, hp1⟩
                  · intro h124
                    omega
              · intro h77
                exact absurd ((of_decide_eq_true h77 : tx_w b s = 5).symm.trans hw) (by decide)
            · intro h60
              exact absurd ((of_decide_eq_true h60 : tx_w b s = 11).symm.trans hw) (by decide)
          · intro h42
            exact absurd ((of_decide_eq_true h42 : tx_w b s = 10).symm.trans hw) (by decide)
        · intro h24
          exact absurd ((of_decide_eq_true h24 : tx_w b s = 9).symm.trans hw) (by decide)
      · intro h6
        exact absurd ((of_decide_eq_true h6 : tx_w b s = 8).symm.trans hw) (by decide)
  have h12x := hw
  have e0 : ln_0 b F p s = some (.inl (1, s)) := by rw [ln_0, if_neg h8x, if_neg h9x, if_neg h10x, if_neg h11x, if_neg h5x, if_neg h12x]
  show mm_W _ _ 47 (mm_blk 47 0) [.ref 3, .null] [] _ _
  refine mm_w1 rfl ?_
  refine mm_w1 rfl ?_
  refine mm_cvp (vb_cv (vR_S3 hR) rfl rfl rfl rfl) (by decide) (by omega) (c_isWord hR dD0 hb (by omega) hk0 (by decide)) ?_
  refine mm_bifeq ?_ ?_
  · intro h6
    refine mm_w1 rfl ?_
    refine mm_w1 rfl ?_
    refine mm_cvp (vb_cv (vR_S3 hR) rfl rfl rfl rfl) (by decide) (by omega) (c_isWord hR dD0 hb (by omega) hk0 (by decide)) ?_
    refine mm_bifeq ?_ ?_
    · intro h24
      refine mm_w1 rfl ?_
      refine mm_w1 rfl ?_
      refine mm_cvp (vb_cv (vR_S3 hR) rfl rfl rfl rfl) (by decide) (by omega) (c_isWord hR dD0 hb (by omega) hk0 (by decide)) ?_
      refine mm_bifeq ?_ ?_
      · intro h42
        refine mm_w1 rfl ?_
        refine mm_w1 rfl ?_
        refine mm_cvp (vb_cv (vR_S3 hR) rfl rfl rfl rfl) (by decide) (by omega) (c_isWord hR dD0 hb (by omega) hk0 (by decide)) ?_
        refine mm_bifeq ?_ ?_
        · intro h60
          refine mm_w1 rfl ?_
          refine mm_w1 rfl ?_
          refine mm_cvp (vb_cv (vR_S3 hR) rfl rfl rfl rfl) (by decide) (by omega) (c_isWord hR dD0 hb (by omega) hk0 (by decide)) ?_
          refine mm_bifeq ?_ ?_
          · intro h77
            refine mm_w1 rfl ?_
            refine mm_w1 rfl ?_
            refine mm_cvp (vb_cv (vR_S3 hR) rfl rfl rfl rfl) (by decide) (by omega) (c_isWord hR dD0 hb (by omega) hk0 (by decide)) ?_
            refine mm_bifeq ?_ ?_
            · intro h113
              refine mm_w1 rfl ?_
              refine mm_wv (vb_i 1) rfl (by decide) ?_
              refine mm_cvi (vb_cv (vR_S3 hR) rfl rfl rfl rfl) (by decide) (by omega) (c_refuse hR) ?_
              intro I1 hI1
              have hx1 : rd_fl L I I1 := hx0.tr (.ofg (.ofr hI1))
              have hw1 := (congrFun (congrFun hI1 3) 3).trans (vb_up1 _ _ _ _)
              have hp1 := (congrFun (congrFun hI1 3) 4).trans ((vb_up2 _ _ (by decide)).trans hk0.1)
              refine mm_w1 (ls' := [_, _]) rfl ?_
              exact k156 _ e0 _ hx1 ⟨hw1, hp1⟩
            · intro h113
              exact absurd (of_decide_eq_true h113) h12x
          · intro h77
            exact absurd (of_decide_eq_true h77) h5x
        · intro h60
          exact absurd (of_decide_eq_true h60) h11x
      · intro h42
        exact absurd (of_decide_eq_true h42) h10x
    · intro h24
      exact absurd (of_decide_eq_true h24) h9x
  · intro h6
    exact absurd (of_decide_eq_true h6) h8x
end RDA
