section NGO
variable {G : mm_G} {d : Nat} {I : Nat → Nat → Int32} {P : Nat → Nat → Nat} {J : Nat → Nat → Int64} {S : List (Nat × Nat)} {nc ns : Nat} {μ : mm_M} {b : Nat → Int32} {n : Nat}
theorem nt_so_sg {c : Int32} (h : c = 59 ∨ c = 40 ∨ c = 41 ∨ c = 43 ∨ c = 45 ∨ c = 42 ∨ c = 47 ∨ c = 60 ∨ c = 61) : nt_so (tx_kd c) = 3 := by
  rcases h with h | h | h | h | h | h | h | h | h <;> subst h <;> decide
theorem nt_so_no {c : Int32} (h1 : ¬ tx_kd c = 1) (h2 : ¬ tx_kd c = 2) (h0 : ¬ tx_kd c = 0) (h : ¬ (c = 59 ∨ c = 40 ∨ c = 41 ∨ c = 43 ∨ c = 45 ∨ c = 42 ∨ c = 47 ∨ c = 60 ∨ c = 61)) : nt_so (tx_kd c) = 4 := by
  have h1' := fun e => h1 (tx_kd1.mpr e)
  have h2' := fun e => h2 (tx_kd2.mpr e)
  have hm : ¬ c = -1 := fun e => h0 (by rw [e]; decide)
  rw [show tx_kd c = 4 by rw [tx_kd, if_neg h1', if_neg h2', if_neg hm, if_neg h]]; decide
theorem m_goes {q : Nat} (hM : vm_isM P S) (dD : nt_D b n I) (hb : tx_ok b n) (hq : q ≤ n) (h16 : I 60 16 = vb_i q) (hd : 2 ≤ d) : mm_C G d 146 [.ref 60] (I, P, J, S, nc, ns) (nt_R none (fun I' J' => nt_tk b n (tx_S b q) I' J' ∧ nt_f I I') P S nc ns) := by
  have hn := dD.2.2
  have hs := tx_S_n hb hq
  generalize hs0 : tx_S b q = s at hs ⊢
  have hEn := tx_E_n hb hs
  have hEl := tx_E_le b s
  have k331 : ∀ (I1 : Nat → Nat → Int32) (J1 : Nat → Nat → Int64) (c : Value), nt_f I I1 → I1 60 16 = vb_i (tx_E b s) → I1 60 18 = vb_i s → I1 60 17 = vb_i (nt_so (tx_kd (b s))) → (tx_kd (b s) = 2 → I1 60 20 = tx_vl b s (min (tx_E b s - s) 4)) → I1 60 21 = nt_y b n s → (tx_kd (b s) = 1 → J1 60 22 = nt_wl (nt_tw b s (min (tx_E b s - s) 7))) → mm_W G d 146 (mm_blk 146 331) [.ref 60, c] [] (I1, P, J1, S, nc, ns) (nt_R none (fun I' J' => nt_tk b n s I' J' ∧ nt_f I I') P S nc ns) := by
    intro I1 J1 c hf1 h161 h181 h171 h201 h211 hJ
    have dD1 := dD.f hf1
    refine mm_w1 rfl ?_
    refine mm_w1 rfl ?_
    refine mm_wgiv _ (vM_S60 hM) (by decide) (by decide) h161 ?_
    refine mm_w1 rfl ?_
    refine mm_wgiv _ (vM_S60 hM) (by decide) (by decide) h181 ?_
    refine mm_nsub (by omega) ?_
    refine mm_wpiN (vM_S60 hM) (by decide) (by decide) ?_
    intro I2 hI2
    have h192 := (congrFun (congrFun hI2 60) 19).trans (vb_up1 _ _ _ _)
    have h162 := (congrFun (congrFun hI2 60) 16).trans ((vb_up2 _ _ (by decide)).trans h161)
    have h182 := (congrFun (congrFun hI2 60) 18).trans ((vb_up2 _ _ (by decide)).trans h181)
    have h172 := (congrFun (congrFun hI2 60) 17).trans ((vb_up2 _ _ (by decide)).trans h171)
    have h212 := (congrFun (congrFun hI2 60) 21).trans ((vb_up2 _ _ (by decide)).trans h211)
    have dD2 : nt_D b n I2 := by rw [hI2]; exact dD1.up (by decide)
    have hf2 : nt_f I I2 := by rw [hI2]; exact hf1.up (by decide) (by decide)
    refine mm_wr rfl rfl rfl ?_
    exact ⟨_, _, ⟨⟨h162, h182, h192, h172, (fun e => by rw [hI2, vb_up2 _ _ (by decide)]; exact h201 e), h212, hJ⟩, hf2⟩, rfl⟩
  have klet : tx_kd (b s) = 1 → ∀ m i, n ≤ s + i + m → s + i ≤ n → tx_en b 1 m (s + i) = tx_E b s → ∀ (I1 : Nat → Nat → Int32) (J1 : Nat → Nat → Int64) (c : Value), nt_f I I1 → I1 60 16 = vb_i (s + i) → I1 60 18 = vb_i s → I1 60 21 = nt_y b n s → J1 60 22 = nt_wl (nt_tw b s (min i 7)) → mm_W G d 146 (mm_blk 146 108) [.ref 60, c] [] (I1, P, J1, S, nc, ns) (nt_R none (fun I' J' => nt_tk b n s I' J' ∧ nt_f I I') P S nc ns) := by
    intro hk m
    induction m with
    | zero =>
      intro i h1 h1' h2 I1 J1 c hf1 h161 h181 h211 hJ
      have dD1 := dD.f hf1
      have hno : ¬ tx_kd (nt_y b n (s + i)) = 1 := fun e => by
        rw [nt_y_kd hb (Or.inl rfl), hb.2.1 _ (by omega), tx_kd_m1] at e; cases e
      rw [tx_en] at h2
      refine mm_w1 rfl ?_
      refine mm_w1 rfl ?_
      refine mm_wgiv _ (vM_S60 hM) (by decide) (by decide) h161 ?_
      refine mm_cvp (vb_cv (vM_S60 hM) rfl rfl rfl rfl) (by decide) (by omega) (m_byteAt hM dD1 (by omega)) ?_
      refine mm_csp rfl (by decide) (by omega) (m_isL _) ?_
      refine mm_bifeq ?_ ?_
      · intro h119
        refine mm_w1 rfl ?_
        refine mm_wv (vb_i 1) rfl (by decide) ?_
        refine mm_wpiN (vM_S60 hM) (by decide) (by decide) ?_
        intro I2 hI2
        have h172 := (congrFun (congrFun hI2 60) 17).trans (vb_up1 _ _ _ _)
        have h162 := (congrFun (congrFun hI2 60) 16).trans ((vb_up2 _ _ (by decide)).trans h161)
        have h182 := (congrFun (congrFun hI2 60) 18).trans ((vb_up2 _ _ (by decide)).trans h181)
        have h212 := (congrFun (congrFun hI2 60) 21).trans ((vb_up2 _ _ (by decide)).trans h211)
        have dD2 : nt_D b n I2 := by rw [hI2]; exact dD1.up (by decide)
        have hf2 : nt_f I I2 := by rw [hI2]; exact hf1.up (by decide) (by decide)
        refine mm_wgoto ?_
        exact k331 _ _ _ hf2 (by rw [← h2]; exact h162) h182 (by rw [h172, hk]; rfl) (fun e => by rw [hk] at e; cases e) h212 (fun _ => by rw [← h2, show s + i - s = i by omega]; exact hJ)
      · intro h119
        exact absurd (of_decide_eq_true h119) hno
    | succ m ih =>
      intro i h1 h1' h2 I1 J1 c hf1 h161 h181 h211 hJ
      have dD1 := dD.f hf1
      by_cases hyes : tx_kd (b (s + i)) = 1
      · rw [tx_en, if_pos hyes] at h2
        have hin : s + i < n := by
          by_cases e : s + i < n
          · exact e
          · rw [hb.2.1 _ (by omega), tx_kd_m1] at hyes; cases hyes
        have hy : nt_y b n (s + i) = b (s + i) := if_pos hin
        refine mm_w1 rfl ?_
        refine mm_w1 rfl ?_
        refine mm_wgiv _ (vM_S60 hM) (by decide) (by decide) h161 ?_
        refine mm_cvp (vb_cv (vM_S60 hM) rfl rfl rfl rfl) (by decide) (by omega) (m_byteAt hM dD1 (by omega)) ?_
        refine mm_csp rfl (by decide) (by omega) (m_isL _) ?_
        refine mm_bifeq ?_ ?_
        · intro h119
          exact absurd hyes (fun e => of_decide_eq_false h119 ((nt_y_kd hb (Or.inl rfl)).mpr e))
        · intro h119
          refine mm_w1 rfl ?_
          refine mm_wgiv _ (vM_S60 hM) (by decide) (by decide) h161 ?_
          refine mm_w1 rfl ?_
          refine mm_wgiv _ (vM_S60 hM) (by decide) (by decide) h181 ?_
          refine mm_wv (vb_i i) rfl ((vb_sub (by omega)).trans (by rw [Nat.add_sub_cancel_left])) ?_ 
          refine mm_wv (vb_i 7) rfl (by decide) ?_
          refine mm_nicge (by omega) (by omega) ?_ ?_
          · intro h133
            refine mm_w1 rfl ?_
            refine mm_w1 rfl ?_
            refine mm_wgiv _ (vM_S60 hM) (by decide) (by decide) h161 ?_
            refine mm_wv (vb_i 1) rfl (by decide) ?_
            refine mm_nadd ?_
            refine mm_wpiN (vM_S60 hM) (by decide) (by decide) ?_
            intro I2 hI2
            have h162 := (congrFun (congrFun hI2 60) 16).trans (vb_up1 _ _ _ _)
            have h182 := (congrFun (congrFun hI2 60) 18).trans ((vb_up2 _ _ (by decide)).trans h181)
            have h212 := (congrFun (congrFun hI2 60) 21).trans ((vb_up2 _ _ (by decide)).trans h211)
            have dD2 : nt_D b n I2 := by rw [hI2]; exact dD1.up (by decide)
            have hf2 : nt_f I I2 := by rw [hI2]; exact hf1.up (by decide) (by decide)
            refine mm_wgoto ?_
            exact ih (i + 1) (by omega) (by omega) h2 _ _ _ hf2 h162 h182 h212 (by
              first
                | (rw [vb_up1, hJ, hy, show min i 7 = i by omega, show min (i + 1) 7 = i + 1 by omega, nt_tw_s]; rfl)
                | (rw [hJ, show min i 7 = 7 by omega, show min (i + 1) 7 = 7 by omega]))
          · intro h133
            refine mm_w1 rfl ?_
            refine mm_w1 rfl ?_
            refine mm_wgl (vM_S60 hM) (by decide) (by decide) ?_
            refine mm_wv (vb_i 5) rfl (by decide) ?_
            refine mm_w1 rfl ?_
            refine mm_w1 rfl ?_
            refine mm_w1 rfl ?_
            refine mm_wgiv _ (vM_S60 hM) (by decide) (by decide) h161 ?_
            refine mm_cvp (vb_cv (vM_S60 hM) rfl rfl rfl rfl) (by decide) (by omega) (m_byteAt hM dD1 (by omega)) ?_
            refine mm_wv (vb_i 96) rfl (by decide) ?_
            refine mm_w1 rfl ?_
            refine mm_w1 rfl ?_
            refine mm_w1 rfl ?_
            refine mm_wpl (vM_S60 hM) (by decide) (by decide) ?_
            refine mm_w1 rfl ?_
            refine mm_w1 rfl ?_
            refine mm_wgiv _ (vM_S60 hM) (by decide) (by decide) h161 ?_
            refine mm_wv (vb_i 1) rfl (by decide) ?_
            refine mm_nadd ?_
            refine mm_wpiN (vM_S60 hM) (by decide) (by decide) ?_
            intro I2 hI2
            have h162 := (congrFun (congrFun hI2 60) 16).trans (vb_up1 _ _ _ _)
            have h182 := (congrFun (congrFun hI2 60) 18).trans ((vb_up2 _ _ (by decide)).trans h181)
            have h212 := (congrFun (congrFun hI2 60) 21).trans ((vb_up2 _ _ (by decide)).trans h211)
            have dD2 : nt_D b n I2 := by rw [hI2]; exact dD1.up (by decide)
            have hf2 : nt_f I I2 := by rw [hI2]; exact hf1.up (by decide) (by decide)
            refine mm_wgoto ?_
            exact ih (i + 1) (by omega) (by omega) h2 _ _ _ hf2 h162 h182 h212 (by
              first
                | (rw [vb_up1, hJ, hy, show min i 7 = i by omega, show min (i + 1) 7 = i + 1 by omega, nt_tw_s]; rfl)
                | (rw [hJ, show min i 7 = 7 by omega, show min (i + 1) 7 = 7 by omega]))
      · have hno : ¬ tx_kd (nt_y b n (s + i)) = 1 := fun e => hyes ((nt_y_kd hb (Or.inl rfl)).mp e)
        rw [tx_en, if_neg hyes] at h2
        refine mm_w1 rfl ?_
        refine mm_w1 rfl ?_
        refine mm_wgiv _ (vM_S60 hM) (by decide) (by decide) h161 ?_
        refine mm_cvp (vb_cv (vM_S60 hM) rfl rfl rfl rfl) (by decide) (by omega) (m_byteAt hM dD1 (by omega)) ?_
        refine mm_csp rfl (by decide) (by omega) (m_isL _) ?_
        refine mm_bifeq ?_ ?_
        · intro h119
          refine mm_w1 rfl ?_
          refine mm_wv (vb_i 1) rfl (by decide) ?_
          refine mm_wpiN (vM_S60 hM) (by decide) (by decide) ?_
          intro I2 hI2
          have h172 := (congrFun (congrFun hI2 60) 17).trans (vb_up1 _ _ _ _)
          have h162 := (congrFun (congrFun hI2 60) 16).trans ((vb_up2 _ _ (by decide)).trans h161)
          have h182 := (congrFun (congrFun hI2 60) 18).trans ((vb_up2 _ _ (by decide)).trans h181)
          have h212 := (congrFun (congrFun hI2 60) 21).trans ((vb_up2 _ _ (by decide)).trans h211)
          have dD2 : nt_D b n I2 := by rw [hI2]; exact dD1.up (by decide)
          have hf2 : nt_f I I2 := by rw [hI2]; exact hf1.up (by decide) (by decide)
          refine mm_wgoto ?_
          exact k331 _ _ _ hf2 (by rw [← h2]; exact h162) h182 (by rw [h172, hk]; rfl) (fun e => by rw [hk] at e; cases e) h212 (fun _ => by rw [← h2, show s + i - s = i by omega]; exact hJ)
        · intro h119
          exact absurd (of_decide_eq_true h119) hno
  have kdig : tx_kd (b s) = 2 → ∀ m i, n ≤ s + i + m → s + i ≤ n → tx_en b 2 m (s + i) = tx_E b s → ∀ (I1 : Nat → Nat → Int32) (J1 : Nat → Nat → Int64) (c : Value), nt_f I I1 → I1 60 16 = vb_i (s + i) → I1 60 18 = vb_i s → I1 60 21 = nt_y b n s → I1 60 20 = tx_vl b s (min i 4) → mm_W G d 146 (mm_blk 146 187) [.ref 60, c] [] (I1, P, J1, S, nc, ns) (nt_R none (fun I' J' => nt_tk b n s I' J' ∧ nt_f I I') P S nc ns) := by
    intro hk m
    induction m with
    | zero =>
      intro i h1 h1' h2 I1 J1 c hf1 h161 h181 h211 h201
      have dD1 := dD.f hf1
      have hno : ¬ tx_kd (nt_y b n (s + i)) = 2 := fun e => by
        rw [nt_y_kd hb (Or.inr rfl), hb.2.1 _ (by omega), tx_kd_m1] at e; cases e
      rw [tx_en] at h2
      refine mm_w1 rfl ?_
      refine mm_w1 rfl ?_
      refine mm_wgiv _ (vM_S60 hM) (by decide) (by decide) h161 ?_
      refine mm_cvp (vb_cv (vM_S60 hM) rfl rfl rfl rfl) (by decide) (by omega) (m_byteAt hM dD1 (by omega)) ?_
      refine mm_csp rfl (by decide) (by omega) (m_isD _) ?_
      refine mm_bifeq ?_ ?_
      · intro h198
        refine mm_w1 rfl ?_
        refine mm_wv (vb_i 2) rfl (by decide) ?_
        refine mm_wpiN (vM_S60 hM) (by decide) (by decide) ?_
        intro I2 hI2
        have h172 := (congrFun (congrFun hI2 60) 17).trans (vb_up1 _ _ _ _)
        have h162 := (congrFun (congrFun hI2 60) 16).trans ((vb_up2 _ _ (by decide)).trans h161)
        have h182 := (congrFun (congrFun hI2 60) 18).trans ((vb_up2 _ _ (by decide)).trans h181)
        have h212 := (congrFun (congrFun hI2 60) 21).trans ((vb_up2 _ _ (by decide)).trans h211)
        have h202 := (congrFun (congrFun hI2 60) 20).trans ((vb_up2 _ _ (by decide)).trans h201)
        have dD2 : nt_D b n I2 := by rw [hI2]; exact dD1.up (by decide)
        have hf2 : nt_f I I2 := by rw [hI2]; exact hf1.up (by decide) (by decide)
        refine mm_wgoto ?_
        exact k331 _ _ _ hf2 (by rw [← h2]; exact h162) h182 (by rw [h172, hk]; rfl) (fun _ => by rw [← h2, show s + i - s = i by omega]; exact h202) h212 (fun e => by rw [hk] at e; cases e)
      · intro h198
        exact absurd (of_decide_eq_true h198) hno
    | succ m ih =>
      intro i h1 h1' h2 I1 J1 c hf1 h161 h181 h211 h201
      have dD1 := dD.f hf1
      by_cases hyes : tx_kd (b (s + i)) = 2
      · rw [tx_en, if_pos hyes] at h2
        have hin : s + i < n := by
          by_cases e : s + i < n
          · exact e
          · rw [hb.2.1 _ (by omega), tx_kd_m1] at hyes; cases hyes
        have hy : nt_y b n (s + i) = b (s + i) := if_pos hin
        refine mm_w1 rfl ?_
        refine mm_w1 rfl ?_
        refine mm_wgiv _ (vM_S60 hM) (by decide) (by decide) h161 ?_
        refine mm_cvp (vb_cv (vM_S60 hM) rfl rfl rfl rfl) (by decide) (by omega) (m_byteAt hM dD1 (by omega)) ?_
        refine mm_csp rfl (by decide) (by omega) (m_isD _) ?_
        refine mm_bifeq ?_ ?_
        · intro h198
          exact absurd hyes (fun e => of_decide_eq_false h198 ((nt_y_kd hb (Or.inr rfl)).mpr e))
        · intro h198
          refine mm_w1 rfl ?_
          refine mm_wgiv _ (vM_S60 hM) (by decide) (by decide) h161 ?_
          refine mm_w1 rfl ?_
          refine mm_wgiv _ (vM_S60 hM) (by decide) (by decide) h181 ?_
          refine mm_wv (vb_i i) rfl ((vb_sub (by omega)).trans (by rw [Nat.add_sub_cancel_left])) ?_ 
          refine mm_wv (vb_i 4) rfl (by decide) ?_
          refine mm_nicge (by omega) (by omega) ?_ ?_
          · intro p211
            refine mm_w1 rfl ?_
            refine mm_w1 rfl ?_
            refine mm_wgiv _ (vM_S60 hM) (by decide) (by decide) h161 ?_
            refine mm_wv (vb_i 1) rfl (by decide) ?_
            refine mm_nadd ?_
            refine mm_wpiN (vM_S60 hM) (by decide) (by decide) ?_
            intro I2 hI2
            have h162 := (congrFun (congrFun hI2 60) 16).trans (vb_up1 _ _ _ _)
            have h182 := (congrFun (congrFun hI2 60) 18).trans ((vb_up2 _ _ (by decide)).trans h181)
            have h212 := (congrFun (congrFun hI2 60) 21).trans ((vb_up2 _ _ (by decide)).trans h211)
            have h202 := (congrFun (congrFun hI2 60) 20).trans ((vb_up2 _ _ (by decide)).trans h201)
            have dD2 : nt_D b n I2 := by rw [hI2]; exact dD1.up (by decide)
            have hf2 : nt_f I I2 := by rw [hI2]; exact hf1.up (by decide) (by decide)
            refine mm_wgoto ?_
            exact ih (i + 1) (by omega) (by omega) h2 _ _ _ hf2 h162 h182 h212 (by
              first
                | (rw [h202, hy, show min i 4 = i by omega, show min (i + 1) 4 = i + 1 by omega, tx_vl])
                | (rw [h202, show min i 4 = 4 by omega, show min (i + 1) 4 = 4 by omega]))
          · intro p211
            refine mm_w1 rfl ?_
            refine mm_wv (vb_i 10) rfl (by decide) ?_
            refine mm_w1 rfl ?_
            refine mm_wgiv _ (vM_S60 hM) (by decide) (by decide) h201 ?_
            refine mm_w1 rfl ?_
            refine mm_w1 rfl ?_
            refine mm_w1 rfl ?_
            refine mm_wgiv _ (vM_S60 hM) (by decide) (by decide) h161 ?_
            refine mm_cvp (vb_cv (vM_S60 hM) rfl rfl rfl rfl) (by decide) (by omega) (m_byteAt hM dD1 (by omega)) ?_
            refine mm_w1 rfl ?_
            refine mm_wv (vb_i 48) rfl (by decide) ?_
            refine mm_w1 rfl ?_
            refine mm_wpiN (vM_S60 hM) (by decide) (by decide) ?_
            intro I2 hI2
            have h202 := (congrFun (congrFun hI2 60) 20).trans (vb_up1 _ _ _ _)
            have h162 := (congrFun (congrFun hI2 60) 16).trans ((vb_up2 _ _ (by decide)).trans h161)
            have h182 := (congrFun (congrFun hI2 60) 18).trans ((vb_up2 _ _ (by decide)).trans h181)
            have h212 := (congrFun (congrFun hI2 60) 21).trans ((vb_up2 _ _ (by decide)).trans h211)
            have dD2 : nt_D b n I2 := by rw [hI2]; exact dD1.up (by decide)
            have hf2 : nt_f I I2 := by rw [hI2]; exact hf1.up (by decide) (by decide)
            refine mm_w1 rfl ?_
            refine mm_w1 rfl ?_
            refine mm_wgiv _ (vM_S60 hM) (by decide) (by decide) h162 ?_
            refine mm_wv (vb_i 1) rfl (by decide) ?_
            refine mm_nadd ?_
            refine mm_wpiN (vM_S60 hM) (by decide) (by decide) ?_
            intro I3 hI3
            have h163 := (congrFun (congrFun hI3 60) 16).trans (vb_up1 _ _ _ _)
            have h183 := (congrFun (congrFun hI3 60) 18).trans ((vb_up2 _ _ (by decide)).trans h182)
            have h213 := (congrFun (congrFun hI3 60) 21).trans ((vb_up2 _ _ (by decide)).trans h212)
            have h203 := (congrFun (congrFun hI3 60) 20).trans ((vb_up2 _ _ (by decide)).trans h202)
            have dD3 : nt_D b n I3 := by rw [hI3]; exact dD2.up (by decide)
            have hf3 : nt_f I I3 := by rw [hI3]; exact hf2.up (by decide) (by decide)
            refine mm_wgoto ?_
            exact ih (i + 1) (by omega) (by omega) h2 _ _ _ hf3 h163 h183 h213 (by
              first
                | (rw [h203, hy, show min i 4 = i by omega, show min (i + 1) 4 = i + 1 by omega, tx_vl])
                | (rw [h203, show min i 4 = 4 by omega, show min (i + 1) 4 = 4 by omega]))
      · have hno : ¬ tx_kd (nt_y b n (s + i)) = 2 := fun e => hyes ((nt_y_kd hb (Or.inr rfl)).mp e)
        rw [tx_en, if_neg hyes] at h2
        refine mm_w1 rfl ?_
        refine mm_w1 rfl ?_
        refine mm_wgiv _ (vM_S60 hM) (by decide) (by decide) h161 ?_
        refine mm_cvp (vb_cv (vM_S60 hM) rfl rfl rfl rfl) (by decide) (by omega) (m_byteAt hM dD1 (by omega)) ?_
        refine mm_csp rfl (by decide) (by omega) (m_isD _) ?_
        refine mm_bifeq ?_ ?_
        · intro h198
          refine mm_w1 rfl ?_
          refine mm_wv (vb_i 2) rfl (by decide) ?_
          refine mm_wpiN (vM_S60 hM) (by decide) (by decide) ?_
          intro I2 hI2
          have h172 := (congrFun (congrFun hI2 60) 17).trans (vb_up1 _ _ _ _)
          have h162 := (congrFun (congrFun hI2 60) 16).trans ((vb_up2 _ _ (by decide)).trans h161)
          have h182 := (congrFun (congrFun hI2 60) 18).trans ((vb_up2 _ _ (by decide)).trans h181)
          have h212 := (congrFun (congrFun hI2 60) 21).trans ((vb_up2 _ _ (by decide)).trans h211)
          have h202 := (congrFun (congrFun hI2 60) 20).trans ((vb_up2 _ _ (by decide)).trans h201)
          have dD2 : nt_D b n I2 := by rw [hI2]; exact dD1.up (by decide)
          have hf2 : nt_f I I2 := by rw [hI2]; exact hf1.up (by decide) (by decide)
          refine mm_wgoto ?_
          exact k331 _ _ _ hf2 (by rw [← h2]; exact h162) h182 (by rw [h172, hk]; rfl) (fun _ => by rw [← h2, show s + i - s = i by omega]; exact h202) h212 (fun e => by rw [hk] at e; cases e)
        · intro h198
          exact absurd (of_decide_eq_true h198) hno
  have k50 : ∀ (I1 : Nat → Nat → Int32) (J1 : Nat → Nat → Int64), nt_f I I1 → I1 60 16 = vb_i s → mm_W G d 146 (mm_blk 146 50) [.ref 60, .null] [] (I1, P, J1, S, nc, ns) (nt_R none (fun I' J' => nt_tk b n s I' J' ∧ nt_f I I') P S nc ns) := by
    intro I1 J1 hf1 h161
    have dD1 := dD.f hf1
    by_cases hsn : s < n
    · have hy : nt_y b n s = b s := if_pos hsn
      have hk0 : ¬ tx_kd (b s) = 0 := fun e => by have := (tx_kd0 hb hs).mp e; omega
      refine mm_w1 rfl ?_
      refine mm_w1 rfl ?_
      refine mm_wgiv _ (vM_S60 hM) (by decide) (by decide) h161 ?_
      refine mm_wpiN (vM_S60 hM) (by decide) (by decide) ?_
      intro I2 hI2
      have h182 := (congrFun (congrFun hI2 60) 18).trans (vb_up1 _ _ _ _)
      have h162 := (congrFun (congrFun hI2 60) 16).trans ((vb_up2 _ _ (by decide)).trans h161)
      have dD2 : nt_D b n I2 := by rw [hI2]; exact dD1.up (by decide)
      have hf2 : nt_f I I2 := by rw [hI2]; exact hf1.up (by decide) (by decide)
      refine mm_w1 rfl ?_
      refine mm_w1 rfl ?_
      refine mm_wpl (vM_S60 hM) (by decide) (by decide) ?_
      refine mm_w1 rfl ?_
      refine mm_wv (vb_i 0) rfl (by decide) ?_
      refine mm_wpiN (vM_S60 hM) (by decide) (by decide) ?_
      intro I3 hI3
      have h203 := (congrFun (congrFun hI3 60) 20).trans (vb_up1 _ _ _ _)
      have h163 := (congrFun (congrFun hI3 60) 16).trans ((vb_up2 _ _ (by decide)).trans h162)
      have h183 := (congrFun (congrFun hI3 60) 18).trans ((vb_up2 _ _ (by decide)).trans h182)
      have dD3 : nt_D b n I3 := by rw [hI3]; exact dD2.up (by decide)
      have hf3 : nt_f I I3 := by rw [hI3]; exact hf2.up (by decide) (by decide)
      refine mm_w1 rfl ?_
      refine mm_w1 rfl ?_
      refine mm_wgiv _ (vM_S60 hM) (by decide) (by decide) h163 ?_
      refine mm_cvp (vb_cv (vM_S60 hM) rfl rfl rfl rfl) (by decide) (by omega) (m_byteAt hM dD3 (by omega)) ?_
      refine mm_w1 (ls' := [_, _]) rfl ?_
      refine mm_w1 rfl ?_
      refine mm_w1 rfl ?_
      refine mm_wpiN (vM_S60 hM) (by decide) (by decide) ?_
      intro I4 hI4
      have h214 := (congrFun (congrFun hI4 60) 21).trans (vb_up1 _ _ _ _)
      have h164 := (congrFun (congrFun hI4 60) 16).trans ((vb_up2 _ _ (by decide)).trans h163)
      have h184 := (congrFun (congrFun hI4 60) 18).trans ((vb_up2 _ _ (by decide)).trans h183)
      have h204 := (congrFun (congrFun hI4 60) 20).trans ((vb_up2 _ _ (by decide)).trans h203)
      have dD4 : nt_D b n I4 := by rw [hI4]; exact dD3.up (by decide)
      have hf4 : nt_f I I4 := by rw [hI4]; exact hf3.up (by decide) (by decide)
      refine mm_w1 rfl ?_
      refine mm_wgiv _ (vM_S60 hM) (by decide) (by decide) h164 ?_
      refine mm_w1 rfl ?_
      refine mm_wgiv _ (vM_S60 hM) (by decide) (by decide) dD4.2.1 ?_
      refine mm_niclt (by omega) (by omega) ?_ ?_
      · intro h90
        refine mm_w1 rfl ?_
        refine mm_csp rfl (by decide) (by omega) (m_isL _) ?_
        refine mm_bifeq ?_ ?_
        · intro h105
          refine mm_w1 rfl ?_
          refine mm_csp rfl (by decide) (by omega) (m_isD _) ?_
          refine mm_bifeq ?_ ?_
          · intro p184
            refine mm_w1 rfl ?_
            refine mm_w1 rfl ?_
            refine mm_wgiv _ (vM_S60 hM) (by decide) (by decide) h164 ?_
            refine mm_wv (vb_i 1) rfl (by decide) ?_
            refine mm_nadd ?_
            refine mm_wpiN (vM_S60 hM) (by decide) (by decide) ?_
            intro I5 hI5
            have h165 := (congrFun (congrFun hI5 60) 16).trans (vb_up1 _ _ _ _)
            have h185 := (congrFun (congrFun hI5 60) 18).trans ((vb_up2 _ _ (by decide)).trans h184)
            have h215 := (congrFun (congrFun hI5 60) 21).trans ((vb_up2 _ _ (by decide)).trans h214)
            have dD5 : nt_D b n I5 := by rw [hI5]; exact dD4.up (by decide)
            have hf5 : nt_f I I5 := by rw [hI5]; exact hf4.up (by decide) (by decide)
            refine mm_w1 rfl ?_
            refine mm_w1 rfl ?_
            refine mm_wv (vb_i 59) rfl (by decide) ?_
            refine mm_wiceq ?_ ?_
            · intro h272
              refine mm_wv (vb_i 3) rfl (by decide) ?_
              refine mm_wgoto ?_
              refine mm_wpiN (vM_S60 hM) (by decide) (by decide) ?_
              intro I6 hI6
              have h176 := (congrFun (congrFun hI6 60) 17).trans (vb_up1 _ _ _ _)
              have h166 := (congrFun (congrFun hI6 60) 16).trans ((vb_up2 _ _ (by decide)).trans h165)
              have h186 := (congrFun (congrFun hI6 60) 18).trans ((vb_up2 _ _ (by decide)).trans h185)
              have h216 := (congrFun (congrFun hI6 60) 21).trans ((vb_up2 _ _ (by decide)).trans h215)
              have dD6 : nt_D b n I6 := by rw [hI6]; exact dD5.up (by decide)
              have hf6 : nt_f I I6 := by rw [hI6]; exact hf5.up (by decide) (by decide)
              have hn1 : ¬ tx_kd (b s) = 1 := fun e => of_decide_eq_false h105 (by rw [hy]; exact e)
              have hn2 : ¬ tx_kd (b s) = 2 := fun e => of_decide_eq_false p184 (by rw [hy]; exact e)
              have hE : tx_E b s = s + 1 := by rw [tx_E, if_neg (by omega), if_neg hk0]
              refine k331 _ _ _ hf6 (by rw [hE]; exact h166) h186 ?_ (fun e => absurd e hn2) h216 (fun e => absurd e hn1)
              rw [h176]
              first
                | (rw [nt_so_sg (by rw [← hy]; first | exact Or.inl h272 | exact Or.inr (Or.inl h278) | exact Or.inr (Or.inr (Or.inl h284)) | exact Or.inr (Or.inr (Or.inr (Or.inl h290))) | exact Or.inr (Or.inr (Or.inr (Or.inr (Or.inl h296)))) | exact Or.inr (Or.inr (Or.inr (Or.inr (Or.inr (Or.inl h302))))) | exact Or.inr (Or.inr (Or.inr (Or.inr (Or.inr (Or.inr (Or.inl h308)))))) | exact Or.inr (Or.inr (Or.inr (Or.inr (Or.inr (Or.inr (Or.inr (Or.inl h314))))))) | exact Or.inr (Or.inr (Or.inr (Or.inr (Or.inr (Or.inr (Or.inr (Or.inr h320))))))))])
                | (rw [nt_so_no hn1 hn2 hk0 (by rw [← hy]; rintro (h | h | h | h | h | h | h | h | h); exact h272 h; exact h278 h; exact h284 h; exact h290 h; exact h296 h; exact h302 h; exact h308 h; exact h314 h; exact h320 h)])
            · intro h272
              refine mm_w1 rfl ?_
              refine mm_wv (vb_i 40) rfl (by decide) ?_
              refine mm_wiceq ?_ ?_
              · intro h278
                refine mm_wv (vb_i 3) rfl (by decide) ?_
                refine mm_wgoto ?_
                refine mm_wpiN (vM_S60 hM) (by decide) (by decide) ?_
                intro I6 hI6
                have h176 := (congrFun (congrFun hI6 60) 17).trans (vb_up1 _ _ _ _)
                have h166 := (congrFun (congrFun hI6 60) 16).trans ((vb_up2 _ _ (by decide)).trans h165)
                have h186 := (congrFun (congrFun hI6 60) 18).trans ((vb_up2 _ _ (by decide)).trans h185)
                have h216 := (congrFun (congrFun hI6 60) 21).trans ((vb_up2 _ _ (by decide)).trans h215)
                have dD6 : nt_D b n I6 := by rw [hI6]; exact dD5.up (by decide)
                have hf6 : nt_f I I6 := by rw [hI6]; exact hf5.up (by decide) (by decide)
                have hn1 : ¬ tx_kd (b s) = 1 := fun e => of_decide_eq_false h105 (by rw [hy]; exact e)
                have hn2 : ¬ tx_kd (b s) = 2 := fun e => of_decide_eq_false p184 (by rw [hy]; exact e)
                have hE : tx_E b s = s + 1 := by rw [tx_E, if_neg (by omega), if_neg hk0]
                refine k331 _ _ _ hf6 (by rw [hE]; exact h166) h186 ?_ (fun e => absurd e hn2) h216 (fun e => absurd e hn1)
                rw [h176]
                first
                  | (rw [nt_so_sg (by rw [← hy]; first | exact Or.inl h272 | exact Or.inr (Or.inl h278) | exact Or.inr (Or.inr (Or.inl h284)) | exact Or.inr (Or.inr (Or.inr (Or.inl h290))) | exact Or.inr (Or.inr (Or.inr (Or.inr (Or.inl h296)))) | exact Or.inr (Or.inr (Or.inr (Or.inr (Or.inr (Or.inl h302))))) | exact Or.inr (Or.inr (Or.inr (Or.inr (Or.inr (Or.inr (Or.inl h308)))))) | exact Or.inr (Or.inr (Or.inr (Or.inr (Or.inr (Or.inr (Or.inr (Or.inl h314))))))) | exact Or.inr (Or.inr (Or.inr (Or.inr (Or.inr (Or.inr (Or.inr (Or.inr h320))))))))])
                  | (rw [nt_so_no hn1 hn2 hk0 (by rw [← hy]; rintro (h | h | h | h | h | h | h | h | h); exact h272 h; exact h278 h; exact h284 h; exact h290 h; exact h296 h; exact h302 h; exact h308 h; exact h314 h; exact h320 h)])
              · intro h278
                refine mm_w1 rfl ?_
                refine mm_wv (vb_i 41) rfl (by decide) ?_
                refine mm_wiceq ?_ ?_
                · intro h284
                  refine mm_wv (vb_i 3) rfl (by decide) ?_
                  refine mm_wgoto ?_
                  refine mm_wpiN (vM_S60 hM) (by decide) (by decide) ?_
                  intro I6 hI6
                  have h176 := (congrFun (congrFun hI6 60) 17).trans (vb_up1 _ _ _ _)
                  have h166 := (congrFun (congrFun hI6 60) 16).trans ((vb_up2 _ _ (by decide)).trans h165)
                  have h186 := (congrFun (congrFun hI6 60) 18).trans ((vb_up2 _ _ (by decide)).trans h185)
                  have h216 := (congrFun (congrFun hI6 60) 21).trans ((vb_up2 _ _ (by decide)).trans h215)
                  have dD6 : nt_D b n I6 := by rw [hI6]; exact dD5.up (by decide)
                  have hf6 : nt_f I I6 := by rw [hI6]; exact hf5.up (by decide) (by decide)
                  have hn1 : ¬ tx_kd (b s) = 1 := fun e => of_decide_eq_false h105 (by rw [hy]; exact e)
                  have hn2 : ¬ tx_kd (b s) = 2 := fun e => of_decide_eq_false p184 (by rw [hy]; exact e)
                  have hE : tx_E b s = s + 1 := by rw [tx_E, if_neg (by omega), if_neg hk0]
                  refine k331 _ _ _ hf6 (by rw [hE]; exact h166) h186 ?_ (fun e => absurd e hn2) h216 (fun e => absurd e hn1)
                  rw [h176]
                  first
                    | (rw [nt_so_sg (by rw [← hy]; first | exact Or.inl h272 | exact Or.inr (Or.inl h278) | exact Or.inr (Or.inr (Or.inl h284)) | exact Or.inr (Or.inr (Or.inr (Or.inl h290))) | exact Or.inr (Or.inr (Or.inr (Or.inr (Or.inl h296)))) | exact Or.inr (Or.inr (Or.inr (Or.inr (Or.inr (Or.inl h302))))) | exact Or.inr (Or.inr (Or.inr (Or.inr (Or.inr (Or.inr (Or.inl h308)))))) | exact Or.inr (Or.inr (Or.inr (Or.inr (Or.inr (Or.inr (Or.inr (Or.inl h314))))))) | exact Or.inr (Or.inr (Or.inr (Or.inr (Or.inr (Or.inr (Or.inr (Or.inr h320))))))))])
                    | (rw [nt_so_no hn1 hn2 hk0 (by rw [← hy]; rintro (h | h | h | h | h | h | h | h | h); exact h272 h; exact h278 h; exact h284 h; exact h290 h; exact h296 h; exact h302 h; exact h308 h; exact h314 h; exact h320 h)])
                · intro h284
                  refine mm_w1 rfl ?_
                  refine mm_wv (vb_i 43) rfl (by decide) ?_
                  refine mm_wiceq ?_ ?_
                  · intro h290
                    refine mm_wv (vb_i 3) rfl (by decide) ?_
                    refine mm_wgoto ?_
                    refine mm_wpiN (vM_S60 hM) (by decide) (by decide) ?_
                    intro I6 hI6
                    have h176 := (congrFun (congrFun hI6 60) 17).trans (vb_up1 _ _ _ _)
                    have h166 := (congrFun (congrFun hI6 60) 16).trans ((vb_up2 _ _ (by decide)).trans h165)
                    have h186 := (congrFun (congrFun hI6 60) 18).trans ((vb_up2 _ _ (by decide)).trans h185)
                    have h216 := (congrFun (congrFun hI6 60) 21).trans ((vb_up2 _ _ (by decide)).trans h215)
                    have dD6 : nt_D b n I6 := by rw [hI6]; exact dD5.up (by decide)
                    have hf6 : nt_f I I6 := by rw [hI6]; exact hf5.up (by decide) (by decide)
                    have hn1 : ¬ tx_kd (b s) = 1 := fun e => of_decide_eq_false h105 (by rw [hy]; exact e)
                    have hn2 : ¬ tx_kd (b s) = 2 := fun e => of_decide_eq_false p184 (by rw [hy]; exact e)
                    have hE : tx_E b s = s + 1 := by rw [tx_E, if_neg (by omega), if_neg hk0]
                    refine k331 _ _ _ hf6 (by rw [hE]; exact h166) h186 ?_ (fun e => absurd e hn2) h216 (fun e => absurd e hn1)
                    rw [h176]
                    first
                      | (rw [nt_so_sg (by rw [← hy]; first | exact Or.inl h272 | exact Or.inr (Or.inl h278) | exact Or.inr (Or.inr (Or.inl h284)) | exact Or.inr (Or.inr (Or.inr (Or.inl h290))) | exact Or.inr (Or.inr (Or.inr (Or.inr (Or.inl h296)))) | exact Or.inr (Or.inr (Or.inr (Or.inr (Or.inr (Or.inl h302))))) | exact Or.inr (Or.inr (Or.inr (Or.inr (Or.inr (Or.inr (Or.inl h308)))))) | exact Or.inr (Or.inr (Or.inr (Or.inr (Or.inr (Or.inr (Or.inr (Or.inl h314))))))) | exact Or.inr (Or.inr (Or.inr (Or.inr (Or.inr (Or.inr (Or.inr (Or.inr h320))))))))])
                      | (rw [nt_so_no hn1 hn2 hk0 (by rw [← hy]; rintro (h | h | h | h | h | h | h | h | h); exact h272 h; exact h278 h; exact h284 h; exact h290 h; exact h296 h; exact h302 h; exact h308 h; exact h314 h; exact h320 h)])
                  · intro h290
                    refine mm_w1 rfl ?_
                    refine mm_wv (vb_i 45) rfl (by decide) ?_
                    refine mm_wiceq ?_ ?_
                    · intro h296
                      refine mm_wv (vb_i 3) rfl (by decide) ?_
                      refine mm_wgoto ?_
                      refine mm_wpiN (vM_S60 hM) (by decide) (by decide) ?_
                      intro I6 hI6
                      have h176 := (congrFun (congrFun hI6 60) 17).trans (vb_up1 _ _ _ _)
                      have h166 := (congrFun (congrFun hI6 60) 16).trans ((vb_up2 _ _ (by decide)).trans h165)
                      have h186 := (congrFun (congrFun hI6 60) 18).trans ((vb_up2 _ _ (by decide)).trans h185)
                      have h216 := (congrFun (congrFun hI6 60) 21).trans ((vb_up2 _ _ (by decide)).trans h215)
                      have dD6 : nt_D b n I6 := by rw [hI6]; exact dD5.up (by decide)
                      have hf6 : nt_f I I6 := by rw [hI6]; exact hf5.up (by decide) (by decide)
                      have hn1 : ¬ tx_kd (b s) = 1 := fun e => of_decide_eq_false h105 (by rw [hy]; exact e)
                      have hn2 : ¬ tx_kd (b s) = 2 := fun e => of_decide_eq_false p184 (by rw [hy]; exact e)
                      have hE : tx_E b s = s + 1 := by rw [tx_E, if_neg (by omega), if_neg hk0]
                      refine k331 _ _ _ hf6 (by rw [hE]; exact h166) h186 ?_ (fun e => absurd e hn2) h216 (fun e => absurd e hn1)
                      rw [h176]
                      first
                        | (rw [nt_so_sg (by rw [← hy]; first | exact Or.inl h272 | exact Or.inr (Or.inl h278) | exact Or.inr (Or.inr (Or.inl h284)) | exact Or.inr (Or.inr (Or.inr (Or.inl h290))) | exact Or.inr (Or.inr (Or.inr (Or.inr (Or.inl h296)))) | exact Or.inr (Or.inr (Or.inr (Or.inr (Or.inr (Or.inl h302))))) | exact Or.inr (Or.inr (Or.inr (Or.inr (Or.inr (Or.inr (Or.inl h308)))))) | exact Or.inr (Or.inr (Or.inr (Or.inr (Or.inr (Or.inr (Or.inr (Or.inl h314))))))) | exact Or.inr (Or.inr (Or.inr (Or.inr (Or.inr (Or.inr (Or.inr (Or.inr h320))))))))])
                        | (rw [nt_so_no hn1 hn2 hk0 (by rw [← hy]; rintro (h | h | h | h | h | h | h | h | h); exact h272 h; exact h278 h; exact h284 h; exact h290 h; exact h296 h; exact h302 h; exact h308 h; exact h314 h; exact h320 h)])
                    · intro h296
                      refine mm_w1 rfl ?_
                      refine mm_wv (vb_i 42) rfl (by decide) ?_
                      refine mm_wiceq ?_ ?_
                      · intro h302
                        refine mm_wv (vb_i 3) rfl (by decide) ?_
                        refine mm_wgoto ?_
                        refine mm_wpiN (vM_S60 hM) (by decide) (by decide) ?_
                        intro I6 hI6
                        have h176 := (congrFun (congrFun hI6 60) 17).trans (vb_up1 _ _ _ _)
                        have h166 := (congrFun (congrFun hI6 60) 16).trans ((vb_up2 _ _ (by decide)).trans h165)
                        have h186 := (congrFun (congrFun hI6 60) 18).trans ((vb_up2 _ _ (by decide)).trans h185)
                        have h216 := (congrFun (congrFun hI6 60) 21).trans ((vb_up2 _ _ (by decide)).trans h215)
                        have dD6 : nt_D b n I6 := by rw [hI6]; exact dD5.up (by decide)
                        have hf6 : nt_f I I6 := by rw [hI6]; exact hf5.up (by decide) (by decide)
                        have hn1 : ¬ tx_kd (b s) = 1 := fun e => of_decide_eq_false h105 (by rw [hy]; exact e)
                        have hn2 : ¬ tx_kd (b s) = 2 := fun e => of_decide_eq_false p184 (by rw [hy]; exact e)
                        have hE : tx_E b s = s + 1 := by rw [tx_E, if_neg (by omega), if_neg hk0]
                        refine k331 _ _ _ hf6 (by rw [hE]; exact h166) h186 ?_ (fun e => absurd e hn2) h216 (fun e => absurd e hn1)
                        rw [h176]
                        first
                          | (rw [nt_so_sg (by rw [← hy]; first | exact Or.inl h272 | exact Or.inr (Or.inl h278) | exact Or.inr (Or.inr (Or.inl h284)) | exact Or.inr (Or.inr (Or.inr (Or.inl h290))) | exact Or.inr (Or.inr (Or.inr (Or.inr (Or.inl h296)))) | exact Or.inr (Or.inr (Or.inr (Or.inr (Or.inr (Or.inl h302))))) | exact Or.inr (Or.inr (Or.inr (Or.inr (Or.inr (Or.inr (Or.inl h308)))))) | exact Or.inr (Or.inr (Or.inr (Or.inr (Or.inr (Or.inr (Or.inr (Or.inl h314))))))) | exact Or.inr (Or.inr (Or.inr (Or.inr (Or.inr (Or.inr (Or.inr (Or.inr h320))))))))])
                          | (rw [nt_so_no hn1 hn2 hk0 (by rw [← hy]; rintro (h | h | h | h | h | h | h | h | h); exact h272 h; exact h278 h; exact h284 h; exact h290 h; exact h296 h; exact h302 h; exact h308 h; exact h314 h; exact h320 h)])
                      · intro h302
                        refine mm_w1 rfl ?_
                        refine mm_wv (vb_i 47) rfl (by decide) ?_
                        refine mm_wiceq ?_ ?_
                        · intro h308
                          refine mm_wv (vb_i 3) rfl (by decide) ?_
                          refine mm_wgoto ?_
                          refine mm_wpiN (vM_S60 hM) (by decide) (by decide) ?_
                          intro I6 hI6
                          have h176 := (congrFun (congrFun hI6 60) 17).trans (vb_up1 _ _ _ _)
                          have h166 := (congrFun (congrFun hI6 60) 16).trans ((vb_up2 _ _ (by decide)).trans h165)
                          have h186 := (congrFun (congrFun hI6 60) 18).trans ((vb_up2 _ _ (by decide)).trans h185)
                          have h216 := (congrFun (congrFun hI6 60) 21).trans ((vb_up2 _ _ (by decide)).trans h215)
                          have dD6 : nt_D b n I6 := by rw [hI6]; exact dD5.up (by decide)
                          have hf6 : nt_f I I6 := by rw [hI6]; exact hf5.up (by decide) (by decide)
                          have hn1 : ¬ tx_kd (b s) = 1 := fun e => of_decide_eq_false h105 (by rw [hy]; exact e)
                          have hn2 : ¬ tx_kd (b s) = 2 := fun e => of_decide_eq_false p184 (by rw [hy]; exact e)
                          have hE : tx_E b s = s + 1 := by rw [tx_E, if_neg (by omega), if_neg hk0]
                          refine k331 _ _ _ hf6 (by rw [hE]; exact h166) h186 ?_ (fun e => absurd e hn2) h216 (fun e => absurd e hn1)
                          rw [h176]
                          first
                            | (rw [nt_so_sg (by rw [← hy]; first | exact Or.inl h272 | exact Or.inr (Or.inl h278) | exact Or.inr (Or.inr (Or.inl h284)) | exact Or.inr (Or.inr (Or.inr (Or.inl h290))) | exact Or.inr (Or.inr (Or.inr (Or.inr (Or.inl h296)))) | exact Or.inr (Or.inr (Or.inr (Or.inr (Or.inr (Or.inl h302))))) | exact Or.inr (Or.inr (Or.inr (Or.inr (Or.inr (Or.inr (Or.inl h308)))))) | exact Or.inr (Or.inr (Or.inr (Or.inr (Or.inr (Or.inr (Or.inr (Or.inl h314))))))) | exact Or.inr (Or.inr (Or.inr (Or.inr (Or.inr (Or.inr (Or.inr (Or.inr h320))))))))])
                            | (rw [nt_so_no hn1 hn2 hk0 (by rw [← hy]; rintro (h | h | h | h | h | h | h | h | h); exact h272 h; exact h278 h; exact h284 h; exact h290 h; exact h296 h; exact h302 h; exact h308 h; exact h314 h; exact h320 h)])
                        · intro h308
                          refine mm_w1 rfl ?_
                          refine mm_wv (vb_i 60) rfl (by decide) ?_
                          refine mm_wiceq ?_ ?_
                          · intro h314
                            refine mm_wv (vb_i 3) rfl (by decide) ?_
                            refine mm_wgoto ?_
                            refine mm_wpiN (vM_S60 hM) (by decide) (by decide) ?_
                            intro I6 hI6
                            have h176 := (congrFun (congrFun hI6 60) 17).trans (vb_up1 _ _ _ _)
                            have h166 := (congrFun (congrFun hI6 60) 16).trans ((vb_up2 _ _ (by decide)).trans h165)
                            have h186 := (congrFun (congrFun hI6 60) 18).trans ((vb_up2 _ _ (by decide)).trans h185)
                            have h216 := (congrFun (congrFun hI6 60) 21).trans ((vb_up2 _ _ (by decide)).trans h215)
                            have dD6 : nt_D b n I6 := by rw [hI6]; exact dD5.up (by decide)
                            have hf6 : nt_f I I6 := by rw [hI6]; exact hf5.up (by decide) (by decide)
                            have hn1 : ¬ tx_kd (b s) = 1 := fun e => of_decide_eq_false h105 (by rw [hy]; exact e)
                            have hn2 : ¬ tx_kd (b s) = 2 := fun e => of_decide_eq_false p184 (by rw [hy]; exact e)
                            have hE : tx_E b s = s + 1 := by rw [tx_E, if_neg (by omega), if_neg hk0]
                            refine k331 _ _ _ hf6 (by rw [hE]; exact h166) h186 ?_ (fun e => absurd e hn2) h216 (fun e => absurd e hn1)
                            rw [h176]
                            first
                              | (rw [nt_so_sg (by rw [← hy]; first | exact Or.inl h272 | exact Or.inr (Or.inl h278) | exact Or.inr (Or.inr (Or.inl h284)) | exact Or.inr (Or.inr (Or.inr (Or.inl h290))) | exact Or.inr (Or.inr (Or.inr (Or.inr (Or.inl h296)))) | exact Or.inr (Or.inr (Or.inr (Or.inr (Or.inr (Or.inl h302))))) | exact Or.inr (Or.inr (Or.inr (Or.inr (Or.inr (Or.inr (Or.inl h308)))))) | exact Or.inr (Or.inr (Or.inr (Or.inr (Or.inr (Or.inr (Or.inr (Or.inl h314))))))) | exact Or.inr (Or.inr (Or.inr (Or.inr (Or.inr (Or.inr (Or.inr (Or.inr h320))))))))])
                              | (rw [nt_so_no hn1 hn2 hk0 (by rw [← hy]; rintro (h | h | h | h | h | h | h | h | h); exact h272 h; exact h278 h; exact h284 h; exact h290 h; exact h296 h; exact h302 h; exact h308 h; exact h314 h; exact h320 h)])
                          · intro h314
                            refine mm_w1 rfl ?_
                            refine mm_wv (vb_i 61) rfl (by decide) ?_
                            refine mm_wicne ?_ ?_
                            · intro h320
                              refine mm_wv (vb_i 4) rfl (by decide) ?_
                              refine mm_wpiN (vM_S60 hM) (by decide) (by decide) ?_
                              intro I6 hI6
                              have h176 := (congrFun (congrFun hI6 60) 17).trans (vb_up1 _ _ _ _)
                              have h166 := (congrFun (congrFun hI6 60) 16).trans ((vb_up2 _ _ (by decide)).trans h165)
                              have h186 := (congrFun (congrFun hI6 60) 18).trans ((vb_up2 _ _ (by decide)).trans h185)
                              have h216 := (congrFun (congrFun hI6 60) 21).trans ((vb_up2 _ _ (by decide)).trans h215)
                              have dD6 : nt_D b n I6 := by rw [hI6]; exact dD5.up (by decide)
                              have hf6 : nt_f I I6 := by rw [hI6]; exact hf5.up (by decide) (by decide)
                              have hn1 : ¬ tx_kd (b s) = 1 := fun e => of_decide_eq_false h105 (by rw [hy]; exact e)
                              have hn2 : ¬ tx_kd (b s) = 2 := fun e => of_decide_eq_false p184 (by rw [hy]; exact e)
                              have hE : tx_E b s = s + 1 := by rw [tx_E, if_neg (by omega), if_neg hk0]
                              refine k331 _ _ _ hf6 (by rw [hE]; exact h166) h186 ?_ (fun e => absurd e hn2) h216 (fun e => absurd e hn1)
                              rw [h176]
                              first
                                | (rw [nt_so_sg (by rw [← hy]; first | exact Or.inl h272 | exact Or.inr (Or.inl h278) | exact Or.inr (Or.inr (Or.inl h284)) | exact Or.inr (Or.inr (Or.inr (Or.inl h290))) | exact Or.inr (Or.inr (Or.inr (Or.inr (Or.inl h296)))) | exact Or.inr (Or.inr (Or.inr (Or.inr (Or.inr (Or.inl h302))))) | exact Or.inr (Or.inr (Or.inr (Or.inr (Or.inr (Or.inr (Or.inl h308)))))) | exact Or.inr (Or.inr (Or.inr (Or.inr (Or.inr (Or.inr (Or.inr (Or.inl h314))))))) | exact Or.inr (Or.inr (Or.inr (Or.inr (Or.inr (Or.inr (Or.inr (Or.inr h320))))))))])
                                | (rw [nt_so_no hn1 hn2 hk0 (by rw [← hy]; rintro (h | h | h | h | h | h | h | h | h); exact h272 h; exact h278 h; exact h284 h; exact h290 h; exact h296 h; exact h302 h; exact h308 h; exact h314 h; exact h320 h)])
                            · intro h320
                              refine mm_wv (vb_i 3) rfl (by decide) ?_
                              refine mm_wgoto ?_
                              refine mm_wpiN (vM_S60 hM) (by decide) (by decide) ?_
                              intro I6 hI6
                              have h176 := (congrFun (congrFun hI6 60) 17).trans (vb_up1 _ _ _ _)
                              have h166 := (congrFun (congrFun hI6 60) 16).trans ((vb_up2 _ _ (by decide)).trans h165)
                              have h186 := (congrFun (congrFun hI6 60) 18).trans ((vb_up2 _ _ (by decide)).trans h185)
                              have h216 := (congrFun (congrFun hI6 60) 21).trans ((vb_up2 _ _ (by decide)).trans h215)
                              have dD6 : nt_D b n I6 := by rw [hI6]; exact dD5.up (by decide)
                              have hf6 : nt_f I I6 := by rw [hI6]; exact hf5.up (by decide) (by decide)
                              have hn1 : ¬ tx_kd (b s) = 1 := fun e => of_decide_eq_false h105 (by rw [hy]; exact e)
                              have hn2 : ¬ tx_kd (b s) = 2 := fun e => of_decide_eq_false p184 (by rw [hy]; exact e)
                              have hE : tx_E b s = s + 1 := by rw [tx_E, if_neg (by omega), if_neg hk0]
                              refine k331 _ _ _ hf6 (by rw [hE]; exact h166) h186 ?_ (fun e => absurd e hn2) h216 (fun e => absurd e hn1)
                              rw [h176]
                              first
                                | (rw [nt_so_sg (by rw [← hy]; first | exact Or.inl h272 | exact Or.inr (Or.inl h278) | exact Or.inr (Or.inr (Or.inl h284)) | exact Or.inr (Or.inr (Or.inr (Or.inl h290))) | exact Or.inr (Or.inr (Or.inr (Or.inr (Or.inl h296)))) | exact Or.inr (Or.inr (Or.inr (Or.inr (Or.inr (Or.inl h302))))) | exact Or.inr (Or.inr (Or.inr (Or.inr (Or.inr (Or.inr (Or.inl h308)))))) | exact Or.inr (Or.inr (Or.inr (Or.inr (Or.inr (Or.inr (Or.inr (Or.inl h314))))))) | exact Or.inr (Or.inr (Or.inr (Or.inr (Or.inr (Or.inr (Or.inr (Or.inr h320))))))))])
                                | (rw [nt_so_no hn1 hn2 hk0 (by rw [← hy]; rintro (h | h | h | h | h | h | h | h | h); exact h272 h; exact h278 h; exact h284 h; exact h290 h; exact h296 h; exact h302 h; exact h308 h; exact h314 h; exact h320 h)])
          · intro p184
            have hk2 : tx_kd (b s) = 2 := by rw [← hy]; exact of_decide_eq_true p184
            exact kdig hk2 700 0 (by omega) (by omega) (by rw [tx_E, if_pos (Or.inr hk2), hk2]; rfl) _ _ _ hf4 h164 h184 h214 (by rw [h204]; rfl)
        · intro h105
          have hk1 : tx_kd (b s) = 1 := by rw [← hy]; exact of_decide_eq_true h105
          exact klet hk1 700 0 (by omega) (by omega) (by rw [tx_E, if_pos (Or.inl hk1), hk1]; rfl) _ _ _ hf4 h164 h184 h214 (by rw [vb_up1]; rfl)
      · intro h90
        omega
    · have hk0 : tx_kd (b s) = 0 := (tx_kd0 hb hs).mpr (by omega)
      have hE : tx_E b s = s := by rw [tx_E, if_neg (by omega), if_pos hk0]
      refine mm_w1 rfl ?_
      refine mm_w1 rfl ?_
      refine mm_wgiv _ (vM_S60 hM) (by decide) (by decide) h161 ?_
      refine mm_wpiN (vM_S60 hM) (by decide) (by decide) ?_
      intro I2 hI2
      have h182 := (congrFun (congrFun hI2 60) 18).trans (vb_up1 _ _ _ _)
      have h162 := (congrFun (congrFun hI2 60) 16).trans ((vb_up2 _ _ (by decide)).trans h161)
      have dD2 : nt_D b n I2 := by rw [hI2]; exact dD1.up (by decide)
      have hf2 : nt_f I I2 := by rw [hI2]; exact hf1.up (by decide) (by decide)
      refine mm_w1 rfl ?_
      refine mm_w1 rfl ?_
      refine mm_wpl (vM_S60 hM) (by decide) (by decide) ?_
      refine mm_w1 rfl ?_
      refine mm_wv (vb_i 0) rfl (by decide) ?_
      refine mm_wpiN (vM_S60 hM) (by decide) (by decide) ?_
      intro I3 hI3
      have h203 := (congrFun (congrFun hI3 60) 20).trans (vb_up1 _ _ _ _)
      have h163 := (congrFun (congrFun hI3 60) 16).trans ((vb_up2 _ _ (by decide)).trans h162)
      have h183 := (congrFun (congrFun hI3 60) 18).trans ((vb_up2 _ _ (by decide)).trans h182)
      have dD3 : nt_D b n I3 := by rw [hI3]; exact dD2.up (by decide)
      have hf3 : nt_f I I3 := by rw [hI3]; exact hf2.up (by decide) (by decide)
      refine mm_w1 rfl ?_
      refine mm_w1 rfl ?_
      refine mm_wgiv _ (vM_S60 hM) (by decide) (by decide) h163 ?_
      refine mm_cvp (vb_cv (vM_S60 hM) rfl rfl rfl rfl) (by decide) (by omega) (m_byteAt hM dD3 (by omega)) ?_
      refine mm_w1 (ls' := [_, _]) rfl ?_
      refine mm_w1 rfl ?_
      refine mm_w1 rfl ?_
      refine mm_wpiN (vM_S60 hM) (by decide) (by decide) ?_
      intro I4 hI4
      have h214 := (congrFun (congrFun hI4 60) 21).trans (vb_up1 _ _ _ _)
      have h164 := (congrFun (congrFun hI4 60) 16).trans ((vb_up2 _ _ (by decide)).trans h163)
      have h184 := (congrFun (congrFun hI4 60) 18).trans ((vb_up2 _ _ (by decide)).trans h183)
      have h204 := (congrFun (congrFun hI4 60) 20).trans ((vb_up2 _ _ (by decide)).trans h203)
      have dD4 : nt_D b n I4 := by rw [hI4]; exact dD3.up (by decide)
      have hf4 : nt_f I I4 := by rw [hI4]; exact hf3.up (by decide) (by decide)
      refine mm_w1 rfl ?_
      refine mm_wgiv _ (vM_S60 hM) (by decide) (by decide) h164 ?_
      refine mm_w1 rfl ?_
      refine mm_wgiv _ (vM_S60 hM) (by decide) (by decide) dD4.2.1 ?_
      refine mm_niclt (by omega) (by omega) ?_ ?_
      · intro h90
        omega
      · intro h90
        refine mm_w1 rfl ?_
        refine mm_wv (vb_i 0) rfl (by decide) ?_
        refine mm_wpiN (vM_S60 hM) (by decide) (by decide) ?_
        intro I5 hI5
        have h175 := (congrFun (congrFun hI5 60) 17).trans (vb_up1 _ _ _ _)
        have h165 := (congrFun (congrFun hI5 60) 16).trans ((vb_up2 _ _ (by decide)).trans h164)
        have h185 := (congrFun (congrFun hI5 60) 18).trans ((vb_up2 _ _ (by decide)).trans h184)
        have h215 := (congrFun (congrFun hI5 60) 21).trans ((vb_up2 _ _ (by decide)).trans h214)
        have dD5 : nt_D b n I5 := by rw [hI5]; exact dD4.up (by decide)
        have hf5 : nt_f I I5 := by rw [hI5]; exact hf4.up (by decide) (by decide)
        refine mm_wgoto ?_
        exact k331 _ _ _ hf5 (by rw [hE]; exact h165) h185 (by rw [h175, hk0]; rfl) (fun e => by omega) h215 (fun e => by omega)
  have k0 : ∀ m p, p ≤ n → n ≤ p + m → tx_sk b m p = s → ∀ (I1 : Nat → Nat → Int32) (J1 : Nat → Nat → Int64), nt_f I I1 → I1 60 16 = vb_i p → mm_W G d 146 (mm_blk 146 0) [.ref 60, .null] [] (I1, P, J1, S, nc, ns) (nt_R none (fun I' J' => nt_tk b n s I' J' ∧ nt_f I I') P S nc ns) := by
    intro m
    induction m with
    | zero =>
      intro p h1 h2 h3 I1 J1 hf1 h161
      have dD1 := dD.f hf1
      rw [tx_sk] at h3
      refine mm_w1 rfl ?_
      refine mm_wgiv _ (vM_S60 hM) (by decide) (by decide) h161 ?_
      refine mm_w1 rfl ?_
      refine mm_wgiv _ (vM_S60 hM) (by decide) (by decide) dD1.2.1 ?_
      refine mm_nicge (by omega) (by omega) ?_ ?_
      · intro h8
        exact k50 _ _ hf1 (by rw [← h3]; exact h161)
      · intro h8
        omega
    | succ m ih =>
      intro p h1 h2 h3 I1 J1 hf1 h161
      have dD1 := dD.f hf1
      rw [tx_sk] at h3
      by_cases hp : p < n
      · have hy : nt_y b n p = b p := if_pos hp
        by_cases hsp : tx_sp (b p) = true
        · rw [if_pos hsp] at h3
          have hsp := of_decide_eq_true hsp
          refine mm_w1 rfl ?_
          refine mm_wgiv _ (vM_S60 hM) (by decide) (by decide) h161 ?_
          refine mm_w1 rfl ?_
          refine mm_wgiv _ (vM_S60 hM) (by decide) (by decide) dD1.2.1 ?_
          refine mm_nicge (by omega) (by omega) ?_ ?_
          · intro h8
            omega
          · intro h8
            refine mm_w1 rfl ?_
            refine mm_w1 rfl ?_
            refine mm_wgiv _ (vM_S60 hM) (by decide) (by decide) h161 ?_
            refine mm_cvp (vb_cv (vM_S60 hM) rfl rfl rfl rfl) (by decide) (by omega) (m_byteAt hM dD1 (by omega)) ?_
            refine mm_wv (vb_i 32) rfl (by decide) ?_
            refine mm_wiceq ?_ ?_
            · intro h21
              refine mm_w1 rfl ?_
              refine mm_w1 rfl ?_
              refine mm_wgiv _ (vM_S60 hM) (by decide) (by decide) h161 ?_
              refine mm_wv (vb_i 1) rfl (by decide) ?_
              refine mm_nadd ?_
              refine mm_wpiN (vM_S60 hM) (by decide) (by decide) ?_
              intro I2 hI2
              have h162 := (congrFun (congrFun hI2 60) 16).trans (vb_up1 _ _ _ _)
              have dD2 : nt_D b n I2 := by rw [hI2]; exact dD1.up (by decide)
              have hf2 : nt_f I I2 := by rw [hI2]; exact hf1.up (by decide) (by decide)
              refine mm_wgoto ?_
              exact ih (p + 1) (by omega) (by omega) h3 _ _ hf2 h162
            · intro h21
              refine mm_w1 rfl ?_
              refine mm_w1 rfl ?_
              refine mm_wgiv _ (vM_S60 hM) (by decide) (by decide) h161 ?_
              refine mm_cvp (vb_cv (vM_S60 hM) rfl rfl rfl rfl) (by decide) (by omega) (m_byteAt hM dD1 (by omega)) ?_
              refine mm_wv (vb_i 10) rfl (by decide) ?_
              refine mm_wicne ?_ ?_
              · intro h34
                rw [hy] at h21 h34
                exact absurd hsp (fun e => e.elim h21 h34)
              · intro h34
                refine mm_w1 rfl ?_
                refine mm_w1 rfl ?_
                refine mm_wgiv _ (vM_S60 hM) (by decide) (by decide) h161 ?_
                refine mm_wv (vb_i 1) rfl (by decide) ?_
                refine mm_nadd ?_
                refine mm_wpiN (vM_S60 hM) (by decide) (by decide) ?_
                intro I2 hI2
                have h162 := (congrFun (congrFun hI2 60) 16).trans (vb_up1 _ _ _ _)
                have dD2 : nt_D b n I2 := by rw [hI2]; exact dD1.up (by decide)
                have hf2 : nt_f I I2 := by rw [hI2]; exact hf1.up (by decide) (by decide)
                refine mm_wgoto ?_
                exact ih (p + 1) (by omega) (by omega) h3 _ _ hf2 h162
        · rw [if_neg hsp] at h3
          have hsp : ¬ (b p = 32 ∨ b p = 10) := fun e => hsp (decide_eq_true e)
          refine mm_w1 rfl ?_
          refine mm_wgiv _ (vM_S60 hM) (by decide) (by decide) h161 ?_
          refine mm_w1 rfl ?_
          refine mm_wgiv _ (vM_S60 hM) (by decide) (by decide) dD1.2.1 ?_
          refine mm_nicge (by omega) (by omega) ?_ ?_
          · intro h8
            omega
          · intro h8
            refine mm_w1 rfl ?_
            refine mm_w1 rfl ?_
            refine mm_wgiv _ (vM_S60 hM) (by decide) (by decide) h161 ?_
            refine mm_cvp (vb_cv (vM_S60 hM) rfl rfl rfl rfl) (by decide) (by omega) (m_byteAt hM dD1 (by omega)) ?_
            refine mm_wv (vb_i 32) rfl (by decide) ?_
            refine mm_wiceq ?_ ?_
            · intro h21
              rw [hy] at h21
              exact absurd (Or.inl h21) hsp
            · intro h21
              refine mm_w1 rfl ?_
              refine mm_w1 rfl ?_
              refine mm_wgiv _ (vM_S60 hM) (by decide) (by decide) h161 ?_
              refine mm_cvp (vb_cv (vM_S60 hM) rfl rfl rfl rfl) (by decide) (by omega) (m_byteAt hM dD1 (by omega)) ?_
              refine mm_wv (vb_i 10) rfl (by decide) ?_
              refine mm_wicne ?_ ?_
              · intro h34
                exact k50 _ _ hf1 (by rw [← h3]; exact h161)
              · intro h34
                rw [hy] at h34
                exact absurd (Or.inr h34) hsp
      · rw [hb.2.1 p (by omega), if_neg (by decide)] at h3
        refine mm_w1 rfl ?_
        refine mm_wgiv _ (vM_S60 hM) (by decide) (by decide) h161 ?_
        refine mm_w1 rfl ?_
        refine mm_wgiv _ (vM_S60 hM) (by decide) (by decide) dD1.2.1 ?_
        refine mm_nicge (by omega) (by omega) ?_ ?_
        · intro h8
          exact k50 _ _ hf1 (by rw [← h3]; exact h161)
        · intro h8
          omega
  show mm_W _ _ 146 (mm_blk 146 0) [.ref 60, .null] [] _ _
  exact k0 700 q hq (by omega) hs0 I J .rf h16
end NGO
