/-! AN OPERAND OF THE REFERENCE, whole -/
def nx_O (b : Nat → Int32) (n a0 F : Nat) (r : (Nat × Nat) ⊕ (Nat × List (Nat × Int32))) (I : Nat → Nat → Int32) (J : Nat → Nat → Int64) : Prop := (∃ x, r = .inl x ∧ nx_X n a0 x I) ∨ ∃ F' D W t C s, F' < F ∧ rf b F' false false 0 D W t C s = some r ∧ nx_S b n a0 D W t C s I J
theorem nt_kw_ne {b : Nat → Int32} {s k : Nat} (hk : k < 16) (h : tx_w b s ≠ k) : ¬ nt_kw b s = vb_i k := by
  rw [nt_kw]
  split
  · intro e
    have := congrArg Int32.toNatClampNeg e
    rw [vb_nat (by omega), vb_nat (by omega)] at this
    exact h this
  · intro e; exact absurd e (by
      have : k = 0 ∨ k = 1 ∨ k = 2 ∨ k = 3 ∨ k = 4 ∨ k = 5 ∨ k = 6 ∨ k = 7 ∨ k = 8 ∨ k = 9 ∨ k = 10 ∨ k = 11 ∨ k = 12 ∨ k = 13 ∨ k = 14 ∨ k = 15 := by omega
      rcases this with rfl | rfl | rfl | rfl | rfl | rfl | rfl | rfl | rfl | rfl | rfl | rfl | rfl | rfl | rfl | rfl <;> decide)
section NXQ
variable {G : mm_G} {d : Nat} {I : Nat → Nat → Int32} {P : Nat → Nat → Nat} {J : Nat → Nat → Int64} {S : List (Nat × Nat)} {nc ns : Nat} {μ : mm_M} {b : Nat → Int32} {n : Nat}
variable {a0 : Nat}
theorem nx_c14 (W : List Nat) : nx_c (14 :: W) = nx_c W + 1 := by rw [nx_c, List.countP_cons, if_pos (by decide)]; rfl
theorem nx_c3 {a : Nat} (W : List Nat) (h : a < 14) : nx_c (a :: W) = nx_c W := by rw [nx_c, List.countP_cons, if_neg (by simp; omega)]; rfl
theorem m_operand (hM : vm_isM P S) (hb : tx_ok b n) (hd : 6 ≤ d) {F0 D : Nat} {nt : Bool} {W : List Nat} {t : Nat → Bool} {C : List (Nat × Int32)} {s : Nat} {r : (Nat × Nat) ⊕ (Nat × List (Nat × Int32))} (hrf : rf b F0 true nt 0 D W t C s = some r) (hS : nx_S b n a0 D W t C s I J) : mm_C G d 163 [.ref 60, .int (vb_b nt)] (I, P, J, S, nc, ns) (nt_R none (fun I' J' => nx_O b n a0 F0 r I' J' ∧ nx_f a0 I I') P S nc ns) := by
  have hn7 := hb.1
  have kX : ∀ (x : Nat × Nat) (I1 : Nat → Nat → Int32) (J1 : Nat → Nat → Int64) (v1 v2 v4 : Int32), r = .inl x → nx_X n a0 x I1 → nx_f a0 I I1 → mm_W G d 163 (mm_blk 163 18) [.ref 60, .int v1, .int v2, .int (vb_i 1), .int v4] [] (I1, P, J1, S, nc, ns) (nt_R none (fun I' J' => nx_O b n a0 F0 r I' J' ∧ nx_f a0 I I') P S nc ns) := by
    intro x I1 J1 v1 v2 v4 hr hX hx1
    refine mm_w1 rfl ?_
    refine mm_cvp (vb_cv (vM_S60 hM) rfl rfl rfl rfl) (by decide) (by omega) (m_good1 hM hX.1 hX.2.2.1 hX.2.2.2.1) ?_
    refine mm_nifeq (by decide) (fun _ => ?_) (fun h => absurd h (by decide))
    refine mm_w1 rfl ?_
    refine mm_cvp (vb_cv (vM_S60 hM) rfl rfl rfl rfl) (by decide) (by omega) (m_good1 hM hX.1 hX.2.2.1 hX.2.2.2.1) ?_
    refine mm_nifeq (by decide) (fun _ => ?_) (fun h => absurd h (by decide))
    refine mm_wv (vb_i 0) rfl (by decide) ?_
    refine mm_w1 (ls' := [_, _, _, _, _]) rfl ?_
    refine mm_w1 rfl ?_
    refine mm_nifeq (by decide) (fun _ => ?_) (fun h => absurd h (by decide))
    refine mm_wgoto ?_
    refine mm_w1 rfl ?_
    refine mm_nifeq (by decide) (fun _ => ?_) (fun h => absurd h (by decide))
    refine mm_w1 rfl ?_
    refine mm_cvp0 (vb_cv (vM_S60 hM) rfl rfl rfl rfl) (by decide) (by omega) (m_part1 hM hX.1 hX.2.2.1 hX.2.2.2.1 (by omega)) ?_
    refine mm_wr rfl rfl rfl ?_
    exact ⟨_, _, ⟨Or.inl ⟨x, hr, hX⟩, hx1⟩, rfl⟩
  have k75 : ∀ (D s : Nat) (W : List Nat) (t : Nat → Bool) (C : List (Nat × Int32)) (nt : Bool) (I1 : Nat → Nat → Int32) (J1 : Nat → Nat → Int64) (v1 v4 : Int32), nx_S b n a0 D W t C s I1 J1 → (nt = true → tx_w b s ≠ 15) → mm_W G d 163 (mm_blk 163 75) [.ref 60, .int v1, .int (vb_b nt), .int (vb_i 1), .int v4] [] (I1, P, J1, S, nc, ns) (nt_R none (fun I' J' => nx_O b n a0 F0 r I' J' ∧ nx_f a0 I I') P S nc ns) → mm_W G d 163 (mm_blk 163 18) [.ref 60, .int v1, .int (vb_b nt), .int (vb_i 1), .int v4] [] (I1, P, J1, S, nc, ns) (nt_R none (fun I' J' => nx_O b n a0 F0 r I' J' ∧ nx_f a0 I I') P S nc ns) := by
    intro D s W t C nt I1 J1 v1 v4 hS1 hnt key
    obtain ⟨dD1, hk1, dE1, h121, hv1, hv2, hv3, hv4, hv5, hv6⟩ := hS1
    refine mm_w1 rfl ?_
    refine mm_cvp (vb_cv (vM_S60 hM) rfl rfl rfl rfl) (by decide) (by omega) (m_good0 hM h121) ?_
    refine mm_nifeq (by decide) (fun h => absurd h (by decide)) (fun _ => ?_)
    refine mm_w1 rfl ?_
    refine mm_bifeq ?_ ?_
    · intro h26
      exact key
    · intro h26
      refine mm_w1 rfl ?_
      refine mm_cvp (vb_cv (vM_S60 hM) rfl rfl rfl rfl) (by decide) (by omega) (m_known hM hv1 hn7 hb hk1 (by omega)) ?_
      refine mm_wv (vb_i 15) rfl (by decide) ?_
      refine mm_wicne ?_ ?_
      · intro h35
        exact key
      · intro h35
        exact absurd h35 (nt_kw_ne (by decide) (hnt h26))
  have kA : ∀ F, F ≤ F0 → ∀ (nt : Bool) (j D : Nat) (W : List Nat) (t : Nat → Bool) (C : List (Nat × Int32)) (s : Nat) (I1 : Nat → Nat → Int32) (J1 : Nat → Nat → Int64) (v1 : Int32), rf b F true nt j D W t C s = some r → j ≤ 6 → nx_S b n a0 D W t C s I1 J1 → nx_f a0 I I1 → mm_W G d 163 (mm_blk 163 18) [.ref 60, .int v1, .int (vb_b nt), .int (vb_i 1), .int (vb_i j)] [] (I1, P, J1, S, nc, ns) (nt_R none (fun I' J' => nx_O b n a0 F0 r I' J' ∧ nx_f a0 I I') P S nc ns) := by
    intro F
    induction F with
    | zero => intro _ nt j D W t C s I1 J1 v1 h; cases h
    | succ F ih =>
      intro hF nt j D W t C s I1 J1 v1 h hj hS1 hx1
      have hS1' := hS1
      obtain ⟨dD1, hk1, dE1, h121, hv1, hv2, hv3, hv4, hv5, hv6⟩ := hS1'
      have h181 := hk1.2.1
      have hNn := tx_N_n hb hv1
      rw [rf] at h
      by_cases hw : nt = true ∧ tx_w b s = 15
      · rw [if_pos hw] at h
        obtain ⟨rfl, hw⟩ := hw
        have hK1 := tx_w_K (show tx_w b s < 16 by omega)
        have hsn := tx_lt hb hv1 (by omega)
        have hNlt := tx_N_lt hb hsn
        by_cases hj6 : j = 6
        · rw [if_pos hj6] at h
          subst hj6
          cases h
          refine mm_w1 rfl ?_
          refine mm_cvp (vb_cv (vM_S60 hM) rfl rfl rfl rfl) (by decide) (by omega) (m_good0 hM h121) ?_
          refine mm_nifeq (by decide) (fun h => absurd h (by decide)) (fun _ => ?_)
          refine mm_w1 rfl ?_
          refine mm_bifeq ?_ ?_
          · intro h26
            cases h26
          · intro h26
            refine mm_w1 rfl ?_
            refine mm_cvp (vb_cv (vM_S60 hM) rfl rfl rfl rfl) (by decide) (by omega) (m_kw hM hv1 hn7 hb hk1 (by omega) hw (by decide)) ?_
            refine mm_wv (vb_i 15) rfl (by decide) ?_
            refine mm_nicne (by decide) (by decide) (fun h => absurd h (by decide)) (fun _ => ?_)
            refine mm_w1 rfl ?_
            refine mm_wv (vb_i 6) rfl (by decide) ?_
            refine mm_nicne (by decide) (by decide) (fun h => absurd h (by decide)) (fun _ => ?_)
            refine mm_w1 rfl ?_
            refine mm_wv (vb_i 2) rfl (by decide) ?_
            refine mm_cvn (vb_cv (vM_S60 hM) rfl rfl rfl rfl) (by decide) (by omega) (m_wrong0 hM h121 h181) ?_
            intro I2 hI2
            have hX : nx_X n a0 (2, s) I2 := ⟨by rw [hI2, vb_up2 _ _ (by decide), vb_up1], by rw [hI2, vb_up1], of_decide_eq_true rfl, of_decide_eq_true rfl, D, W, t, C, dE1.wrong hI2, hv4, by omega, by omega⟩
            refine mm_nincL (ls' := [_, _, _, _, _]) 1 rfl (by decide) rfl ?_
            refine mm_w1 rfl ?_
            refine mm_cvp (vb_cv (vM_S60 hM) rfl rfl rfl rfl) (by decide) (by omega) (m_good1 (f := 2) hM hX.1 (by decide) (by decide)) ?_
            refine mm_nifne (by decide) (fun h => absurd h (by decide)) (fun _ => ?_)
            refine mm_wgoto ?_
            exact kX (2, s) _ _ _ _ _ rfl hX (hx1.tr (.wr hI2))
        · rw [if_neg hj6] at h
          refine mm_w1 rfl ?_
          refine mm_cvp (vb_cv (vM_S60 hM) rfl rfl rfl rfl) (by decide) (by omega) (m_good0 hM h121) ?_
          refine mm_nifeq (by decide) (fun h => absurd h (by decide)) (fun _ => ?_)
          refine mm_w1 rfl ?_
          refine mm_bifeq ?_ ?_
          · intro h26
            cases h26
          · intro h26
            refine mm_w1 rfl ?_
            refine mm_cvp (vb_cv (vM_S60 hM) rfl rfl rfl rfl) (by decide) (by omega) (m_kw hM hv1 hn7 hb hk1 (by omega) hw (by decide)) ?_
            refine mm_wv (vb_i 15) rfl (by decide) ?_
            refine mm_nicne (by decide) (by decide) (fun h => absurd h (by decide)) (fun _ => ?_)
            refine mm_w1 rfl ?_
            refine mm_wv (vb_i 6) rfl (by decide) ?_
            refine mm_nicne (by omega) (by omega) ?_ ?_
            · intro h42
              refine mm_nincL (ls' := [_, _, _, _, _]) 1 rfl (by decide) rfl ?_
              refine mm_w1 rfl ?_
              refine mm_cvp (vb_cv (vM_S60 hM) rfl rfl rfl rfl) (by decide) (by omega) (m_good0 hM h121) ?_
              refine mm_nifne (by decide) (fun _ => ?_) (fun h => absurd h (by decide))
              refine mm_w1 rfl ?_
              refine mm_wv (vb_i 3) rfl (by decide) ?_
              refine mm_cvn (vb_cv (vM_S60 hM) rfl rfl rfl rfl) (by decide) (by omega) (m_waits hM dE1.2.1 (by omega)) ?_
              intro I2 hI2
              have dE2 : nx_E a0 D (3 :: W) t C I2 := by rw [hI2]; exact dE1.push 3
              have hg2 : nx_g a0 I1 I2 := by rw [hI2]; exact nx_g.rf.u73.u60 (by decide) (by decide)
              have dD2 := dD1.g hg2
              have hk2 := hk1.g hg2
              have h122 : I2 60 12 = vb_i 0 := (hg2.2.1 12 (by decide)).trans h121
              have hx2 := hx1.tr hg2.f
              refine mm_w1 rfl ?_
              refine mm_cvnJ (vb_cv (vM_S60 hM) rfl rfl rfl rfl) (by decide) (by omega) (m_goes hM dD2 hb (tx_E_n hb hv1) hk2.1 (by omega)) ?_
              intro I3 J3 hq3
              obtain ⟨hkS3, hfN3⟩ := hq3
              have hk3 : nt_tk b n (tx_N b s) I3 J3 := hkS3
              have dD3 := dD2.f hfN3
              have dE3 := dE2.f hfN3
              have h123 : I3 60 12 = vb_i 0 := (hfN3.2 12 (by decide)).trans h122
              have hx3 := hx2.tr (.of hfN3)
              refine mm_wgoto ?_
              exact ih (by omega) true (j + 1) D (3 :: W) t C (tx_N b s) _ _ _ h (by omega) ⟨dD3, hk3, dE3, h123, hNn, hv2, by rw [nx_c3 _ (by decide)]; exact hv3, (fun a ha => by
                rcases List.mem_cons.mp ha with rfl | ha
                · decide
                · exact hv4 a ha), by rw [List.length_cons]; omega, by rw [List.length_cons]; omega⟩ hx3
            · intro h42
              exact absurd h42 hj6
      · rw [if_neg hw] at h
        have hnt : nt = true → tx_w b s ≠ 15 := fun e e2 => hw ⟨e, e2⟩
        refine k75 D s W t C nt I1 J1 _ _ hS1 hnt ?_
        by_cases hK : tx_K b s = 40
        · rw [if_pos hK] at h
          have hsn := tx_lt hb hv1 (by omega)
          have hNlt := tx_N_lt hb hsn
          by_cases hD : D < 6
          · rw [if_pos hD] at h
            refine mm_w1 rfl ?_
            refine mm_cvp (vb_cv (vM_S60 hM) rfl rfl rfl rfl) (by decide) (by omega) (m_good0 hM h121) ?_
            refine mm_nifeq (by decide) (fun h => absurd h (by decide)) (fun _ => ?_)
            refine mm_w1 rfl ?_
            refine mm_wv (vb_i 40) rfl (by decide) ?_
            refine mm_cvp (vb_cv (vM_S60 hM) rfl rfl rfl rfl) (by decide) (by omega) (m_sg1 hM hb hv1 hk1 (Or.inr (Or.inl rfl)) hK) ?_
            refine mm_nifeq (by decide) (fun h => absurd h (by decide)) (fun _ => ?_)
            refine mm_wv (vb_i 1) rfl (by decide) ?_
            refine mm_wgoto ?_
            refine mm_w1 (ls' := [_, _, _, _, _]) rfl ?_
            refine mm_w1 rfl ?_
            refine mm_nifeq (by decide) (fun h => absurd h (by decide)) (fun _ => ?_)
            refine mm_w1 rfl ?_
            refine mm_wv (vb_i 14) rfl (by decide) ?_
            refine mm_cvn (vb_cv (vM_S60 hM) rfl rfl rfl rfl) (by decide) (by omega) (m_waits hM dE1.2.1 (by omega)) ?_
            intro I2 hI2
            have dE2 : nx_E a0 D (14 :: W) t C I2 := by rw [hI2]; exact dE1.push 14
            have hg2 : nx_g a0 I1 I2 := by rw [hI2]; exact nx_g.rf.u73.u60 (by decide) (by decide)
            have dD2 := dD1.g hg2
            have hk2 := hk1.g hg2
            have h122 : I2 60 12 = vb_i 0 := (hg2.2.1 12 (by decide)).trans h121
            have hx2 := hx1.tr hg2.f
            refine mm_w1 rfl ?_
            refine mm_cvnJ (vb_cv (vM_S60 hM) rfl rfl rfl rfl) (by decide) (by omega) (m_goes hM dD2 hb (tx_E_n hb hv1) hk2.1 (by omega)) ?_
            intro I3 J3 hq3
            obtain ⟨hkS3, hfN3⟩ := hq3
            have hk3 : nt_tk b n (tx_N b s) I3 J3 := hkS3
            have dD3 := dD2.f hfN3
            have dE3 := dE2.f hfN3
            have h123 : I3 60 12 = vb_i 0 := (hfN3.2 12 (by decide)).trans h122
            have hx3 := hx2.tr (.of hfN3)
            refine mm_w1 rfl ?_
            refine mm_cvn (vb_cv (vM_S60 hM) rfl rfl rfl rfl) (by decide) (by omega) (m_deeper hM dE3 hD) ?_
            intro I4 hq4
            obtain ⟨dE4, hg4⟩ := hq4
            have dD4 := dD3.g hg4
            have hk4 := hk3.g hg4
            have h124 : I4 60 12 = vb_i 0 := (hg4.2.1 12 (by decide)).trans h123
            have hx4 := hx3.tr hg4.f
            refine mm_wv (vb_b true) rfl (by decide) ?_ 
            refine mm_w1 (ls' := [_, _, _, _, _]) rfl ?_
            refine mm_wgoto ?_
            refine mm_w1 rfl ?_
            refine mm_nifeq (by decide) (fun h => absurd h (by decide)) (fun _ => ?_)
            refine mm_w1 rfl ?_
            refine mm_cvp (vb_cv (vM_S60 hM) rfl rfl rfl rfl) (by decide) (by omega) (m_good0 hM h124) ?_
            refine mm_nifeq (by decide) (fun h => absurd h (by decide)) (fun _ => ?_)
            refine mm_wv (vb_i 0) rfl (by decide) ?_
            refine mm_w1 (ls' := [_, _, _, _, _]) rfl ?_
            exact ih (by omega) true 0 (D + 1) (14 :: W) _ C (tx_N b s) _ _ _ h (by decide) ⟨dD4, hk4, dE4, h124, hNn, by omega, by rw [nx_c14]; omega, (fun a ha => by
              rcases List.mem_cons.mp ha with rfl | ha
              · decide
              · exact hv4 a ha), by rw [List.length_cons]; omega, by rw [List.length_cons]; omega⟩ hx4
          · rw [if_neg hD] at h
            cases h
            refine mm_w1 rfl ?_
            refine mm_cvp (vb_cv (vM_S60 hM) rfl rfl rfl rfl) (by decide) (by omega) (m_good0 hM h121) ?_
            refine mm_nifeq (by decide) (fun h => absurd h (by decide)) (fun _ => ?_)
            refine mm_w1 rfl ?_
            refine mm_wv (vb_i 40) rfl (by decide) ?_
            refine mm_cvp (vb_cv (vM_S60 hM) rfl rfl rfl rfl) (by decide) (by omega) (m_sg1 hM hb hv1 hk1 (Or.inr (Or.inl rfl)) hK) ?_
            refine mm_nifeq (by decide) (fun h => absurd h (by decide)) (fun _ => ?_)
            refine mm_wv (vb_i 1) rfl (by decide) ?_
            refine mm_wgoto ?_
            refine mm_w1 (ls' := [_, _, _, _, _]) rfl ?_
            refine mm_w1 rfl ?_
            refine mm_nifeq (by decide) (fun h => absurd h (by decide)) (fun _ => ?_)
            refine mm_w1 rfl ?_
            refine mm_wv (vb_i 14) rfl (by decide) ?_
            refine mm_cvn (vb_cv (vM_S60 hM) rfl rfl rfl rfl) (by decide) (by omega) (m_waits hM dE1.2.1 (by omega)) ?_
            intro I2 hI2
            have dE2 : nx_E a0 D (14 :: W) t C I2 := by rw [hI2]; exact dE1.push 14
            have hg2 : nx_g a0 I1 I2 := by rw [hI2]; exact nx_g.rf.u73.u60 (by decide) (by decide)
            have dD2 := dD1.g hg2
            have hk2 := hk1.g hg2
            have h122 : I2 60 12 = vb_i 0 := (hg2.2.1 12 (by decide)).trans h121
            have hx2 := hx1.tr hg2.f
            refine mm_w1 rfl ?_
            refine mm_cvnJ (vb_cv (vM_S60 hM) rfl rfl rfl rfl) (by decide) (by omega) (m_goes hM dD2 hb (tx_E_n hb hv1) hk2.1 (by omega)) ?_
            intro I3 J3 hq3
            obtain ⟨hkS3, hfN3⟩ := hq3
            have hk3 : nt_tk b n (tx_N b s) I3 J3 := hkS3
            have dD3 := dD2.f hfN3
            have dE3 := dE2.f hfN3
            have h123 : I3 60 12 = vb_i 0 := (hfN3.2 12 (by decide)).trans h122
            have hx3 := hx2.tr (.of hfN3)
            refine mm_w1 rfl ?_
            refine mm_cvn (vb_cv (vM_S60 hM) rfl rfl rfl rfl) (by decide) (by omega) (m_deeper6 hM hb hNn hk3 dE3 h123 (by omega) (by omega)) ?_
            intro I4 hI4
            have hw12 : 1 ≤ (if px_cb b (tx_N b s) then 2 else 1) ∧ (if px_cb b (tx_N b s) then 2 else 1) ≤ 5 := by split <;> decide
            have hX : nx_X n a0 ((if px_cb b (tx_N b s) then 2 else 1), tx_N b s) I4 := ⟨by rw [hI4, vb_up2 _ _ (by decide), vb_up1], by rw [hI4, vb_up1], hw12.1, hw12.2, D, 14 :: W, t, C, dE3.wrong hI4, (fun a ha => by
              rcases List.mem_cons.mp ha with rfl | ha
              · decide
              · exact hv4 a ha), by rw [List.length_cons]; omega, by rw [List.length_cons]; omega⟩
            have hx4 := hx3.tr (.wr hI4)
            refine mm_wv (vb_i 1) rfl (by decide) ?_
            refine mm_w1 (ls' := [_, _, _, _, _]) rfl ?_
            refine mm_wgoto ?_
            refine mm_w1 rfl ?_
            refine mm_nifeq (by decide) (fun h => absurd h (by decide)) (fun _ => ?_)
            refine mm_w1 rfl ?_
            refine mm_cvp (vb_cv (vM_S60 hM) rfl rfl rfl rfl) (by decide) (by omega) (m_good1 hM hX.1 hX.2.2.1 hX.2.2.2.1) ?_
            refine mm_nifeq (by decide) (fun _ => ?_) (fun h => absurd h (by decide))
            refine mm_w1 rfl ?_
            refine mm_cvp0 (vb_cv (vM_S60 hM) rfl rfl rfl rfl) (by decide) (by omega) (m_part1 hM hX.1 hX.2.2.1 hX.2.2.2.1 (by omega)) ?_
            refine mm_wr rfl rfl rfl ?_
            exact ⟨_, _, ⟨Or.inl ⟨_, rfl, hX⟩, hx4⟩, rfl⟩
        · rw [if_neg hK] at h
          have hpt : (∃ x, r = .inl x ∧ pt b s = .inl x) ∨ ∃ it, pt b s = .inr it ∧ rf b F false false 0 D W t (C ++ [it]) (tx_N b s) = some r := by
            simp only [pt]
            split at h
            · rename_i e; rw [if_pos e]; exact Or.inr ⟨_, rfl, h⟩
            · rename_i e; rw [if_neg e]
              split at h
              · rename_i e2; rw [if_pos e2]; cases h; exact Or.inl ⟨_, rfl, rfl⟩
              · rename_i e2; rw [if_neg e2]
                split at h
                · rename_i e3; rw [if_pos e3]
                  split at h
                  · rename_i e4; rw [if_pos e4]; exact Or.inr ⟨_, rfl, h⟩
                  · rename_i e4; rw [if_neg e4]; cases h; exact Or.inl ⟨_, rfl, rfl⟩
                · rename_i e3; rw [if_neg e3]; cases h; exact Or.inl ⟨_, rfl, rfl⟩
          refine mm_w1 rfl ?_
          refine mm_cvp (vb_cv (vM_S60 hM) rfl rfl rfl rfl) (by decide) (by omega) (m_good0 hM h121) ?_
          refine mm_nifeq (by decide) (fun h => absurd h (by decide)) (fun _ => ?_)
          refine mm_w1 rfl ?_
          refine mm_wv (vb_i 40) rfl (by decide) ?_
          refine mm_cvp (vb_cv (vM_S60 hM) rfl rfl rfl rfl) (by decide) (by omega) (m_sg0 hM hb hv1 hk1 (Or.inr (Or.inl rfl)) hK) ?_
          refine mm_nifeq (by decide) (fun _ => ?_) (fun h => absurd h (by decide))
          refine mm_wv (vb_i 0) rfl (by decide) ?_
          refine mm_w1 (ls' := [_, _, _, _, _]) rfl ?_
          refine mm_w1 rfl ?_
          refine mm_nifeq (by decide) (fun _ => ?_) (fun h => absurd h (by decide))
          refine mm_wgoto ?_
          refine mm_w1 rfl ?_
          refine mm_nifeq (by decide) (fun _ => ?_) (fun h => absurd h (by decide))
          refine mm_w1 rfl ?_
          refine mm_cvnJ (vb_cv (vM_S60 hM) rfl rfl rfl rfl) (by decide) (by omega) (m_part hM hb hS1 (by omega)) ?_
          intro I2 J2 hq2
          obtain ⟨hP2, hy2⟩ := hq2
          have hx2 := hx1.tr hy2
          refine mm_wr rfl rfl rfl ?_
          refine ⟨_, _, ⟨?_, hx2⟩, rfl⟩
          rcases hpt with ⟨x, e1, e2⟩ | ⟨it, e1, e2⟩
          · simp only [nx_P, e2] at hP2
            exact Or.inl ⟨x, e1, hP2⟩
          · simp only [nx_P, e1] at hP2
            exact Or.inr ⟨F, D, W, t, C ++ [it], tx_N b s, by omega, e2, hP2⟩
  obtain ⟨_, _, _, h12, _⟩ := id hS
  show mm_W _ _ 163 (mm_blk 163 0) [.ref 60, .int (vb_b nt), .null, .null, .null] [] _ _
  refine mm_w1 rfl ?_
  refine mm_w1 (ls' := [_, _, _, _, _]) rfl ?_
  refine mm_wv (vb_i 1) rfl (by decide) ?_
  refine mm_w1 (ls' := [_, _, _, _, _]) rfl ?_
  refine mm_w1 rfl ?_
  refine mm_nifeq (by decide) (fun h => absurd h (by decide)) (fun _ => ?_)
  refine mm_w1 rfl ?_
  refine mm_cvp (vb_cv (vM_S60 hM) rfl rfl rfl rfl) (by decide) (by omega) (m_good0 hM h12) ?_
  refine mm_nifeq (by decide) (fun h => absurd h (by decide)) (fun _ => ?_)
  refine mm_wv (vb_i 0) rfl (by decide) ?_
  refine mm_w1 (ls' := [_, _, _, _, _]) rfl ?_
  exact kA F0 (Nat.le_refl _) nt 0 D W t C s I J _ hrf (by decide) hS .rf
end NXQ
