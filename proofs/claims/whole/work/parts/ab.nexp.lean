/-! AN EXPRESSION OF THE REFERENCE, whole -/
theorem nx_dWm {k : Nat} : ∀ {W : List Nat} {a : Nat}, a ∈ rf_dW k W → a ∈ W := by
  intro W
  induction W with
  | nil => intro a h; exact h
  | cons x W ih =>
    intro a h
    rw [rf_dW] at h
    split at h
    · exact List.mem_cons_of_mem _ (ih h)
    · exact h
theorem nx_dWc {k : Nat} : ∀ W : List Nat, nx_c (rf_dW k W) = nx_c W := by
  intro W
  induction W with
  | nil => rfl
  | cons x W ih =>
    rw [rf_dW]
    split
    · rename_i h; rw [ih, nx_c3 _ h.1]
    · rfl
theorem nx_dWl {k : Nat} : ∀ W : List Nat, (∀ a, a ∈ W → 3 ≤ a ∧ a ≤ 14) → (px_rc (rf_dC k W)).length + (rf_dW k W).length = W.length := by
  intro W
  induction W with
  | nil => intro _; rfl
  | cons x W ih =>
    intro h
    have hx := h x List.mem_cons_self
    have ih := ih (fun a ha => h a (List.mem_cons_of_mem _ ha))
    rw [rf_dW, rf_dC]
    split
    · show (px_ri (x, 0) ++ px_rc (rf_dC k W)).length + _ = _
      rw [px_ri, if_neg (by show ¬ (x = 1 ∨ x = 2); omega), List.length_append]
      show 1 + _ + _ = W.length + 1
      omega
    · show 0 + _ = _
      omega
theorem nx_dW0 : ∀ W : List Nat, W.any (fun a => decide (14 ≤ a)) = true → ∃ h tl, rf_dW 0 W = h :: tl ∧ 14 ≤ h := by
  intro W
  induction W with
  | nil => intro h; cases h
  | cons x W ih =>
    intro h
    rw [rf_dW]
    by_cases hx : x < 14
    · rw [if_pos ⟨hx, Nat.zero_le _⟩]
      rw [List.any_cons, decide_eq_false (by omega), Bool.false_or] at h
      exact ih h
    · rw [if_neg (fun e => hx e.1)]
      exact ⟨x, W, rfl, by omega⟩
section NXR
variable {G : mm_G} {d : Nat} {I : Nat → Nat → Int32} {P : Nat → Nat → Nat} {J : Nat → Nat → Int64} {S : List (Nat × Nat)} {nc ns : Nat} {μ : mm_M} {b : Nat → Int32} {n : Nat}
variable {a0 : Nat}
theorem nx_V.dr {D s k : Nat} {W : List Nat} {C : List (Nat × Int32)} (h : nx_V n a0 D W C s) : nx_V n a0 D (rf_dW k W) (C ++ rf_dC k W) s := by
  obtain ⟨h1, h2, h3, h4, h5, h6⟩ := h
  have hl := nx_dWl (k := k) W h4
  refine ⟨h1, h2, by rw [nx_dWc]; exact h3, fun a ha => h4 a (nx_dWm ha), ?_, by omega⟩
  rw [px_rc_app, List.length_append]; omega
theorem nx_V.ps {D s s' a : Nat} {W : List Nat} {C : List (Nat × Int32)} (h : nx_V n a0 D W C s) (h1 : s < s') (h2 : s' ≤ n) (h3 : 3 ≤ a) (h14 : a < 14) : nx_V n a0 D (a :: W) C s' := by
  obtain ⟨k1, k2, k3, k4, k5, k6⟩ := h
  refine ⟨h2, k2, by rw [nx_c3 _ h14]; exact k3, (fun x hx => ?_), by rw [List.length_cons]; omega, by rw [List.length_cons]; omega⟩
  rcases List.mem_cons.mp hx with rfl | hx
  · omega
  · exact k4 x hx
theorem m_closes (hM : vm_isM P S) (hb : tx_ok b n) {D s : Nat} {W : List Nat} {t : Nat → Bool} {C : List (Nat × Int32)} (hS : nx_S b n a0 D W t C s I J) (hK : tx_K b s = 41) (hW : W.any (fun a => decide (14 ≤ a)) = true) (hd : 4 ≤ d) : mm_C G d 165 [.ref 60] (I, P, J, S, nc, ns) (nt_R none (fun I' J' => nx_S b n a0 (D - 1) (rf_dW 0 W).tail t (C ++ rf_dC 0 W) (tx_N b s) I' J' ∧ nx_f a0 I I') P S nc ns) := by
  obtain ⟨dD, hk, dE, h12, hV⟩ := hS
  have hn7 := hb.1
  have hV2 := hV.dr (k := 0)
  have hv1 := hV.1
  have hsn := tx_lt hb hv1 (by omega)
  have hNlt := tx_N_lt hb hsn
  have hNn := tx_N_n hb hv1
  obtain ⟨q, tl, e, hq⟩ := nx_dW0 W hW
  rw [e] at hV2 ⊢
  obtain ⟨_, v2, v3, v4, v5, v6⟩ := id hV2
  have hq14 : q = 14 := by have := v4 q List.mem_cons_self; omega
  subst hq14
  rw [nx_c14] at v3
  rw [List.length_cons] at v5 v6
  show mm_W _ _ 165 (mm_blk 165 0) [.ref 60] [] _ _
  refine mm_w1 rfl ?_
  refine mm_wv (vb_i 0) rfl (by decide) ?_
  refine mm_cvn (vb_cv (vM_S60 hM) rfl rfl rfl rfl) (by decide) (by omega) (m_drops hM (by decide) (by omega) W C I dE hV.2.2.2.1 (by have := hV.2.2.2.2.1; omega) (by have := hV.2.2.2.2.2; omega)) ?_
  intro I1 hq1
  obtain ⟨dE1, hg1⟩ := hq1
  rw [e] at dE1
  have h281 : I1 60 28 = vb_i (tl.length + 1) := dE1.2.1
  have h291 := dE1.2.2.1
  refine mm_w1 rfl ?_
  refine mm_w1 rfl ?_
  refine mm_wgiv _ (vM_S60 hM) (by decide) (by decide) h281 ?_
  refine mm_wv (vb_i 1) rfl (by decide) ?_
  refine mm_nsub (by omega) ?_
  refine mm_wpiN (vM_S60 hM) (by decide) (by decide) ?_
  intro I2 hI2
  have dE2 : nx_E a0 D tl t (C ++ rf_dC 0 W) I2 := by rw [hI2]; exact dE1.pop
  have h292 := dE2.2.2.1
  have hg2 : nx_g a0 I I2 := by rw [hI2]; exact hg1.u60 (by decide) (by decide)
  refine mm_w1 rfl ?_
  refine mm_w1 rfl ?_
  refine mm_wgiv _ (vM_S60 hM) (by decide) (by decide) h292 ?_
  refine mm_wv (vb_i 1) rfl (by decide) ?_
  refine mm_nsub (by omega) ?_
  refine mm_wpiN (vM_S60 hM) (by decide) (by decide) ?_
  intro I3 hI3
  have dE3 : nx_E a0 (D - 1) tl t (C ++ rf_dC 0 W) I3 := by rw [hI3]; exact dE2.up (by omega)
  have hg3 : nx_g a0 I I3 := by rw [hI3]; exact hg2.u60 (by decide) (by decide)
  have h123 : I3 60 12 = vb_i 0 := (hg3.2.1 12 (by decide)).trans h12
  refine mm_w1 rfl ?_
  refine mm_cvnJ (vb_cv (vM_S60 hM) rfl rfl rfl rfl) (by decide) (by omega) (m_goes hM (dD.g hg3) hb (tx_E_n hb hv1) (hk.g hg3).1 (by omega)) ?_
  intro I4 J4 hq4
  obtain ⟨hkN, hfN⟩ := hq4
  refine mm_wr rfl rfl rfl ?_
  refine ⟨_, _, ⟨⟨(dD.g hg3).f hfN, hkN, dE3.f hfN, (hfN.2 12 (by decide)).trans h123, hNn, by omega, ?_, fun a ha => v4 a (List.mem_cons_of_mem _ ha), ?_, ?_⟩, hg3.f.tr (.of hfN)⟩, rfl⟩
  · show D - 1 = nx_c tl + 1
    omega
  · show _ + tl.length + 1 ≤ _
    omega
  · show tl.length ≤ _
    omega
/-- behind an expression -/
def nx_Z (b : Nat → Int32) (n a0 : Nat) (r : (Nat × Nat) ⊕ (Nat × List (Nat × Int32))) (I : Nat → Nat → Int32) (J : Nat → Nat → Int64) : Prop := match r with
  | .inl x => I 60 12 = vb_i x.1 ∧ I 60 13 = vb_i x.2 ∧ 1 ≤ x.1 ∧ x.1 ≤ 5
  | .inr (s, c) => nt_D b n I ∧ nt_tk b n s I J ∧ I 60 12 = vb_i 0 ∧ I 60 27 = vb_i (a0 + (px_rc c).length + 1) ∧ (∀ j, j < (px_rc c).length → I 72 (a0 + j) = (px_rc c).getD j 0) ∧ I 72 (a0 + (px_rc c).length) = 0 ∧ a0 + (px_rc c).length + 1 ≤ 2 * s ∧ s ≤ n
theorem m_exprL (hM : vm_isM P S) (hb : tx_ok b n) (hd : 8 ≤ d) {r : (Nat × Nat) ⊕ (Nat × List (Nat × Int32))} : ∀ F (D : Nat) (W : List Nat) (t : Nat → Bool) (C : List (Nat × Int32)) (s : Nat) (I1 : Nat → Nat → Int32) (J1 : Nat → Nat → Int64) (v2 : Value), (nx_O b n a0 F r I1 J1) → nx_f a0 I I1 → mm_W G d 166 (mm_blk 166 29) [.ref 60, .int (vb_i 1), v2] [] (I1, P, J1, S, nc, ns) (nt_R none (fun I' J' => nx_Z b n a0 r I' J' ∧ nx_f a0 I I') P S nc ns) := by
  have hn7 := hb.1
  have kX : ∀ (x : Nat × Nat) (I1 : Nat → Nat → Int32) (J1 : Nat → Nat → Int64) (v2 : Value), r = .inl x → nx_X n a0 x I1 → nx_f a0 I I1 → mm_W G d 166 (mm_blk 166 29) [.ref 60, .int (vb_i 1), v2] [] (I1, P, J1, S, nc, ns) (nt_R none (fun I' J' => nx_Z b n a0 r I' J' ∧ nx_f a0 I I') P S nc ns) := by
    intro x I1 J1 v2 hr hX hx1
    subst hr
    obtain ⟨h12, h13, h1, h5, D, W, t, C, dE, hW, hl, hw⟩ := hX
    have hdl := nx_dWl (k := 0) W hW
    refine mm_w1 rfl ?_
    refine mm_nifeq (by decide) (fun h => absurd h (by decide)) (fun _ => ?_)
    refine mm_w1 rfl ?_
    refine mm_cvp (vb_cv (vM_S60 hM) rfl rfl rfl rfl) (by decide) (by omega) (m_good1 hM h12 h1 h5) ?_
    refine mm_nifeq (by decide) (fun _ => ?_) (fun h => absurd h (by decide))
    refine mm_w1 rfl ?_
    refine mm_cvp (vb_cv (vM_S60 hM) rfl rfl rfl rfl) (by decide) (by omega) (m_good1 hM h12 h1 h5) ?_
    refine mm_nifeq (by decide) (fun _ => ?_) (fun h => absurd h (by decide))
    refine mm_w1 rfl ?_
    refine mm_wv (vb_i 0) rfl (by decide) ?_
    refine mm_cvn (vb_cv (vM_S60 hM) rfl rfl rfl rfl) (by decide) (by omega) (m_drops hM (by decide) (by omega) W C _ dE hW (by omega) (by omega)) ?_
    intro I2 hq2
    obtain ⟨dE2, hg2⟩ := hq2
    refine mm_w1 rfl ?_
    refine mm_wv (vb_i 0) rfl (by decide) ?_
    refine mm_cvn (vb_cv (vM_S60 hM) rfl rfl rfl rfl) (by decide) (by omega) (m_puts hM dE2.1 (by rw [px_rc_app, List.length_append]; omega)) ?_
    intro I3 hI3
    have hg3 : nx_g a0 I2 I3 := by rw [hI3]; exact (nx_g.rf.u72 (Nat.le_add_right _ _)).u60 (by decide) (by decide)
    refine mm_wr rfl rfl rfl ?_
    have hg := hg2.tr hg3
    exact ⟨_, _, ⟨⟨(hg.2.1 12 (by decide)).trans h12, (hg.2.1 13 (by decide)).trans h13, h1, h5⟩, hx1.tr hg.f⟩, rfl⟩
  have k325 : ∀ (D s : Nat) (W : List Nat) (t : Nat → Bool) (C : List (Nat × Int32)) (I1 : Nat → Nat → Int32) (J1 : Nat → Nat → Int64) (v1 v2 : Value), (if 1 < D then .inl (1, s) else .inr (s, C ++ rf_dC 0 W)) = r → nx_S b n a0 D W t C s I1 J1 → nx_f a0 I I1 → mm_W G d 166 (mm_blk 166 325) [.ref 60, v1, v2] [] (I1, P, J1, S, nc, ns) (nt_R none (fun I' J' => nx_Z b n a0 r I' J' ∧ nx_f a0 I I') P S nc ns) := by
    intro D s W t C I1 J1 v1 v2 hr hS1 hx1
    obtain ⟨dD1, hk1, dE1, h121, hV⟩ := hS1
    obtain ⟨hv1, hv2, hv3, hv4, hv5, hv6⟩ := id hV
    have hdl := nx_dWl (k := 0) W hv4
    have h181 := hk1.2.1
    have h291 := dE1.2.2.1
    by_cases hD : 1 < D
    · rw [if_pos hD] at hr
      subst hr
      refine mm_w1 rfl ?_
      refine mm_cvp (vb_cv (vM_S60 hM) rfl rfl rfl rfl) (by decide) (by omega) (m_good0 hM h121) ?_
      refine mm_nifeq (by decide) (fun h => absurd h (by decide)) (fun _ => ?_)
      refine mm_w1 rfl ?_
      refine mm_wgiv _ (vM_S60 hM) (by decide) (by decide) h291 ?_
      refine mm_wv (vb_i 1) rfl (by decide) ?_
      refine mm_nicle (by omega) (by omega) ?_ ?_
      · intro h337
        omega
      · intro h337
        refine mm_w1 rfl ?_
        refine mm_wv (vb_i 1) rfl (by decide) ?_
        refine mm_cvn (vb_cv (vM_S60 hM) rfl rfl rfl rfl) (by decide) (by omega) (m_wrong0 hM h121 h181) ?_
        intro I2 hI2
        have dE := dE1.wrong hI2
        have h12 : I2 60 12 = vb_i 1 := by rw [hI2, vb_up2 _ _ (by decide), vb_up1]
        have h13 : I2 60 13 = vb_i s := by rw [hI2, vb_up1]
        refine mm_w1 rfl ?_
        refine mm_wv (vb_i 0) rfl (by decide) ?_
        refine mm_cvn (vb_cv (vM_S60 hM) rfl rfl rfl rfl) (by decide) (by omega) (m_drops hM (by decide) (by omega) W C _ dE hv4 (by omega) (by omega)) ?_
        intro I3 hq3
        obtain ⟨dE3, hg3⟩ := hq3
        refine mm_w1 rfl ?_
        refine mm_wv (vb_i 0) rfl (by decide) ?_
        refine mm_cvn (vb_cv (vM_S60 hM) rfl rfl rfl rfl) (by decide) (by omega) (m_puts hM dE3.1 (by rw [px_rc_app, List.length_append]; omega)) ?_
        intro I4 hI4
        have hg4 : nx_g a0 I3 I4 := by rw [hI4]; exact (nx_g.rf.u72 (Nat.le_add_right _ _)).u60 (by decide) (by decide)
        refine mm_wr rfl rfl rfl ?_
        have hg := hg3.tr hg4
        exact ⟨_, _, ⟨⟨(hg.2.1 12 (by decide)).trans h12, (hg.2.1 13 (by decide)).trans h13, of_decide_eq_true rfl, of_decide_eq_true rfl⟩, (hx1.tr (.wr hI2)).tr hg.f⟩, rfl⟩
    · rw [if_neg hD] at hr
      subst hr
      refine mm_w1 rfl ?_
      refine mm_cvp (vb_cv (vM_S60 hM) rfl rfl rfl rfl) (by decide) (by omega) (m_good0 hM h121) ?_
      refine mm_nifeq (by decide) (fun h => absurd h (by decide)) (fun _ => ?_)
      refine mm_w1 rfl ?_
      refine mm_wgiv _ (vM_S60 hM) (by decide) (by decide) h291 ?_
      refine mm_wv (vb_i 1) rfl (by decide) ?_
      refine mm_nicle (by omega) (by omega) ?_ ?_
      · intro h337
        refine mm_w1 rfl ?_
        refine mm_wv (vb_i 0) rfl (by decide) ?_
        refine mm_cvn (vb_cv (vM_S60 hM) rfl rfl rfl rfl) (by decide) (by omega) (m_drops hM (by decide) (by omega) W C _ dE1 hv4 (by omega) (by omega)) ?_
        intro I2 hq2
        obtain ⟨dE2, hg2⟩ := hq2
        refine mm_w1 rfl ?_
        refine mm_wv (vb_i 0) rfl (by decide) ?_
        refine mm_cvn (vb_cv (vM_S60 hM) rfl rfl rfl rfl) (by decide) (by omega) (m_puts hM dE2.1 (by rw [px_rc_app, List.length_append]; omega)) ?_
        intro I3 hI3
        have hg3 : nx_g a0 I2 I3 := by rw [hI3]; exact (nx_g.rf.u72 (Nat.le_add_right _ _)).u60 (by decide) (by decide)
        refine mm_wr rfl rfl rfl ?_
        have hg := hg2.tr hg3
        have hl : (px_rc (C ++ rf_dC 0 W)).length + (rf_dW 0 W).length = (px_rc C).length + W.length := by rw [px_rc_app, List.length_append]; omega
        refine ⟨_, _, ⟨⟨dD1.g hg, hk1.g hg, (hg.2.1 12 (by decide)).trans h121, ?_, fun j hj => ?_, ?_, by omega, hv1⟩, hx1.tr hg.f⟩, rfl⟩
        · rw [hI3, vb_up1]
        · rw [hI3, vb_up3 _ _ (by decide), vb_up2 _ _ (by omega)]; exact dE2.2.2.2.2.2 j hj
        · rw [hI3, vb_up3 _ _ (by decide), vb_up1]; rfl
      · intro h337
        omega
  intro F
  induction F using Nat.strongRecOn with
  | ind F ih =>
    intro D0 W0 t0 C0 s0 I1 J1 v2 hO hx1
    rcases hO with ⟨x, hr, hX⟩ | ⟨F', D, W, t, C, s, hF, h, hS1⟩
    · exact kX x I1 J1 v2 hr hX hx1
    · cases F' with
      | zero => cases h
      | succ F' =>
        have hS1' := hS1
        obtain ⟨dD1, hk1, dE1, h121, hV⟩ := hS1'
        obtain ⟨hv1, hv2, hv3, hv4, hv5, hv6⟩ := id hV
        have h291 := dE1.2.2.1
        have hNn := tx_N_n hb hv1
        rw [rf] at h
        by_cases hw : tx_w b s = 13 ∨ tx_w b s = 14
        · rw [if_pos hw] at h
          have hK1 := tx_w_K (show tx_w b s < 16 by omega)
          rcases hw with hw | hw
          · rw [if_pos hw, if_pos hw] at h
            have hsn := tx_lt hb hv1 (by omega)
            have hNlt := tx_N_lt hb hsn
            have hVd := hV.dr (k := 2)
            have hVp := hVd.ps (a := 4) hNlt hNn (by decide) (by decide)
            refine mm_w1 rfl ?_
            refine mm_nifeq (by decide) (fun h => absurd h (by decide)) (fun _ => ?_)
            refine mm_w1 rfl ?_
            refine mm_cvp (vb_cv (vM_S60 hM) rfl rfl rfl rfl) (by decide) (by omega) (m_good0 hM h121) ?_
            refine mm_nifeq (by decide) (fun h => absurd h (by decide)) (fun _ => ?_)
            refine mm_w1 rfl ?_
            refine mm_cvp (vb_cv (vM_S60 hM) rfl rfl rfl rfl) (by decide) (by omega) (m_kw hM hv1 hn7 hb hk1 (by omega) hw (by decide)) ?_
            refine mm_w1 (ls' := [_, _, _]) rfl ?_
            refine mm_w1 rfl ?_
            refine mm_wv (vb_i 13) rfl (by decide) ?_
            refine mm_niceq (by decide) (by decide) (fun _ => ?_) (fun h => absurd h (by decide))
            refine mm_w1 rfl ?_
            refine mm_w1 rfl ?_
            refine mm_wv (vb_i 13) rfl (by decide) ?_
            refine mm_nicne (by decide) (by decide) (fun h => absurd h (by decide)) (fun _ => ?_)
            refine mm_wv (vb_i 2) rfl (by decide) ?_
            refine mm_wgoto ?_
            refine mm_cvn (vb_cv (vM_S60 hM) rfl rfl rfl rfl) (by decide) (by omega) (m_drops hM (by decide) (by omega) W C _ dE1 hv4 (by omega) (by omega)) ?_
            intro I2 hq2
            obtain ⟨dE2, hg2⟩ := hq2
            have dD2 := dD1.g hg2
            have hk2 := hk1.g hg2
            have h122 : I2 60 12 = vb_i 0 := (hg2.2.1 12 (by decide)).trans h121
            have hx2 := hx1.tr hg2.f
            refine mm_w1 rfl ?_
            refine mm_w1 rfl ?_
            refine mm_wv (vb_i 13) rfl (by decide) ?_
            refine mm_nicne (by decide) (by decide) (fun h => absurd h (by decide)) (fun _ => ?_)
            refine mm_wv (vb_i 4) rfl (by decide) ?_
            refine mm_wgoto ?_
            refine mm_cvn (vb_cv (vM_S60 hM) rfl rfl rfl rfl) (by decide) (by omega) (m_waits hM dE2.2.1 (by have := hVd.2.2.2.2.2; omega)) ?_
            intro I3 hI3
            have dE3 := dE2.push 4
            rw [← hI3] at dE3
            have hg3 : nx_g a0 I2 I3 := by rw [hI3]; exact nx_g.rf.u73.u60 (by decide) (by decide)
            have dD3 := dD2.g hg3
            have hk3 := hk2.g hg3
            have h123 : I3 60 12 = vb_i 0 := (hg3.2.1 12 (by decide)).trans h122
            have hx3 := hx2.tr hg3.f
            have h293 := dE3.2.2.1
            refine mm_w1 rfl ?_
            refine mm_wgr (vM_S60 hM) (by decide) (by decide) (vM_P60_37 hM) (vM_a75 hM) ?_
            refine mm_w1 rfl ?_
            refine mm_wgiv _ (vM_S60 hM) (by decide) (by decide) h293 ?_
            refine mm_wv (vb_i 0) rfl (by decide) ?_
            refine mm_wzsN (vM_S75 hM) (by decide) (by omega) (Or.inl rfl) ?_
            intro I4 hI4
            have dE4 := dE3.test (v := false)
            rw [show vb_b false = vb_i 0 by decide, ← hI4] at dE4
            have hg4 : nx_g a0 I3 I4 := by rw [hI4]; exact nx_g.rf.u75
            have dD4 := dD3.g hg4
            have hk4 := hk3.g hg4
            have h124 : I4 60 12 = vb_i 0 := (hg4.2.1 12 (by decide)).trans h123
            have hx4 := hx3.tr hg4.f
            refine mm_w1 rfl ?_
            refine mm_cvnJ (vb_cv (vM_S60 hM) rfl rfl rfl rfl) (by decide) (by omega) (m_goes hM dD4 hb (tx_E_n hb hv1) hk4.1 (by omega)) ?_
            intro I5 J5 hq5
            obtain ⟨hkS5, hfN5⟩ := hq5
            have hk5 : nt_tk b n (tx_N b s) I5 J5 := hkS5
            have dD5 := dD4.f hfN5
            have dE5 := dE4.f hfN5
            have h125 : I5 60 12 = vb_i 0 := (hfN5.2 12 (by decide)).trans h124
            have hx5 := hx4.tr (.of hfN5)
            refine mm_w1 rfl ?_
            refine mm_wv (vb_b true) rfl (by decide) ?_ 
            refine mm_cvnJ (vb_cv (vM_S60 hM) rfl rfl rfl rfl) (by decide) (by omega) (m_operand hM hb (by omega) h ⟨dD5, hk5, dE5, h125, hVp⟩) ?_
            intro I6 J6 hq6
            obtain ⟨hO6, hy6⟩ := hq6
            have hx6 := hx5.tr hy6
            refine mm_wgoto ?_
            refine mm_wgoto ?_
            exact ih F' (by omega) D W t C s _ _ _ hO6 hx6
          · rw [if_neg (show ¬ tx_w b s = 13 by omega), if_neg (show ¬ tx_w b s = 13 by omega)] at h
            have hsn := tx_lt hb hv1 (by omega)
            have hNlt := tx_N_lt hb hsn
            have hVd := hV.dr (k := 1)
            have hVp := hVd.ps (a := 5) hNlt hNn (by decide) (by decide)
            refine mm_w1 rfl ?_
            refine mm_nifeq (by decide) (fun h => absurd h (by decide)) (fun _ => ?_)
            refine mm_w1 rfl ?_
            refine mm_cvp (vb_cv (vM_S60 hM) rfl rfl rfl rfl) (by decide) (by omega) (m_good0 hM h121) ?_
            refine mm_nifeq (by decide) (fun h => absurd h (by decide)) (fun _ => ?_)
            refine mm_w1 rfl ?_
            refine mm_cvp (vb_cv (vM_S60 hM) rfl rfl rfl rfl) (by decide) (by omega) (m_kw hM hv1 hn7 hb hk1 (by omega) hw (by decide)) ?_
            refine mm_w1 (ls' := [_, _, _]) rfl ?_
            refine mm_w1 rfl ?_
            refine mm_wv (vb_i 13) rfl (by decide) ?_
            refine mm_niceq (by decide) (by decide) (fun h => absurd h (by decide)) (fun _ => ?_)
            refine mm_w1 rfl ?_
            refine mm_wv (vb_i 14) rfl (by decide) ?_
            refine mm_nicne (by decide) (by decide) (fun h => absurd h (by decide)) (fun _ => ?_)
            refine mm_w1 rfl ?_
            refine mm_w1 rfl ?_
            refine mm_wv (vb_i 13) rfl (by decide) ?_
            refine mm_nicne (by decide) (by decide) (fun _ => ?_) (fun h => absurd h (by decide))
            refine mm_wv (vb_i 1) rfl (by decide) ?_
            refine mm_cvn (vb_cv (vM_S60 hM) rfl rfl rfl rfl) (by decide) (by omega) (m_drops hM (by decide) (by omega) W C _ dE1 hv4 (by omega) (by omega)) ?_
            intro I2 hq2
            obtain ⟨dE2, hg2⟩ := hq2
            have dD2 := dD1.g hg2
            have hk2 := hk1.g hg2
            have h122 : I2 60 12 = vb_i 0 := (hg2.2.1 12 (by decide)).trans h121
            have hx2 := hx1.tr hg2.f
            refine mm_w1 rfl ?_
            refine mm_w1 rfl ?_
            refine mm_wv (vb_i 13) rfl (by decide) ?_
            refine mm_nicne (by decide) (by decide) (fun _ => ?_) (fun h => absurd h (by decide))
            refine mm_wv (vb_i 5) rfl (by decide) ?_
            refine mm_cvn (vb_cv (vM_S60 hM) rfl rfl rfl rfl) (by decide) (by omega) (m_waits hM dE2.2.1 (by have := hVd.2.2.2.2.2; omega)) ?_
            intro I3 hI3
            have dE3 := dE2.push 5
            rw [← hI3] at dE3
            have hg3 : nx_g a0 I2 I3 := by rw [hI3]; exact nx_g.rf.u73.u60 (by decide) (by decide)
            have dD3 := dD2.g hg3
            have hk3 := hk2.g hg3
            have h123 : I3 60 12 = vb_i 0 := (hg3.2.1 12 (by decide)).trans h122
            have hx3 := hx2.tr hg3.f
            have h293 := dE3.2.2.1
            refine mm_w1 rfl ?_
            refine mm_wgr (vM_S60 hM) (by decide) (by decide) (vM_P60_37 hM) (vM_a75 hM) ?_
            refine mm_w1 rfl ?_
            refine mm_wgiv _ (vM_S60 hM) (by decide) (by decide) h293 ?_
            refine mm_wv (vb_i 0) rfl (by decide) ?_
            refine mm_wzsN (vM_S75 hM) (by decide) (by omega) (Or.inl rfl) ?_
            intro I4 hI4
            have dE4 := dE3.test (v := false)
            rw [show vb_b false = vb_i 0 by decide, ← hI4] at dE4
            have hg4 : nx_g a0 I3 I4 := by rw [hI4]; exact nx_g.rf.u75
            have dD4 := dD3.g hg4
            have hk4 := hk3.g hg4
            have h124 : I4 60 12 = vb_i 0 := (hg4.2.1 12 (by decide)).trans h123
            have hx4 := hx3.tr hg4.f
            refine mm_w1 rfl ?_
            refine mm_cvnJ (vb_cv (vM_S60 hM) rfl rfl rfl rfl) (by decide) (by omega) (m_goes hM dD4 hb (tx_E_n hb hv1) hk4.1 (by omega)) ?_
            intro I5 J5 hq5
            obtain ⟨hkS5, hfN5⟩ := hq5
            have hk5 : nt_tk b n (tx_N b s) I5 J5 := hkS5
            have dD5 := dD4.f hfN5
            have dE5 := dE4.f hfN5
            have h125 : I5 60 12 = vb_i 0 := (hfN5.2 12 (by decide)).trans h124
            have hx5 := hx4.tr (.of hfN5)
            refine mm_w1 rfl ?_
            refine mm_wv (vb_b true) rfl (by decide) ?_ 
            refine mm_cvnJ (vb_cv (vM_S60 hM) rfl rfl rfl rfl) (by decide) (by omega) (m_operand hM hb (by omega) h ⟨dD5, hk5, dE5, h125, hVp⟩) ?_
            intro I6 J6 hq6
            obtain ⟨hO6, hy6⟩ := hq6
            have hx6 := hx5.tr hy6
            refine mm_wgoto ?_
            refine mm_wgoto ?_
            exact ih F' (by omega) D W t C s _ _ _ hO6 hx6
        · rw [if_neg hw] at h
          by_cases hc : (tx_K b s = 60 ∨ tx_K b s = 61) ∧ t D = false
          · rw [if_pos hc] at h
            obtain ⟨hK, htD⟩ := hc
            rcases hK with hK | hK
            · rw [if_pos hK] at h
              have hsn := tx_lt hb hv1 (by omega)
              have hNlt := tx_N_lt hb hsn
              have hVd := hV.dr (k := 4)
              have hVp := hVd.ps (a := 6) hNlt hNn (by decide) (by decide)
              refine mm_w1 rfl ?_
              refine mm_nifeq (by decide) (fun h => absurd h (by decide)) (fun _ => ?_)
              refine mm_w1 rfl ?_
              refine mm_cvp (vb_cv (vM_S60 hM) rfl rfl rfl rfl) (by decide) (by omega) (m_good0 hM h121) ?_
              refine mm_nifeq (by decide) (fun h => absurd h (by decide)) (fun _ => ?_)
              refine mm_w1 rfl ?_
              refine mm_cvp (vb_cv (vM_S60 hM) rfl rfl rfl rfl) (by decide) (by omega) (m_known hM hv1 hn7 hb hk1 (by omega)) ?_
              refine mm_w1 (ls' := [_, _, _]) rfl ?_
              refine mm_w1 rfl ?_
              refine mm_wv (vb_i 13) rfl (by decide) ?_
              refine mm_wiceq ?_ ?_
              · intro h48
                exact absurd h48 (nt_kw_ne (by decide) (fun e => hw (Or.inl e)))
              · intro h48
                refine mm_w1 rfl ?_
                refine mm_wv (vb_i 14) rfl (by decide) ?_
                refine mm_wicne ?_ ?_
                · intro h54
                  refine mm_w1 rfl ?_
                  refine mm_wv (vb_i 60) rfl (by decide) ?_
                  refine mm_cvp (vb_cv (vM_S60 hM) rfl rfl rfl rfl) (by decide) (by omega) (m_sg1 hM hb hv1 hk1 (Or.inr (Or.inr (Or.inr (Or.inr (Or.inr (Or.inr (Or.inr (Or.inl rfl)))))))) hK) ?_
                  refine mm_nifne (by decide) (fun _ => ?_) (fun h => absurd h (by decide))
                  refine mm_w1 rfl ?_
                  refine mm_wgr (vM_S60 hM) (by decide) (by decide) (vM_P60_37 hM) (vM_a75 hM) ?_
                  refine mm_w1 rfl ?_
                  refine mm_wgiv _ (vM_S60 hM) (by decide) (by decide) h291 ?_
                  refine mm_wzav (vb_b (t D)) (vM_S75 hM) (by decide) (by omega) (dE1.2.2.2.2.1 D (by omega) (Nat.le_refl _)) ?_
                  refine mm_bifne ?_ ?_
                  · intro h136
                    rw [htD] at h136
                    cases h136
                  · intro h136
                    refine mm_w1 rfl ?_
                    refine mm_wv (vb_i 4) rfl (by decide) ?_
                    refine mm_cvn (vb_cv (vM_S60 hM) rfl rfl rfl rfl) (by decide) (by omega) (m_drops hM (by decide) (by omega) W C _ dE1 hv4 (by omega) (by omega)) ?_
                    intro I2 hq2
                    obtain ⟨dE2, hg2⟩ := hq2
                    have dD2 := dD1.g hg2
                    have hk2 := hk1.g hg2
                    have h122 : I2 60 12 = vb_i 0 := (hg2.2.1 12 (by decide)).trans h121
                    have hx2 := hx1.tr hg2.f
                    refine mm_w1 rfl ?_
                    refine mm_w1 rfl ?_
                    refine mm_wv (vb_i 60) rfl (by decide) ?_
                    refine mm_cvp (vb_cv (vM_S60 hM) rfl rfl rfl rfl) (by decide) (by omega) (m_sg1 hM hb hv1 hk2 (Or.inr (Or.inr (Or.inr (Or.inr (Or.inr (Or.inr (Or.inr (Or.inl rfl)))))))) hK) ?_
                    refine mm_nifeq (by decide) (fun h => absurd h (by decide)) (fun _ => ?_)
                    refine mm_wv (vb_i 6) rfl (by decide) ?_
                    refine mm_wgoto ?_
                    refine mm_cvn (vb_cv (vM_S60 hM) rfl rfl rfl rfl) (by decide) (by omega) (m_waits hM dE2.2.1 (by have := hVd.2.2.2.2.2; omega)) ?_
                    intro I3 hI3
                    have dE3 := dE2.push 6
                    rw [← hI3] at dE3
                    have hg3 : nx_g a0 I2 I3 := by rw [hI3]; exact nx_g.rf.u73.u60 (by decide) (by decide)
                    have dD3 := dD2.g hg3
                    have hk3 := hk2.g hg3
                    have h123 : I3 60 12 = vb_i 0 := (hg3.2.1 12 (by decide)).trans h122
                    have hx3 := hx2.tr hg3.f
                    have h293 := dE3.2.2.1
                    refine mm_w1 rfl ?_
                    refine mm_wgr (vM_S60 hM) (by decide) (by decide) (vM_P60_37 hM) (vM_a75 hM) ?_
                    refine mm_w1 rfl ?_
                    refine mm_wgiv _ (vM_S60 hM) (by decide) (by decide) h293 ?_
                    refine mm_wv (vb_i 1) rfl (by decide) ?_
                    refine mm_wzsN (vM_S75 hM) (by decide) (by omega) (Or.inr rfl) ?_
                    intro I4 hI4
                    have dE4 := dE3.test (v := true)
                    rw [show vb_b true = vb_i 1 by decide, ← hI4] at dE4
                    have hg4 : nx_g a0 I3 I4 := by rw [hI4]; exact nx_g.rf.u75
                    have dD4 := dD3.g hg4
                    have hk4 := hk3.g hg4
                    have h124 : I4 60 12 = vb_i 0 := (hg4.2.1 12 (by decide)).trans h123
                    have hx4 := hx3.tr hg4.f
                    refine mm_w1 rfl ?_
                    refine mm_cvnJ (vb_cv (vM_S60 hM) rfl rfl rfl rfl) (by decide) (by omega) (m_goes hM dD4 hb (tx_E_n hb hv1) hk4.1 (by omega)) ?_
                    intro I5 J5 hq5
                    obtain ⟨hkS5, hfN5⟩ := hq5
                    have hk5 : nt_tk b n (tx_N b s) I5 J5 := hkS5
                    have dD5 := dD4.f hfN5
                    have dE5 := dE4.f hfN5
                    have h125 : I5 60 12 = vb_i 0 := (hfN5.2 12 (by decide)).trans h124
                    have hx5 := hx4.tr (.of hfN5)
                    refine mm_w1 rfl ?_
                    refine mm_wv (vb_b false) rfl (by decide) ?_ 
                    refine mm_cvnJ (vb_cv (vM_S60 hM) rfl rfl rfl rfl) (by decide) (by omega) (m_operand hM hb (by omega) h ⟨dD5, hk5, dE5, h125, hVp⟩) ?_
                    intro I6 J6 hq6
                    obtain ⟨hO6, hy6⟩ := hq6
                    have hx6 := hx5.tr hy6
                    refine mm_wgoto ?_
                    refine mm_wgoto ?_
                    exact ih F' (by omega) D W t C s _ _ _ hO6 hx6
                · intro h54
                  exact absurd h54 (nt_kw_ne (by decide) (fun e => hw (Or.inr e)))
            · rw [if_neg (show ¬ tx_K b s = 60 by omega)] at h
              have hsn := tx_lt hb hv1 (by omega)
              have hNlt := tx_N_lt hb hsn
              have hVd := hV.dr (k := 4)
              have hVp := hVd.ps (a := 7) hNlt hNn (by decide) (by decide)
              refine mm_w1 rfl ?_
              refine mm_nifeq (by decide) (fun h => absurd h (by decide)) (fun _ => ?_)
              refine mm_w1 rfl ?_
              refine mm_cvp (vb_cv (vM_S60 hM) rfl rfl rfl rfl) (by decide) (by omega) (m_good0 hM h121) ?_
              refine mm_nifeq (by decide) (fun h => absurd h (by decide)) (fun _ => ?_)
              refine mm_w1 rfl ?_
              refine mm_cvp (vb_cv (vM_S60 hM) rfl rfl rfl rfl) (by decide) (by omega) (m_known hM hv1 hn7 hb hk1 (by omega)) ?_
              refine mm_w1 (ls' := [_, _, _]) rfl ?_
              refine mm_w1 rfl ?_
              refine mm_wv (vb_i 13) rfl (by decide) ?_
              refine mm_wiceq ?_ ?_
              · intro h48
                exact absurd h48 (nt_kw_ne (by decide) (fun e => hw (Or.inl e)))
              · intro h48
                refine mm_w1 rfl ?_
                refine mm_wv (vb_i 14) rfl (by decide) ?_
                refine mm_wicne ?_ ?_
                · intro h54
                  refine mm_w1 rfl ?_
                  refine mm_wv (vb_i 60) rfl (by decide) ?_
                  refine mm_cvp (vb_cv (vM_S60 hM) rfl rfl rfl rfl) (by decide) (by omega) (m_sg0 hM hb hv1 hk1 (Or.inr (Or.inr (Or.inr (Or.inr (Or.inr (Or.inr (Or.inr (Or.inl rfl)))))))) (by omega)) ?_
                  refine mm_nifne (by decide) (fun h => absurd h (by decide)) (fun _ => ?_)
                  refine mm_w1 rfl ?_
                  refine mm_wv (vb_i 61) rfl (by decide) ?_
                  refine mm_cvp (vb_cv (vM_S60 hM) rfl rfl rfl rfl) (by decide) (by omega) (m_sg1 hM hb hv1 hk1 (Or.inr (Or.inr (Or.inr (Or.inr (Or.inr (Or.inr (Or.inr (Or.inr rfl)))))))) hK) ?_
                  refine mm_nifeq (by decide) (fun h => absurd h (by decide)) (fun _ => ?_)
                  refine mm_w1 rfl ?_
                  refine mm_wgr (vM_S60 hM) (by decide) (by decide) (vM_P60_37 hM) (vM_a75 hM) ?_
                  refine mm_w1 rfl ?_
                  refine mm_wgiv _ (vM_S60 hM) (by decide) (by decide) h291 ?_
                  refine mm_wzav (vb_b (t D)) (vM_S75 hM) (by decide) (by omega) (dE1.2.2.2.2.1 D (by omega) (Nat.le_refl _)) ?_
                  refine mm_bifne ?_ ?_
                  · intro h136
                    rw [htD] at h136
                    cases h136
                  · intro h136
                    refine mm_w1 rfl ?_
                    refine mm_wv (vb_i 4) rfl (by decide) ?_
                    refine mm_cvn (vb_cv (vM_S60 hM) rfl rfl rfl rfl) (by decide) (by omega) (m_drops hM (by decide) (by omega) W C _ dE1 hv4 (by omega) (by omega)) ?_
                    intro I2 hq2
                    obtain ⟨dE2, hg2⟩ := hq2
                    have dD2 := dD1.g hg2
                    have hk2 := hk1.g hg2
                    have h122 : I2 60 12 = vb_i 0 := (hg2.2.1 12 (by decide)).trans h121
                    have hx2 := hx1.tr hg2.f
                    refine mm_w1 rfl ?_
                    refine mm_w1 rfl ?_
                    refine mm_wv (vb_i 60) rfl (by decide) ?_
                    refine mm_cvp (vb_cv (vM_S60 hM) rfl rfl rfl rfl) (by decide) (by omega) (m_sg0 hM hb hv1 hk2 (Or.inr (Or.inr (Or.inr (Or.inr (Or.inr (Or.inr (Or.inr (Or.inl rfl)))))))) (by omega)) ?_
                    refine mm_nifeq (by decide) (fun _ => ?_) (fun h => absurd h (by decide))
                    refine mm_wv (vb_i 7) rfl (by decide) ?_
                    refine mm_cvn (vb_cv (vM_S60 hM) rfl rfl rfl rfl) (by decide) (by omega) (m_waits hM dE2.2.1 (by have := hVd.2.2.2.2.2; omega)) ?_
                    intro I3 hI3
                    have dE3 := dE2.push 7
                    rw [← hI3] at dE3
                    have hg3 : nx_g a0 I2 I3 := by rw [hI3]; exact nx_g.rf.u73.u60 (by decide) (by decide)
                    have dD3 := dD2.g hg3
                    have hk3 := hk2.g hg3
                    have h123 : I3 60 12 = vb_i 0 := (hg3.2.1 12 (by decide)).trans h122
                    have hx3 := hx2.tr hg3.f
                    have h293 := dE3.2.2.1
                    refine mm_w1 rfl ?_
                    refine mm_wgr (vM_S60 hM) (by decide) (by decide) (vM_P60_37 hM) (vM_a75 hM) ?_
                    refine mm_w1 rfl ?_
                    refine mm_wgiv _ (vM_S60 hM) (by decide) (by decide) h293 ?_
                    refine mm_wv (vb_i 1) rfl (by decide) ?_
                    refine mm_wzsN (vM_S75 hM) (by decide) (by omega) (Or.inr rfl) ?_
                    intro I4 hI4
                    have dE4 := dE3.test (v := true)
                    rw [show vb_b true = vb_i 1 by decide, ← hI4] at dE4
                    have hg4 : nx_g a0 I3 I4 := by rw [hI4]; exact nx_g.rf.u75
                    have dD4 := dD3.g hg4
                    have hk4 := hk3.g hg4
                    have h124 : I4 60 12 = vb_i 0 := (hg4.2.1 12 (by decide)).trans h123
                    have hx4 := hx3.tr hg4.f
                    refine mm_w1 rfl ?_
                    refine mm_cvnJ (vb_cv (vM_S60 hM) rfl rfl rfl rfl) (by decide) (by omega) (m_goes hM dD4 hb (tx_E_n hb hv1) hk4.1 (by omega)) ?_
                    intro I5 J5 hq5
                    obtain ⟨hkS5, hfN5⟩ := hq5
                    have hk5 : nt_tk b n (tx_N b s) I5 J5 := hkS5
                    have dD5 := dD4.f hfN5
                    have dE5 := dE4.f hfN5
                    have h125 : I5 60 12 = vb_i 0 := (hfN5.2 12 (by decide)).trans h124
                    have hx5 := hx4.tr (.of hfN5)
                    refine mm_w1 rfl ?_
                    refine mm_wv (vb_b false) rfl (by decide) ?_ 
                    refine mm_cvnJ (vb_cv (vM_S60 hM) rfl rfl rfl rfl) (by decide) (by omega) (m_operand hM hb (by omega) h ⟨dD5, hk5, dE5, h125, hVp⟩) ?_
                    intro I6 J6 hq6
                    obtain ⟨hO6, hy6⟩ := hq6
                    have hx6 := hx5.tr hy6
                    refine mm_wgoto ?_
                    refine mm_wgoto ?_
                    exact ih F' (by omega) D W t C s _ _ _ hO6 hx6
                · intro h54
                  exact absurd h54 (nt_kw_ne (by decide) (fun e => hw (Or.inr e)))
          · rw [if_neg hc] at h
            by_cases hc2 : tx_K b s = 43 ∨ tx_K b s = 45
            · rw [if_pos hc2] at h
              rcases hc2 with hK | hK
              · rw [if_pos hK] at h
                have hsn := tx_lt hb hv1 (by omega)
                have hNlt := tx_N_lt hb hsn
                have hVd := hV.dr (k := 5)
                have hVp := hVd.ps (a := 8) hNlt hNn (by decide) (by decide)
                refine mm_w1 rfl ?_
                refine mm_nifeq (by decide) (fun h => absurd h (by decide)) (fun _ => ?_)
                refine mm_w1 rfl ?_
                refine mm_cvp (vb_cv (vM_S60 hM) rfl rfl rfl rfl) (by decide) (by omega) (m_good0 hM h121) ?_
                refine mm_nifeq (by decide) (fun h => absurd h (by decide)) (fun _ => ?_)
                refine mm_w1 rfl ?_
                refine mm_cvp (vb_cv (vM_S60 hM) rfl rfl rfl rfl) (by decide) (by omega) (m_known hM hv1 hn7 hb hk1 (by omega)) ?_
                refine mm_w1 (ls' := [_, _, _]) rfl ?_
                refine mm_w1 rfl ?_
                refine mm_wv (vb_i 13) rfl (by decide) ?_
                refine mm_wiceq ?_ ?_
                · intro h48
                  exact absurd h48 (nt_kw_ne (by decide) (fun e => hw (Or.inl e)))
                · intro h48
                  refine mm_w1 rfl ?_
                  refine mm_wv (vb_i 14) rfl (by decide) ?_
                  refine mm_wicne ?_ ?_
                  · intro h54
                    refine mm_w1 rfl ?_
                    refine mm_wv (vb_i 60) rfl (by decide) ?_
                    refine mm_cvp (vb_cv (vM_S60 hM) rfl rfl rfl rfl) (by decide) (by omega) (m_sg0 hM hb hv1 hk1 (Or.inr (Or.inr (Or.inr (Or.inr (Or.inr (Or.inr (Or.inr (Or.inl rfl)))))))) (by omega)) ?_
                    refine mm_nifne (by decide) (fun h => absurd h (by decide)) (fun _ => ?_)
                    refine mm_w1 rfl ?_
                    refine mm_wv (vb_i 61) rfl (by decide) ?_
                    refine mm_cvp (vb_cv (vM_S60 hM) rfl rfl rfl rfl) (by decide) (by omega) (m_sg0 hM hb hv1 hk1 (Or.inr (Or.inr (Or.inr (Or.inr (Or.inr (Or.inr (Or.inr (Or.inr rfl)))))))) (by omega)) ?_
                    refine mm_nifeq (by decide) (fun _ => ?_) (fun h => absurd h (by decide))
                    refine mm_w1 rfl ?_
                    refine mm_wv (vb_i 43) rfl (by decide) ?_
                    refine mm_cvp (vb_cv (vM_S60 hM) rfl rfl rfl rfl) (by decide) (by omega) (m_sg1 hM hb hv1 hk1 (Or.inr (Or.inr (Or.inr (Or.inl rfl)))) hK) ?_
                    refine mm_nifne (by decide) (fun _ => ?_) (fun h => absurd h (by decide))
                    refine mm_w1 rfl ?_
                    refine mm_wv (vb_i 5) rfl (by decide) ?_
                    refine mm_cvn (vb_cv (vM_S60 hM) rfl rfl rfl rfl) (by decide) (by omega) (m_drops hM (by decide) (by omega) W C _ dE1 hv4 (by omega) (by omega)) ?_
                    intro I2 hq2
                    obtain ⟨dE2, hg2⟩ := hq2
                    have dD2 := dD1.g hg2
                    have hk2 := hk1.g hg2
                    have h122 : I2 60 12 = vb_i 0 := (hg2.2.1 12 (by decide)).trans h121
                    have hx2 := hx1.tr hg2.f
                    refine mm_w1 rfl ?_
                    refine mm_w1 rfl ?_
                    refine mm_wv (vb_i 43) rfl (by decide) ?_
                    refine mm_cvp (vb_cv (vM_S60 hM) rfl rfl rfl rfl) (by decide) (by omega) (m_sg1 hM hb hv1 hk2 (Or.inr (Or.inr (Or.inr (Or.inl rfl)))) hK) ?_
                    refine mm_nifeq (by decide) (fun h => absurd h (by decide)) (fun _ => ?_)
                    refine mm_wv (vb_i 8) rfl (by decide) ?_
                    refine mm_wgoto ?_
                    refine mm_cvn (vb_cv (vM_S60 hM) rfl rfl rfl rfl) (by decide) (by omega) (m_waits hM dE2.2.1 (by have := hVd.2.2.2.2.2; omega)) ?_
                    intro I3 hI3
                    have dE3 := dE2.push 8
                    rw [← hI3] at dE3
                    have hg3 : nx_g a0 I2 I3 := by rw [hI3]; exact nx_g.rf.u73.u60 (by decide) (by decide)
                    have dD3 := dD2.g hg3
                    have hk3 := hk2.g hg3
                    have h123 : I3 60 12 = vb_i 0 := (hg3.2.1 12 (by decide)).trans h122
                    have hx3 := hx2.tr hg3.f
                    have h293 := dE3.2.2.1
                    refine mm_w1 rfl ?_
                    refine mm_cvnJ (vb_cv (vM_S60 hM) rfl rfl rfl rfl) (by decide) (by omega) (m_goes hM dD3 hb (tx_E_n hb hv1) hk3.1 (by omega)) ?_
                    intro I4 J4 hq4
                    obtain ⟨hkS4, hfN4⟩ := hq4
                    have hk4 : nt_tk b n (tx_N b s) I4 J4 := hkS4
                    have dD4 := dD3.f hfN4
                    have dE4 := dE3.f hfN4
                    have h124 : I4 60 12 = vb_i 0 := (hfN4.2 12 (by decide)).trans h123
                    have hx4 := hx3.tr (.of hfN4)
                    refine mm_w1 rfl ?_
                    refine mm_wv (vb_b false) rfl (by decide) ?_ 
                    refine mm_cvnJ (vb_cv (vM_S60 hM) rfl rfl rfl rfl) (by decide) (by omega) (m_operand hM hb (by omega) h ⟨dD4, hk4, dE4, h124, hVp⟩) ?_
                    intro I5 J5 hq5
                    obtain ⟨hO5, hy5⟩ := hq5
                    have hx5 := hx4.tr hy5
                    refine mm_wgoto ?_
                    refine mm_wgoto ?_
                    exact ih F' (by omega) D W t C s _ _ _ hO5 hx5
                  · intro h54
                    exact absurd h54 (nt_kw_ne (by decide) (fun e => hw (Or.inr e)))
              · rw [if_neg (show ¬ tx_K b s = 43 by omega)] at h
                have hsn := tx_lt hb hv1 (by omega)
                have hNlt := tx_N_lt hb hsn
                have hVd := hV.dr (k := 5)
                have hVp := hVd.ps (a := 9) hNlt hNn (by decide) (by decide)
                refine mm_w1 rfl ?_
                refine mm_nifeq (by decide) (fun h => absurd h (by decide)) (fun _ => ?_)
                refine mm_w1 rfl ?_
                refine mm_cvp (vb_cv (vM_S60 hM) rfl rfl rfl rfl) (by decide) (by omega) (m_good0 hM h121) ?_
                refine mm_nifeq (by decide) (fun h => absurd h (by decide)) (fun _ => ?_)
                refine mm_w1 rfl ?_
                refine mm_cvp (vb_cv (vM_S60 hM) rfl rfl rfl rfl) (by decide) (by omega) (m_known hM hv1 hn7 hb hk1 (by omega)) ?_
                refine mm_w1 (ls' := [_, _, _]) rfl ?_
                refine mm_w1 rfl ?_
                refine mm_wv (vb_i 13) rfl (by decide) ?_
                refine mm_wiceq ?_ ?_
                · intro h48
                  exact absurd h48 (nt_kw_ne (by decide) (fun e => hw (Or.inl e)))
                · intro h48
                  refine mm_w1 rfl ?_
                  refine mm_wv (vb_i 14) rfl (by decide) ?_
                  refine mm_wicne ?_ ?_
                  · intro h54
                    refine mm_w1 rfl ?_
                    refine mm_wv (vb_i 60) rfl (by decide) ?_
                    refine mm_cvp (vb_cv (vM_S60 hM) rfl rfl rfl rfl) (by decide) (by omega) (m_sg0 hM hb hv1 hk1 (Or.inr (Or.inr (Or.inr (Or.inr (Or.inr (Or.inr (Or.inr (Or.inl rfl)))))))) (by omega)) ?_
                    refine mm_nifne (by decide) (fun h => absurd h (by decide)) (fun _ => ?_)
                    refine mm_w1 rfl ?_
                    refine mm_wv (vb_i 61) rfl (by decide) ?_
                    refine mm_cvp (vb_cv (vM_S60 hM) rfl rfl rfl rfl) (by decide) (by omega) (m_sg0 hM hb hv1 hk1 (Or.inr (Or.inr (Or.inr (Or.inr (Or.inr (Or.inr (Or.inr (Or.inr rfl)))))))) (by omega)) ?_
                    refine mm_nifeq (by decide) (fun _ => ?_) (fun h => absurd h (by decide))
                    refine mm_w1 rfl ?_
                    refine mm_wv (vb_i 43) rfl (by decide) ?_
                    refine mm_cvp (vb_cv (vM_S60 hM) rfl rfl rfl rfl) (by decide) (by omega) (m_sg0 hM hb hv1 hk1 (Or.inr (Or.inr (Or.inr (Or.inl rfl)))) (by omega)) ?_
                    refine mm_nifne (by decide) (fun h => absurd h (by decide)) (fun _ => ?_)
                    refine mm_w1 rfl ?_
                    refine mm_wv (vb_i 45) rfl (by decide) ?_
                    refine mm_cvp (vb_cv (vM_S60 hM) rfl rfl rfl rfl) (by decide) (by omega) (m_sg1 hM hb hv1 hk1 (Or.inr (Or.inr (Or.inr (Or.inr (Or.inl rfl))))) hK) ?_
                    refine mm_nifeq (by decide) (fun h => absurd h (by decide)) (fun _ => ?_)
                    refine mm_w1 rfl ?_
                    refine mm_wv (vb_i 5) rfl (by decide) ?_
                    refine mm_cvn (vb_cv (vM_S60 hM) rfl rfl rfl rfl) (by decide) (by omega) (m_drops hM (by decide) (by omega) W C _ dE1 hv4 (by omega) (by omega)) ?_
                    intro I2 hq2
                    obtain ⟨dE2, hg2⟩ := hq2
                    have dD2 := dD1.g hg2
                    have hk2 := hk1.g hg2
                    have h122 : I2 60 12 = vb_i 0 := (hg2.2.1 12 (by decide)).trans h121
                    have hx2 := hx1.tr hg2.f
                    refine mm_w1 rfl ?_
                    refine mm_w1 rfl ?_
                    refine mm_wv (vb_i 43) rfl (by decide) ?_
                    refine mm_cvp (vb_cv (vM_S60 hM) rfl rfl rfl rfl) (by decide) (by omega) (m_sg0 hM hb hv1 hk2 (Or.inr (Or.inr (Or.inr (Or.inl rfl)))) (by omega)) ?_
                    refine mm_nifeq (by decide) (fun _ => ?_) (fun h => absurd h (by decide))
                    refine mm_wv (vb_i 9) rfl (by decide) ?_
                    refine mm_cvn (vb_cv (vM_S60 hM) rfl rfl rfl rfl) (by decide) (by omega) (m_waits hM dE2.2.1 (by have := hVd.2.2.2.2.2; omega)) ?_
                    intro I3 hI3
                    have dE3 := dE2.push 9
                    rw [← hI3] at dE3
                    have hg3 : nx_g a0 I2 I3 := by rw [hI3]; exact nx_g.rf.u73.u60 (by decide) (by decide)
                    have dD3 := dD2.g hg3
                    have hk3 := hk2.g hg3
                    have h123 : I3 60 12 = vb_i 0 := (hg3.2.1 12 (by decide)).trans h122
                    have hx3 := hx2.tr hg3.f
                    have h293 := dE3.2.2.1
                    refine mm_w1 rfl ?_
                    refine mm_cvnJ (vb_cv (vM_S60 hM) rfl rfl rfl rfl) (by decide) (by omega) (m_goes hM dD3 hb (tx_E_n hb hv1) hk3.1 (by omega)) ?_
                    intro I4 J4 hq4
                    obtain ⟨hkS4, hfN4⟩ := hq4
                    have hk4 : nt_tk b n (tx_N b s) I4 J4 := hkS4
                    have dD4 := dD3.f hfN4
                    have dE4 := dE3.f hfN4
                    have h124 : I4 60 12 = vb_i 0 := (hfN4.2 12 (by decide)).trans h123
                    have hx4 := hx3.tr (.of hfN4)
                    refine mm_w1 rfl ?_
                    refine mm_wv (vb_b false) rfl (by decide) ?_ 
                    refine mm_cvnJ (vb_cv (vM_S60 hM) rfl rfl rfl rfl) (by decide) (by omega) (m_operand hM hb (by omega) h ⟨dD4, hk4, dE4, h124, hVp⟩) ?_
                    intro I5 J5 hq5
                    obtain ⟨hO5, hy5⟩ := hq5
                    have hx5 := hx4.tr hy5
                    refine mm_wgoto ?_
                    refine mm_wgoto ?_
                    exact ih F' (by omega) D W t C s _ _ _ hO5 hx5
                  · intro h54
                    exact absurd h54 (nt_kw_ne (by decide) (fun e => hw (Or.inr e)))
            · rw [if_neg hc2] at h
              by_cases hc3 : tx_K b s = 42 ∨ tx_K b s = 47
              · rw [if_pos hc3] at h
                rcases hc3 with hK | hK
                · rw [if_pos hK] at h
                  have hsn := tx_lt hb hv1 (by omega)
                  have hNlt := tx_N_lt hb hsn
                  have hVd := hV.dr (k := 6)
                  have hVp := hVd.ps (a := 10) hNlt hNn (by decide) (by decide)
                  refine mm_w1 rfl ?_
                  refine mm_nifeq (by decide) (fun h => absurd h (by decide)) (fun _ => ?_)
                  refine mm_w1 rfl ?_
                  refine mm_cvp (vb_cv (vM_S60 hM) rfl rfl rfl rfl) (by decide) (by omega) (m_good0 hM h121) ?_
                  refine mm_nifeq (by decide) (fun h => absurd h (by decide)) (fun _ => ?_)
                  refine mm_w1 rfl ?_
                  refine mm_cvp (vb_cv (vM_S60 hM) rfl rfl rfl rfl) (by decide) (by omega) (m_known hM hv1 hn7 hb hk1 (by omega)) ?_
                  refine mm_w1 (ls' := [_, _, _]) rfl ?_
                  refine mm_w1 rfl ?_
                  refine mm_wv (vb_i 13) rfl (by decide) ?_
                  refine mm_wiceq ?_ ?_
                  · intro h48
                    exact absurd h48 (nt_kw_ne (by decide) (fun e => hw (Or.inl e)))
                  · intro h48
                    refine mm_w1 rfl ?_
                    refine mm_wv (vb_i 14) rfl (by decide) ?_
                    refine mm_wicne ?_ ?_
                    · intro h54
                      refine mm_w1 rfl ?_
                      refine mm_wv (vb_i 60) rfl (by decide) ?_
                      refine mm_cvp (vb_cv (vM_S60 hM) rfl rfl rfl rfl) (by decide) (by omega) (m_sg0 hM hb hv1 hk1 (Or.inr (Or.inr (Or.inr (Or.inr (Or.inr (Or.inr (Or.inr (Or.inl rfl)))))))) (by omega)) ?_
                      refine mm_nifne (by decide) (fun h => absurd h (by decide)) (fun _ => ?_)
                      refine mm_w1 rfl ?_
                      refine mm_wv (vb_i 61) rfl (by decide) ?_
                      refine mm_cvp (vb_cv (vM_S60 hM) rfl rfl rfl rfl) (by decide) (by omega) (m_sg0 hM hb hv1 hk1 (Or.inr (Or.inr (Or.inr (Or.inr (Or.inr (Or.inr (Or.inr (Or.inr rfl)))))))) (by omega)) ?_
                      refine mm_nifeq (by decide) (fun _ => ?_) (fun h => absurd h (by decide))
                      refine mm_w1 rfl ?_
                      refine mm_wv (vb_i 43) rfl (by decide) ?_
                      refine mm_cvp (vb_cv (vM_S60 hM) rfl rfl rfl rfl) (by decide) (by omega) (m_sg0 hM hb hv1 hk1 (Or.inr (Or.inr (Or.inr (Or.inl rfl)))) (by omega)) ?_
                      refine mm_nifne (by decide) (fun h => absurd h (by decide)) (fun _ => ?_)
                      refine mm_w1 rfl ?_
                      refine mm_wv (vb_i 45) rfl (by decide) ?_
                      refine mm_cvp (vb_cv (vM_S60 hM) rfl rfl rfl rfl) (by decide) (by omega) (m_sg0 hM hb hv1 hk1 (Or.inr (Or.inr (Or.inr (Or.inr (Or.inl rfl))))) (by omega)) ?_
                      refine mm_nifeq (by decide) (fun _ => ?_) (fun h => absurd h (by decide))
                      refine mm_w1 rfl ?_
                      refine mm_wv (vb_i 42) rfl (by decide) ?_
                      refine mm_cvp (vb_cv (vM_S60 hM) rfl rfl rfl rfl) (by decide) (by omega) (m_sg1 hM hb hv1 hk1 (Or.inr (Or.inr (Or.inr (Or.inr (Or.inr (Or.inl rfl)))))) hK) ?_
                      refine mm_nifne (by decide) (fun _ => ?_) (fun h => absurd h (by decide))
                      refine mm_w1 rfl ?_
                      refine mm_wv (vb_i 6) rfl (by decide) ?_
                      refine mm_cvn (vb_cv (vM_S60 hM) rfl rfl rfl rfl) (by decide) (by omega) (m_drops hM (by decide) (by omega) W C _ dE1 hv4 (by omega) (by omega)) ?_
                      intro I2 hq2
                      obtain ⟨dE2, hg2⟩ := hq2
                      have dD2 := dD1.g hg2
                      have hk2 := hk1.g hg2
                      have h122 : I2 60 12 = vb_i 0 := (hg2.2.1 12 (by decide)).trans h121
                      have hx2 := hx1.tr hg2.f
                      refine mm_w1 rfl ?_
                      refine mm_w1 rfl ?_
                      refine mm_wv (vb_i 42) rfl (by decide) ?_
                      refine mm_cvp (vb_cv (vM_S60 hM) rfl rfl rfl rfl) (by decide) (by omega) (m_sg1 hM hb hv1 hk2 (Or.inr (Or.inr (Or.inr (Or.inr (Or.inr (Or.inl rfl)))))) hK) ?_
                      refine mm_nifeq (by decide) (fun h => absurd h (by decide)) (fun _ => ?_)
                      refine mm_wv (vb_i 10) rfl (by decide) ?_
                      refine mm_wgoto ?_
                      refine mm_cvn (vb_cv (vM_S60 hM) rfl rfl rfl rfl) (by decide) (by omega) (m_waits hM dE2.2.1 (by have := hVd.2.2.2.2.2; omega)) ?_
                      intro I3 hI3
                      have dE3 := dE2.push 10
                      rw [← hI3] at dE3
                      have hg3 : nx_g a0 I2 I3 := by rw [hI3]; exact nx_g.rf.u73.u60 (by decide) (by decide)
                      have dD3 := dD2.g hg3
                      have hk3 := hk2.g hg3
                      have h123 : I3 60 12 = vb_i 0 := (hg3.2.1 12 (by decide)).trans h122
                      have hx3 := hx2.tr hg3.f
                      have h293 := dE3.2.2.1
                      refine mm_w1 rfl ?_
                      refine mm_cvnJ (vb_cv (vM_S60 hM) rfl rfl rfl rfl) (by decide) (by omega) (m_goes hM dD3 hb (tx_E_n hb hv1) hk3.1 (by omega)) ?_
                      intro I4 J4 hq4
                      obtain ⟨hkS4, hfN4⟩ := hq4
                      have hk4 : nt_tk b n (tx_N b s) I4 J4 := hkS4
                      have dD4 := dD3.f hfN4
                      have dE4 := dE3.f hfN4
                      have h124 : I4 60 12 = vb_i 0 := (hfN4.2 12 (by decide)).trans h123
                      have hx4 := hx3.tr (.of hfN4)
                      refine mm_w1 rfl ?_
                      refine mm_wv (vb_b false) rfl (by decide) ?_ 
                      refine mm_cvnJ (vb_cv (vM_S60 hM) rfl rfl rfl rfl) (by decide) (by omega) (m_operand hM hb (by omega) h ⟨dD4, hk4, dE4, h124, hVp⟩) ?_
                      intro I5 J5 hq5
                      obtain ⟨hO5, hy5⟩ := hq5
                      have hx5 := hx4.tr hy5
                      refine mm_wgoto ?_
                      refine mm_wgoto ?_
                      exact ih F' (by omega) D W t C s _ _ _ hO5 hx5
                    · intro h54
                      exact absurd h54 (nt_kw_ne (by decide) (fun e => hw (Or.inr e)))
                · rw [if_neg (show ¬ tx_K b s = 42 by omega)] at h
                  have hsn := tx_lt hb hv1 (by omega)
                  have hNlt := tx_N_lt hb hsn
                  have hVd := hV.dr (k := 6)
                  have hVp := hVd.ps (a := 11) hNlt hNn (by decide) (by decide)
                  refine mm_w1 rfl ?_
                  refine mm_nifeq (by decide) (fun h => absurd h (by decide)) (fun _ => ?_)
                  refine mm_w1 rfl ?_
                  refine mm_cvp (vb_cv (vM_S60 hM) rfl rfl rfl rfl) (by decide) (by omega) (m_good0 hM h121) ?_
                  refine mm_nifeq (by decide) (fun h => absurd h (by decide)) (fun _ => ?_)
                  refine mm_w1 rfl ?_
                  refine mm_cvp (vb_cv (vM_S60 hM) rfl rfl rfl rfl) (by decide) (by omega) (m_known hM hv1 hn7 hb hk1 (by omega)) ?_
                  refine mm_w1 (ls' := [_, _, _]) rfl ?_
                  refine mm_w1 rfl ?_
                  refine mm_wv (vb_i 13) rfl (by decide) ?_
                  refine mm_wiceq ?_ ?_
                  · intro h48
                    exact absurd h48 (nt_kw_ne (by decide) (fun e => hw (Or.inl e)))
                  · intro h48
                    refine mm_w1 rfl ?_
                    refine mm_wv (vb_i 14) rfl (by decide) ?_
                    refine mm_wicne ?_ ?_
                    · intro h54
                      refine mm_w1 rfl ?_
                      refine mm_wv (vb_i 60) rfl (by decide) ?_
                      refine mm_cvp (vb_cv (vM_S60 hM) rfl rfl rfl rfl) (by decide) (by omega) (m_sg0 hM hb hv1 hk1 (Or.inr (Or.inr (Or.inr (Or.inr (Or.inr (Or.inr (Or.inr (Or.inl rfl)))))))) (by omega)) ?_
                      refine mm_nifne (by decide) (fun h => absurd h (by decide)) (fun _ => ?_)
                      refine mm_w1 rfl ?_
                      refine mm_wv (vb_i 61) rfl (by decide) ?_
                      refine mm_cvp (vb_cv (vM_S60 hM) rfl rfl rfl rfl) (by decide) (by omega) (m_sg0 hM hb hv1 hk1 (Or.inr (Or.inr (Or.inr (Or.inr (Or.inr (Or.inr (Or.inr (Or.inr rfl)))))))) (by omega)) ?_
                      refine mm_nifeq (by decide) (fun _ => ?_) (fun h => absurd h (by decide))
                      refine mm_w1 rfl ?_
                      refine mm_wv (vb_i 43) rfl (by decide) ?_
                      refine mm_cvp (vb_cv (vM_S60 hM) rfl rfl rfl rfl) (by decide) (by omega) (m_sg0 hM hb hv1 hk1 (Or.inr (Or.inr (Or.inr (Or.inl rfl)))) (by omega)) ?_
                      refine mm_nifne (by decide) (fun h => absurd h (by decide)) (fun _ => ?_)
                      refine mm_w1 rfl ?_
                      refine mm_wv (vb_i 45) rfl (by decide) ?_
                      refine mm_cvp (vb_cv (vM_S60 hM) rfl rfl rfl rfl) (by decide) (by omega) (m_sg0 hM hb hv1 hk1 (Or.inr (Or.inr (Or.inr (Or.inr (Or.inl rfl))))) (by omega)) ?_
                      refine mm_nifeq (by decide) (fun _ => ?_) (fun h => absurd h (by decide))
                      refine mm_w1 rfl ?_
                      refine mm_wv (vb_i 42) rfl (by decide) ?_
                      refine mm_cvp (vb_cv (vM_S60 hM) rfl rfl rfl rfl) (by decide) (by omega) (m_sg0 hM hb hv1 hk1 (Or.inr (Or.inr (Or.inr (Or.inr (Or.inr (Or.inl rfl)))))) (by omega)) ?_
                      refine mm_nifne (by decide) (fun h => absurd h (by decide)) (fun _ => ?_)
                      refine mm_w1 rfl ?_
                      refine mm_wv (vb_i 47) rfl (by decide) ?_
                      refine mm_cvp (vb_cv (vM_S60 hM) rfl rfl rfl rfl) (by decide) (by omega) (m_sg1 hM hb hv1 hk1 (Or.inr (Or.inr (Or.inr (Or.inr (Or.inr (Or.inr (Or.inl rfl))))))) hK) ?_
                      refine mm_nifeq (by decide) (fun h => absurd h (by decide)) (fun _ => ?_)
                      refine mm_w1 rfl ?_
                      refine mm_wv (vb_i 6) rfl (by decide) ?_
                      refine mm_cvn (vb_cv (vM_S60 hM) rfl rfl rfl rfl) (by decide) (by omega) (m_drops hM (by decide) (by omega) W C _ dE1 hv4 (by omega) (by omega)) ?_
                      intro I2 hq2
                      obtain ⟨dE2, hg2⟩ := hq2
                      have dD2 := dD1.g hg2
                      have hk2 := hk1.g hg2
                      have h122 : I2 60 12 = vb_i 0 := (hg2.2.1 12 (by decide)).trans h121
                      have hx2 := hx1.tr hg2.f
                      refine mm_w1 rfl ?_
                      refine mm_w1 rfl ?_
                      refine mm_wv (vb_i 42) rfl (by decide) ?_
                      refine mm_cvp (vb_cv (vM_S60 hM) rfl rfl rfl rfl) (by decide) (by omega) (m_sg0 hM hb hv1 hk2 (Or.inr (Or.inr (Or.inr (Or.inr (Or.inr (Or.inl rfl)))))) (by omega)) ?_
                      refine mm_nifeq (by decide) (fun _ => ?_) (fun h => absurd h (by decide))
                      refine mm_wv (vb_i 11) rfl (by decide) ?_
                      refine mm_cvn (vb_cv (vM_S60 hM) rfl rfl rfl rfl) (by decide) (by omega) (m_waits hM dE2.2.1 (by have := hVd.2.2.2.2.2; omega)) ?_
                      intro I3 hI3
                      have dE3 := dE2.push 11
                      rw [← hI3] at dE3
                      have hg3 : nx_g a0 I2 I3 := by rw [hI3]; exact nx_g.rf.u73.u60 (by decide) (by decide)
                      have dD3 := dD2.g hg3
                      have hk3 := hk2.g hg3
                      have h123 : I3 60 12 = vb_i 0 := (hg3.2.1 12 (by decide)).trans h122
                      have hx3 := hx2.tr hg3.f
                      have h293 := dE3.2.2.1
                      refine mm_w1 rfl ?_
                      refine mm_cvnJ (vb_cv (vM_S60 hM) rfl rfl rfl rfl) (by decide) (by omega) (m_goes hM dD3 hb (tx_E_n hb hv1) hk3.1 (by omega)) ?_
                      intro I4 J4 hq4
                      obtain ⟨hkS4, hfN4⟩ := hq4
                      have hk4 : nt_tk b n (tx_N b s) I4 J4 := hkS4
                      have dD4 := dD3.f hfN4
                      have dE4 := dE3.f hfN4
                      have h124 : I4 60 12 = vb_i 0 := (hfN4.2 12 (by decide)).trans h123
                      have hx4 := hx3.tr (.of hfN4)
                      refine mm_w1 rfl ?_
                      refine mm_wv (vb_b false) rfl (by decide) ?_ 
                      refine mm_cvnJ (vb_cv (vM_S60 hM) rfl rfl rfl rfl) (by decide) (by omega) (m_operand hM hb (by omega) h ⟨dD4, hk4, dE4, h124, hVp⟩) ?_
                      intro I5 J5 hq5
                      obtain ⟨hO5, hy5⟩ := hq5
                      have hx5 := hx4.tr hy5
                      refine mm_wgoto ?_
                      refine mm_wgoto ?_
                      exact ih F' (by omega) D W t C s _ _ _ hO5 hx5
                    · intro h54
                      exact absurd h54 (nt_kw_ne (by decide) (fun e => hw (Or.inr e)))
              · rw [if_neg hc3] at h
                by_cases hc4 : tx_K b s = 41 ∧ W.any (fun a => decide (14 ≤ a)) = true
                · rw [if_pos hc4] at h
                  obtain ⟨hK, hany⟩ := hc4
                  refine mm_w1 rfl ?_
                  refine mm_nifeq (by decide) (fun h => absurd h (by decide)) (fun _ => ?_)
                  refine mm_w1 rfl ?_
                  refine mm_cvp (vb_cv (vM_S60 hM) rfl rfl rfl rfl) (by decide) (by omega) (m_good0 hM h121) ?_
                  refine mm_nifeq (by decide) (fun h => absurd h (by decide)) (fun _ => ?_)
                  refine mm_w1 rfl ?_
                  refine mm_cvp (vb_cv (vM_S60 hM) rfl rfl rfl rfl) (by decide) (by omega) (m_known hM hv1 hn7 hb hk1 (by omega)) ?_
                  refine mm_w1 (ls' := [_, _, _]) rfl ?_
                  refine mm_w1 rfl ?_
                  refine mm_wv (vb_i 13) rfl (by decide) ?_
                  refine mm_wiceq ?_ ?_
                  · intro h48
                    exact absurd h48 (nt_kw_ne (by decide) (fun e => hw (Or.inl e)))
                  · intro h48
                    refine mm_w1 rfl ?_
                    refine mm_wv (vb_i 14) rfl (by decide) ?_
                    refine mm_wicne ?_ ?_
                    · intro h54
                      refine mm_w1 rfl ?_
                      refine mm_wv (vb_i 60) rfl (by decide) ?_
                      refine mm_cvp (vb_cv (vM_S60 hM) rfl rfl rfl rfl) (by decide) (by omega) (m_sg0 hM hb hv1 hk1 (Or.inr (Or.inr (Or.inr (Or.inr (Or.inr (Or.inr (Or.inr (Or.inl rfl)))))))) (by omega)) ?_
                      refine mm_nifne (by decide) (fun h => absurd h (by decide)) (fun _ => ?_)
                      refine mm_w1 rfl ?_
                      refine mm_wv (vb_i 61) rfl (by decide) ?_
                      refine mm_cvp (vb_cv (vM_S60 hM) rfl rfl rfl rfl) (by decide) (by omega) (m_sg0 hM hb hv1 hk1 (Or.inr (Or.inr (Or.inr (Or.inr (Or.inr (Or.inr (Or.inr (Or.inr rfl)))))))) (by omega)) ?_
                      refine mm_nifeq (by decide) (fun _ => ?_) (fun h => absurd h (by decide))
                      refine mm_w1 rfl ?_
                      refine mm_wv (vb_i 43) rfl (by decide) ?_
                      refine mm_cvp (vb_cv (vM_S60 hM) rfl rfl rfl rfl) (by decide) (by omega) (m_sg0 hM hb hv1 hk1 (Or.inr (Or.inr (Or.inr (Or.inl rfl)))) (by omega)) ?_
                      refine mm_nifne (by decide) (fun h => absurd h (by decide)) (fun _ => ?_)
                      refine mm_w1 rfl ?_
                      refine mm_wv (vb_i 45) rfl (by decide) ?_
                      refine mm_cvp (vb_cv (vM_S60 hM) rfl rfl rfl rfl) (by decide) (by omega) (m_sg0 hM hb hv1 hk1 (Or.inr (Or.inr (Or.inr (Or.inr (Or.inl rfl))))) (by omega)) ?_
                      refine mm_nifeq (by decide) (fun _ => ?_) (fun h => absurd h (by decide))
                      refine mm_w1 rfl ?_
                      refine mm_wv (vb_i 42) rfl (by decide) ?_
                      refine mm_cvp (vb_cv (vM_S60 hM) rfl rfl rfl rfl) (by decide) (by omega) (m_sg0 hM hb hv1 hk1 (Or.inr (Or.inr (Or.inr (Or.inr (Or.inr (Or.inl rfl)))))) (by omega)) ?_
                      refine mm_nifne (by decide) (fun h => absurd h (by decide)) (fun _ => ?_)
                      refine mm_w1 rfl ?_
                      refine mm_wv (vb_i 47) rfl (by decide) ?_
                      refine mm_cvp (vb_cv (vM_S60 hM) rfl rfl rfl rfl) (by decide) (by omega) (m_sg0 hM hb hv1 hk1 (Or.inr (Or.inr (Or.inr (Or.inr (Or.inr (Or.inr (Or.inl rfl))))))) (by omega)) ?_
                      refine mm_nifeq (by decide) (fun _ => ?_) (fun h => absurd h (by decide))
                      refine mm_w1 rfl ?_
                      refine mm_wv (vb_i 41) rfl (by decide) ?_
                      refine mm_cvp (vb_cv (vM_S60 hM) rfl rfl rfl rfl) (by decide) (by omega) (m_sg1 hM hb hv1 hk1 (Or.inr (Or.inr (Or.inl rfl))) hK) ?_
                      refine mm_nifeq (by decide) (fun h => absurd h (by decide)) (fun _ => ?_)
                      refine mm_w1 rfl ?_
                      refine mm_cvp (vb_cv (vM_S60 hM) rfl rfl rfl rfl) (by decide) (by omega) (m_isOpened hM dE1 hv4 (by omega) (by omega)) ?_
                      refine mm_bifeq ?_ ?_
                      · intro h310
                        rw [hany] at h310
                        cases h310
                      · intro h310
                        refine mm_w1 rfl ?_
                        refine mm_cvnJ (vb_cv (vM_S60 hM) rfl rfl rfl rfl) (by decide) (by omega) (m_closes hM hb hS1 hK hany (by omega)) ?_
                        intro I2 J2 hq2
                        obtain ⟨hS2, hy2⟩ := hq2
                        have hx2 := hx1.tr hy2
                        refine mm_wgoto ?_
                        refine mm_wgoto ?_
                        exact ih (F' + 1) hF D W t C s _ _ _ (Or.inr ⟨F', _, _, _, _, _, Nat.lt_succ_self _, h, hS2⟩) hx2
                    · intro h54
                      exact absurd h54 (nt_kw_ne (by decide) (fun e => hw (Or.inr e)))
                · rw [if_neg hc4] at h
                  have hr : (if 1 < D then .inl (1, s) else .inr (s, C ++ rf_dC 0 W)) = r := by
                    by_cases hD : 1 < D
                    · rw [if_pos hD] at h ⊢; exact Option.some.inj h
                    · rw [if_neg hD] at h ⊢; exact Option.some.inj h
                  by_cases hK : tx_K b s = 60
                  · have htD : t D = true := by
                      cases e : t D with
                      | true => rfl
                      | false => exact absurd ⟨Or.inl hK, e⟩ hc
                    refine mm_w1 rfl ?_
                    refine mm_nifeq (by decide) (fun h => absurd h (by decide)) (fun _ => ?_)
                    refine mm_w1 rfl ?_
                    refine mm_cvp (vb_cv (vM_S60 hM) rfl rfl rfl rfl) (by decide) (by omega) (m_good0 hM h121) ?_
                    refine mm_nifeq (by decide) (fun h => absurd h (by decide)) (fun _ => ?_)
                    refine mm_w1 rfl ?_
                    refine mm_cvp (vb_cv (vM_S60 hM) rfl rfl rfl rfl) (by decide) (by omega) (m_known hM hv1 hn7 hb hk1 (by omega)) ?_
                    refine mm_w1 (ls' := [_, _, _]) rfl ?_
                    refine mm_w1 rfl ?_
                    refine mm_wv (vb_i 13) rfl (by decide) ?_
                    refine mm_wiceq ?_ ?_
                    · intro h48
                      exact absurd h48 (nt_kw_ne (by decide) (fun e => hw (Or.inl e)))
                    · intro h48
                      refine mm_w1 rfl ?_
                      refine mm_wv (vb_i 14) rfl (by decide) ?_
                      refine mm_wicne ?_ ?_
                      · intro h54
                        refine mm_w1 rfl ?_
                        refine mm_wv (vb_i 60) rfl (by decide) ?_
                        refine mm_cvp (vb_cv (vM_S60 hM) rfl rfl rfl rfl) (by decide) (by omega) (m_sg1 hM hb hv1 hk1 (Or.inr (Or.inr (Or.inr (Or.inr (Or.inr (Or.inr (Or.inr (Or.inl rfl)))))))) hK) ?_
                        refine mm_nifne (by decide) (fun _ => ?_) (fun h => absurd h (by decide))
                        refine mm_w1 rfl ?_
                        refine mm_wgr (vM_S60 hM) (by decide) (by decide) (vM_P60_37 hM) (vM_a75 hM) ?_
                        refine mm_w1 rfl ?_
                        refine mm_wgiv _ (vM_S60 hM) (by decide) (by decide) h291 ?_
                        refine mm_wzav (vb_b (t D)) (vM_S75 hM) (by decide) (by omega) (dE1.2.2.2.2.1 D (by omega) (Nat.le_refl _)) ?_
                        refine mm_bifne ?_ ?_
                        · intro h136
                          refine mm_w1 rfl ?_
                          refine mm_wv (vb_i 43) rfl (by decide) ?_
                          refine mm_cvp (vb_cv (vM_S60 hM) rfl rfl rfl rfl) (by decide) (by omega) (m_sg0 hM hb hv1 hk1 (Or.inr (Or.inr (Or.inr (Or.inl rfl)))) (by omega)) ?_
                          refine mm_nifne (by decide) (fun h => absurd h (by decide)) (fun _ => ?_)
                          refine mm_w1 rfl ?_
                          refine mm_wv (vb_i 45) rfl (by decide) ?_
                          refine mm_cvp (vb_cv (vM_S60 hM) rfl rfl rfl rfl) (by decide) (by omega) (m_sg0 hM hb hv1 hk1 (Or.inr (Or.inr (Or.inr (Or.inr (Or.inl rfl))))) (by omega)) ?_
                          refine mm_nifeq (by decide) (fun _ => ?_) (fun h => absurd h (by decide))
                          refine mm_w1 rfl ?_
                          refine mm_wv (vb_i 42) rfl (by decide) ?_
                          refine mm_cvp (vb_cv (vM_S60 hM) rfl rfl rfl rfl) (by decide) (by omega) (m_sg0 hM hb hv1 hk1 (Or.inr (Or.inr (Or.inr (Or.inr (Or.inr (Or.inl rfl)))))) (by omega)) ?_
                          refine mm_nifne (by decide) (fun h => absurd h (by decide)) (fun _ => ?_)
                          refine mm_w1 rfl ?_
                          refine mm_wv (vb_i 47) rfl (by decide) ?_
                          refine mm_cvp (vb_cv (vM_S60 hM) rfl rfl rfl rfl) (by decide) (by omega) (m_sg0 hM hb hv1 hk1 (Or.inr (Or.inr (Or.inr (Or.inr (Or.inr (Or.inr (Or.inl rfl))))))) (by omega)) ?_
                          refine mm_nifeq (by decide) (fun _ => ?_) (fun h => absurd h (by decide))
                          refine mm_w1 rfl ?_
                          refine mm_wv (vb_i 41) rfl (by decide) ?_
                          refine mm_cvp (vb_cv (vM_S60 hM) rfl rfl rfl rfl) (by decide) (by omega) (m_sg0 hM hb hv1 hk1 (Or.inr (Or.inr (Or.inl rfl))) (by omega)) ?_
                          refine mm_nifeq (by decide) (fun _ => ?_) (fun h => absurd h (by decide))
                          refine mm_wv (vb_i 0) rfl (by decide) ?_
                          refine mm_w1 (ls' := [_, _, _]) rfl ?_
                          refine mm_wgoto ?_
                          refine mm_w1 rfl ?_
                          refine mm_nifeq (by decide) (fun _ => ?_) (fun h => absurd h (by decide))
                          exact k325 D s W t C I1 J1 _ _ hr hS1 hx1
                        · intro h136
                          rw [htD] at h136
                          cases h136
                      · intro h54
                        exact absurd h54 (nt_kw_ne (by decide) (fun e => hw (Or.inr e)))
                  · by_cases hK : tx_K b s = 61
                    · have htD : t D = true := by
                        cases e : t D with
                        | true => rfl
                        | false => exact absurd ⟨Or.inr hK, e⟩ hc
                      refine mm_w1 rfl ?_
                      refine mm_nifeq (by decide) (fun h => absurd h (by decide)) (fun _ => ?_)
                      refine mm_w1 rfl ?_
                      refine mm_cvp (vb_cv (vM_S60 hM) rfl rfl rfl rfl) (by decide) (by omega) (m_good0 hM h121) ?_
                      refine mm_nifeq (by decide) (fun h => absurd h (by decide)) (fun _ => ?_)
                      refine mm_w1 rfl ?_
                      refine mm_cvp (vb_cv (vM_S60 hM) rfl rfl rfl rfl) (by decide) (by omega) (m_known hM hv1 hn7 hb hk1 (by omega)) ?_
                      refine mm_w1 (ls' := [_, _, _]) rfl ?_
                      refine mm_w1 rfl ?_
                      refine mm_wv (vb_i 13) rfl (by decide) ?_
                      refine mm_wiceq ?_ ?_
                      · intro h48
                        exact absurd h48 (nt_kw_ne (by decide) (fun e => hw (Or.inl e)))
                      · intro h48
                        refine mm_w1 rfl ?_
                        refine mm_wv (vb_i 14) rfl (by decide) ?_
                        refine mm_wicne ?_ ?_
                        · intro h54
                          refine mm_w1 rfl ?_
                          refine mm_wv (vb_i 60) rfl (by decide) ?_
                          refine mm_cvp (vb_cv (vM_S60 hM) rfl rfl rfl rfl) (by decide) (by omega) (m_sg0 hM hb hv1 hk1 (Or.inr (Or.inr (Or.inr (Or.inr (Or.inr (Or.inr (Or.inr (Or.inl rfl)))))))) (by omega)) ?_
                          refine mm_nifne (by decide) (fun h => absurd h (by decide)) (fun _ => ?_)
                          refine mm_w1 rfl ?_
                          refine mm_wv (vb_i 61) rfl (by decide) ?_
                          refine mm_cvp (vb_cv (vM_S60 hM) rfl rfl rfl rfl) (by decide) (by omega) (m_sg1 hM hb hv1 hk1 (Or.inr (Or.inr (Or.inr (Or.inr (Or.inr (Or.inr (Or.inr (Or.inr rfl)))))))) hK) ?_
                          refine mm_nifeq (by decide) (fun h => absurd h (by decide)) (fun _ => ?_)
                          refine mm_w1 rfl ?_
                          refine mm_wgr (vM_S60 hM) (by decide) (by decide) (vM_P60_37 hM) (vM_a75 hM) ?_
                          refine mm_w1 rfl ?_
                          refine mm_wgiv _ (vM_S60 hM) (by decide) (by decide) h291 ?_
                          refine mm_wzav (vb_b (t D)) (vM_S75 hM) (by decide) (by omega) (dE1.2.2.2.2.1 D (by omega) (Nat.le_refl _)) ?_
                          refine mm_bifne ?_ ?_
                          · intro h136
                            refine mm_w1 rfl ?_
                            refine mm_wv (vb_i 43) rfl (by decide) ?_
                            refine mm_cvp (vb_cv (vM_S60 hM) rfl rfl rfl rfl) (by decide) (by omega) (m_sg0 hM hb hv1 hk1 (Or.inr (Or.inr (Or.inr (Or.inl rfl)))) (by omega)) ?_
                            refine mm_nifne (by decide) (fun h => absurd h (by decide)) (fun _ => ?_)
                            refine mm_w1 rfl ?_
                            refine mm_wv (vb_i 45) rfl (by decide) ?_
                            refine mm_cvp (vb_cv (vM_S60 hM) rfl rfl rfl rfl) (by decide) (by omega) (m_sg0 hM hb hv1 hk1 (Or.inr (Or.inr (Or.inr (Or.inr (Or.inl rfl))))) (by omega)) ?_
                            refine mm_nifeq (by decide) (fun _ => ?_) (fun h => absurd h (by decide))
                            refine mm_w1 rfl ?_
                            refine mm_wv (vb_i 42) rfl (by decide) ?_
                            refine mm_cvp (vb_cv (vM_S60 hM) rfl rfl rfl rfl) (by decide) (by omega) (m_sg0 hM hb hv1 hk1 (Or.inr (Or.inr (Or.inr (Or.inr (Or.inr (Or.inl rfl)))))) (by omega)) ?_
                            refine mm_nifne (by decide) (fun h => absurd h (by decide)) (fun _ => ?_)
                            refine mm_w1 rfl ?_
                            refine mm_wv (vb_i 47) rfl (by decide) ?_
                            refine mm_cvp (vb_cv (vM_S60 hM) rfl rfl rfl rfl) (by decide) (by omega) (m_sg0 hM hb hv1 hk1 (Or.inr (Or.inr (Or.inr (Or.inr (Or.inr (Or.inr (Or.inl rfl))))))) (by omega)) ?_
                            refine mm_nifeq (by decide) (fun _ => ?_) (fun h => absurd h (by decide))
                            refine mm_w1 rfl ?_
                            refine mm_wv (vb_i 41) rfl (by decide) ?_
                            refine mm_cvp (vb_cv (vM_S60 hM) rfl rfl rfl rfl) (by decide) (by omega) (m_sg0 hM hb hv1 hk1 (Or.inr (Or.inr (Or.inl rfl))) (by omega)) ?_
                            refine mm_nifeq (by decide) (fun _ => ?_) (fun h => absurd h (by decide))
                            refine mm_wv (vb_i 0) rfl (by decide) ?_
                            refine mm_w1 (ls' := [_, _, _]) rfl ?_
                            refine mm_wgoto ?_
                            refine mm_w1 rfl ?_
                            refine mm_nifeq (by decide) (fun _ => ?_) (fun h => absurd h (by decide))
                            exact k325 D s W t C I1 J1 _ _ hr hS1 hx1
                          · intro h136
                            rw [htD] at h136
                            cases h136
                        · intro h54
                          exact absurd h54 (nt_kw_ne (by decide) (fun e => hw (Or.inr e)))
                    · by_cases hK : tx_K b s = 41
                      · have hany : W.any (fun a => decide (14 ≤ a)) = false := by
                          cases e : W.any (fun a => decide (14 ≤ a)) with
                          | false => rfl
                          | true => exact absurd ⟨hK, e⟩ hc4
                        refine mm_w1 rfl ?_
                        refine mm_nifeq (by decide) (fun h => absurd h (by decide)) (fun _ => ?_)
                        refine mm_w1 rfl ?_
                        refine mm_cvp (vb_cv (vM_S60 hM) rfl rfl rfl rfl) (by decide) (by omega) (m_good0 hM h121) ?_
                        refine mm_nifeq (by decide) (fun h => absurd h (by decide)) (fun _ => ?_)
                        refine mm_w1 rfl ?_
                        refine mm_cvp (vb_cv (vM_S60 hM) rfl rfl rfl rfl) (by decide) (by omega) (m_known hM hv1 hn7 hb hk1 (by omega)) ?_
                        refine mm_w1 (ls' := [_, _, _]) rfl ?_
                        refine mm_w1 rfl ?_
                        refine mm_wv (vb_i 13) rfl (by decide) ?_
                        refine mm_wiceq ?_ ?_
                        · intro h48
                          exact absurd h48 (nt_kw_ne (by decide) (fun e => hw (Or.inl e)))
                        · intro h48
                          refine mm_w1 rfl ?_
                          refine mm_wv (vb_i 14) rfl (by decide) ?_
                          refine mm_wicne ?_ ?_
                          · intro h54
                            refine mm_w1 rfl ?_
                            refine mm_wv (vb_i 60) rfl (by decide) ?_
                            refine mm_cvp (vb_cv (vM_S60 hM) rfl rfl rfl rfl) (by decide) (by omega) (m_sg0 hM hb hv1 hk1 (Or.inr (Or.inr (Or.inr (Or.inr (Or.inr (Or.inr (Or.inr (Or.inl rfl)))))))) (by omega)) ?_
                            refine mm_nifne (by decide) (fun h => absurd h (by decide)) (fun _ => ?_)
                            refine mm_w1 rfl ?_
                            refine mm_wv (vb_i 61) rfl (by decide) ?_
                            refine mm_cvp (vb_cv (vM_S60 hM) rfl rfl rfl rfl) (by decide) (by omega) (m_sg0 hM hb hv1 hk1 (Or.inr (Or.inr (Or.inr (Or.inr (Or.inr (Or.inr (Or.inr (Or.inr rfl)))))))) (by omega)) ?_
                            refine mm_nifeq (by decide) (fun _ => ?_) (fun h => absurd h (by decide))
                            refine mm_w1 rfl ?_
                            refine mm_wv (vb_i 43) rfl (by decide) ?_
                            refine mm_cvp (vb_cv (vM_S60 hM) rfl rfl rfl rfl) (by decide) (by omega) (m_sg0 hM hb hv1 hk1 (Or.inr (Or.inr (Or.inr (Or.inl rfl)))) (by omega)) ?_
                            refine mm_nifne (by decide) (fun h => absurd h (by decide)) (fun _ => ?_)
                            refine mm_w1 rfl ?_
                            refine mm_wv (vb_i 45) rfl (by decide) ?_
                            refine mm_cvp (vb_cv (vM_S60 hM) rfl rfl rfl rfl) (by decide) (by omega) (m_sg0 hM hb hv1 hk1 (Or.inr (Or.inr (Or.inr (Or.inr (Or.inl rfl))))) (by omega)) ?_
                            refine mm_nifeq (by decide) (fun _ => ?_) (fun h => absurd h (by decide))
                            refine mm_w1 rfl ?_
                            refine mm_wv (vb_i 42) rfl (by decide) ?_
                            refine mm_cvp (vb_cv (vM_S60 hM) rfl rfl rfl rfl) (by decide) (by omega) (m_sg0 hM hb hv1 hk1 (Or.inr (Or.inr (Or.inr (Or.inr (Or.inr (Or.inl rfl)))))) (by omega)) ?_
                            refine mm_nifne (by decide) (fun h => absurd h (by decide)) (fun _ => ?_)
                            refine mm_w1 rfl ?_
                            refine mm_wv (vb_i 47) rfl (by decide) ?_
                            refine mm_cvp (vb_cv (vM_S60 hM) rfl rfl rfl rfl) (by decide) (by omega) (m_sg0 hM hb hv1 hk1 (Or.inr (Or.inr (Or.inr (Or.inr (Or.inr (Or.inr (Or.inl rfl))))))) (by omega)) ?_
                            refine mm_nifeq (by decide) (fun _ => ?_) (fun h => absurd h (by decide))
                            refine mm_w1 rfl ?_
                            refine mm_wv (vb_i 41) rfl (by decide) ?_
                            refine mm_cvp (vb_cv (vM_S60 hM) rfl rfl rfl rfl) (by decide) (by omega) (m_sg1 hM hb hv1 hk1 (Or.inr (Or.inr (Or.inl rfl))) hK) ?_
                            refine mm_nifeq (by decide) (fun h => absurd h (by decide)) (fun _ => ?_)
                            refine mm_w1 rfl ?_
                            refine mm_cvp (vb_cv (vM_S60 hM) rfl rfl rfl rfl) (by decide) (by omega) (m_isOpened hM dE1 hv4 (by omega) (by omega)) ?_
                            refine mm_bifeq ?_ ?_
                            · intro h310
                              refine mm_wv (vb_i 0) rfl (by decide) ?_
                              refine mm_w1 (ls' := [_, _, _]) rfl ?_
                              refine mm_wgoto ?_
                              refine mm_w1 rfl ?_
                              refine mm_nifeq (by decide) (fun _ => ?_) (fun h => absurd h (by decide))
                              exact k325 D s W t C I1 J1 _ _ hr hS1 hx1
                            · intro h310
                              rw [hany] at h310
                              cases h310
                          · intro h54
                            exact absurd h54 (nt_kw_ne (by decide) (fun e => hw (Or.inr e)))
                      · skip
                        refine mm_w1 rfl ?_
                        refine mm_nifeq (by decide) (fun h => absurd h (by decide)) (fun _ => ?_)
                        refine mm_w1 rfl ?_
                        refine mm_cvp (vb_cv (vM_S60 hM) rfl rfl rfl rfl) (by decide) (by omega) (m_good0 hM h121) ?_
                        refine mm_nifeq (by decide) (fun h => absurd h (by decide)) (fun _ => ?_)
                        refine mm_w1 rfl ?_
                        refine mm_cvp (vb_cv (vM_S60 hM) rfl rfl rfl rfl) (by decide) (by omega) (m_known hM hv1 hn7 hb hk1 (by omega)) ?_
                        refine mm_w1 (ls' := [_, _, _]) rfl ?_
                        refine mm_w1 rfl ?_
                        refine mm_wv (vb_i 13) rfl (by decide) ?_
                        refine mm_wiceq ?_ ?_
                        · intro h48
                          exact absurd h48 (nt_kw_ne (by decide) (fun e => hw (Or.inl e)))
                        · intro h48
                          refine mm_w1 rfl ?_
                          refine mm_wv (vb_i 14) rfl (by decide) ?_
                          refine mm_wicne ?_ ?_
                          · intro h54
                            refine mm_w1 rfl ?_
                            refine mm_wv (vb_i 60) rfl (by decide) ?_
                            refine mm_cvp (vb_cv (vM_S60 hM) rfl rfl rfl rfl) (by decide) (by omega) (m_sg0 hM hb hv1 hk1 (Or.inr (Or.inr (Or.inr (Or.inr (Or.inr (Or.inr (Or.inr (Or.inl rfl)))))))) (by omega)) ?_
                            refine mm_nifne (by decide) (fun h => absurd h (by decide)) (fun _ => ?_)
                            refine mm_w1 rfl ?_
                            refine mm_wv (vb_i 61) rfl (by decide) ?_
                            refine mm_cvp (vb_cv (vM_S60 hM) rfl rfl rfl rfl) (by decide) (by omega) (m_sg0 hM hb hv1 hk1 (Or.inr (Or.inr (Or.inr (Or.inr (Or.inr (Or.inr (Or.inr (Or.inr rfl)))))))) (by omega)) ?_
                            refine mm_nifeq (by decide) (fun _ => ?_) (fun h => absurd h (by decide))
                            refine mm_w1 rfl ?_
                            refine mm_wv (vb_i 43) rfl (by decide) ?_
                            refine mm_cvp (vb_cv (vM_S60 hM) rfl rfl rfl rfl) (by decide) (by omega) (m_sg0 hM hb hv1 hk1 (Or.inr (Or.inr (Or.inr (Or.inl rfl)))) (by omega)) ?_
                            refine mm_nifne (by decide) (fun h => absurd h (by decide)) (fun _ => ?_)
                            refine mm_w1 rfl ?_
                            refine mm_wv (vb_i 45) rfl (by decide) ?_
                            refine mm_cvp (vb_cv (vM_S60 hM) rfl rfl rfl rfl) (by decide) (by omega) (m_sg0 hM hb hv1 hk1 (Or.inr (Or.inr (Or.inr (Or.inr (Or.inl rfl))))) (by omega)) ?_
                            refine mm_nifeq (by decide) (fun _ => ?_) (fun h => absurd h (by decide))
                            refine mm_w1 rfl ?_
                            refine mm_wv (vb_i 42) rfl (by decide) ?_
                            refine mm_cvp (vb_cv (vM_S60 hM) rfl rfl rfl rfl) (by decide) (by omega) (m_sg0 hM hb hv1 hk1 (Or.inr (Or.inr (Or.inr (Or.inr (Or.inr (Or.inl rfl)))))) (by omega)) ?_
                            refine mm_nifne (by decide) (fun h => absurd h (by decide)) (fun _ => ?_)
                            refine mm_w1 rfl ?_
                            refine mm_wv (vb_i 47) rfl (by decide) ?_
                            refine mm_cvp (vb_cv (vM_S60 hM) rfl rfl rfl rfl) (by decide) (by omega) (m_sg0 hM hb hv1 hk1 (Or.inr (Or.inr (Or.inr (Or.inr (Or.inr (Or.inr (Or.inl rfl))))))) (by omega)) ?_
                            refine mm_nifeq (by decide) (fun _ => ?_) (fun h => absurd h (by decide))
                            refine mm_w1 rfl ?_
                            refine mm_wv (vb_i 41) rfl (by decide) ?_
                            refine mm_cvp (vb_cv (vM_S60 hM) rfl rfl rfl rfl) (by decide) (by omega) (m_sg0 hM hb hv1 hk1 (Or.inr (Or.inr (Or.inl rfl))) (by omega)) ?_
                            refine mm_nifeq (by decide) (fun _ => ?_) (fun h => absurd h (by decide))
                            refine mm_wv (vb_i 0) rfl (by decide) ?_
                            refine mm_w1 (ls' := [_, _, _]) rfl ?_
                            refine mm_wgoto ?_
                            refine mm_w1 rfl ?_
                            refine mm_nifeq (by decide) (fun _ => ?_) (fun h => absurd h (by decide))
                            exact k325 D s W t C I1 J1 _ _ hr hS1 hx1
                          · intro h54
                            exact absurd h54 (nt_kw_ne (by decide) (fun e => hw (Or.inr e)))
theorem m_expr (hM : vm_isM P S) (hb : tx_ok b n) (hd : 8 ≤ d) {f s : Nat} {q : (Nat × Nat) ⊕ (Nat × List (Nat × Int32))} (h : px b f 0 0 s = some q) (dD : nt_D b n I) (hk : nt_tk b n s I J) (h12 : I 60 12 = vb_i 0) (h27 : I 60 27 = vb_i a0) (hs : s ≤ n) (ha : a0 + 1 ≤ 2 * s) : mm_C G d 166 [.ref 60] (I, P, J, S, nc, ns) (nt_R none (fun I' J' => nx_Z b n a0 q I' J' ∧ nx_f a0 I I') P S nc ns) := by
  have hn7 := hb.1
  obtain ⟨F, hF⟩ : ∃ F, rf b F true true 0 1 [] (rf_up (fun _ => false) 1 false) [] s = some q := by
    have k := rf_all h (rf_up (fun _ => false) 1 false) [] rfl
    cases q with
    | inl x => exact k
    | inr y => exact k
  show mm_W _ _ 166 (mm_blk 166 0) [.ref 60, .null, .null] [] _ _
  refine mm_w1 rfl ?_
  refine mm_cvp (vb_cv (vM_S60 hM) rfl rfl rfl rfl) (by decide) (by omega) (m_good0 hM h12) ?_
  refine mm_nifne (by decide) (fun _ => ?_) (fun h => absurd h (by decide))
  refine mm_w1 rfl ?_
  refine mm_wv (vb_i 0) rfl (by decide) ?_
  refine mm_wpiN (vM_S60 hM) (by decide) (by decide) ?_
  intro I1 hI1
  have hg1 : nx_g a0 I I1 := by rw [hI1]; exact nx_g.rf.u60 (by decide) (by decide)
  refine mm_w1 rfl ?_
  refine mm_wv (vb_i 0) rfl (by decide) ?_
  refine mm_wpiN (vM_S60 hM) (by decide) (by decide) ?_
  intro I2 hI2
  have hg2 : nx_g a0 I I2 := by rw [hI2]; exact hg1.u60 (by decide) (by decide)
  have dE2 : nx_E a0 0 [] (fun _ => false) [] I2 := ⟨by rw [hI2, vb_up2 _ _ (by decide), hI1, vb_up2 _ _ (by decide)]; exact h27, by rw [hI2, vb_up2 _ _ (by decide), hI1, vb_up1]; rfl, by rw [hI2, vb_up1], fun i hi => absurd hi (Nat.not_lt_zero i), fun j h1 h2 => by omega, fun j hj => absurd hj (Nat.not_lt_zero j)⟩
  refine mm_w1 rfl ?_
  refine mm_cvn (vb_cv (vM_S60 hM) rfl rfl rfl rfl) (by decide) (by omega) (m_deeper hM dE2 (by decide)) ?_
  intro I3 hq3
  obtain ⟨dE3, hg33⟩ := hq3
  have hg3 := hg2.tr hg33
  refine mm_w1 rfl ?_
  refine mm_wv (vb_b true) rfl (by decide) ?_ 
  refine mm_cvnJ (vb_cv (vM_S60 hM) rfl rfl rfl rfl) (by decide) (by omega) (m_operand hM hb (by omega) hF (t := rf_up (fun _ => false) 1 false) ⟨dD.g hg3, hk.g hg3, dE3, (hg3.2.1 12 (by decide)).trans h12, hs, by decide, rfl, (fun a ha => absurd ha List.not_mem_nil), ha, Nat.zero_le _⟩) ?_
  intro I4 J4 hq4
  obtain ⟨hO4, hy4⟩ := hq4
  refine mm_wv (vb_i 1) rfl (by decide) ?_
  refine mm_w1 (ls' := [_, _, _]) rfl ?_
  exact m_exprL hM hb hd F 0 [] (fun _ => false) [] 0 _ _ _ hO4 (hg3.f.tr hy4)
end NXR
