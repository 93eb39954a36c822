theorem pn_C.addT {p : pl_S} {top : Nat} {c : List (Nat × Int32)} {I I' : Nat → Nat → Int32} (h : pn_C p top I) (hq : ∀ q, 23 ≤ q → q ≤ 25 → I' 60 q = I 60 q) (h26 : I' 60 26 = vb_i top) (h27 : I' 60 27 = vb_i (top + (px_rc c).length + 1)) (hs : ∀ e, 68 ≤ e → e ≤ 71 → I' e = I e) (h74 : I' 74 = I 74) (hlo : ∀ j, j < top → I' 72 j = I 72 j) (hc : ∀ j, j < (px_rc c).length → I' 72 (top + j) = (px_rc c).getD j 0) (h0 : I' 72 (top + (px_rc c).length) = 0) (hsc : pl_sc p ≤ 3) : pn_C (pl_addT p c) (top + (px_rc c).length + 1) I' := by
  obtain ⟨g1, g2, g3, g4, g5, g6, g7, g8, g9, g10, g11⟩ := h
  refine ⟨by rw [hq 23 (by decide) (by decide)]; exact g1, by rw [hq 24 (by decide) (by decide)]; exact g2, by rw [hq 25 (by decide) (by decide)]; exact g3, h27, by rw [hs 68 (by decide) (by decide)]; exact g5, by rw [hs 69 (by decide) (by decide)]; exact g6, by rw [hs 70 (by decide) (by decide)]; exact g7, by rw [h74]; exact g8, (fun h => by cases h), fun _ => ⟨top, h26, ?_⟩, fun r hr => ?_⟩
  · show pn_R (I' 72) top _ (if 3 = 3 then c else pl_ru p 3)
    rw [if_pos rfl]
    exact ⟨Nat.le_refl _, hc, h0⟩
  · have hr : r < pl_sc p := hr
    obtain ⟨a, k1, k2⟩ := g11 r hr
    refine ⟨a, by rw [hs 71 (by decide) (by decide)]; exact k1, ?_⟩
    show pn_R (I' 72) a _ (if r = 3 then c else pl_ru p r)
    rw [if_neg (by omega)]
    exact k2.mono (by omega) hlo
theorem pn_C.addS {p : pl_S} {top : Nat} {c : List (Nat × Int32)} {I I' : Nat → Nat → Int32} (h : pn_C p top I) (hq : ∀ q, 23 ≤ q → q ≤ 26 → q ≠ 25 → I' 60 q = I 60 q) (h25 : I' 60 25 = vb_i (pl_sc p + 1)) (h27 : I' 60 27 = vb_i (top + (px_rc c).length + 1)) (hs : ∀ e, 68 ≤ e → e ≤ 70 → I' e = I e) (h71 : I' 71 (pl_sc p) = vb_i top) (k71 : ∀ j, j ≠ pl_sc p → I' 71 j = I 71 j) (h74 : I' 74 = I 74) (hlo : ∀ j, j < top → I' 72 j = I 72 j) (hc : ∀ j, j < (px_rc c).length → I' 72 (top + j) = (px_rc c).getD j 0) (h0 : I' 72 (top + (px_rc c).length) = 0) (hsc : pl_sc p < 3) : pn_C (pl_addS p c) (top + (px_rc c).length + 1) I' := by
  obtain ⟨g1, g2, g3, g4, g5, g6, g7, g8, g9, g10, g11⟩ := h
  refine ⟨by rw [hq 23 (by decide) (by decide) (by decide)]; exact g1, by rw [hq 24 (by decide) (by decide) (by decide)]; exact g2, h25, h27, by rw [hs 68 (by decide) (by decide)]; exact g5, by rw [hs 69 (by decide) (by decide)]; exact g6, by rw [hs 70 (by decide) (by decide)]; exact g7, by rw [h74]; exact g8, by rw [hq 26 (by decide) (by decide) (by decide)]; exact g9, fun h => ?_, fun r hr => ?_⟩
  · obtain ⟨a, k1, k2⟩ := g10 h
    refine ⟨a, by rw [hq 26 (by decide) (by decide) (by decide)]; exact k1, ?_⟩
    show pn_R (I' 72) a _ (if 3 = pl_sc p then c else pl_ru p 3)
    rw [if_neg (by omega)]
    exact k2.mono (by omega) hlo
  · have hr : r < pl_sc p + 1 := hr
    show ∃ a, I' 71 r = vb_i a ∧ pn_R (I' 72) a _ (if r = pl_sc p then c else pl_ru p r)
    by_cases e : r = pl_sc p
    · rw [if_pos e, e]; exact ⟨top, h71, Nat.le_refl _, hc, h0⟩
    · rw [if_neg e]
      obtain ⟨a, k1, k2⟩ := g11 r (by omega)
      exact ⟨a, by rw [k71 r e]; exact k1, k2.mono (by omega) hlo⟩
section PNM
variable {G : mm_G} {d : Nat} {I : Nat → Nat → Int32} {P : Nat → Nat → Nat} {J : Nat → Nat → Int64} {S : List (Nat × Nat)} {nc ns : Nat} {μ : mm_M} {b : Nat → Int32} {n : Nat}
variable {s : Nat} {p : pl_S} {q : (Nat × Nat) ⊕ (Nat × pl_S)}
theorem m_isSignA {c : Nat} (hM : vm_isM P S) : mm_Call G d 152 [.ref 60, .int (vb_i c)] (I, P, J, S, nc, ns) (.inl (some (.int (vb_b (decide (I 60 17 = vb_i 3 ∧ I 60 21 = vb_i c))))), (I, P, J, S, nc, ns)) := by
  refine mm_C.call ?_
  show mm_W _ _ 152 (mm_blk 152 0) [.ref 60, .int (vb_i c)] [] _ _
  refine mm_w1 rfl ?_
  refine mm_wgi (vM_S60 hM) (by decide) (by decide) ?_
  refine mm_wv (vb_i 3) rfl (by decide) ?_
  refine mm_wicne ?_ ?_
  · intro h5
    refine mm_wv (vb_i 0) rfl (by decide) ?_
    refine mm_wr rfl rfl rfl ?_
    first
      | (rw [decide_eq_true ⟨h5, h13⟩]; rfl)
      | (rw [decide_eq_false (fun e => h13 e.2)]; rfl)
      | (rw [decide_eq_false (fun e => h5 e.1)]; rfl)
  · intro h5
    refine mm_w1 rfl ?_
    refine mm_wgi (vM_S60 hM) (by decide) (by decide) ?_
    refine mm_w1 rfl ?_
    refine mm_wicne ?_ ?_
    · intro h13
      refine mm_wv (vb_i 0) rfl (by decide) ?_
      refine mm_wr rfl rfl rfl ?_
      first
        | (rw [decide_eq_true ⟨h5, h13⟩]; rfl)
        | (rw [decide_eq_false (fun e => h13 e.2)]; rfl)
        | (rw [decide_eq_false (fun e => h5 e.1)]; rfl)
    · intro h13
      refine mm_wv (vb_i 1) rfl (by decide) ?_
      refine mm_wgoto ?_
      refine mm_wr rfl rfl rfl ?_
      first
        | (rw [decide_eq_true ⟨h5, h13⟩]; rfl)
        | (rw [decide_eq_false (fun e => h13 e.2)]; rfl)
        | (rw [decide_eq_false (fun e => h5 e.1)]; rfl)
theorem m_needB {f : Nat} {z : Bool} (hM : vm_isM P S) (h12 : I 60 12 = vb_i f) (h1 : 1 ≤ f) (h5 : f ≤ 5) (hd : 1 ≤ d) : mm_Call G d 153 [.ref 60, .int (vb_b z)] (I, P, J, S, nc, ns) (.inl none, (I, P, J, S, nc, ns)) := by
  refine mm_C.call ?_
  show mm_W _ _ 153 (mm_blk 153 0) [.ref 60, .int (vb_b z)] [] _ _
  refine mm_w1 rfl ?_
  refine mm_cvp (vb_cv (vM_S60 hM) rfl rfl rfl rfl) (by decide) (by omega) (m_good1 hM h12 h1 h5) ?_
  refine mm_nifne (by decide) (fun h => absurd h (by decide)) (fun _ => ?_)
  refine mm_wr rfl rfl rfl ?_
  rfl
theorem m_need {z : Bool} (hM : vm_isM P S) (hb : tx_ok b n) (hS : pn_S b n s p I J) (hd : 4 ≤ d) (hq : (if z = true then .inr (tx_N b s, p) else .inl (1, s)) = q) : mm_C G d 153 [.ref 60, .int (vb_b z)] (I, P, J, S, nc, ns) (nt_R none (fun I' J' => pn_Q b n q I' J' ∧ pn_f I I') P S nc ns) := by
  obtain ⟨dD, hk, h12, hs, hp, top, dP, htop⟩ := hS
  have hn7 := hb.1
  have hEn := tx_E_n hb hs
  have h18 := hk.2.1
  cases z with
  | true =>
    rw [if_pos rfl] at hq
    subst hq
    show mm_W _ _ 153 (mm_blk 153 0) [.ref 60, .int (vb_b true)] [] _ _
    refine mm_w1 rfl ?_
    refine mm_cvp (vb_cv (vM_S60 hM) rfl rfl rfl rfl) (by decide) (by omega) (m_good0 hM h12) ?_
    refine mm_nifne (by decide) (fun _ => ?_) (fun h => absurd h (by decide))
    refine mm_w1 rfl ?_
    refine mm_bifeq ?_ ?_
    · intro h9
      cases h9
    · intro h9
      refine mm_w1 rfl ?_
      refine mm_cvnJ (vb_cv (vM_S60 hM) rfl rfl rfl rfl) (by decide) (by omega) (m_goes hM dD hb hEn hk.1 (by omega)) ?_
      intro I1 J1 hq1
      obtain ⟨hkS, hf⟩ := hq1
      refine mm_wgoto ?_
      refine mm_wr rfl rfl rfl ?_
      exact ⟨_, _, ⟨⟨dD.f hf, hkS, (hf.2 12 (by decide)).trans h12, tx_N_n hb hs, hp, top, dP.f hf, by have := tx_N_le b s; omega⟩, .of hf⟩, rfl⟩
  | false =>
    rw [if_neg (by decide)] at hq
    subst hq
    show mm_W _ _ 153 (mm_blk 153 0) [.ref 60, .int (vb_b false)] [] _ _
    refine mm_w1 rfl ?_
    refine mm_cvp (vb_cv (vM_S60 hM) rfl rfl rfl rfl) (by decide) (by omega) (m_good0 hM h12) ?_
    refine mm_nifne (by decide) (fun _ => ?_) (fun h => absurd h (by decide))
    refine mm_w1 rfl ?_
    refine mm_bifeq ?_ ?_
    · intro h9
      refine mm_w1 rfl ?_
      refine mm_wv (vb_i 1) rfl (by decide) ?_
      refine mm_cvn (vb_cv (vM_S60 hM) rfl rfl rfl rfl) (by decide) (by omega) (m_wrong0 hM h12 h18) ?_
      intro I1 hI1
      refine mm_wr rfl rfl rfl ?_
      exact ⟨_, _, ⟨.wr hI1 (of_decide_eq_true rfl) (of_decide_eq_true rfl), .wr hI1⟩, rfl⟩
    · intro h9
      cases h9
theorem m_line {F : Nat} (hM : vm_isM P S) (hb : tx_ok b n) (hS : pn_S b n s p I J) (hsn : s < n) (h : ln b F p s = some q) (hd : 12 ≤ d) : mm_C G d 169 [.ref 60] (I, P, J, S, nc, ns) (nt_R none (fun I' J' => pn_Q b n q I' J' ∧ pn_f I I') P S nc ns) := by
  have kB : ∀ (x : Nat × Nat) (I1 : Nat → Nat → Int32) (J1 : Nat → Nat → Int64) (v1 : Value), .inl x = q → pn_B x I1 → pn_f I I1 → mm_W G d 169 (mm_blk 169 152) [.ref 60, v1] [] (I1, P, J1, S, nc, ns) (nt_R none (fun I' J' => pn_Q b n q I' J' ∧ pn_f I I') P S nc ns) := by
    intro x I1 J1 v1 hq hB hf1
    subst hq
    refine mm_w1 rfl ?_
    refine mm_w1 rfl ?_
    refine mm_wv (vb_i 59) rfl (by decide) ?_
    refine mm_cvp (vb_cv (vM_S60 hM) rfl rfl rfl rfl) (by decide) (by omega) (m_isSignA hM) ?_
    refine mm_cvp0 (vb_cv (vM_S60 hM) rfl rfl rfl rfl) (by decide) (by omega) (m_needB hM hB.1 hB.2.2.1 hB.2.2.2 (by omega)) ?_
    refine mm_wr rfl rfl rfl ?_
    exact ⟨_, _, ⟨hB, hf1⟩, rfl⟩
  have kG : ∀ (s1 : Nat) (p1 : pl_S) (I1 : Nat → Nat → Int32) (J1 : Nat → Nat → Int64) (v1 : Value), (if tx_K b s1 = 59 then .inr (tx_N b s1, p1) else .inl (1, s1)) = q → pn_S b n s1 p1 I1 J1 → pn_f I I1 → mm_W G d 169 (mm_blk 169 152) [.ref 60, v1] [] (I1, P, J1, S, nc, ns) (nt_R none (fun I' J' => pn_Q b n q I' J' ∧ pn_f I I') P S nc ns) := by
    intro s1 p1 I1 J1 v1 hq hS1 hf1
    refine mm_w1 rfl ?_
    refine mm_w1 rfl ?_
    refine mm_wv (vb_i 59) rfl (by decide) ?_
    refine mm_cvp (vb_cv (vM_S60 hM) rfl rfl rfl rfl) (by decide) (by omega) (m_isSign hM hb hS1.2.2.2.1 hS1.2.1 (Or.inl rfl)) ?_
    refine mm_cvnJ (vb_cv (vM_S60 hM) rfl rfl rfl rfl) (by decide) (by omega) (m_need (q := q) hM hb hS1 (by omega) (by rw [← hq]; by_cases e : tx_K b s1 = 59; rw [if_pos e, if_pos (decide_eq_true e)]; rw [if_neg e, if_neg (fun h => e (of_decide_eq_true h))])) ?_
    intro I2 J2 hq2
    refine mm_wr rfl rfl rfl ?_
    exact ⟨_, _, ⟨hq2.1, hf1.tr hq2.2⟩, rfl⟩
  rw [ln] at h
  obtain ⟨q0, h0⟩ : ∃ q0, ln_0 b F p s = some q0 := by
    cases e : ln_0 b F p s with
    | none => rw [e] at h; cases h
    | some q0 => exact ⟨q0, rfl⟩
  rw [h0] at h
  have kQ : ∀ (I1 : Nat → Nat → Int32) (J1 : Nat → Nat → Int64) (v1 : Value), pn_Q b n q0 I1 J1 → pn_f I I1 → mm_W G d 169 (mm_blk 169 152) [.ref 60, v1] [] (I1, P, J1, S, nc, ns) (nt_R none (fun I' J' => pn_Q b n q I' J' ∧ pn_f I I') P S nc ns) := by
    intro I1 J1 v1 hQ hf1
    cases q0 with
    | inl x => exact kB x I1 J1 v1 (Option.some.inj h) hQ hf1
    | inr y =>
      refine kG y.1 y.2 I1 J1 v1 ?_ hQ hf1
      have h : (if tx_K b y.1 = 59 then some (.inr (tx_N b y.1, y.2)) else some (.inl (1, y.1))) = some q := h
      by_cases e : tx_K b y.1 = 59
      · rw [if_pos e] at h ⊢; exact Option.some.inj h
      · rw [if_neg e] at h ⊢; exact Option.some.inj h
  have hS' := hS
  obtain ⟨dD, hk, h12, hs, hp, top, dP, htop⟩ := hS'
  have hn7 := hb.1
  have h18 := hk.2.1
  have hEn := tx_E_n hb hs
  have hN := tx_N_n hb hs
  have hNlt := tx_N_lt hb hsn
  have hsc3 := hp.2.2.1
  have h27 := dP.2.2.2.1
  have h25 := dP.2.2.1
  rw [ln_0] at h0
  by_cases hw : tx_w b s = 8
  · rw [if_pos hw] at h0
    show mm_W _ _ 169 (mm_blk 169 0) [.ref 60, .null] [] _ _
    refine mm_w1 rfl ?_
    refine mm_cvp (vb_cv (vM_S60 hM) rfl rfl rfl rfl) (by decide) (by omega) (m_kw hM hs hn7 hb hk (by omega) hw (by decide)) ?_
    refine mm_w1 (ls' := [_, _]) rfl ?_
    refine mm_w1 rfl ?_
    refine mm_wv (vb_i 8) rfl (by decide) ?_
    refine mm_niclt (by decide) (by decide) (fun h => absurd h (by decide)) (fun _ => ?_)
    refine mm_w1 rfl ?_
    refine mm_wv (vb_i 10) rfl (by decide) ?_
    refine mm_nicgt (by decide) (by decide) (fun h => absurd h (by decide)) (fun _ => ?_)
    refine mm_w1 rfl ?_
    refine mm_w1 rfl ?_
    refine mm_wv (vb_i 8) rfl (by decide) ?_
    refine mm_nsub (by omega) ?_
    refine mm_cvnJ (vb_cv (vM_S60 hM) rfl rfl rfl rfl) (by decide) (by omega) (m_rV (its := 0) hM hb hS (by decide) h0 (by omega)) ?_
    intro I1 J1 hq1
    refine mm_wgoto ?_
    exact kQ _ _ _ hq1.1 hq1.2
  · rw [if_neg hw] at h0
    have hw8 := hw
    by_cases hw : tx_w b s = 9
    · rw [if_pos hw] at h0
      show mm_W _ _ 169 (mm_blk 169 0) [.ref 60, .null] [] _ _
      refine mm_w1 rfl ?_
      refine mm_cvp (vb_cv (vM_S60 hM) rfl rfl rfl rfl) (by decide) (by omega) (m_kw hM hs hn7 hb hk (by omega) hw (by decide)) ?_
      refine mm_w1 (ls' := [_, _]) rfl ?_
      refine mm_w1 rfl ?_
      refine mm_wv (vb_i 8) rfl (by decide) ?_
      refine mm_niclt (by decide) (by decide) (fun h => absurd h (by decide)) (fun _ => ?_)
      refine mm_w1 rfl ?_
      refine mm_wv (vb_i 10) rfl (by decide) ?_
      refine mm_nicgt (by decide) (by decide) (fun h => absurd h (by decide)) (fun _ => ?_)
      refine mm_w1 rfl ?_
      refine mm_w1 rfl ?_
      refine mm_wv (vb_i 8) rfl (by decide) ?_
      refine mm_nsub (by omega) ?_
      refine mm_cvnJ (vb_cv (vM_S60 hM) rfl rfl rfl rfl) (by decide) (by omega) (m_rV (its := 1) hM hb hS (by decide) h0 (by omega)) ?_
      intro I1 J1 hq1
      refine mm_wgoto ?_
      exact kQ _ _ _ hq1.1 hq1.2
    · rw [if_neg hw] at h0
      have hw9 := hw
      by_cases hw : tx_w b s = 10
      · rw [if_pos hw] at h0
        show mm_W _ _ 169 (mm_blk 169 0) [.ref 60, .null] [] _ _
        refine mm_w1 rfl ?_
        refine mm_cvp (vb_cv (vM_S60 hM) rfl rfl rfl rfl) (by decide) (by omega) (m_kw hM hs hn7 hb hk (by omega) hw (by decide)) ?_
        refine mm_w1 (ls' := [_, _]) rfl ?_
        refine mm_w1 rfl ?_
        refine mm_wv (vb_i 8) rfl (by decide) ?_
        refine mm_niclt (by decide) (by decide) (fun h => absurd h (by decide)) (fun _ => ?_)
        refine mm_w1 rfl ?_
        refine mm_wv (vb_i 10) rfl (by decide) ?_
        refine mm_nicgt (by decide) (by decide) (fun h => absurd h (by decide)) (fun _ => ?_)
        refine mm_w1 rfl ?_
        refine mm_w1 rfl ?_
        refine mm_wv (vb_i 8) rfl (by decide) ?_
        refine mm_nsub (by omega) ?_
        refine mm_cvnJ (vb_cv (vM_S60 hM) rfl rfl rfl rfl) (by decide) (by omega) (m_rV (its := 2) hM hb hS (by decide) h0 (by omega)) ?_
        intro I1 J1 hq1
        refine mm_wgoto ?_
        exact kQ _ _ _ hq1.1 hq1.2
      · rw [if_neg hw] at h0
        have hw10 := hw
        by_cases hw : tx_w b s = 11
        · rw [if_pos hw] at h0
          show mm_W _ _ 169 (mm_blk 169 0) [.ref 60, .null] [] _ _
          refine mm_w1 rfl ?_
          refine mm_cvp (vb_cv (vM_S60 hM) rfl rfl rfl rfl) (by decide) (by omega) (m_kw hM hs hn7 hb hk (by omega) hw (by decide)) ?_
          refine mm_w1 (ls' := [_, _]) rfl ?_
          refine mm_w1 rfl ?_
          refine mm_wv (vb_i 8) rfl (by decide) ?_
          refine mm_niclt (by decide) (by decide) (fun h => absurd h (by decide)) (fun _ => ?_)
          refine mm_w1 rfl ?_
          refine mm_wv (vb_i 10) rfl (by decide) ?_
          refine mm_nicgt (by decide) (by decide) (fun _ => ?_) (fun h => absurd h (by decide))
          refine mm_w1 rfl ?_
          refine mm_wv (vb_i 11) rfl (by decide) ?_
          refine mm_nicne (by decide) (by decide) (fun h => absurd h (by decide)) (fun _ => ?_)
          refine mm_w1 rfl ?_
          refine mm_cvnJ (vb_cv (vM_S60 hM) rfl rfl rfl rfl) (by decide) (by omega) (m_rR hM hb hS h0 (by omega)) ?_
          intro I1 J1 hq1
          refine mm_wgoto ?_
          exact kQ _ _ _ hq1.1 hq1.2
        · rw [if_neg hw] at h0
          have hw11 := hw
          by_cases hw : tx_w b s = 5
          · rw [if_pos hw] at h0
            by_cases hht : pl_ht p = true
            · rw [if_pos hht] at h0
              obtain ⟨a, h26, hRa⟩ := dP.2.2.2.2.2.2.2.2.2.1 hht
              have ha := hRa.1
              have hq : .inl (5, s) = q := by cases h0; exact Option.some.inj h
              subst hq
              show mm_W _ _ 169 (mm_blk 169 0) [.ref 60, .null] [] _ _
              refine mm_w1 rfl ?_
              refine mm_cvp (vb_cv (vM_S60 hM) rfl rfl rfl rfl) (by decide) (by omega) (m_kw hM hs hn7 hb hk (by omega) hw (by decide)) ?_
              refine mm_w1 (ls' := [_, _]) rfl ?_
              refine mm_w1 rfl ?_
              refine mm_wv (vb_i 8) rfl (by decide) ?_
              refine mm_niclt (by decide) (by decide) (fun _ => ?_) (fun h => absurd h (by decide))
              refine mm_w1 rfl ?_
              refine mm_wv (vb_i 11) rfl (by decide) ?_
              refine mm_nicne (by decide) (by decide) (fun _ => ?_) (fun h => absurd h (by decide))
              refine mm_w1 rfl ?_
              refine mm_wv (vb_i 5) rfl (by decide) ?_
              refine mm_nicne (by decide) (by decide) (fun h => absurd h (by decide)) (fun _ => ?_)
              refine mm_w1 rfl ?_
              refine mm_wgiv _ (vM_S60 hM) (by decide) (by decide) h26 ?_
              refine mm_wv (-1) rfl (by decide) ?_
              refine mm_wiceq ?_ ?_
              · intro h51
                exact absurd h51 (vb_ne_m1 (by omega))
              · intro h51
                refine mm_w1 rfl ?_
                refine mm_wv (vb_i 5) rfl (by decide) ?_
                refine mm_cvn (vb_cv (vM_S60 hM) rfl rfl rfl rfl) (by decide) (by omega) (m_wrong0 hM h12 h18) ?_
                intro I1 hI1
                have hB : pn_B (5, s) I1 := .wr hI1 (of_decide_eq_true rfl) (of_decide_eq_true rfl)
                refine mm_w1 rfl ?_
                refine mm_cvp (vb_cv (vM_S60 hM) rfl rfl rfl rfl) (by decide) (by omega) (m_good1 hM hB.1 hB.2.2.1 hB.2.2.2) ?_
                refine mm_nifne (by decide) (fun h => absurd h (by decide)) (fun _ => ?_)
                refine mm_wr rfl rfl rfl ?_
                exact ⟨_, _, ⟨hB, .wr hI1⟩, rfl⟩
            · rw [if_neg hht] at h0
              have hht := (Bool.not_eq_true _).mp hht
              have h26 := dP.2.2.2.2.2.2.2.2.1 hht
              obtain ⟨q1, hpx⟩ : ∃ q1, px b F 0 0 (tx_N b s) = some q1 := by
                cases e : px b F 0 0 (tx_N b s) with
                | none => rw [e] at h0; cases h0
                | some q1 => exact ⟨q1, rfl⟩
              rw [hpx] at h0
              show mm_W _ _ 169 (mm_blk 169 0) [.ref 60, .null] [] _ _
              refine mm_w1 rfl ?_
              refine mm_cvp (vb_cv (vM_S60 hM) rfl rfl rfl rfl) (by decide) (by omega) (m_kw hM hs hn7 hb hk (by omega) hw (by decide)) ?_
              refine mm_w1 (ls' := [_, _]) rfl ?_
              refine mm_w1 rfl ?_
              refine mm_wv (vb_i 8) rfl (by decide) ?_
              refine mm_niclt (by decide) (by decide) (fun _ => ?_) (fun h => absurd h (by decide))
              refine mm_w1 rfl ?_
              refine mm_wv (vb_i 11) rfl (by decide) ?_
              refine mm_nicne (by decide) (by decide) (fun _ => ?_) (fun h => absurd h (by decide))
              refine mm_w1 rfl ?_
              refine mm_wv (vb_i 5) rfl (by decide) ?_
              refine mm_nicne (by decide) (by decide) (fun h => absurd h (by decide)) (fun _ => ?_)
              refine mm_w1 rfl ?_
              refine mm_wgiv _ (vM_S60 hM) (by decide) (by decide) h26 ?_
              refine mm_wv (-1) rfl (by decide) ?_
              refine mm_wiceq (fun _ => ?_) (fun h => absurd h (by decide))
              refine mm_w1 rfl ?_
              refine mm_cvp (vb_cv (vM_S60 hM) rfl rfl rfl rfl) (by decide) (by omega) (m_good0 hM h12) ?_
              refine mm_nifne (by decide) (fun _ => ?_) (fun h => absurd h (by decide))
              refine mm_w1 rfl ?_
              refine mm_cvnJ (vb_cv (vM_S60 hM) rfl rfl rfl rfl) (by decide) (by omega) (m_goes hM dD hb hEn hk.1 (by omega)) ?_
              intro I1 J1 hq1
              obtain ⟨hkS1, hf1⟩ := hq1
              have hk1 : nt_tk b n (tx_N b s) I1 J1 := hkS1
              have dD1 := dD.f hf1
              have h121 : I1 60 12 = vb_i 0 := (hf1.2 12 (by decide)).trans h12
              have h271 : I1 60 27 = vb_i top := (hf1.2 27 (by decide)).trans h27
              have h251 : I1 60 25 = vb_i (pl_sc p) := (hf1.2 25 (by decide)).trans h25
              refine mm_w1 rfl ?_
              refine mm_w1 rfl ?_
              refine mm_wgiv _ (vM_S60 hM) (by decide) (by decide) h271 ?_
              refine mm_wpiN (vM_S60 hM) (by decide) (by decide) ?_
              intro I2 hI2
              have hg2 : pn_g I1 I2 := by rw [hI2]; exact pn_g.rf.u60 (by decide)
              have h272 : I2 60 27 = vb_i top := by rw [hI2, vb_up2 _ _ (by decide)]; exact h271
              refine mm_w1 rfl ?_
              refine mm_cvnJ (vb_cv (vM_S60 hM) rfl rfl rfl rfl) (by decide) (by omega) (m_expr (a0 := top) hM hb (by omega) hpx (dD1.pg hg2) (hk1.pg hg2) ((hg2.2 12 (by decide) (by decide)).trans h121) h272 hN (by omega)) ?_
              intro I3 J3 hq3
              obtain ⟨hZ, hx⟩ := hq3
              refine mm_wgoto ?_
              cases q1 with
              | inl x =>
                cases h0
                exact kQ _ _ _ hZ (((pn_f.of hf1).tr (.s6 hI2 (by decide) (by decide))).tr (.ofx hx))
              | inr y =>
                obtain ⟨s1, c⟩ := y
                cases h0
                obtain ⟨z1, z2, z3, z4, z5, z6, z7, z8⟩ := hZ
                have hpq := px_q hb F 0 0 _ _ (Or.inl (by decide)) (by decide) hN hpx
                have hht1 : px_ht c 0 1 := hpq.2.2.2.2 0 (by decide)
                refine kQ _ _ _ ⟨z1, z2, z3, z8, pl_okT hp hht1, _, ?_, z7⟩ (((pn_f.of hf1).tr (.s6 hI2 (by decide) (by decide))).tr (.ofx hx))
                refine pn_C.addT dP (fun q k1 k2 => ?_) ?_ z4 (fun e k1 k2 => ?_) ?_ (fun j hj => ?_) z5 z6 hsc3
                · rw [hx.2.1 q (by omega), hI2, vb_up2 _ _ (by omega), hf1.2 q (by omega)]
                · rw [hx.2.1 26 (by decide), hI2, vb_up1]
                · rw [hx.1 e (by omega) (by omega) (by omega) (by omega), hI2, vb_up3 _ _ (by omega), hf1.1 e (by omega)]
                · rw [hx.1 74 (by decide) (by decide) (by decide) (by decide), hI2, vb_up3 _ _ (by decide), hf1.1 74 (by decide)]
                · rw [hx.2.2.1 j hj, hI2, vb_up3 _ _ (by decide), hf1.1 72 (by decide)]
          · rw [if_neg hw] at h0
            have hw5 := hw
            by_cases hw : tx_w b s = 12
            · rw [if_pos hw] at h0
              by_cases hsc : pl_sc p < 3
              · rw [if_pos hsc] at h0
                obtain ⟨q1, hpx⟩ : ∃ q1, px b F 0 0 (tx_N b s) = some q1 := by
                  cases e : px b F 0 0 (tx_N b s) with
                  | none => rw [e] at h0; cases h0
                  | some q1 => exact ⟨q1, rfl⟩
                rw [hpx] at h0
                show mm_W _ _ 169 (mm_blk 169 0) [.ref 60, .null] [] _ _
                refine mm_w1 rfl ?_
                refine mm_cvp (vb_cv (vM_S60 hM) rfl rfl rfl rfl) (by decide) (by omega) (m_kw hM hs hn7 hb hk (by omega) hw (by decide)) ?_
                refine mm_w1 (ls' := [_, _]) rfl ?_
                refine mm_w1 rfl ?_
                refine mm_wv (vb_i 8) rfl (by decide) ?_
                refine mm_niclt (by decide) (by decide) (fun h => absurd h (by decide)) (fun _ => ?_)
                refine mm_w1 rfl ?_
                refine mm_wv (vb_i 10) rfl (by decide) ?_
                refine mm_nicgt (by decide) (by decide) (fun _ => ?_) (fun h => absurd h (by decide))
                refine mm_w1 rfl ?_
                refine mm_wv (vb_i 11) rfl (by decide) ?_
                refine mm_nicne (by decide) (by decide) (fun _ => ?_) (fun h => absurd h (by decide))
                refine mm_w1 rfl ?_
                refine mm_wv (vb_i 5) rfl (by decide) ?_
                refine mm_nicne (by decide) (by decide) (fun _ => ?_) (fun h => absurd h (by decide))
                refine mm_w1 rfl ?_
                refine mm_wv (vb_i 12) rfl (by decide) ?_
                refine mm_nicne (by decide) (by decide) (fun h => absurd h (by decide)) (fun _ => ?_)
                refine mm_w1 rfl ?_
                refine mm_wgiv _ (vM_S60 hM) (by decide) (by decide) h25 ?_
                refine mm_wv (vb_i 3) rfl (by decide) ?_
                refine mm_nicne (by omega) (by omega) ?_ ?_
                · intro h97
                  refine mm_w1 rfl ?_
                  refine mm_cvp (vb_cv (vM_S60 hM) rfl rfl rfl rfl) (by decide) (by omega) (m_good0 hM h12) ?_
                  refine mm_nifne (by decide) (fun _ => ?_) (fun h => absurd h (by decide))
                  refine mm_w1 rfl ?_
                  refine mm_cvnJ (vb_cv (vM_S60 hM) rfl rfl rfl rfl) (by decide) (by omega) (m_goes hM dD hb hEn hk.1 (by omega)) ?_
                  intro I1 J1 hq1
                  obtain ⟨hkS1, hf1⟩ := hq1
                  have hk1 : nt_tk b n (tx_N b s) I1 J1 := hkS1
                  have dD1 := dD.f hf1
                  have h121 : I1 60 12 = vb_i 0 := (hf1.2 12 (by decide)).trans h12
                  have h271 : I1 60 27 = vb_i top := (hf1.2 27 (by decide)).trans h27
                  have h251 : I1 60 25 = vb_i (pl_sc p) := (hf1.2 25 (by decide)).trans h25
                  refine mm_w1 rfl ?_
                  refine mm_wgr (vM_S60 hM) (by decide) (by decide) (vM_P60_33 hM) (vM_a71 hM) ?_
                  refine mm_w1 rfl ?_
                  refine mm_wgiv _ (vM_S60 hM) (by decide) (by decide) h251 ?_
                  refine mm_w1 rfl ?_
                  refine mm_wgiv _ (vM_S60 hM) (by decide) (by decide) h271 ?_
                  refine mm_wisN (vM_S71 hM) (by decide) (by omega) ?_
                  intro I2 hI2
                  have hg2 : pn_g I1 I2 := by rw [hI2]; exact pn_g.rf.ua (by decide)
                  have h252 : I2 60 25 = vb_i (pl_sc p) := by rw [hI2, vb_up3 _ _ (by decide)]; exact h251
                  refine mm_w1 rfl ?_
                  refine mm_w1 rfl ?_
                  refine mm_wgiv _ (vM_S60 hM) (by decide) (by decide) h252 ?_
                  refine mm_wv (vb_i 1) rfl (by decide) ?_
                  refine mm_nadd ?_
                  refine mm_wpiN (vM_S60 hM) (by decide) (by decide) ?_
                  intro I3 hI3
                  have hg3 : pn_g I1 I3 := by rw [hI3]; exact hg2.u60 (by decide)
                  have h273 : I3 60 27 = vb_i top := by rw [hI3, vb_up2 _ _ (by decide), hI2, vb_up3 _ _ (by decide)]; exact h271
                  refine mm_w1 rfl ?_
                  refine mm_cvnJ (vb_cv (vM_S60 hM) rfl rfl rfl rfl) (by decide) (by omega) (m_expr (a0 := top) hM hb (by omega) hpx (dD1.pg hg3) (hk1.pg hg3) ((hg3.2 12 (by decide) (by decide)).trans h121) h273 hN (by omega)) ?_
                  intro I4 J4 hq4
                  obtain ⟨hZ, hx⟩ := hq4
                  refine mm_wgoto ?_
                  cases q1 with
                  | inl x =>
                    cases h0
                    exact kQ _ _ _ hZ (((pn_f.of hf1).tr (.tr (.sa hI2 (by decide) (by decide)) (.s6 hI3 (by decide) (by decide)))).tr (.ofx hx))
                  | inr y =>
                    obtain ⟨s1, c⟩ := y
                    cases h0
                    obtain ⟨z1, z2, z3, z4, z5, z6, z7, z8⟩ := hZ
                    have hpq := px_q hb F 0 0 _ _ (Or.inl (by decide)) (by decide) hN hpx
                    have hht1 : px_ht c 0 1 := hpq.2.2.2.2 0 (by decide)
                    refine kQ _ _ _ ⟨z1, z2, z3, z8, pl_okS hp hsc hht1, _, ?_, z7⟩ (((pn_f.of hf1).tr (.tr (.sa hI2 (by decide) (by decide)) (.s6 hI3 (by decide) (by decide)))).tr (.ofx hx))
                    refine pn_C.addS dP (fun q k1 k2 k3 => ?_) ?_ z4 (fun e k1 k2 => ?_) ?_ (fun j hj => ?_) ?_ (fun j hj => ?_) z5 z6 hsc
                    · rw [hx.2.1 q (by omega), hI3, vb_up2 _ _ (by omega), hI2, vb_up3 _ _ (by decide), hf1.2 q (by omega)]
                    · rw [hx.2.1 25 (by decide), hI3, vb_up1]
                    · rw [hx.1 e (by omega) (by omega) (by omega) (by omega), hI3, vb_up3 _ _ (by omega), hI2, vb_up3 _ _ (by omega), hf1.1 e (by omega)]
                    · rw [hx.1 71 (by decide) (by decide) (by decide) (by decide), hI3, vb_up3 _ _ (by decide), hI2, vb_up1]
                    · rw [hx.1 71 (by decide) (by decide) (by decide) (by decide), hI3, vb_up3 _ _ (by decide), hI2, vb_up2 _ _ (by omega), hf1.1 71 (by decide)]
                    · rw [hx.1 74 (by decide) (by decide) (by decide) (by decide), hI3, vb_up3 _ _ (by decide), hI2, vb_up3 _ _ (by decide), hf1.1 74 (by decide)]
                    · rw [hx.2.2.1 j hj, hI3, vb_up3 _ _ (by decide), hI2, vb_up3 _ _ (by decide), hf1.1 72 (by decide)]
                · intro h97
                  omega
              · rw [if_neg hsc] at h0
                have hq : .inl (2, s) = q := by cases h0; exact Option.some.inj h
                subst hq
                show mm_W _ _ 169 (mm_blk 169 0) [.ref 60, .null] [] _ _
                refine mm_w1 rfl ?_
                refine mm_cvp (vb_cv (vM_S60 hM) rfl rfl rfl rfl) (by decide) (by omega) (m_kw hM hs hn7 hb hk (by omega) hw (by decide)) ?_
                refine mm_w1 (ls' := [_, _]) rfl ?_
                refine mm_w1 rfl ?_
                refine mm_wv (vb_i 8) rfl (by decide) ?_
                refine mm_niclt (by decide) (by decide) (fun h => absurd h (by decide)) (fun _ => ?_)
                refine mm_w1 rfl ?_
                refine mm_wv (vb_i 10) rfl (by decide) ?_
                refine mm_nicgt (by decide) (by decide) (fun _ => ?_) (fun h => absurd h (by decide))
                refine mm_w1 rfl ?_
                refine mm_wv (vb_i 11) rfl (by decide) ?_
                refine mm_nicne (by decide) (by decide) (fun _ => ?_) (fun h => absurd h (by decide))
                refine mm_w1 rfl ?_
                refine mm_wv (vb_i 5) rfl (by decide) ?_
                refine mm_nicne (by decide) (by decide) (fun _ => ?_) (fun h => absurd h (by decide))
                refine mm_w1 rfl ?_
                refine mm_wv (vb_i 12) rfl (by decide) ?_
                refine mm_nicne (by decide) (by decide) (fun h => absurd h (by decide)) (fun _ => ?_)
                refine mm_w1 rfl ?_
                refine mm_wgiv _ (vM_S60 hM) (by decide) (by decide) h25 ?_
                refine mm_wv (vb_i 3) rfl (by decide) ?_
                refine mm_nicne (by omega) (by omega) ?_ ?_
                · intro h97
                  omega
                · intro h97
                  refine mm_w1 rfl ?_
                  refine mm_wv (vb_i 2) rfl (by decide) ?_
                  refine mm_cvn (vb_cv (vM_S60 hM) rfl rfl rfl rfl) (by decide) (by omega) (m_wrong0 hM h12 h18) ?_
                  intro I1 hI1
                  have hB : pn_B (2, s) I1 := .wr hI1 (of_decide_eq_true rfl) (of_decide_eq_true rfl)
                  refine mm_w1 rfl ?_
                  refine mm_cvp (vb_cv (vM_S60 hM) rfl rfl rfl rfl) (by decide) (by omega) (m_good1 hM hB.1 hB.2.2.1 hB.2.2.2) ?_
                  refine mm_nifne (by decide) (fun h => absurd h (by decide)) (fun _ => ?_)
                  refine mm_wr rfl rfl rfl ?_
                  exact ⟨_, _, ⟨hB, .wr hI1⟩, rfl⟩
            · rw [if_neg hw] at h0
              have hq : .inl (1, s) = q := by cases h0; exact Option.some.inj h
              have hle := tx_w_le b s
              have hk6 : tx_w b s = 0 ∨ tx_w b s = 1 ∨ tx_w b s = 2 ∨ tx_w b s = 3 ∨ tx_w b s = 4 ∨ tx_w b s = 6 ∨ tx_w b s = 7 ∨ tx_w b s = 13 ∨ tx_w b s = 14 ∨ tx_w b s = 15 ∨ ¬ tx_w b s < 16 := by omega
              rcases hk6 with hw | hw | hw | hw | hw | hw | hw | hw | hw | hw | hw
              · show mm_W _ _ 169 (mm_blk 169 0) [.ref 60, .null] [] _ _
                refine mm_w1 rfl ?_
                refine mm_cvp (vb_cv (vM_S60 hM) rfl rfl rfl rfl) (by decide) (by omega) (m_kw hM hs hn7 hb hk (by omega) hw (by decide)) ?_
                refine mm_w1 (ls' := [_, _]) rfl ?_
                refine mm_w1 rfl ?_
                refine mm_wv (vb_i 8) rfl (by decide) ?_
                refine mm_niclt (by decide) (by decide) (fun _ => ?_) (fun h => absurd h (by decide))
                refine mm_w1 rfl ?_
                refine mm_wv (vb_i 11) rfl (by decide) ?_
                refine mm_nicne (by decide) (by decide) (fun _ => ?_) (fun h => absurd h (by decide))
                refine mm_w1 rfl ?_
                refine mm_wv (vb_i 5) rfl (by decide) ?_
                refine mm_nicne (by decide) (by decide) (fun _ => ?_) (fun h => absurd h (by decide))
                refine mm_w1 rfl ?_
                refine mm_wv (vb_i 12) rfl (by decide) ?_
                refine mm_nicne (by decide) (by decide) (fun _ => ?_) (fun h => absurd h (by decide))
                refine mm_w1 rfl ?_
                refine mm_wv (vb_i 1) rfl (by decide) ?_
                refine mm_cvn (vb_cv (vM_S60 hM) rfl rfl rfl rfl) (by decide) (by omega) (m_wrong0 hM h12 h18) ?_
                intro I1 hI1
                have hB : pn_B (1, s) I1 := .wr hI1 (of_decide_eq_true rfl) (of_decide_eq_true rfl)
                exact kB (1, s) _ _ _ hq hB (.wr hI1)
              · show mm_W _ _ 169 (mm_blk 169 0) [.ref 60, .null] [] _ _
                refine mm_w1 rfl ?_
                refine mm_cvp (vb_cv (vM_S60 hM) rfl rfl rfl rfl) (by decide) (by omega) (m_kw hM hs hn7 hb hk (by omega) hw (by decide)) ?_
                refine mm_w1 (ls' := [_, _]) rfl ?_
                refine mm_w1 rfl ?_
                refine mm_wv (vb_i 8) rfl (by decide) ?_
                refine mm_niclt (by decide) (by decide) (fun _ => ?_) (fun h => absurd h (by decide))
                refine mm_w1 rfl ?_
                refine mm_wv (vb_i 11) rfl (by decide) ?_
                refine mm_nicne (by decide) (by decide) (fun _ => ?_) (fun h => absurd h (by decide))
                refine mm_w1 rfl ?_
                refine mm_wv (vb_i 5) rfl (by decide) ?_
                refine mm_nicne (by decide) (by decide) (fun _ => ?_) (fun h => absurd h (by decide))
                refine mm_w1 rfl ?_
                refine mm_wv (vb_i 12) rfl (by decide) ?_
                refine mm_nicne (by decide) (by decide) (fun _ => ?_) (fun h => absurd h (by decide))
                refine mm_w1 rfl ?_
                refine mm_wv (vb_i 1) rfl (by decide) ?_
                refine mm_cvn (vb_cv (vM_S60 hM) rfl rfl rfl rfl) (by decide) (by omega) (m_wrong0 hM h12 h18) ?_
                intro I1 hI1
                have hB : pn_B (1, s) I1 := .wr hI1 (of_decide_eq_true rfl) (of_decide_eq_true rfl)
                exact kB (1, s) _ _ _ hq hB (.wr hI1)
              · show mm_W _ _ 169 (mm_blk 169 0) [.ref 60, .null] [] _ _
                refine mm_w1 rfl ?_
                refine mm_cvp (vb_cv (vM_S60 hM) rfl rfl rfl rfl) (by decide) (by omega) (m_kw hM hs hn7 hb hk (by omega) hw (by decide)) ?_
                refine mm_w1 (ls' := [_, _]) rfl ?_
                refine mm_w1 rfl ?_
                refine mm_wv (vb_i 8) rfl (by decide) ?_
                refine mm_niclt (by decide) (by decide) (fun _ => ?_) (fun h => absurd h (by decide))
                refine mm_w1 rfl ?_
                refine mm_wv (vb_i 11) rfl (by decide) ?_
                refine mm_nicne (by decide) (by decide) (fun _ => ?_) (fun h => absurd h (by decide))
                refine mm_w1 rfl ?_
                refine mm_wv (vb_i 5) rfl (by decide) ?_
                refine mm_nicne (by decide) (by decide) (fun _ => ?_) (fun h => absurd h (by decide))
                refine mm_w1 rfl ?_
                refine mm_wv (vb_i 12) rfl (by decide) ?_
                refine mm_nicne (by decide) (by decide) (fun _ => ?_) (fun h => absurd h (by decide))
                refine mm_w1 rfl ?_
                refine mm_wv (vb_i 1) rfl (by decide) ?_
                refine mm_cvn (vb_cv (vM_S60 hM) rfl rfl rfl rfl) (by decide) (by omega) (m_wrong0 hM h12 h18) ?_
                intro I1 hI1
                have hB : pn_B (1, s) I1 := .wr hI1 (of_decide_eq_true rfl) (of_decide_eq_true rfl)
                exact kB (1, s) _ _ _ hq hB (.wr hI1)
              · show mm_W _ _ 169 (mm_blk 169 0) [.ref 60, .null] [] _ _
                refine mm_w1 rfl ?_
                refine mm_cvp (vb_cv (vM_S60 hM) rfl rfl rfl rfl) (by decide) (by omega) (m_kw hM hs hn7 hb hk (by omega) hw (by decide)) ?_
                refine mm_w1 (ls' := [_, _]) rfl ?_
                refine mm_w1 rfl ?_
                refine mm_wv (vb_i 8) rfl (by decide) ?_
                refine mm_niclt (by decide) (by decide) (fun _ => ?_) (fun h => absurd h (by decide))
                refine mm_w1 rfl ?_
                refine mm_wv (vb_i 11) rfl (by decide) ?_
                refine mm_nicne (by decide) (by decide) (fun _ => ?_) (fun h => absurd h (by decide))
                refine mm_w1 rfl ?_
                refine mm_wv (vb_i 5) rfl (by decide) ?_
                refine mm_nicne (by decide) (by decide) (fun _ => ?_) (fun h => absurd h (by decide))
                refine mm_w1 rfl ?_
                refine mm_wv (vb_i 12) rfl (by decide) ?_
                refine mm_nicne (by decide) (by decide) (fun _ => ?_) (fun h => absurd h (by decide))
                refine mm_w1 rfl ?_
                refine mm_wv (vb_i 1) rfl (by decide) ?_
                refine mm_cvn (vb_cv (vM_S60 hM) rfl rfl rfl rfl) (by decide) (by omega) (m_wrong0 hM h12 h18) ?_
                intro I1 hI1
                have hB : pn_B (1, s) I1 := .wr hI1 (of_decide_eq_true rfl) (of_decide_eq_true rfl)
                exact kB (1, s) _ _ _ hq hB (.wr hI1)
              · show mm_W _ _ 169 (mm_blk 169 0) [.ref 60, .null] [] _ _
                refine mm_w1 rfl ?_
                refine mm_cvp (vb_cv (vM_S60 hM) rfl rfl rfl rfl) (by decide) (by omega) (m_kw hM hs hn7 hb hk (by omega) hw (by decide)) ?_
                refine mm_w1 (ls' := [_, _]) rfl ?_
                refine mm_w1 rfl ?_
                refine mm_wv (vb_i 8) rfl (by decide) ?_
                refine mm_niclt (by decide) (by decide) (fun _ => ?_) (fun h => absurd h (by decide))
                refine mm_w1 rfl ?_
                refine mm_wv (vb_i 11) rfl (by decide) ?_
                refine mm_nicne (by decide) (by decide) (fun _ => ?_) (fun h => absurd h (by decide))
                refine mm_w1 rfl ?_
                refine mm_wv (vb_i 5) rfl (by decide) ?_
                refine mm_nicne (by decide) (by decide) (fun _ => ?_) (fun h => absurd h (by decide))
                refine mm_w1 rfl ?_
                refine mm_wv (vb_i 12) rfl (by decide) ?_
                refine mm_nicne (by decide) (by decide) (fun _ => ?_) (fun h => absurd h (by decide))
                refine mm_w1 rfl ?_
                refine mm_wv (vb_i 1) rfl (by decide) ?_
                refine mm_cvn (vb_cv (vM_S60 hM) rfl rfl rfl rfl) (by decide) (by omega) (m_wrong0 hM h12 h18) ?_
                intro I1 hI1
                have hB : pn_B (1, s) I1 := .wr hI1 (of_decide_eq_true rfl) (of_decide_eq_true rfl)
                exact kB (1, s) _ _ _ hq hB (.wr hI1)
              · show mm_W _ _ 169 (mm_blk 169 0) [.ref 60, .null] [] _ _
                refine mm_w1 rfl ?_
                refine mm_cvp (vb_cv (vM_S60 hM) rfl rfl rfl rfl) (by decide) (by omega) (m_kw hM hs hn7 hb hk (by omega) hw (by decide)) ?_
                refine mm_w1 (ls' := [_, _]) rfl ?_
                refine mm_w1 rfl ?_
                refine mm_wv (vb_i 8) rfl (by decide) ?_
                refine mm_niclt (by decide) (by decide) (fun _ => ?_) (fun h => absurd h (by decide))
                refine mm_w1 rfl ?_
                refine mm_wv (vb_i 11) rfl (by decide) ?_
                refine mm_nicne (by decide) (by decide) (fun _ => ?_) (fun h => absurd h (by decide))
                refine mm_w1 rfl ?_
                refine mm_wv (vb_i 5) rfl (by decide) ?_
                refine mm_nicne (by decide) (by decide) (fun _ => ?_) (fun h => absurd h (by decide))
                refine mm_w1 rfl ?_
                refine mm_wv (vb_i 12) rfl (by decide) ?_
                refine mm_nicne (by decide) (by decide) (fun _ => ?_) (fun h => absurd h (by decide))
                refine mm_w1 rfl ?_
                refine mm_wv (vb_i 1) rfl (by decide) ?_
                refine mm_cvn (vb_cv (vM_S60 hM) rfl rfl rfl rfl) (by decide) (by omega) (m_wrong0 hM h12 h18) ?_
                intro I1 hI1
                have hB : pn_B (1, s) I1 := .wr hI1 (of_decide_eq_true rfl) (of_decide_eq_true rfl)
                exact kB (1, s) _ _ _ hq hB (.wr hI1)
              · show mm_W _ _ 169 (mm_blk 169 0) [.ref 60, .null] [] _ _
                refine mm_w1 rfl ?_
                refine mm_cvp (vb_cv (vM_S60 hM) rfl rfl rfl rfl) (by decide) (by omega) (m_kw hM hs hn7 hb hk (by omega) hw (by decide)) ?_
                refine mm_w1 (ls' := [_, _]) rfl ?_
                refine mm_w1 rfl ?_
                refine mm_wv (vb_i 8) rfl (by decide) ?_
                refine mm_niclt (by decide) (by decide) (fun _ => ?_) (fun h => absurd h (by decide))
                refine mm_w1 rfl ?_
                refine mm_wv (vb_i 11) rfl (by decide) ?_
                refine mm_nicne (by decide) (by decide) (fun _ => ?_) (fun h => absurd h (by decide))
                refine mm_w1 rfl ?_
                refine mm_wv (vb_i 5) rfl (by decide) ?_
                refine mm_nicne (by decide) (by decide) (fun _ => ?_) (fun h => absurd h (by decide))
                refine mm_w1 rfl ?_
                refine mm_wv (vb_i 12) rfl (by decide) ?_
                refine mm_nicne (by decide) (by decide) (fun _ => ?_) (fun h => absurd h (by decide))
                refine mm_w1 rfl ?_
                refine mm_wv (vb_i 1) rfl (by decide) ?_
                refine mm_cvn (vb_cv (vM_S60 hM) rfl rfl rfl rfl) (by decide) (by omega) (m_wrong0 hM h12 h18) ?_
                intro I1 hI1
                have hB : pn_B (1, s) I1 := .wr hI1 (of_decide_eq_true rfl) (of_decide_eq_true rfl)
                exact kB (1, s) _ _ _ hq hB (.wr hI1)
              · show mm_W _ _ 169 (mm_blk 169 0) [.ref 60, .null] [] _ _
                refine mm_w1 rfl ?_
                refine mm_cvp (vb_cv (vM_S60 hM) rfl rfl rfl rfl) (by decide) (by omega) (m_kw hM hs hn7 hb hk (by omega) hw (by decide)) ?_
                refine mm_w1 (ls' := [_, _]) rfl ?_
                refine mm_w1 rfl ?_
                refine mm_wv (vb_i 8) rfl (by decide) ?_
                refine mm_niclt (by decide) (by decide) (fun h => absurd h (by decide)) (fun _ => ?_)
                refine mm_w1 rfl ?_
                refine mm_wv (vb_i 10) rfl (by decide) ?_
                refine mm_nicgt (by decide) (by decide) (fun _ => ?_) (fun h => absurd h (by decide))
                refine mm_w1 rfl ?_
                refine mm_wv (vb_i 11) rfl (by decide) ?_
                refine mm_nicne (by decide) (by decide) (fun _ => ?_) (fun h => absurd h (by decide))
                refine mm_w1 rfl ?_
                refine mm_wv (vb_i 5) rfl (by decide) ?_
                refine mm_nicne (by decide) (by decide) (fun _ => ?_) (fun h => absurd h (by decide))
                refine mm_w1 rfl ?_
                refine mm_wv (vb_i 12) rfl (by decide) ?_
                refine mm_nicne (by decide) (by decide) (fun _ => ?_) (fun h => absurd h (by decide))
                refine mm_w1 rfl ?_
                refine mm_wv (vb_i 1) rfl (by decide) ?_
                refine mm_cvn (vb_cv (vM_S60 hM) rfl rfl rfl rfl) (by decide) (by omega) (m_wrong0 hM h12 h18) ?_
                intro I1 hI1
                have hB : pn_B (1, s) I1 := .wr hI1 (of_decide_eq_true rfl) (of_decide_eq_true rfl)
                exact kB (1, s) _ _ _ hq hB (.wr hI1)
              · show mm_W _ _ 169 (mm_blk 169 0) [.ref 60, .null] [] _ _
                refine mm_w1 rfl ?_
                refine mm_cvp (vb_cv (vM_S60 hM) rfl rfl rfl rfl) (by decide) (by omega) (m_kw hM hs hn7 hb hk (by omega) hw (by decide)) ?_
                refine mm_w1 (ls' := [_, _]) rfl ?_
                refine mm_w1 rfl ?_
                refine mm_wv (vb_i 8) rfl (by decide) ?_
                refine mm_niclt (by decide) (by decide) (fun h => absurd h (by decide)) (fun _ => ?_)
                refine mm_w1 rfl ?_
                refine mm_wv (vb_i 10) rfl (by decide) ?_
                refine mm_nicgt (by decide) (by decide) (fun _ => ?_) (fun h => absurd h (by decide))
                refine mm_w1 rfl ?_
                refine mm_wv (vb_i 11) rfl (by decide) ?_
                refine mm_nicne (by decide) (by decide) (fun _ => ?_) (fun h => absurd h (by decide))
                refine mm_w1 rfl ?_
                refine mm_wv (vb_i 5) rfl (by decide) ?_
                refine mm_nicne (by decide) (by decide) (fun _ => ?_) (fun h => absurd h (by decide))
                refine mm_w1 rfl ?_
                refine mm_wv (vb_i 12) rfl (by decide) ?_
                refine mm_nicne (by decide) (by decide) (fun _ => ?_) (fun h => absurd h (by decide))
                refine mm_w1 rfl ?_
                refine mm_wv (vb_i 1) rfl (by decide) ?_
                refine mm_cvn (vb_cv (vM_S60 hM) rfl rfl rfl rfl) (by decide) (by omega) (m_wrong0 hM h12 h18) ?_
                intro I1 hI1
                have hB : pn_B (1, s) I1 := .wr hI1 (of_decide_eq_true rfl) (of_decide_eq_true rfl)
                exact kB (1, s) _ _ _ hq hB (.wr hI1)
              · show mm_W _ _ 169 (mm_blk 169 0) [.ref 60, .null] [] _ _
                refine mm_w1 rfl ?_
                refine mm_cvp (vb_cv (vM_S60 hM) rfl rfl rfl rfl) (by decide) (by omega) (m_kw hM hs hn7 hb hk (by omega) hw (by decide)) ?_
                refine mm_w1 (ls' := [_, _]) rfl ?_
                refine mm_w1 rfl ?_
                refine mm_wv (vb_i 8) rfl (by decide) ?_
                refine mm_niclt (by decide) (by decide) (fun h => absurd h (by decide)) (fun _ => ?_)
                refine mm_w1 rfl ?_
                refine mm_wv (vb_i 10) rfl (by decide) ?_
                refine mm_nicgt (by decide) (by decide) (fun _ => ?_) (fun h => absurd h (by decide))
                refine mm_w1 rfl ?_
                refine mm_wv (vb_i 11) rfl (by decide) ?_
                refine mm_nicne (by decide) (by decide) (fun _ => ?_) (fun h => absurd h (by decide))
                refine mm_w1 rfl ?_
                refine mm_wv (vb_i 5) rfl (by decide) ?_
                refine mm_nicne (by decide) (by decide) (fun _ => ?_) (fun h => absurd h (by decide))
                refine mm_w1 rfl ?_
                refine mm_wv (vb_i 12) rfl (by decide) ?_
                refine mm_nicne (by decide) (by decide) (fun _ => ?_) (fun h => absurd h (by decide))
                refine mm_w1 rfl ?_
                refine mm_wv (vb_i 1) rfl (by decide) ?_
                refine mm_cvn (vb_cv (vM_S60 hM) rfl rfl rfl rfl) (by decide) (by omega) (m_wrong0 hM h12 h18) ?_
                intro I1 hI1
                have hB : pn_B (1, s) I1 := .wr hI1 (of_decide_eq_true rfl) (of_decide_eq_true rfl)
                exact kB (1, s) _ _ _ hq hB (.wr hI1)
              · show mm_W _ _ 169 (mm_blk 169 0) [.ref 60, .null] [] _ _
                refine mm_w1 rfl ?_
                refine mm_cvp (vb_cv (vM_S60 hM) rfl rfl rfl rfl) (by decide) (by omega) (m_kw0 hM hs hn7 hb hk (by omega) hw) ?_
                refine mm_w1 (ls' := [_, _]) rfl ?_
                refine mm_w1 rfl ?_
                refine mm_wv (vb_i 8) rfl (by decide) ?_
                refine mm_wiclt (fun _ => ?_) (fun h => absurd h (by decide))
                refine mm_w1 rfl ?_
                refine mm_wv (vb_i 11) rfl (by decide) ?_
                refine mm_wicne (fun _ => ?_) (fun h => absurd h (by decide))
                refine mm_w1 rfl ?_
                refine mm_wv (vb_i 5) rfl (by decide) ?_
                refine mm_wicne (fun _ => ?_) (fun h => absurd h (by decide))
                refine mm_w1 rfl ?_
                refine mm_wv (vb_i 12) rfl (by decide) ?_
                refine mm_wicne (fun _ => ?_) (fun h => absurd h (by decide))
                refine mm_w1 rfl ?_
                refine mm_wv (vb_i 1) rfl (by decide) ?_
                refine mm_cvn (vb_cv (vM_S60 hM) rfl rfl rfl rfl) (by decide) (by omega) (m_wrong0 hM h12 h18) ?_
                intro I1 hI1
                have hB : pn_B (1, s) I1 := .wr hI1 (of_decide_eq_true rfl) (of_decide_eq_true rfl)
                exact kB (1, s) _ _ _ hq hB (.wr hI1)
end PNM
