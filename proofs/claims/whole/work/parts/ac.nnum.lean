/-! THE REFERENCE'S LINES: numbers, villages, roads -/
def pn_R (co : Nat → Int32) (a top : Nat) (c : List (Nat × Int32)) : Prop := a + (px_rc c).length + 1 ≤ top ∧ (∀ j, j < (px_rc c).length → co (a + j) = (px_rc c).getD j 0) ∧ co (a + (px_rc c).length) = 0
def pn_C (p : pl_S) (top : Nat) (I : Nat → Nat → Int32) : Prop := I 60 23 = vb_i (pl_n p) ∧ I 60 24 = vb_i (pl_rc p) ∧ I 60 25 = vb_i (pl_sc p) ∧ I 60 27 = vb_i top ∧ (∀ v, v < pl_n p → I 68 v = pl_wo p v) ∧ (∀ v, v < pl_n p → I 69 v = pl_fo p v) ∧ (∀ v, v < pl_n p → I 70 v = vb_i (vx_in (pl_fs p) v)) ∧ (∀ a c, a < 10 → c < 10 → I 74 (10 * a + c) = vb_b (vb_has (pl_nb p a) c)) ∧ (pl_ht p = false → I 60 26 = -1) ∧ (pl_ht p = true → ∃ a, I 60 26 = vb_i a ∧ pn_R (I 72) a top (pl_ru p 3)) ∧ ∀ r, r < pl_sc p → ∃ a, I 71 r = vb_i a ∧ pn_R (I 72) a top (pl_ru p r)
def pn_f (I I' : Nat → Nat → Int32) : Prop := (∀ a, a ≠ 60 → ¬ (68 ≤ a ∧ a ≤ 75) → I' a = I a) ∧ (∀ q, q < 12 ∨ q = 14 ∨ q = 15 ∨ 30 ≤ q → I' 60 q = I 60 q) ∧ (I' 60 12 = vb_i 0 → I' 60 13 = I 60 13 ∧ I 60 12 = vb_i 0)
section PNP
variable {I I' I'' : Nat → Nat → Int32} {J : Nat → Nat → Int64} {p : pl_S} {top a0 : Nat} {b : Nat → Int32} {n s : Nat}
theorem pn_f.rf : pn_f I I := ⟨fun _ _ _ => rfl, fun _ _ => rfl, fun h => ⟨rfl, h⟩⟩
theorem pn_f.tr (h : pn_f I I') (h' : pn_f I' I'') : pn_f I I'' := ⟨fun a h1 h2 => (h'.1 a h1 h2).trans (h.1 a h1 h2), fun q hq => (h'.2.1 q hq).trans (h.2.1 q hq), fun e => ⟨(h'.2.2 e).1.trans (h.2.2 (h'.2.2 e).2).1, (h.2.2 (h'.2.2 e).2).2⟩⟩
theorem pn_f.of (h : nt_f I I') : pn_f I I' := ⟨fun a h1 _ => h.1 a h1, fun q hq => h.2 q (by omega), fun e => ⟨h.2 13 (by decide), (h.2 12 (by decide)).symm.trans e⟩⟩
theorem pn_f.ofx (h : nx_f a0 I I') : pn_f I I' := ⟨fun a h1 h2 => h.1 a h1 (by omega) (by omega) (by omega), fun q hq => h.2.1 q (by omega), h.2.2.2⟩
theorem pn_f.wr {v w : Int32} (h : I' = mm_up (mm_up I 60 12 v) 60 13 w) (hv : ¬ v = vb_i 0 := by first | decide | exact vb_n0 (by assumption) (by assumption)) : pn_f I I' := .ofx (nx_f.wr (a0 := 0) h hv)
theorem pn_f.ua {a j : Nat} {v : Int32} (h : pn_f I I') (h1 : 68 ≤ a) (h2 : a ≤ 75) : pn_f I (mm_up I' a j v) := ⟨fun c k1 k2 => by rw [vb_up3 _ _ (by omega)]; exact h.1 c k1 k2, fun q hq => by rw [vb_up3 _ _ (by omega)]; exact h.2.1 q hq, by rw [vb_up3 _ _ (by omega)]; exact h.2.2⟩
theorem pn_f.u60 {q : Nat} {v : Int32} (h : pn_f I I') (h1 : 22 ≤ q) (h2 : q ≤ 29) : pn_f I (mm_up I' 60 q v) := ⟨fun c k1 k2 => by rw [vb_up3 _ _ k1]; exact h.1 c k1 k2, fun j hj => by rw [vb_up2 _ _ (by omega)]; exact h.2.1 j hj, by rw [vb_up2 _ _ (by omega), vb_up2 _ _ (by omega)]; exact h.2.2⟩
theorem pn_C.f (h : pn_C p top I) (k : nt_f I I') : pn_C p top I' := by
  simp only [pn_C, k.2 23 (by decide), k.2 24 (by decide), k.2 25 (by decide), k.2 26 (by decide), k.2 27 (by decide), k.1 68 (by decide), k.1 69 (by decide), k.1 70 (by decide), k.1 71 (by decide), k.1 72 (by decide), k.1 74 (by decide)]; exact h
/-- token and text stay -/
def pn_g (I I' : Nat → Nat → Int32) : Prop := I' 66 = I 66 ∧ ∀ q, 12 ≤ q → q ≤ 21 → I' 60 q = I 60 q
theorem nt_D.pg (h : nt_D b n I) (k : pn_g I I') : nt_D b n I' := ⟨fun i hi => by rw [k.1]; exact h.1 i hi, by rw [k.2 15 (by decide) (by decide)]; exact h.2.1, h.2.2⟩
theorem nt_tk.pg (h : nt_tk b n s I J) (k : pn_g I I') : nt_tk b n s I' J := by
  simp only [nt_tk, k.2 16 (by decide) (by decide), k.2 17 (by decide) (by decide), k.2 18 (by decide) (by decide), k.2 19 (by decide) (by decide), k.2 20 (by decide) (by decide), k.2 21 (by decide) (by decide)]; exact h
theorem pn_g.rf : pn_g I I := ⟨rfl, fun _ _ _ => rfl⟩
theorem pn_g.ua {a j : Nat} {v : Int32} (h : pn_g I I') (h1 : 68 ≤ a) : pn_g I (mm_up I' a j v) := ⟨by rw [vb_up3 _ _ (by omega)]; exact h.1, fun q h2 h3 => by rw [vb_up3 _ _ (by omega)]; exact h.2 q h2 h3⟩
theorem pn_g.u60 {q : Nat} {v : Int32} (h : pn_g I I') (h1 : 22 ≤ q) : pn_g I (mm_up I' 60 q v) := ⟨by rw [vb_up3 _ _ (by decide)]; exact h.1, fun j h2 h3 => by rw [vb_up2 _ _ (by omega)]; exact h.2 j h2 h3⟩
theorem pn_R.mono {co co' : Nat → Int32} {a top top' : Nat} {c : List (Nat × Int32)} (h : pn_R co a top c) (ht : top ≤ top') (hc : ∀ j, j < top → co' j = co j) : pn_R co' a top' c := by
  obtain ⟨h1, h2, h3⟩ := h
  exact ⟨by omega, fun j hj => by rw [hc _ (by omega)]; exact h2 j hj, by rw [hc _ (by omega)]; exact h3⟩
theorem pn_in0 (hp : pl_ok p) {its w f v : Nat} (hv : v < pl_n p) : vx_in (pl_fs (pl_addV p its w f)) v = vx_in (pl_fs p) v := by
  have e : ∀ j, vb_has (pl_fs (pl_addV p its w f) j) v = vb_has (pl_fs p j) v := fun j => by
    show vb_has (if j = its then pl_fs p j ||| vb_bit (pl_n p) else pl_fs p j) v = _
    split
    · rw [vb_has_or, vb_has_bit (by have := hp.1; omega), decide_eq_false (by omega), Bool.or_false]
    · rfl
  rw [vx_in, vx_in, e, e]
theorem pn_in1 (hp : pl_ok p) {its w f : Nat} (hn : pl_n p < 10) (hi : its ≤ 2) : vx_in (pl_fs (pl_addV p its w f)) (pl_n p) = its := by
  have h0 : ∀ j, j < 2 → vb_has (pl_fs p j) (pl_n p) = false := fun j hj => by
    cases e : vb_has (pl_fs p j) (pl_n p) with
    | false => rfl
    | true => have := hp.2.2.2.2.2.2.2.2.1 j hj _ e; omega
  have e : ∀ j, j < 2 → vb_has (pl_fs (pl_addV p its w f) j) (pl_n p) = decide (j = its) := fun j hj => by
    show vb_has (if j = its then pl_fs p j ||| vb_bit (pl_n p) else pl_fs p j) (pl_n p) = _
    split
    · rename_i e; rw [vb_has_or, vb_has_bit (by omega), h0 j hj, decide_eq_true e, decide_eq_true rfl]; rfl
    · rename_i e; rw [h0 j hj, decide_eq_false e]
  rw [vx_in, e 0 (by decide), e 1 (by decide)]
  have : its = 0 ∨ its = 1 ∨ its = 2 := by omega
  rcases this with rfl | rfl | rfl <;> rfl
end PNP
section PNW
variable {G : mm_G} {d : Nat} {I : Nat → Nat → Int32} {P : Nat → Nat → Nat} {J : Nat → Nat → Int64} {S : List (Nat × Nat)} {nc ns : Nat} {μ : mm_M} {b : Nat → Int32} {n : Nat}
variable {s : Nat}
theorem m_num1 {f lo hi : Nat} (hM : vm_isM P S) (h12 : I 60 12 = vb_i f) (h1 : 1 ≤ f) (h5 : f ≤ 5) (hd : 1 ≤ d) : mm_Call G d 154 [.ref 60, .int (vb_i lo), .int (vb_i hi)] (I, P, J, S, nc, ns) (.inl (some (.int (vb_i 0))), (I, P, J, S, nc, ns)) := by
  refine mm_C.call ?_
  show mm_W _ _ 154 (mm_blk 154 0) [.ref 60, .int (vb_i lo), .int (vb_i hi), .null] [] _ _
  refine mm_w1 rfl ?_
  refine mm_cvp (vb_cv (vM_S60 hM) rfl rfl rfl rfl) (by decide) (by omega) (m_good1 hM h12 h1 h5) ?_
  refine mm_nifne (by decide) (fun h => absurd h (by decide)) (fun _ => ?_)
  refine mm_wv (vb_i 0) rfl (by decide) ?_
  refine mm_wr rfl rfl rfl ?_
  rfl
theorem m_numG {hi v : Nat} (hM : vm_isM P S) (hb : tx_ok b n) (hs : s ≤ n) (dD : nt_D b n I) (hk : nt_tk b n s I J) (h12 : I 60 12 = vb_i 0) (hh : hi < 1000) (h : ln_n b hi s = .inr v) (hd : 3 ≤ d) : mm_C G d 154 [.ref 60, .int (vb_i 0), .int (vb_i hi)] (I, P, J, S, nc, ns) (nt_R (some (.int (vb_i v))) (fun I' J' => nt_tk b n (tx_N b s) I' J' ∧ nt_f I I') P S nc ns) := by
  obtain ⟨h16, h18, h19, h17, h20, h21, hJ⟩ := id hk
  have hn7 := hb.1
  have hEn := tx_E_n hb hs
  have hso := nt_so4 (b := b) (s := s)
  obtain ⟨hK, hv, hle⟩ := ln_n_r h
  have e17 : nt_so (tx_kd (b s)) = 2 := nt_soK2.mpr (Or.inl hK)
  rw [e17] at h17
  have h20 : I 60 20 = vb_i v := by rw [nt_val hk hK, hv]; rfl
  have hnum := tx_num hK
  show mm_W _ _ 154 (mm_blk 154 0) [.ref 60, .int (vb_i 0), .int (vb_i hi), .null] [] _ _
  refine mm_w1 rfl ?_
  refine mm_cvp (vb_cv (vM_S60 hM) rfl rfl rfl rfl) (by decide) (by omega) (m_good0 hM h12) ?_
  refine mm_nifne (by decide) (fun _ => ?_) (fun h => absurd h (by decide))
  refine mm_w1 rfl ?_
  refine mm_wgiv _ (vM_S60 hM) (by decide) (by decide) h17 ?_
  refine mm_wv (vb_i 2) rfl (by decide) ?_
  refine mm_niceq (by decide) (by decide) (fun _ => ?_) (fun h => absurd h (by decide))
  refine mm_w1 rfl ?_
  refine mm_wgiv _ (vM_S60 hM) (by decide) (by decide) h19 ?_
  refine mm_wv (vb_i 4) rfl (by decide) ?_
  refine mm_nicgt (by omega) (by omega) ?_ ?_
  · intro h30
    omega
  · intro h30
    refine mm_w1 rfl ?_
    refine mm_wgiv _ (vM_S60 hM) (by decide) (by decide) h20 ?_
    refine mm_w1 rfl ?_
    refine mm_niclt (by omega) (by omega) ?_ ?_
    · intro h38
      omega
    · intro h38
      refine mm_w1 rfl ?_
      refine mm_wgiv _ (vM_S60 hM) (by decide) (by decide) h20 ?_
      refine mm_w1 rfl ?_
      refine mm_nicle (by omega) (by omega) ?_ ?_
      · intro h46
        refine mm_w1 rfl ?_
        refine mm_wgiv _ (vM_S60 hM) (by decide) (by decide) h20 ?_
        refine mm_w1 (ls' := [_, _, _, _]) rfl ?_
        refine mm_w1 rfl ?_
        refine mm_cvp (vb_cv (vM_S60 hM) rfl rfl rfl rfl) (by decide) (by omega) (m_good0 hM h12) ?_
        refine mm_nifeq (by decide) (fun h => absurd h (by decide)) (fun _ => ?_)
        refine mm_w1 rfl ?_
        refine mm_cvnJ (vb_cv (vM_S60 hM) rfl rfl rfl rfl) (by decide) (by omega) (m_goes hM dD hb hEn h16 (by omega)) ?_
        intro I1 J1 hq1
        refine mm_w1 rfl ?_
        refine mm_wr rfl rfl rfl ?_
        exact ⟨_, _, hq1, rfl⟩
      · intro h46
        omega
theorem m_numB {hi : Nat} {x : Nat × Nat} (hM : vm_isM P S) (hb : tx_ok b n) (hs : s ≤ n) (hk : nt_tk b n s I J) (h12 : I 60 12 = vb_i 0) (hh : hi < 1000) (h : ln_n b hi s = .inl x) (hd : 3 ≤ d) : mm_C G d 154 [.ref 60, .int (vb_i 0), .int (vb_i hi)] (I, P, J, S, nc, ns) (nt_R (some (.int (I 60 20))) (fun I' J' => (I' = mm_up (mm_up I 60 12 (vb_i x.1)) 60 13 (vb_i x.2) ∧ J' = J) ∧ 1 ≤ x.1 ∧ x.1 ≤ 5) P S nc ns) := by
  obtain ⟨h16, h18, h19, h17, h20, h21, hJ⟩ := id hk
  have hn7 := hb.1
  have hEn := tx_E_n hb hs
  have hso := nt_so4 (b := b) (s := s)
  rw [ln_n] at h
  by_cases hK : tx_K b s = 2
  · rw [if_pos hK] at h
    have e17 : nt_so (tx_kd (b s)) = 2 := nt_soK2.mpr (Or.inl hK)
    rw [e17] at h17
    have h20 : I 60 20 = vb_i (tx_Vs b s) := nt_val hk hK
    have hnum := tx_num hK
    have hVs : tx_Vs b s ≤ 9999 := hnum.2.2
    by_cases hle : tx_Vs b s ≤ hi
    · rw [if_pos hle] at h; cases h
    · rw [if_neg hle] at h
      cases h
      rw [h20]
      show mm_W _ _ 154 (mm_blk 154 0) [.ref 60, .int (vb_i 0), .int (vb_i hi), .null] [] _ _
      refine mm_w1 rfl ?_
      refine mm_cvp (vb_cv (vM_S60 hM) rfl rfl rfl rfl) (by decide) (by omega) (m_good0 hM h12) ?_
      refine mm_nifne (by decide) (fun _ => ?_) (fun h => absurd h (by decide))
      refine mm_w1 rfl ?_
      refine mm_wgiv _ (vM_S60 hM) (by decide) (by decide) h17 ?_
      refine mm_wv (vb_i 2) rfl (by decide) ?_
      refine mm_niceq (by decide) (by decide) (fun _ => ?_) (fun h => absurd h (by decide))
      refine mm_w1 rfl ?_
      refine mm_wgiv _ (vM_S60 hM) (by decide) (by decide) h19 ?_
      refine mm_wv (vb_i 4) rfl (by decide) ?_
      refine mm_nicgt (by omega) (by omega) ?_ ?_
      · intro h30
        omega
      · intro h30
        refine mm_w1 rfl ?_
        refine mm_wgiv _ (vM_S60 hM) (by decide) (by decide) h20 ?_
        refine mm_w1 rfl ?_
        refine mm_niclt (by omega) (by omega) ?_ ?_
        · intro h38
          omega
        · intro h38
          refine mm_w1 rfl ?_
          refine mm_wgiv _ (vM_S60 hM) (by decide) (by decide) h20 ?_
          refine mm_w1 rfl ?_
          refine mm_nicle (by omega) (by omega) ?_ ?_
          · intro h46
            omega
          · intro h46
            refine mm_w1 rfl ?_
            refine mm_wv (vb_i 2) rfl (by decide) ?_
            refine mm_cvn (vb_cv (vM_S60 hM) rfl rfl rfl rfl) (by decide) (by omega) (m_wrong0 hM h12 h18) ?_
            intro I1 hI1
            have h121 : I1 60 12 = vb_i 2 := by rw [hI1, vb_up2 _ _ (by decide), vb_up1]
            have h201 : I1 60 20 = I 60 20 := by rw [hI1, vb_up2 _ _ (by decide), vb_up2 _ _ (by decide)]
            refine mm_w1 rfl ?_
            refine mm_wgiv _ (vM_S60 hM) (by decide) (by decide) (h201.trans h20) ?_
            refine mm_w1 (ls' := [_, _, _, _]) rfl ?_
            refine mm_w1 rfl ?_
            refine mm_cvp (vb_cv (vM_S60 hM) rfl rfl rfl rfl) (by decide) (by omega) (m_good1 (f := 2) hM h121 (by decide) (by decide)) ?_
            refine mm_nifeq (by decide) (fun _ => ?_) (fun h => absurd h (by decide))
            refine mm_w1 rfl ?_
            refine mm_wr rfl rfl rfl ?_
            exact ⟨_, _, ⟨⟨hI1, rfl⟩, of_decide_eq_true rfl, of_decide_eq_true rfl⟩, rfl⟩
  · rw [if_neg hK] at h
    by_cases hK3 : tx_K b s = 3
    · rw [if_pos hK3] at h
      cases h
      have e17 : nt_so (tx_kd (b s)) = 2 := nt_soK2.mpr (Or.inr hK3)
      rw [e17] at h17
      have e19 := (nt_kd3 hK3).2
      show mm_W _ _ 154 (mm_blk 154 0) [.ref 60, .int (vb_i 0), .int (vb_i hi), .null] [] _ _
      refine mm_w1 rfl ?_
      refine mm_cvp (vb_cv (vM_S60 hM) rfl rfl rfl rfl) (by decide) (by omega) (m_good0 hM h12) ?_
      refine mm_nifne (by decide) (fun _ => ?_) (fun h => absurd h (by decide))
      refine mm_w1 rfl ?_
      refine mm_wgiv _ (vM_S60 hM) (by decide) (by decide) h17 ?_
      refine mm_wv (vb_i 2) rfl (by decide) ?_
      refine mm_niceq (by decide) (by decide) (fun _ => ?_) (fun h => absurd h (by decide))
      refine mm_w1 rfl ?_
      refine mm_wgiv _ (vM_S60 hM) (by decide) (by decide) h19 ?_
      refine mm_wv (vb_i 4) rfl (by decide) ?_
      refine mm_nicgt (by omega) (by omega) ?_ ?_
      · intro h30
        refine mm_w1 rfl ?_
        refine mm_wv (vb_i 2) rfl (by decide) ?_
        refine mm_cvn (vb_cv (vM_S60 hM) rfl rfl rfl rfl) (by decide) (by omega) (m_wrong0 hM h12 h18) ?_
        intro I1 hI1
        have h121 : I1 60 12 = vb_i 2 := by rw [hI1, vb_up2 _ _ (by decide), vb_up1]
        have h201 : I1 60 20 = I 60 20 := by rw [hI1, vb_up2 _ _ (by decide), vb_up2 _ _ (by decide)]
        refine mm_w1 rfl ?_
        refine mm_wgiv _ (vM_S60 hM) (by decide) (by decide) h201 ?_
        refine mm_w1 (ls' := [_, _, _, _]) rfl ?_
        refine mm_w1 rfl ?_
        refine mm_cvp (vb_cv (vM_S60 hM) rfl rfl rfl rfl) (by decide) (by omega) (m_good1 (f := 2) hM h121 (by decide) (by decide)) ?_
        refine mm_nifeq (by decide) (fun _ => ?_) (fun h => absurd h (by decide))
        refine mm_w1 rfl ?_
        refine mm_wr rfl rfl rfl ?_
        exact ⟨_, _, ⟨⟨hI1, rfl⟩, of_decide_eq_true rfl, of_decide_eq_true rfl⟩, rfl⟩
      · intro h30
        omega
    · rw [if_neg hK3] at h
      cases h
      have e17 : ¬ nt_so (tx_kd (b s)) = 2 := fun e => by have := nt_soK2.mp e; omega
      show mm_W _ _ 154 (mm_blk 154 0) [.ref 60, .int (vb_i 0), .int (vb_i hi), .null] [] _ _
      refine mm_w1 rfl ?_
      refine mm_cvp (vb_cv (vM_S60 hM) rfl rfl rfl rfl) (by decide) (by omega) (m_good0 hM h12) ?_
      refine mm_nifne (by decide) (fun _ => ?_) (fun h => absurd h (by decide))
      refine mm_w1 rfl ?_
      refine mm_wgiv _ (vM_S60 hM) (by decide) (by decide) h17 ?_
      refine mm_wv (vb_i 2) rfl (by decide) ?_
      refine mm_niceq (by omega) (by omega) ?_ ?_
      · intro h14
        exact absurd h14 e17
      · intro h14
        refine mm_w1 rfl ?_
        refine mm_wv (vb_i 1) rfl (by decide) ?_
        refine mm_cvn (vb_cv (vM_S60 hM) rfl rfl rfl rfl) (by decide) (by omega) (m_wrong0 hM h12 h18) ?_
        intro I1 hI1
        have h121 : I1 60 12 = vb_i 1 := by rw [hI1, vb_up2 _ _ (by decide), vb_up1]
        have h201 : I1 60 20 = I 60 20 := by rw [hI1, vb_up2 _ _ (by decide), vb_up2 _ _ (by decide)]
        refine mm_wgoto ?_
        refine mm_w1 rfl ?_
        refine mm_wgiv _ (vM_S60 hM) (by decide) (by decide) h201 ?_
        refine mm_w1 (ls' := [_, _, _, _]) rfl ?_
        refine mm_w1 rfl ?_
        refine mm_cvp (vb_cv (vM_S60 hM) rfl rfl rfl rfl) (by decide) (by omega) (m_good1 (f := 1) hM h121 (by decide) (by decide)) ?_
        refine mm_nifeq (by decide) (fun _ => ?_) (fun h => absurd h (by decide))
        refine mm_w1 rfl ?_
        refine mm_wr rfl rfl rfl ?_
        exact ⟨_, _, ⟨⟨hI1, rfl⟩, of_decide_eq_true rfl, of_decide_eq_true rfl⟩, rfl⟩
theorem m_amG {m v : Nat} (hM : vm_isM P S) (hb : tx_ok b n) (hs : s ≤ n) (hk : nt_tk b n s I J) (h12 : I 60 12 = vb_i 0) (hm : m ≤ 10) (h : ln_a b m s = .inr v) (hd : 3 ≤ d) : mm_Call G d 155 [.ref 60, .int (vb_i m)] (I, P, J, S, nc, ns) (.inl (some (.int (vb_i 1))), (I, P, J, S, nc, ns)) := by
  refine mm_C.call ?_
  obtain ⟨h16, h18, h19, h17, h20, h21, hJ⟩ := id hk
  have hn7 := hb.1
  have hEn := tx_E_n hb hs
  have hso := nt_so4 (b := b) (s := s)
  obtain ⟨hK, hv, hle⟩ := ln_a_r h
  have e17 : nt_so (tx_kd (b s)) = 2 := nt_soK2.mpr (Or.inl hK)
  rw [e17] at h17
  have h20 : I 60 20 = vb_i v := by rw [nt_val hk hK, hv]; rfl
  have hnum := tx_num hK
  show mm_W _ _ 155 (mm_blk 155 0) [.ref 60, .int (vb_i m)] [] _ _
  refine mm_w1 rfl ?_
  refine mm_cvp (vb_cv (vM_S60 hM) rfl rfl rfl rfl) (by decide) (by omega) (m_good0 hM h12) ?_
  refine mm_nifne (by decide) (fun _ => ?_) (fun h => absurd h (by decide))
  refine mm_w1 rfl ?_
  refine mm_wgiv _ (vM_S60 hM) (by decide) (by decide) h17 ?_
  refine mm_wv (vb_i 2) rfl (by decide) ?_
  refine mm_niceq (by decide) (by decide) (fun _ => ?_) (fun h => absurd h (by decide))
  refine mm_w1 rfl ?_
  refine mm_wgiv _ (vM_S60 hM) (by decide) (by decide) h19 ?_
  refine mm_wv (vb_i 4) rfl (by decide) ?_
  refine mm_nicle (by omega) (by omega) ?_ ?_
  · intro h30
    refine mm_w1 rfl ?_
    refine mm_wgiv _ (vM_S60 hM) (by decide) (by decide) h20 ?_
    refine mm_w1 rfl ?_
    refine mm_niclt (by omega) (by omega) ?_ ?_
    · intro h46
      refine mm_w1 rfl ?_
      refine mm_cvp (vb_cv (vM_S60 hM) rfl rfl rfl rfl) (by decide) (by omega) (m_good0 hM h12) ?_
      refine mm_wr rfl rfl rfl ?_
      rfl
    · intro h46
      omega
  · intro h30
    omega
theorem m_amB {m : Nat} {x : Nat × Nat} (hM : vm_isM P S) (hb : tx_ok b n) (hs : s ≤ n) (hk : nt_tk b n s I J) (h12 : I 60 12 = vb_i 0) (hm : m ≤ 10) (h : ln_a b m s = .inl x) (hd : 3 ≤ d) : mm_C G d 155 [.ref 60, .int (vb_i m)] (I, P, J, S, nc, ns) (vb_R (some (.int (vb_i 0))) (fun I' => I' = mm_up (mm_up I 60 12 (vb_i x.1)) 60 13 (vb_i x.2) ∧ 1 ≤ x.1 ∧ x.1 ≤ 5) P J S nc ns) := by
  obtain ⟨h16, h18, h19, h17, h20, h21, hJ⟩ := id hk
  have hn7 := hb.1
  have hEn := tx_E_n hb hs
  have hso := nt_so4 (b := b) (s := s)
  rw [ln_a] at h
  by_cases hK : tx_K b s = 2
  · rw [if_pos hK] at h
    have e17 : nt_so (tx_kd (b s)) = 2 := nt_soK2.mpr (Or.inl hK)
    rw [e17] at h17
    have h20 : I 60 20 = vb_i (tx_Vs b s) := nt_val hk hK
    have hnum := tx_num hK
    have hVs : tx_Vs b s ≤ 9999 := hnum.2.2
    by_cases hle : tx_Vs b s < m
    · rw [if_pos hle] at h; cases h
    · rw [if_neg hle] at h
      cases h
      show mm_W _ _ 155 (mm_blk 155 0) [.ref 60, .int (vb_i m)] [] _ _
      refine mm_w1 rfl ?_
      refine mm_cvp (vb_cv (vM_S60 hM) rfl rfl rfl rfl) (by decide) (by omega) (m_good0 hM h12) ?_
      refine mm_nifne (by decide) (fun _ => ?_) (fun h => absurd h (by decide))
      refine mm_w1 rfl ?_
      refine mm_wgiv _ (vM_S60 hM) (by decide) (by decide) h17 ?_
      refine mm_wv (vb_i 2) rfl (by decide) ?_
      refine mm_niceq (by decide) (by decide) (fun _ => ?_) (fun h => absurd h (by decide))
      refine mm_w1 rfl ?_
      refine mm_wgiv _ (vM_S60 hM) (by decide) (by decide) h19 ?_
      refine mm_wv (vb_i 4) rfl (by decide) ?_
      refine mm_nicle (by omega) (by omega) ?_ ?_
      · intro h30
        refine mm_w1 rfl ?_
        refine mm_wgiv _ (vM_S60 hM) (by decide) (by decide) h20 ?_
        refine mm_w1 rfl ?_
        refine mm_niclt (by omega) (by omega) ?_ ?_
        · intro h46
          omega
        · intro h46
          refine mm_w1 rfl ?_
          refine mm_wv (vb_i 3) rfl (by decide) ?_
          refine mm_cvn (vb_cv (vM_S60 hM) rfl rfl rfl rfl) (by decide) (by omega) (m_wrong0 hM h12 h18) ?_
          intro I1 hI1
          have h121 : I1 60 12 = vb_i 3 := by rw [hI1, vb_up2 _ _ (by decide), vb_up1]
          have h201 : I1 60 20 = I 60 20 := by rw [hI1, vb_up2 _ _ (by decide), vb_up2 _ _ (by decide)]
          refine mm_w1 rfl ?_
          refine mm_cvp (vb_cv (vM_S60 hM) rfl rfl rfl rfl) (by decide) (by omega) (m_good1 (f := 3) hM h121 (by decide) (by decide)) ?_
          refine mm_wr rfl rfl rfl ?_
          exact ⟨_, ⟨hI1, of_decide_eq_true rfl, of_decide_eq_true rfl⟩, rfl⟩
      · intro h30
        omega
  · rw [if_neg hK] at h
    by_cases hK3 : tx_K b s = 3
    · rw [if_pos hK3] at h
      cases h
      have e17 : nt_so (tx_kd (b s)) = 2 := nt_soK2.mpr (Or.inr hK3)
      rw [e17] at h17
      have e19 := (nt_kd3 hK3).2
      show mm_W _ _ 155 (mm_blk 155 0) [.ref 60, .int (vb_i m)] [] _ _
      refine mm_w1 rfl ?_
      refine mm_cvp (vb_cv (vM_S60 hM) rfl rfl rfl rfl) (by decide) (by omega) (m_good0 hM h12) ?_
      refine mm_nifne (by decide) (fun _ => ?_) (fun h => absurd h (by decide))
      refine mm_w1 rfl ?_
      refine mm_wgiv _ (vM_S60 hM) (by decide) (by decide) h17 ?_
      refine mm_wv (vb_i 2) rfl (by decide) ?_
      refine mm_niceq (by decide) (by decide) (fun _ => ?_) (fun h => absurd h (by decide))
      refine mm_w1 rfl ?_
      refine mm_wgiv _ (vM_S60 hM) (by decide) (by decide) h19 ?_
      refine mm_wv (vb_i 4) rfl (by decide) ?_
      refine mm_nicle (by omega) (by omega) ?_ ?_
      · intro h30
        omega
      · intro h30
        refine mm_w1 rfl ?_
        refine mm_wv (vb_i 2) rfl (by decide) ?_
        refine mm_cvn (vb_cv (vM_S60 hM) rfl rfl rfl rfl) (by decide) (by omega) (m_wrong0 hM h12 h18) ?_
        intro I1 hI1
        have h121 : I1 60 12 = vb_i 2 := by rw [hI1, vb_up2 _ _ (by decide), vb_up1]
        have h201 : I1 60 20 = I 60 20 := by rw [hI1, vb_up2 _ _ (by decide), vb_up2 _ _ (by decide)]
        refine mm_wgoto ?_
        refine mm_w1 rfl ?_
        refine mm_cvp (vb_cv (vM_S60 hM) rfl rfl rfl rfl) (by decide) (by omega) (m_good1 (f := 2) hM h121 (by decide) (by decide)) ?_
        refine mm_wr rfl rfl rfl ?_
        exact ⟨_, ⟨hI1, of_decide_eq_true rfl, of_decide_eq_true rfl⟩, rfl⟩
    · rw [if_neg hK3] at h
      cases h
      have e17 : ¬ nt_so (tx_kd (b s)) = 2 := fun e => by have := nt_soK2.mp e; omega
      show mm_W _ _ 155 (mm_blk 155 0) [.ref 60, .int (vb_i m)] [] _ _
      refine mm_w1 rfl ?_
      refine mm_cvp (vb_cv (vM_S60 hM) rfl rfl rfl rfl) (by decide) (by omega) (m_good0 hM h12) ?_
      refine mm_nifne (by decide) (fun _ => ?_) (fun h => absurd h (by decide))
      refine mm_w1 rfl ?_
      refine mm_wgiv _ (vM_S60 hM) (by decide) (by decide) h17 ?_
      refine mm_wv (vb_i 2) rfl (by decide) ?_
      refine mm_niceq (by omega) (by omega) ?_ ?_
      · intro h14
        exact absurd h14 e17
      · intro h14
        refine mm_w1 rfl ?_
        refine mm_wv (vb_i 1) rfl (by decide) ?_
        refine mm_cvn (vb_cv (vM_S60 hM) rfl rfl rfl rfl) (by decide) (by omega) (m_wrong0 hM h12 h18) ?_
        intro I1 hI1
        have h121 : I1 60 12 = vb_i 1 := by rw [hI1, vb_up2 _ _ (by decide), vb_up1]
        have h201 : I1 60 20 = I 60 20 := by rw [hI1, vb_up2 _ _ (by decide), vb_up2 _ _ (by decide)]
        refine mm_wgoto ?_
        refine mm_w1 rfl ?_
        refine mm_cvp (vb_cv (vM_S60 hM) rfl rfl rfl rfl) (by decide) (by omega) (m_good1 (f := 1) hM h121 (by decide) (by decide)) ?_
        refine mm_wr rfl rfl rfl ?_
        exact ⟨_, ⟨hI1, of_decide_eq_true rfl, of_decide_eq_true rfl⟩, rfl⟩
end PNW
