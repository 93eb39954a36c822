section NWALK
variable {G : mm_G} {d : Nat} {I : Nat → Nat → Int32} {P : Nat → Nat → Nat} {J : Nat → Nat → Int64} {S : List (Nat × Nat)} {nc ns : Nat} {μ : mm_M} {σ : vb_St}
/-! steps, made smaller pair by pair -/
def vw_lo (ℓ : vb_L) (g r : Int32) (s : Nat → Nat) : Prop := ∀ b, b < vb_n ℓ → s b ≤ 9999 ∧ (s b = 9999 ∨ vb_has (vw_R ℓ g r (s b)) b = true)
def vw_hi (ℓ : vb_L) (g r : Int32) (z : Nat) (s : Nat → Nat) : Prop := ∀ j, j ≤ z → ∀ b, b < vb_n ℓ → vb_has (vw_R ℓ g r j) b = true → s b ≤ j
def vw_pr (ℓ : vb_L) (g r : Int32) (z p q : Nat) (s : Nat → Nat) : Prop := ∀ a b, a < vb_n ℓ → b < vb_n ℓ → (a < p ∨ (a = p ∧ b < q)) → vb_has (vw_R ℓ g r z) a = true → vb_has (vb_nb ℓ a) b = true → vb_has g b = true → s b ≤ z + 1
def vw_u (s : Nat → Nat) (b v : Nat) : Nat → Nat := fun u => if u = b then v else s u
theorem vw_skip {ℓ : vb_L} {g r : Int32} {z p q : Nat} {s : Nat → Nat} (hh : vw_hi ℓ g r z s) (hp : vw_pr ℓ g r z p q s) (h : vb_has (vb_nb ℓ p) q = true → vb_has g q = true → s q ≤ s p + 1) : vw_pr ℓ g r z p (q + 1) s := by
  intro a b ha hb hab h1 h2 h3
  by_cases e : a = p ∧ b = q
  · obtain ⟨rfl, rfl⟩ := e
    have := hh z (Nat.le_refl _) a ha h1
    have := h h2 h3
    omega
  · exact hp a b ha hb (by omega) h1 h2 h3
theorem vw_take {ℓ : vb_L} {g r : Int32} {z p q : Nat} {s : Nat → Nat} (hn : vb_n ℓ ≤ 10) (hpn : p < vb_n ℓ) (hqn : q < vb_n ℓ) (hl : vw_lo ℓ g r s) (hh : vw_hi ℓ g r z s) (hp : vw_pr ℓ g r z p q s) (h2 : vb_has (vb_nb ℓ p) q = true) (h3 : vb_has g q = true) (h : s p + 1 < s q) : vw_lo ℓ g r (vw_u s q (s p + 1)) ∧ vw_hi ℓ g r z (vw_u s q (s p + 1)) ∧ vw_pr ℓ g r z p (q + 1) (vw_u s q (s p + 1)) := by
  have hd : ∀ u, vw_u s q (s p + 1) u ≤ s u := by
    intro u; simp only [vw_u]; split
    · rename_i e; rw [e]; omega
    · exact Nat.le_refl _
  have hq : vw_u s q (s p + 1) q = s p + 1 := if_pos rfl
  refine ⟨?_, ?_, ?_⟩
  · intro b hb
    by_cases e : b = q
    · rw [e, hq]
      have h5 := (hl q hqn).1
      refine ⟨by omega, Or.inr ?_⟩
      rcases (hl p hpn).2 with h4 | h4
      · omega
      · exact vw_nx hn hpn hqn h4 h2 h3
    · rw [show vw_u s q (s p + 1) b = s b from if_neg e]; exact hl b hb
  · intro j hj b hb hr
    exact Nat.le_trans (hd b) (hh j hj b hb hr)
  · intro a b ha hb hab g1 g2 g3
    by_cases e : a = p ∧ b = q
    · obtain ⟨rfl, rfl⟩ := e
      rw [hq]
      have := hh z (Nat.le_refl _) a ha g1
      omega
    · exact Nat.le_trans (hd b) (hp a b ha hb (by omega) g1 g2 g3)
theorem vw_row {ℓ : vb_L} {g r : Int32} {z p : Nat} {s : Nat → Nat} (hp : vw_pr ℓ g r z p (vb_n ℓ) s) : vw_pr ℓ g r z (p + 1) 0 s := fun a b ha hb hab => hp a b ha hb (by omega)
theorem vw_round {ℓ : vb_L} {g r : Int32} {z : Nat} {s : Nat → Nat} (hn : vb_n ℓ ≤ 10) (hh : vw_hi ℓ g r z s) (hp : vw_pr ℓ g r z (vb_n ℓ) 0 s) : vw_hi ℓ g r (z + 1) s := by
  intro j hj b hb h
  by_cases e : j = z + 1
  · rw [e] at h ⊢
    rcases vw_bk hn h with h1 | ⟨_, h2, a, h3, h4, h5⟩
    · have := hh z (Nat.le_refl _) b hb h1; omega
    · exact hp a b h3 hb (Or.inl h3) h4 h5 h2
  · exact hh j (by omega) b hb h
def vw_0 (a : Nat) : Nat → Nat := fun v => if v = a then 0 else 9999
theorem vw_lo0 {ℓ : vb_L} {g : Int32} {a : Nat} (ha : a < 32) : vw_lo ℓ g (vb_bit a) (vw_0 a) := by
  intro b hb
  simp only [vw_0]
  by_cases e : b = a
  · rw [if_pos e]; exact ⟨by omega, Or.inr (by rw [e]; show vb_has (vb_bit a) a = true; rw [vb_has_bit ha, decide_eq_true rfl])⟩
  · rw [if_neg e]; exact ⟨by omega, Or.inl rfl⟩
theorem vw_hi0 {ℓ : vb_L} {g : Int32} {a : Nat} (ha : a < 32) : vw_hi ℓ g (vb_bit a) 0 (vw_0 a) := by
  intro j hj b hb h
  rw [show j = 0 by omega] at h
  have h : vb_has (vb_bit a) b = true := h
  rw [vb_has_bit ha, decide_eq_true_eq] at h
  rw [vw_0, if_pos h]; exact Nat.zero_le _
theorem vw_fin {ℓ : vb_L} {g : Int32} {a b : Nat} {s : Nat → Nat} (hn : vb_n ℓ ≤ 10) (ha : a < vb_n ℓ) (hb : b < vb_n ℓ) (hl : vw_lo ℓ g (vb_bit a) s) (hh : vw_hi ℓ g (vb_bit a) (vb_n ℓ) s) : (s b = 9999 ∧ ∀ j, vb_has (vw_R ℓ g (vb_bit a) j) b = false) ∨ (s b ≤ 9 ∧ vb_has (vw_R ℓ g (vb_bit a) (s b)) b = true ∧ ∀ j, j < s b → vb_has (vw_R ℓ g (vb_bit a) j) b = false) := by
  have hbl : vb_below (vb_n ℓ) (vb_bit a) := fun v hv => by rw [vb_has_bit (by omega), decide_eq_true_eq] at hv; omega
  have hba : vb_has (vb_bit a) a = true := by rw [vb_has_bit (by omega), decide_eq_true rfl]
  have hall : ∀ j, vb_has (vw_R ℓ g (vb_bit a) j) b = true → s b ≤ 9 ∧ s b ≤ j := by
    intro j h
    have h1 := hh _ (Nat.sub_le _ 1) b hb (vw_end hn hbl ha hba h)
    refine ⟨by omega, ?_⟩
    by_cases e : j ≤ vb_n ℓ
    · exact hh j e b hb h
    · omega
  by_cases e : s b = 9999
  · refine Or.inl ⟨e, fun j => ?_⟩
    cases h : vb_has (vw_R ℓ g (vb_bit a) j) b with
    | false => rfl
    | true => have := hall j h; omega
  · have h1 := (hl b hb).2.resolve_left e
    refine Or.inr ⟨(hall _ h1).1, h1, fun j hj => ?_⟩
    cases h : vb_has (vw_R ℓ g (vb_bit a) j) b with
    | false => rfl
    | true => have := hall j h; omega
theorem vw_free {ℓ : vb_L} {x : vb_X} {q : Nat} (hn : vb_n ℓ ≤ 10) (hq : q < vb_n ℓ) : vb_has (q_free ℓ x) q = decide (vx_in (vx_s x) q = 2) := by
  rw [q_free, vb_has_set _ (by omega), decide_eq_true hq, Bool.true_and, vb_has_or, vx_in]
  cases vb_has (vx_s x 0) q <;> cases vb_has (vx_s x 1) q <;> rfl
theorem vm_qf.of80 {I I' : Nat → Nat → Int32} (h : vb_fr (fun a => a = 80) I I') : vm_qf I I' := ⟨fun a ha => h a (by omega), fun s _ _ _ => by rw [h 60 (by decide)], fun j _ => by rw [h 76 (by decide)]⟩
theorem m_walks (hM : vm_isM P S) (dN : vm_MD σ I) (hI : vs_inv σ) (hlb : vl_bel (vs_l σ)) (hd : 1 ≤ d) {a : Nat} (ha : a < vb_n (vs_l σ)) (thr : I 60 0 = vb_i 0) : mm_C G d 218 [.ref 60, .int (vb_i a)] (I, P, J, S, nc, ns) (vb_R none (fun I' => vm_qf I I' ∧ I' 60 0 = vb_i 0 ∧ ∃ s : Nat → Nat, (∀ v, v < 10 → I' 80 v = vb_i (s v)) ∧ vw_lo (vs_l σ) (q_free (vs_l σ) (vs_x σ)) (vb_bit a) s ∧ vw_hi (vs_l σ) (q_free (vs_l σ) (vs_x σ)) (vb_bit a) (vb_n (vs_l σ)) s) P J S nc ns) := by
  obtain ⟨hli, hIx, hIa, hIi⟩ := hI
  obtain ⟨hok, hwf, he9⟩ := hIx
  have hsj := hwf.sj
  have hfj := hwf.fj
  have hst := hwf.ws
  have dM := vmd_l dN
  have hR := vmd_x dN
  have hn := vm_10 dM
  have ht := vx_t2 (vs_x σ)
  have hs3 := vm_sc3 dM
  have hq := vm_qf.rf (I := I)
  have outer := vb_down (p := fun z => ∀ (I1 : Nat → Nat → Int32) (s : Nat → Nat) (y3 y4 : Value), y3.category = 1 → y4.category = 1 → vm_qf I I1 → I1 60 0 = vb_i 0 → (∀ v, v < 10 → I1 80 v = vb_i (s v)) → vw_lo (vs_l σ) (q_free (vs_l σ) (vs_x σ)) (vb_bit a) s → vw_hi (vs_l σ) (q_free (vs_l σ) (vs_x σ)) (vb_bit a) z s →  mm_W G d 218 (mm_blk 218 34) [.ref 60, .int (vb_i a), .int (vb_i z), y3, y4] [] (I1, P, J, S, nc, ns) (vb_R none (fun I' => vm_qf I I' ∧ I' 60 0 = vb_i 0 ∧ ∃ s : Nat → Nat, (∀ v, v < 10 → I' 80 v = vb_i (s v)) ∧ vw_lo (vs_l σ) (q_free (vs_l σ) (vs_x σ)) (vb_bit a) s ∧ vw_hi (vs_l σ) (q_free (vs_l σ) (vs_x σ)) (vb_bit a) (vb_n (vs_l σ)) s) P J S nc ns)) (vb_n (vs_l σ)) (by
    intro z hz ihZ I1 s y3 y4 hy3 hy4 hq1 thr1 hs hlo hhi
    have mid : z < vb_n (vs_l σ) → ∀ p, p ≤ vb_n (vs_l σ) → ∀ (I1 : Nat → Nat → Int32) (s : Nat → Nat) (y4 : Value), y4.category = 1 → vm_qf I I1 → I1 60 0 = vb_i 0 → (∀ v, v < 10 → I1 80 v = vb_i (s v)) → vw_lo (vs_l σ) (q_free (vs_l σ) (vs_x σ)) (vb_bit a) s → vw_hi (vs_l σ) (q_free (vs_l σ) (vs_x σ)) (vb_bit a) z s →  vw_pr (vs_l σ) (q_free (vs_l σ) (vs_x σ)) (vb_bit a) z p 0 s → mm_W G d 218 (mm_blk 218 44) [.ref 60, .int (vb_i a), .int (vb_i z), .int (vb_i p), y4] [] (I1, P, J, S, nc, ns) (vb_R none (fun I' => vm_qf I I' ∧ I' 60 0 = vb_i 0 ∧ ∃ s : Nat → Nat, (∀ v, v < 10 → I' 80 v = vb_i (s v)) ∧ vw_lo (vs_l σ) (q_free (vs_l σ) (vs_x σ)) (vb_bit a) s ∧ vw_hi (vs_l σ) (q_free (vs_l σ) (vs_x σ)) (vb_bit a) (vb_n (vs_l σ)) s) P J S nc ns) := by
      intro hz2
      refine vb_down (vb_n (vs_l σ)) ?_
      intro p hp ihP I1 s y4 hy4 hq1 thr1 hs hlo hhi hpr
      have inn : p < vb_n (vs_l σ) → ∀ q, q ≤ vb_n (vs_l σ) → ∀ (I1 : Nat → Nat → Int32) (s : Nat → Nat), vm_qf I I1 → I1 60 0 = vb_i 0 → (∀ v, v < 10 → I1 80 v = vb_i (s v)) → vw_lo (vs_l σ) (q_free (vs_l σ) (vs_x σ)) (vb_bit a) s → vw_hi (vs_l σ) (q_free (vs_l σ) (vs_x σ)) (vb_bit a) z s →  vw_pr (vs_l σ) (q_free (vs_l σ) (vs_x σ)) (vb_bit a) z p q s → mm_W G d 218 (mm_blk 218 55) [.ref 60, .int (vb_i a), .int (vb_i z), .int (vb_i p), .int (vb_i q)] [] (I1, P, J, S, nc, ns) (vb_R none (fun I' => vm_qf I I' ∧ I' 60 0 = vb_i 0 ∧ ∃ s : Nat → Nat, (∀ v, v < 10 → I' 80 v = vb_i (s v)) ∧ vw_lo (vs_l σ) (q_free (vs_l σ) (vs_x σ)) (vb_bit a) s ∧ vw_hi (vs_l σ) (q_free (vs_l σ) (vs_x σ)) (vb_bit a) (vb_n (vs_l σ)) s) P J S nc ns) := by
        intro hp2
        refine vb_down (vb_n (vs_l σ)) ?_
        intro q hqq ihQ I1 s hq1 thr1 hs hlo hhi hpr
        have hbp := (hlo p hp2).1
        have hin := vx_in2 (vx_s (vs_x σ)) q
        have dN1 := dN.qf hq1
        have dM1 := vmd_l dN1
        have hR1 := vmd_x dN1
        refine mm_w1 rfl ?_
        refine mm_w1 rfl ?_
        refine mm_wgiv _ (vM_S60 hM) (by decide) (by decide) (vm_n dM1) ?_
        refine mm_nicge (by omega) (by omega) ?_ ?_
        · intro h61
          refine mm_nincL (ls' := [_, _, _, _, _]) 1 rfl (by decide) rfl ?_
          refine mm_wgoto ?_
          exact ihP (by omega) _ s _ rfl hq1 thr1 hs hlo hhi (vw_row (by rw [show vb_n (vs_l σ) = q by omega]; exact hpr))
        · intro h61
          refine mm_w1 rfl ?_
          refine mm_wgr (vM_S60 hM) (by decide) (by decide) (vM_P60_9 hM) (vM_a65 hM) ?_
          refine mm_wv (vb_i 10) rfl (by decide) ?_
          refine mm_w1 rfl ?_
          refine mm_nmul ?_
          refine mm_w1 rfl ?_
          refine mm_nadd ?_
          refine mm_wzav _ (vM_S65 hM) (by decide) (by omega) (vm_rd dM1 (by omega) (by omega)) ?_
          refine mm_bifeq ?_ ?_
          · intro h76
            refine mm_nincL (ls' := [_, _, _, _, _]) 1 rfl (by decide) rfl ?_
            refine mm_wgoto ?_
            exact ihQ (by omega) _ s hq1 thr1 hs hlo hhi (vw_skip hhi hpr (fun g1 _ => by rw [h76] at g1; cases g1))
          · intro h76
            refine mm_w1 rfl ?_
            refine mm_wgr (vM_S60 hM) (by decide) (by decide) (vM_P60_38 hM) (vM_a76 hM) ?_
            refine mm_wv (vb_i 0) rfl (by decide) ?_
            refine mm_w1 rfl ?_
            refine mm_nadd ?_
            refine mm_wiav (vb_i (vx_in (vx_s (vs_x σ)) q)) (vM_a76 hM) (vM_S76 hM) (by decide) (by omega) (vm_rs hR1 (by omega)) ?_
            refine mm_wv (vb_i 2) rfl (by decide) ?_
            have hbq := (hlo q (by omega)).1
            refine mm_nicne (by omega) (by omega) ?_ ?_
            · intro h89
              refine mm_nincL (ls' := [_, _, _, _, _]) 1 rfl (by decide) rfl ?_
              refine mm_wgoto ?_
              exact ihQ (by omega) _ s hq1 thr1 hs hlo hhi (vw_skip hhi hpr (fun _ g2 => by rw [vw_free hn (by omega), decide_eq_true_eq] at g2; exact absurd g2 h89))
            · intro h89
              refine mm_w1 rfl ?_
              refine mm_wgr (vM_S60 hM) (by decide) (by decide) (vM_P60_44 hM) (vM_a80 hM) ?_
              refine mm_w1 rfl ?_
              refine mm_wiav (vb_i (s p)) (vM_a80 hM) (vM_S80 hM) (by decide) (by omega) (hs p (by omega)) ?_
              refine mm_wv (vb_i 1) rfl (by decide) ?_
              refine mm_nadd ?_
              refine mm_w1 rfl ?_
              refine mm_wgr (vM_S60 hM) (by decide) (by decide) (vM_P60_44 hM) (vM_a80 hM) ?_
              refine mm_w1 rfl ?_
              refine mm_wiav (vb_i (s q)) (vM_a80 hM) (vM_S80 hM) (by decide) (by omega) (hs q (by omega)) ?_
              refine mm_nicge (by omega) (by omega) ?_ ?_
              · intro h107
                refine mm_nincL (ls' := [_, _, _, _, _]) 1 rfl (by decide) rfl ?_
                refine mm_wgoto ?_
                exact ihQ (by omega) _ s hq1 thr1 hs hlo hhi (vw_skip hhi hpr (fun _ _ => by omega))
              · intro h107
                refine mm_w1 rfl ?_
                refine mm_wgr (vM_S60 hM) (by decide) (by decide) (vM_P60_44 hM) (vM_a80 hM) ?_
                refine mm_w1 rfl ?_
                refine mm_w1 rfl ?_
                refine mm_wgr (vM_S60 hM) (by decide) (by decide) (vM_P60_44 hM) (vM_a80 hM) ?_
                refine mm_w1 rfl ?_
                refine mm_wiav (vb_i (s p)) (vM_a80 hM) (vM_S80 hM) (by decide) (by omega) (hs p (by omega)) ?_
                refine mm_wv (vb_i 1) rfl (by decide) ?_
                refine mm_nadd ?_
                refine mm_wisN (vM_S80 hM) (by decide) (by omega) ?_
                intro I2 hI2
                have hq2 : vm_qf I I2 := hq1.tr (vm_qf.of80 (by rw [hI2]; exact vb_fr.rf.up1))
                have dN2 := dN.qf hq2
                have dM2 := vmd_l dN2
                have hR2 := vmd_x dN2
                have thr2 : I2 60 0 = vb_i 0 := by rw [hI2, vb_up3 _ _ (by decide)]; exact thr1
                refine mm_nincL (ls' := [_, _, _, _, _]) 1 rfl (by decide) rfl ?_
                refine mm_wgoto ?_
                obtain ⟨k1, k2, k3⟩ := vw_take hn hp2 (by omega) hlo hhi hpr h76 (by rw [vw_free hn (by omega), decide_eq_true h89]) (by omega)
                refine ihQ (by omega) _ _ hq2 thr2 (fun v hv => ?_) k1 k2 k3
                rw [hI2]
                by_cases e : v = q
                · rw [e, vb_up1, vw_u, if_pos rfl]
                · rw [vb_up2 _ _ (by omega), hs v hv, vw_u, if_neg e]  
      have dN1 := dN.qf hq1
      have dM1 := vmd_l dN1
      have hR1 := vmd_x dN1
      refine mm_w1 rfl ?_
      refine mm_w1 rfl ?_
      refine mm_wgiv _ (vM_S60 hM) (by decide) (by decide) (vm_n dM1) ?_
      refine mm_nicge (by omega) (by omega) ?_ ?_
      · intro h49
        refine mm_nincL (ls' := [_, _, _, _, _]) 1 rfl (by decide) rfl ?_
        refine mm_wgoto ?_
        exact ihZ (by omega) _ s _ _ rfl hy4 hq1 thr1 hs hlo (vw_round hn hhi (by rw [show vb_n (vs_l σ) = p by omega]; exact hpr))
      · intro h49
        refine mm_wv (vb_i 0) rfl (by decide) ?_
        refine mm_w1 (ls' := [_, _, _, _, _]) rfl ?_
        exact inn (by omega) 0 (by omega) _ s hq1 thr1 hs hlo hhi hpr
    have dN1 := dN.qf hq1
    have dM1 := vmd_l dN1
    have hR1 := vmd_x dN1
    refine mm_w1 rfl ?_
    refine mm_w1 rfl ?_
    refine mm_wgiv _ (vM_S60 hM) (by decide) (by decide) (vm_n dM1) ?_
    refine mm_nicge (by omega) (by omega) ?_ ?_
    · intro h39
      refine mm_wr rfl rfl rfl ?_
      exact ⟨_, ⟨hq1, thr1, s, hs, hlo, by rw [show vb_n (vs_l σ) = z by omega]; exact hhi⟩, rfl⟩
    · intro h39
      refine mm_wv (vb_i 0) rfl (by decide) ?_
      refine mm_w1 (ls' := [_, _, _, _, _]) rfl ?_
      exact mid (by omega) 0 (by omega) _ s _ hy4 hq1 thr1 hs hlo hhi (fun a b _ _ h => by omega)
    )
  have first := vb_down (p := fun i => ∀ (I1 : Nat → Nat → Int32), vm_qf I I1 → I1 60 0 = vb_i 0 → (∀ v, v < i → I1 80 v = vb_i (vw_0 a v)) → mm_W G d 218 (mm_blk 218 2) [.ref 60, .int (vb_i a), .int (vb_i i), .null, .null] [] (I1, P, J, S, nc, ns) (vb_R none (fun I' => vm_qf I I' ∧ I' 60 0 = vb_i 0 ∧ ∃ s : Nat → Nat, (∀ v, v < 10 → I' 80 v = vb_i (s v)) ∧ vw_lo (vs_l σ) (q_free (vs_l σ) (vs_x σ)) (vb_bit a) s ∧ vw_hi (vs_l σ) (q_free (vs_l σ) (vs_x σ)) (vb_bit a) (vb_n (vs_l σ)) s) P J S nc ns)) 10 (by
    intro i hi ih I1 hq1 thr1 hs
    have dN1 := dN.qf hq1
    have dM1 := vmd_l dN1
    have hR1 := vmd_x dN1
    refine mm_w1 rfl ?_
    refine mm_wv (vb_i 10) rfl (by decide) ?_
    refine mm_nicge (by omega) (by omega) ?_ ?_
    · intro h5
      refine mm_wv (vb_i 0) rfl (by decide) ?_
      refine mm_w1 (ls' := [_, _, _, _, _]) rfl ?_
      exact outer 0 (by omega) _ _ _ _ rfl rfl hq1 thr1 (fun v hv => hs v (by omega)) (vw_lo0 (by omega)) (vw_hi0 (by omega))
    · intro h5
      refine mm_w1 rfl ?_
      refine mm_wgr (vM_S60 hM) (by decide) (by decide) (vM_P60_44 hM) (vM_a80 hM) ?_
      refine mm_w1 rfl ?_
      refine mm_w1 rfl ?_
      refine mm_w1 rfl ?_
      refine mm_nicne (by omega) (by omega) ?_ ?_
      · intro h15
        refine mm_wv (vb_i 9999) rfl (by decide) ?_
        refine mm_wisN (vM_S80 hM) (by decide) (by omega) ?_
        intro I2 hI2
        have hq2 : vm_qf I I2 := hq1.tr (vm_qf.of80 (by rw [hI2]; exact vb_fr.rf.up1))
        have dN2 := dN.qf hq2
        have dM2 := vmd_l dN2
        have hR2 := vmd_x dN2
        have thr2 : I2 60 0 = vb_i 0 := by rw [hI2, vb_up3 _ _ (by decide)]; exact thr1
        refine mm_nincL (ls' := [_, _, _, _, _]) 1 rfl (by decide) rfl ?_
        refine mm_wgoto ?_
        refine ih (by omega) _ hq2 thr2 (fun v hv => ?_)
        rw [hI2]
        by_cases e : v = i
        · rw [e, vb_up1, vw_0]
          first
            | rw [if_pos h15]
            | rw [if_neg h15]
        · rw [vb_up2 _ _ (by omega)]; exact hs v (by omega)
      · intro h15
        refine mm_wv (vb_i 0) rfl (by decide) ?_
        refine mm_wgoto ?_
        refine mm_wisN (vM_S80 hM) (by decide) (by omega) ?_
        intro I2 hI2
        have hq2 : vm_qf I I2 := hq1.tr (vm_qf.of80 (by rw [hI2]; exact vb_fr.rf.up1))
        have dN2 := dN.qf hq2
        have dM2 := vmd_l dN2
        have hR2 := vmd_x dN2
        have thr2 : I2 60 0 = vb_i 0 := by rw [hI2, vb_up3 _ _ (by decide)]; exact thr1
        refine mm_nincL (ls' := [_, _, _, _, _]) 1 rfl (by decide) rfl ?_
        refine mm_wgoto ?_
        refine ih (by omega) _ hq2 thr2 (fun v hv => ?_)
        rw [hI2]
        by_cases e : v = i
        · rw [e, vb_up1, vw_0]
          first
            | rw [if_pos h15]
            | rw [if_neg h15]
        · rw [vb_up2 _ _ (by omega)]; exact hs v (by omega)
    )
  show mm_W _ _ 218 (mm_blk 218 0) [.ref 60, .int (vb_i a), .null, .null, .null] [] _ _
  refine mm_wv (vb_i 0) rfl (by decide) ?_
  refine mm_w1 (ls' := [_, _, _, _, _]) rfl ?_
  exact first 0 (by omega) _ hq thr (fun v h => absurd h (by omega))
end NWALK
