section REF2
variable {G : mm_G} {d : Nat} {I : Nat → Nat → Int32} {P : Nat → Nat → Nat} {J : Nat → Nat → Int64} {S : List (Nat × Nat)} {nc ns : Nat} {μ : mm_M} {ℓ : vb_L} {x : vb_X} {b t : Nat}
theorem vm_ok.ge {co : Nat → Int32} {c : List (Nat × Int32)} {k h : Nat} (hk : vm_ok co c k h) : k < 2800 := by
  cases c with
  | nil => exact hk.2.1
  | cons p c => have := hk.1; omega
theorem vb_get2 {stk : List Int32} (h : 2 ≤ stk.length) : ∃ rr ll s2, stk = rr :: ll :: s2 := vb_two h
theorem m_reck {a : Nat} {f : (Nat → Int32) → Int32} (hM : vm_isM P S) (hA : vm_RD (I 64) a f) (hd : 1 ≤ d) : mm_C G d 177 [.ref 60, .int (vb_i a)] (I, P, J, S, nc, ns) (vb_R (some (.int (f (I 78)))) (fun I' => vb_fr (fun a => a = 79) I I') P J S nc ns) := by
  obtain ⟨c0, hok0, hv⟩ := hA
  obtain ⟨v, hv2⟩ : ∃ v, v = f (I 78) := ⟨_, rfl⟩
  rw [← hv2]
  have hv3 : c0.foldl (vm_st (I 78)) [] = [v] := by rw [hv2]; exact hv _
  have loop : ∀ (c : List (Nat × Int32)) (k : Nat) (I1 : Nat → Nat → Int32) (stk : List Int32) (y4 : Value), vm_ok (I 64) c k stk.length → vb_fr (fun a => a = 79) I I1 → vb_stk I1 79 stk → c.foldl (vm_st (I 78)) stk = [v] → stk.length ≤ 950 → mm_W G d 177 (mm_blk 177 4) [.ref 60, .int (vb_i a), .int (vb_i stk.length), .int (vb_i k), y4] [] (I1, P, J, S, nc, ns) (vb_R (some (.int v)) (fun I' => vb_fr (fun a => a = 79) I I') P J S nc ns) := by
    intro c
    induction c with
    | nil =>
      intro k I1 stk y4 hok hf1 hst hfd h950
      obtain ⟨o1, o2, o3⟩ := hok
      have hstk : stk = [v] := hfd
      subst hstk
      have p0 := hst.pop.2
      refine mm_w1 rfl ?_
      refine mm_wgr (vM_S60 hM) (by decide) (by decide) (vM_P60_8 hM) (vM_a64 hM) ?_
      refine mm_w1 rfl ?_
      refine mm_wiav (vb_i 0) (vM_a64 hM) (vM_S64 hM) (by decide) (by omega) (by rw [hf1 64 (by decide)]; exact o1) ?_
      refine mm_nifeq (by omega) ?_ ?_
      · intro h10
        refine mm_w1 rfl ?_
        refine mm_wgr (vM_S60 hM) (by decide) (by decide) (vM_P60_42 hM) (vM_a79 hM) ?_
        refine mm_wv (vb_i 0) rfl (by decide) ?_
        refine mm_wiav v (vM_a79 hM) (vM_S79 hM) (by decide) (by omega) p0 ?_
        refine mm_wr rfl rfl rfl ?_
        exact ⟨_, hf1, rfl⟩
      · intro h10
        exact absurd rfl h10
    | cons p c ih =>
      intro k I1 stk y4 hok hf1 hst hfd h950
      obtain ⟨q, ar⟩ := p
      obtain ⟨o1, o2, o3⟩ := hok
      have hc : I1 64 = I 64 := hf1 64 (by decide)
      have ht78 : I1 78 = I 78 := hf1 78 (by decide)
      rw [List.foldl_cons] at hfd
      rcases o3 with ⟨rfl, e1, e2, e3⟩ | ⟨rfl, ⟨jj, hj8, rfl⟩, e1, e2, e3⟩ | ⟨rfl, e2, e3⟩ | ⟨q4, q11, e2, e3⟩
      · have hk := e3.ge
        refine mm_w1 rfl ?_
        refine mm_wgr (vM_S60 hM) (by decide) (by decide) (vM_P60_8 hM) (vM_a64 hM) ?_
        refine mm_w1 rfl ?_
        refine mm_wiav (vb_i 1) (vM_a64 hM) (vM_S64 hM) (by decide) (by omega) (by rw [hc]; exact o2) ?_
        refine mm_nifeq (by omega) ?_ ?_
        · intro h10
          exact absurd h10 (by decide)
        · intro h10
          refine mm_w1 rfl ?_
          refine mm_wgr (vM_S60 hM) (by decide) (by decide) (vM_P60_8 hM) (vM_a64 hM) ?_
          refine mm_w1 rfl ?_
          refine mm_wiav (vb_i 1) (vM_a64 hM) (vM_S64 hM) (by decide) (by omega) (by rw [hc]; exact o2) ?_
          refine mm_w1 (ls' := [_, _, _, _, _]) rfl ?_
          refine mm_nincL (ls' := [_, _, _, _, _]) 1 rfl (by decide) rfl ?_
          refine mm_w1 rfl ?_
          refine mm_wv (vb_i 1) rfl (by decide) ?_
          refine mm_niceq (by omega) (by omega) ?_ ?_
          · intro h27
            refine mm_w1 rfl ?_
            refine mm_wgr (vM_S60 hM) (by decide) (by decide) (vM_P60_42 hM) (vM_a79 hM) ?_
            refine mm_w1 rfl ?_
            refine mm_w1 rfl ?_
            refine mm_wv (vb_i 1) rfl (by decide) ?_
            refine mm_nicne (by omega) (by omega) ?_ ?_
            · intro h44
              exact absurd rfl h44
            · intro h44
              refine mm_w1 rfl ?_
              refine mm_wgr (vM_S60 hM) (by decide) (by decide) (vM_P60_8 hM) (vM_a64 hM) ?_
              refine mm_w1 rfl ?_
              refine mm_wiav ar (vM_a64 hM) (vM_S64 hM) (by decide) (by omega) (by rw [hc]; exact e1) ?_
              refine mm_wgoto ?_
              refine mm_wis (vM_S79 hM) (by decide) (by omega) ?_
              refine mm_nincL (ls' := [_, _, _, _, _]) 1 rfl (by decide) rfl ?_
              refine mm_nincL (ls' := [_, _, _, _, _]) 1 rfl (by decide) rfl ?_
              refine mm_wgoto ?_
              refine mm_wgoto ?_
              have := ih (k + 1 + 1) (mm_up I1 79 stk.length ar) (ar :: stk) (.int (vb_i 1)) e3 hf1.up1 (hst.push ar) hfd (by simp only [List.length_cons]; omega)
              exact this
          · intro h27
            exact absurd rfl h27
      · have hk := e3.ge
        refine mm_w1 rfl ?_
        refine mm_wgr (vM_S60 hM) (by decide) (by decide) (vM_P60_8 hM) (vM_a64 hM) ?_
        refine mm_w1 rfl ?_
        refine mm_wiav (vb_i 2) (vM_a64 hM) (vM_S64 hM) (by decide) (by omega) (by rw [hc]; exact o2) ?_
        refine mm_nifeq (by omega) ?_ ?_
        · intro h10
          exact absurd h10 (by decide)
        · intro h10
          refine mm_w1 rfl ?_
          refine mm_wgr (vM_S60 hM) (by decide) (by decide) (vM_P60_8 hM) (vM_a64 hM) ?_
          refine mm_w1 rfl ?_
          refine mm_wiav (vb_i 2) (vM_a64 hM) (vM_S64 hM) (by decide) (by omega) (by rw [hc]; exact o2) ?_
          refine mm_w1 (ls' := [_, _, _, _, _]) rfl ?_
          refine mm_nincL (ls' := [_, _, _, _, _]) 1 rfl (by decide) rfl ?_
          refine mm_w1 rfl ?_
          refine mm_wv (vb_i 1) rfl (by decide) ?_
          refine mm_niceq (by omega) (by omega) ?_ ?_
          · intro h27
            exact absurd h27 (by decide)
          · intro h27
            refine mm_w1 rfl ?_
            refine mm_wv (vb_i 2) rfl (by decide) ?_
            refine mm_nicne (by omega) (by omega) ?_ ?_
            · intro h33
              exact absurd rfl h33
            · intro h33
              refine mm_w1 rfl ?_
              refine mm_wgr (vM_S60 hM) (by decide) (by decide) (vM_P60_42 hM) (vM_a79 hM) ?_
              refine mm_w1 rfl ?_
              refine mm_w1 rfl ?_
              refine mm_wv (vb_i 1) rfl (by decide) ?_
              refine mm_nicne (by omega) (by omega) ?_ ?_
              · intro h44
                refine mm_w1 rfl ?_
                refine mm_wgr (vM_S60 hM) (by decide) (by decide) (vM_P60_41 hM) (vM_a78 hM) ?_
                refine mm_w1 rfl ?_
                refine mm_wgr (vM_S60 hM) (by decide) (by decide) (vM_P60_8 hM) (vM_a64 hM) ?_
                refine mm_w1 rfl ?_
                refine mm_wiav (vb_i jj) (vM_a64 hM) (vM_S64 hM) (by decide) (by omega) (by rw [hc]; exact e1) ?_
                refine mm_wiav (I 78 jj) (vM_a78 hM) (vM_S78 hM) (by decide) (by omega) (by rw [ht78]) ?_
                refine mm_wis (vM_S79 hM) (by decide) (by omega) ?_
                refine mm_nincL (ls' := [_, _, _, _, _]) 1 rfl (by decide) rfl ?_
                refine mm_nincL (ls' := [_, _, _, _, _]) 1 rfl (by decide) rfl ?_
                refine mm_wgoto ?_
                refine mm_wgoto ?_
                have hfd2 : c.foldl (vm_st (I 78)) (I 78 jj :: stk) = [v] := by
                  have : vm_st (I 78) stk (2, vb_i jj) = I 78 jj :: stk := by
                    simp only [vm_st]; rw [if_neg (by decide), if_pos (by decide), vb_nat (by omega)]
                  rw [← this]; exact hfd
                exact ih (k + 1 + 1) (mm_up I1 79 stk.length (I 78 jj)) (I 78 jj :: stk) (.int (vb_i 2)) e3 hf1.up1 (hst.push _) hfd2 (by simp only [List.length_cons]; omega)
              · intro h44
                exact absurd h44 (by decide)
      · have hk := e3.ge
        cases stk with
        | nil => exact absurd e2 (by decide)
        | cons z s =>
          have p1 := hst.pop
          simp only [List.length_cons] at h950 e3 ⊢
          refine mm_w1 rfl ?_
          refine mm_wgr (vM_S60 hM) (by decide) (by decide) (vM_P60_8 hM) (vM_a64 hM) ?_
          refine mm_w1 rfl ?_
          refine mm_wiav (vb_i 3) (vM_a64 hM) (vM_S64 hM) (by decide) (by omega) (by rw [hc]; exact o2) ?_
          refine mm_nifeq (by omega) ?_ ?_
          · intro h10
            exact absurd h10 (by decide)
          · intro h10
            refine mm_w1 rfl ?_
            refine mm_wgr (vM_S60 hM) (by decide) (by decide) (vM_P60_8 hM) (vM_a64 hM) ?_
            refine mm_w1 rfl ?_
            refine mm_wiav (vb_i 3) (vM_a64 hM) (vM_S64 hM) (by decide) (by omega) (by rw [hc]; exact o2) ?_
            refine mm_w1 (ls' := [_, _, _, _, _]) rfl ?_
            refine mm_nincL (ls' := [_, _, _, _, _]) 1 rfl (by decide) rfl ?_
            refine mm_w1 rfl ?_
            refine mm_wv (vb_i 1) rfl (by decide) ?_
            refine mm_niceq (by omega) (by omega) ?_ ?_
            · intro h27
              exact absurd h27 (by decide)
            · intro h27
              refine mm_w1 rfl ?_
              refine mm_wv (vb_i 2) rfl (by decide) ?_
              refine mm_nicne (by omega) (by omega) ?_ ?_
              · intro h33
                refine mm_w1 rfl ?_
                refine mm_wv (vb_i 3) rfl (by decide) ?_
                refine mm_nicne (by omega) (by omega) ?_ ?_
                · intro h80
                  exact absurd rfl h80
                · intro h80
                  refine mm_w1 rfl ?_
                  refine mm_wgr (vM_S60 hM) (by decide) (by decide) (vM_P60_42 hM) (vM_a79 hM) ?_
                  refine mm_w1 rfl ?_
                  refine mm_wv (vb_i 1) rfl (by decide) ?_
                  refine mm_nsub (by omega) ?_
                  refine mm_w1 rfl ?_
                  refine mm_wgr (vM_S60 hM) (by decide) (by decide) (vM_P60_42 hM) (vM_a79 hM) ?_
                  refine mm_w1 rfl ?_
                  refine mm_wv (vb_i 1) rfl (by decide) ?_
                  refine mm_nsub (by omega) ?_
                  refine mm_wiav z (vM_a79 hM) (vM_S79 hM) (by decide) (by omega) (by rw [Nat.add_sub_cancel]; exact p1.2) ?_
                  refine mm_wifne ?_ ?_
                  · intro h98
                    refine mm_wv (vb_i 0) rfl (by decide) ?_
                    refine mm_wis (vM_S79 hM) (by decide) (by omega) ?_
                    refine mm_wgoto ?_
                    refine mm_wgoto ?_
                    have hfd2 : c.foldl (vm_st (I 78)) (vb_i 0 :: s) = [v] := by
                      have : vm_st (I 78) (z :: s) (3, ar) = vb_i 0 :: s := by
                        show vb_b (z == 0) :: s = _
                        rw [vb_neb h98]; rfl
                      rw [← this]; exact hfd
                    rw [Nat.add_sub_cancel]
                    exact ih (k + 1) (mm_up I1 79 s.length (vb_i 0)) (vb_i 0 :: s) (.int (vb_i 3)) e3 hf1.up1 (p1.1.push _) hfd2 (by simp only [List.length_cons]; omega)
                  · intro h98
                    refine mm_wv (vb_i 1) rfl (by decide) ?_
                    refine mm_wgoto ?_
                    refine mm_wis (vM_S79 hM) (by decide) (by omega) ?_
                    refine mm_wgoto ?_
                    refine mm_wgoto ?_
                    have hfd2 : c.foldl (vm_st (I 78)) (vb_i 1 :: s) = [v] := by
                      have : vm_st (I 78) (z :: s) (3, ar) = vb_i 1 :: s := by
                        show vb_b (z == 0) :: s = _
                        rw [vb_eqb h98]; rfl
                      rw [← this]; exact hfd
                    rw [Nat.add_sub_cancel]
                    exact ih (k + 1) (mm_up I1 79 s.length (vb_i 1)) (vb_i 1 :: s) (.int (vb_i 3)) e3 hf1.up1 (p1.1.push _) hfd2 (by simp only [List.length_cons]; omega) 
              · intro h33
                exact absurd h33 (by decide)
      · have hk := e3.ge
        obtain ⟨rr, ll, s2, rfl⟩ := vb_two e2
        have p1 := hst.pop
        have p2 := p1.1.pop
        simp only [List.length_cons] at h950 e3 p1 ⊢
        refine mm_w1 rfl ?_
        refine mm_wgr (vM_S60 hM) (by decide) (by decide) (vM_P60_8 hM) (vM_a64 hM) ?_
        refine mm_w1 rfl ?_
        refine mm_wiav (vb_i q) (vM_a64 hM) (vM_S64 hM) (by decide) (by omega) (by rw [hc]; exact o2) ?_
        refine mm_nifeq (by omega) ?_ ?_
        · intro h10
          exact absurd h10 (by omega)
        · intro h10
          refine mm_w1 rfl ?_
          refine mm_wgr (vM_S60 hM) (by decide) (by decide) (vM_P60_8 hM) (vM_a64 hM) ?_
          refine mm_w1 rfl ?_
          refine mm_wiav (vb_i q) (vM_a64 hM) (vM_S64 hM) (by decide) (by omega) (by rw [hc]; exact o2) ?_
          refine mm_w1 (ls' := [_, _, _, _, _]) rfl ?_
          refine mm_nincL (ls' := [_, _, _, _, _]) 1 rfl (by decide) rfl ?_
          refine mm_w1 rfl ?_
          refine mm_wv (vb_i 1) rfl (by decide) ?_
          refine mm_niceq (by omega) (by omega) ?_ ?_
          · intro h27
            exact absurd h27 (by omega)
          · intro h27
            refine mm_w1 rfl ?_
            refine mm_wv (vb_i 2) rfl (by decide) ?_
            refine mm_nicne (by omega) (by omega) ?_ ?_
            · intro h33
              refine mm_w1 rfl ?_
              refine mm_wv (vb_i 3) rfl (by decide) ?_
              refine mm_nicne (by omega) (by omega) ?_ ?_
              · intro h80
                refine mm_ndecL (ls' := [_, _, _, _, _]) 1 rfl (by decide) (by omega) rfl ?_
                refine mm_w1 rfl ?_
                refine mm_wgr (vM_S60 hM) (by decide) (by decide) (vM_P60_42 hM) (vM_a79 hM) ?_
                refine mm_w1 rfl ?_
                refine mm_wv (vb_i 1) rfl (by decide) ?_
                refine mm_nsub (by omega) ?_
                refine mm_w1 rfl ?_
                refine mm_w1 rfl ?_
                refine mm_wgr (vM_S60 hM) (by decide) (by decide) (vM_P60_42 hM) (vM_a79 hM) ?_
                refine mm_w1 rfl ?_
                refine mm_wv (vb_i 1) rfl (by decide) ?_
                refine mm_nsub (by omega) ?_
                refine mm_wiav ll (vM_a79 hM) (vM_S79 hM) (by decide) (by omega) (by rw [show s2.length + 1 + 1 - 1 - 1 = s2.length by omega]; exact p2.2) ?_
                refine mm_w1 rfl ?_
                refine mm_wgr (vM_S60 hM) (by decide) (by decide) (vM_P60_42 hM) (vM_a79 hM) ?_
                refine mm_w1 rfl ?_
                refine mm_wiav rr (vM_a79 hM) (vM_S79 hM) (by decide) (by omega) (by rw [show s2.length + 1 + 1 - 1 = s2.length + 1 by omega]; exact p1.2) ?_
                refine mm_csp rfl (by decide) (by omega) (m_works (by omega) (by omega)) ?_
                refine mm_wis (vM_S79 hM) (by decide) (by omega) ?_
                refine mm_wgoto ?_
                have hfd2 : c.foldl (vm_st (I 78)) (vm_wk q ll rr :: s2) = [v] := by
                  have : vm_st (I 78) (rr :: ll :: s2) (q, ar) = vm_wk q ll rr :: s2 := by
                    simp only [vm_st]; rw [if_neg (by omega), if_neg (by omega), if_neg (by omega)]
                  rw [← this]; exact hfd
                rw [show s2.length + 1 + 1 - 1 = s2.length + 1 by omega, Nat.add_sub_cancel]
                exact ih (k + 1) (mm_up I1 79 s2.length (vm_wk q ll rr)) (vm_wk q ll rr :: s2) (.int (vb_i q)) e3 hf1.up1 (p2.1.push _) hfd2 (by simp only [List.length_cons]; omega)
              · intro h80
                exact absurd h80 (by omega)
            · intro h33
              exact absurd h33 (by omega)
  have hk0 := hok0.ge
  show mm_W _ _ 177 (mm_blk 177 0) [.ref 60, .int (vb_i a), .null, .null, .null] [] _ _
  refine mm_wv (vb_i 0) rfl (by decide) ?_
  refine mm_w1 (ls' := [_, _, _, _, _]) rfl ?_
  refine mm_w1 rfl ?_
  refine mm_w1 (ls' := [_, _, _, _, _]) rfl ?_
  exact loop c0 a I [] _ hok0 vb_fr.rf (fun j x h => by simp at h) hv3 (by decide)
theorem m_near {sd to but : Nat} (hM : vm_isM P S) (dM : vm_LD ℓ I) (hR : vm_row ℓ (I 76) b x t) (hb : b + 46 ≤ 276) (hs : sd < 4) (hto : to < vb_n ℓ) (hbu : but < 10) : mm_Call G d 178 [.ref 60, .int (vb_i b), .int (vb_i sd), .int (vb_i to), .int (vb_i but)] (I, P, J, S, nc, ns) (.inl (some (.int (vb_i (vb_cnt (vb_n ℓ) (fun v => decide (v ≠ but) && vb_has (vb_nb ℓ v) to && decide (vx_in (vx_s x) v = sd)))))), (I, P, J, S, nc, ns)) := by
  have hn := vm_10 dM
  refine mm_C.call ?_
  have loop := vb_down (p := fun i => mm_W G d 178 (mm_blk 178 6) [.ref 60, .int (vb_i b), .int (vb_i sd), .int (vb_i to), .int (vb_i but), .int (vb_i (vb_cnt i (fun v => decide (v ≠ but) && vb_has (vb_nb ℓ v) to && decide (vx_in (vx_s x) v = sd)))), .int (vb_i i)] [] (I, P, J, S, nc, ns) (fun q => q = (.inl (some (.int (vb_i (vb_cnt (vb_n ℓ) (fun v => decide (v ≠ but) && vb_has (vb_nb ℓ v) to && decide (vx_in (vx_s x) v = sd)))))), (I, P, J, S, nc, ns)))) (vb_n ℓ) (by
    intro i hi ih
    have hc := vb_cnt_le i (fun v => decide (v ≠ but) && vb_has (vb_nb ℓ v) to && decide (vx_in (vx_s x) v = sd))
    have hin := vx_in2 (vx_s x) i
    refine mm_w1 rfl ?_
    refine mm_w1 rfl ?_
    refine mm_wgiv _ (vM_S60 hM) (by decide) (by decide) (vm_n dM) ?_
    refine mm_nicge (by omega) (by omega) ?_ ?_
    · intro h12
      refine mm_w1 rfl ?_
      refine mm_wr rfl rfl rfl ?_
      rw [show i = vb_n ℓ by omega]
    · intro h12
      refine mm_w1 rfl ?_
      refine mm_w1 rfl ?_
      refine mm_w1 rfl ?_
      refine mm_niceq (by omega) (by omega) ?_ ?_
      · intro h21
        refine mm_wv (vb_i 0) rfl (by decide) ?_
        refine mm_nadd ?_
        refine mm_w1 (ls' := [_, _, _, _, _, _, _]) rfl ?_
        refine mm_nincL (ls' := [_, _, _, _, _, _, _]) 1 rfl (by decide) rfl ?_
        refine mm_wgoto ?_
        have ih := ih (by omega)
        simp only [vb_cnt] at ih
        first
          | (rw [decide_eq_false (not_not_intro h21)] at ih; exact ih)
          | (rw [h36, Bool.and_false, Bool.false_and] at ih; exact ih)
          | (rw [decide_eq_false h51, Bool.and_false] at ih; exact ih)
          | (rw [decide_eq_true h21, h36, decide_eq_true h51] at ih; exact ih)
      · intro h21
        refine mm_w1 rfl ?_
        refine mm_wgr (vM_S60 hM) (by decide) (by decide) (vM_P60_9 hM) (vM_a65 hM) ?_
        refine mm_wv (vb_i 10) rfl (by decide) ?_
        refine mm_w1 rfl ?_
        refine mm_nmul ?_
        refine mm_w1 rfl ?_
        refine mm_nadd ?_
        refine mm_wzav _ (vM_S65 hM) (by decide) (by omega) (vm_rd dM (by omega) (by omega)) ?_
        refine mm_bifeq ?_ ?_
        · intro h36
          refine mm_wv (vb_i 0) rfl (by decide) ?_
          refine mm_nadd ?_
          refine mm_w1 (ls' := [_, _, _, _, _, _, _]) rfl ?_
          refine mm_nincL (ls' := [_, _, _, _, _, _, _]) 1 rfl (by decide) rfl ?_
          refine mm_wgoto ?_
          have ih := ih (by omega)
          simp only [vb_cnt] at ih
          first
            | (rw [decide_eq_false (not_not_intro h21)] at ih; exact ih)
            | (rw [h36, Bool.and_false, Bool.false_and] at ih; exact ih)
            | (rw [decide_eq_false h51, Bool.and_false] at ih; exact ih)
            | (rw [decide_eq_true h21, h36, decide_eq_true h51] at ih; exact ih)
        · intro h36
          refine mm_w1 rfl ?_
          refine mm_wgr (vM_S60 hM) (by decide) (by decide) (vM_P60_38 hM) (vM_a76 hM) ?_
          refine mm_w1 rfl ?_
          refine mm_wv (vb_i 0) rfl (by decide) ?_
          refine mm_nadd ?_
          refine mm_w1 rfl ?_
          refine mm_nadd ?_
          refine mm_wiav _ (vM_a76 hM) (vM_S76 hM) (by decide) (by omega) (vm_rs hR (by omega)) ?_
          refine mm_w1 rfl ?_
          refine mm_nicne (by omega) (by omega) ?_ ?_
          · intro h51
            refine mm_wv (vb_i 0) rfl (by decide) ?_
            refine mm_nadd ?_
            refine mm_w1 (ls' := [_, _, _, _, _, _, _]) rfl ?_
            refine mm_nincL (ls' := [_, _, _, _, _, _, _]) 1 rfl (by decide) rfl ?_
            refine mm_wgoto ?_
            have ih := ih (by omega)
            simp only [vb_cnt] at ih
            first
              | (rw [decide_eq_false (not_not_intro h21)] at ih; exact ih)
              | (rw [h36, Bool.and_false, Bool.false_and] at ih; exact ih)
              | (rw [decide_eq_false h51, Bool.and_false] at ih; exact ih)
              | (rw [decide_eq_true h21, h36, decide_eq_true h51] at ih; exact ih)
          · intro h51
            refine mm_wv (vb_i 1) rfl (by decide) ?_
            refine mm_wgoto ?_
            refine mm_nadd ?_
            refine mm_w1 (ls' := [_, _, _, _, _, _, _]) rfl ?_
            refine mm_nincL (ls' := [_, _, _, _, _, _, _]) 1 rfl (by decide) rfl ?_
            refine mm_wgoto ?_
            have ih := ih (by omega)
            simp only [vb_cnt] at ih
            first
              | (rw [decide_eq_false (not_not_intro h21)] at ih; exact ih)
              | (rw [h36, Bool.and_false, Bool.false_and] at ih; exact ih)
              | (rw [decide_eq_false h51, Bool.and_false] at ih; exact ih)
              | (rw [decide_eq_true h21, h36, decide_eq_true h51] at ih; exact ih)
    )
  show mm_W _ _ 178 (mm_blk 178 0) [.ref 60, .int (vb_i b), .int (vb_i sd), .int (vb_i to), .int (vb_i but), .null, .null] [] _ _
  refine mm_wv (vb_i 0) rfl (by decide) ?_
  refine mm_w1 (ls' := [_, _, _, _, _, _, _]) rfl ?_
  refine mm_wv (vb_i 0) rfl (by decide) ?_
  refine mm_w1 (ls' := [_, _, _, _, _, _, _]) rfl ?_
  exact loop 0 (by omega)
end REF2
