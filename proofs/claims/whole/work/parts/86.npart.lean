section NPART
variable {G : mm_G} {d : Nat} {I : Nat → Nat → Int32} {P : Nat → Nat → Nat} {J : Nat → Nat → Int64} {S : List (Nat × Nat)} {nc ns : Nat} {μ : mm_M} {σ : vb_St}
def vp_ok (ℓ : vb_L) (l0 lf W : Int32) : Prop := (∀ v, v < vb_n ℓ → vb_has W v = (vb_has l0 v && !vb_has lf v)) ∧ (∀ v, vb_has lf v = true → vb_has l0 v = true) ∧ ∀ a b, a < vb_n ℓ → b < vb_n ℓ → vb_has W a = true → vb_has lf b = true → vb_has (vb_nb ℓ a) b = false
def vp_lo (ℓ : vb_L) (lf : Int32) (i : Nat) (W0 W : Int32) : Prop := ∀ v, v < vb_n ℓ → vb_has W v = true → vb_has W0 v = true ∨ ∃ j, vb_has (vw_R ℓ lf (vb_bit i) j) v = true
def vp_hi (ℓ : vb_L) (lf : Int32) (i z : Nat) (W0 W : Int32) : Prop := (∀ v, vb_has W0 v = true → vb_has W v = true) ∧ ∀ v, vb_has (vw_R ℓ lf (vb_bit i) z) v = true → vb_has W v = true
def vp_pr (ℓ : vb_L) (lf : Int32) (i z p q : Nat) (W : Int32) : Prop := ∀ a b, a < vb_n ℓ → b < vb_n ℓ → (a < p ∨ (a = p ∧ b < q)) → vb_has (vw_R ℓ lf (vb_bit i) z) a = true → vb_has (vb_nb ℓ a) b = true → vb_has lf b = true → vb_has W b = true
variable {ℓ : vb_L} {l0 lf W W0 : Int32} {i z p q : Nat}
theorem vp_add (hq : q < 32) (v : Nat) : vb_has (W ||| vb_bit q) v = (vb_has W v || decide (v = q)) := by rw [vb_has_or, vb_has_bit hq]
theorem vp_up (hq : q < 32) {v : Nat} (h : vb_has W v = true) : vb_has (W ||| vb_bit q) v = true := by rw [vp_add hq, h, Bool.true_or]
theorem vp_at (hq : q < 32) : vb_has (W ||| vb_bit q) q = true := by rw [vp_add hq, decide_eq_true rfl, Bool.or_true]
theorem vp_bk (hq : q < 32) {v : Nat} (h : vb_has (W ||| vb_bit q) v = true) : vb_has W v = true ∨ v = q := by
  rw [vp_add hq, Bool.or_eq_true, decide_eq_true_eq] at h; exact h
theorem vp_init_lo (hi : i < 32) : vp_lo ℓ lf i W0 (W0 ||| vb_bit i) := by
  intro v _ h
  rcases vp_bk hi h with h | rfl
  · exact Or.inl h
  · exact Or.inr ⟨0, by show vb_has (vb_bit v) v = true; rw [vb_has_bit hi, decide_eq_true rfl]⟩
theorem vp_init_hi (hi : i < 32) : vp_hi ℓ lf i 0 W0 (W0 ||| vb_bit i) := by
  refine ⟨fun v h => vp_up hi h, fun v h => ?_⟩
  have h : vb_has (vb_bit i) v = true := h
  rw [vb_has_bit hi, decide_eq_true_eq] at h
  rw [h]; exact vp_at hi
theorem vp_take (hn : vb_n ℓ ≤ 10) (ho : vp_ok ℓ l0 lf W0) (hl : vp_lo ℓ lf i W0 W) (hh : vp_hi ℓ lf i z W0 W) (hp : vp_pr ℓ lf i z p q W) (hpn : p < vb_n ℓ) (hqn : q < vb_n ℓ) (h1 : vb_has W p = true) (h2 : vb_has l0 q = true) (h3 : vb_has (vb_nb ℓ p) q = true) : vp_lo ℓ lf i W0 (W ||| vb_bit q) ∧ vp_hi ℓ lf i z W0 (W ||| vb_bit q) ∧ vp_pr ℓ lf i z p (q + 1) (W ||| vb_bit q) := by
  have hq32 : q < 32 := by omega
  refine ⟨?_, ⟨fun v h => vp_up hq32 (hh.1 v h), fun v h => vp_up hq32 (hh.2 v h)⟩, ?_⟩
  · intro v hv h
    rcases vp_bk hq32 h with h | rfl
    · exact hl v hv h
    · cases e : vb_has lf v with
      | false => left; rw [ho.1 v hv, h2, e]; rfl
      | true =>
        rcases hl p hpn h1 with h4 | ⟨j, h4⟩
        · rw [ho.2.2 p v hpn hv h4 e] at h3; cases h3
        · exact Or.inr ⟨j + 1, vw_nx hn hpn hv h4 h3 e⟩
  · intro a b ha hb hab g1 g2 g3
    by_cases e : a = p ∧ b = q
    · rw [e.2]; exact vp_at hq32
    · exact vp_up hq32 (hp a b ha hb (by omega) g1 g2 g3)
theorem vp_skip (ho : vp_ok ℓ l0 lf W0) (hh : vp_hi ℓ lf i z W0 W) (hp : vp_pr ℓ lf i z p q W) (h : vb_has W p = true → vb_has l0 q = true → vb_has (vb_nb ℓ p) q = true → False) : vp_pr ℓ lf i z p (q + 1) W := by
  intro a b ha hb hab g1 g2 g3
  by_cases e : a = p ∧ b = q
  · obtain ⟨rfl, rfl⟩ := e
    exact (h (hh.2 _ g1) (ho.2.1 _ g3) g2).elim
  · exact hp a b ha hb (by omega) g1 g2 g3
theorem vp_row (hp : vp_pr ℓ lf i z p (vb_n ℓ) W) : vp_pr ℓ lf i z (p + 1) 0 W := fun a b ha hb hab => hp a b ha hb (by omega)
theorem vp_round (hn : vb_n ℓ ≤ 10) (hh : vp_hi ℓ lf i z W0 W) (hp : vp_pr ℓ lf i z (vb_n ℓ) 0 W) : vp_hi ℓ lf i (z + 1) W0 W := by
  refine ⟨hh.1, fun v h => ?_⟩
  rcases vw_bk hn h with h1 | ⟨h0, h2, a, h3, h4, h5⟩
  · exact hh.2 v h1
  · exact hp a v h3 h0 (Or.inl h3) h4 h5 h2
theorem vp_fin (hn : vb_n ℓ ≤ 10) (ho : vp_ok ℓ l0 lf W0) (hi : i < vb_n ℓ) (hlf : vb_has lf i = true) (hl : vp_lo ℓ lf i W0 W) (hh : vp_hi ℓ lf i (vb_n ℓ) W0 W) : vp_ok ℓ l0 (lf &&& ~~~ vb_grow ℓ lf 10 (vb_bit i)) W := by
  have hbl : vb_below (vb_n ℓ) (vb_bit i) := fun v hv => by rw [vb_has_bit (by omega), decide_eq_true_eq] at hv; omega
  have hbi : vb_has (vb_bit i) i = true := by rw [vb_has_bit (by omega), decide_eq_true rfl]
  have h10 : ∀ j v, vb_has (vw_R ℓ lf (vb_bit i) j) v = true → vb_has (vw_R ℓ lf (vb_bit i) 10) v = true := fun j v h => vw_up hn (vw_end hn hbl hi hbi h) (by omega)
  have hW : ∀ j v, vb_has (vw_R ℓ lf (vb_bit i) j) v = true → vb_has W v = true := fun j v h => hh.2 v (vw_up hn (vw_end hn hbl hi hbi h) (Nat.sub_le _ _))
  have hsub : ∀ j v, vb_has (vw_R ℓ lf (vb_bit i) j) v = true → vb_has lf v = true := by
    intro j
    induction j with
    | zero => intro v h; have h : vb_has (vb_bit i) v = true := h; rw [vb_has_bit (by omega), decide_eq_true_eq] at h; rw [h]; exact hlf
    | succ j ih =>
      intro v h
      rcases vw_bk hn h with h1 | ⟨_, h2, _⟩
      · exact ih v h1
      · exact h2
  have hnot : ∀ v, v < 32 → vb_has (lf &&& ~~~ vb_grow ℓ lf 10 (vb_bit i)) v = (vb_has lf v && !vb_has (vw_R ℓ lf (vb_bit i) 10) v) := fun v hv => by rw [vb_has_and, vb_has_not _ hv, vw_grow]
  refine ⟨?_, ?_, ?_⟩
  · intro v hv
    rw [hnot v (by omega)]
    cases e : vb_has W v with
    | true =>
      rcases hl v hv e with h | ⟨j, h⟩
      · rw [ho.1 v hv, Bool.and_eq_true, Bool.not_eq_true'] at h
        rw [h.1, h.2]; rfl
      · rw [h10 j v h, ho.2.1 v (hsub j v h)]; simp
    | false =>
      have h1 : vb_has (vw_R ℓ lf (vb_bit i) 10) v = false := by
        cases e2 : vb_has (vw_R ℓ lf (vb_bit i) 10) v with
        | false => rfl
        | true => rw [hW 10 v e2] at e; cases e
      have h2 : vb_has W0 v = false := by
        cases e2 : vb_has W0 v with
        | false => rfl
        | true => rw [hh.1 v e2] at e; cases e
      rw [ho.1 v hv] at h2
      rw [h1]
      cases h3 : vb_has l0 v with
      | false => rfl
      | true => rw [h3] at h2; simpa using h2
  · intro v h
    rw [vb_has_and, Bool.and_eq_true] at h
    exact ho.2.1 v h.1
  · intro a b ha hb h1 h2
    rw [hnot b (by omega), Bool.and_eq_true, Bool.not_eq_true'] at h2
    cases e : vb_has (vb_nb ℓ a) b with
    | false => rfl
    | true =>
      rcases hl a ha h1 with h | ⟨j, h⟩
      · rw [ho.2.2 a b ha hb h h2.1] at e; cases e
      · rw [h10 _ b (vw_nx hn ha hb h e h2.1)] at h2; cases h2.2
theorem n_parts (hM : vm_isM P S) (dN : vm_MD σ I) (hI : vs_inv σ) (hlb : vl_bel (vs_l σ)) (hd : 20 ≤ d) (s : Int32) : mm_C G d 240 [.ref 60, .int s] (I, P, J, S, nc, ns) (vm_RV (sp_parts σ s) (fun I' => vm_qf I I') P J S nc ns) := by
  obtain ⟨hli, hIx, hIa, hIi⟩ := hI
  obtain ⟨hok, hwf, he9⟩ := hIx
  have hsj := hwf.sj
  have hfj := hwf.fj
  have hst := hwf.ws
  have dM := vmd_l dN
  have hR := vmd_x dN
  have hn := vm_10 dM
  have ht := vx_t2 (vs_x σ)
  have hs3 := vm_sc3 dM
  cases hs : vb_idx 2 s with
  | none =>
    rw [show sp_parts σ s = .inr 0 by simp only [sp_parts, hs]]
    show mm_W _ _ 240 (mm_blk 240 0) [.ref 60, .int s, .null, .null, .null, .null, .null, .null] [] _ _
    refine mm_w1 rfl ?_
    refine mm_wv (vb_i 0) rfl (by decide) ?_
    refine mm_wpiN (vM_S60 hM) (by decide) (by decide) ?_
    intro I1 hI1
    have hq1 : vm_qf I I1 := by rw [hI1]; exact vm_qf.thr _
    have dN1 := dN.qf hq1
    have dM1 := vmd_l dN1
    have hR1 := vmd_x dN1
    have thr1 : I1 60 0 = vb_i 0 := by rw [hI1, vb_up1]
    refine mm_w1 rfl ?_
    refine mm_w1 rfl ?_
    refine mm_cvi (vb_cv (vM_S60 hM) rfl rfl rfl rfl) (by decide) (by omega) (m_isS_f hM thr1 hs (by omega)) ?_
    intro I2 hI2 
    refine mm_nifne (by decide) (fun h => absurd rfl h) (fun _ => ?_)
    refine mm_wv (vb_i 0) rfl (by decide) ?_
    refine mm_wr rfl rfl rfl ?_
    exact ⟨_, _, rfl, hq1.tr (by rw [hI2]; exact vm_qf.thr _), by rw [hI2, vb_up1]⟩
  | some s_ =>
    obtain ⟨ls, rfl⟩ := vb_idx_some (by omega) hs
    rw [show sp_parts σ (vb_i s_) = .inl (vb_i (q_pt (vs_l σ) (vx_f (vs_x σ) s_) (vb_n (vs_l σ))).2) by simp only [sp_parts, hs]]
    have hq0 := vm_qf.rf (I := I)
    have loop : ∀ (I1 : Nat → Nat → Int32), vm_qf I I1 → I1 60 0 = vb_i 0 → ∀ i, i ≤ vb_n (vs_l σ) → ∀ (W0 : Int32) (y5 y6 y7 : Value), y5.category = 1 → y6.category = 1 → y7.category = 1 → vp_ok (vs_l σ) (vx_f (vs_x σ) s_) (q_pt (vs_l σ) (vx_f (vs_x σ) s_) i).1 W0 → mm_W G d 240 (mm_blk 240 22) [.ref 60, .int (vb_i s_), .int (vb_i (q_pt (vs_l σ) (vx_f (vs_x σ) s_) i).2), .int W0, .int (vb_i i), y5, y6, y7] [] (I1, P, J, S, nc, ns) (vm_RV (.inl (vb_i (q_pt (vs_l σ) (vx_f (vs_x σ) s_) (vb_n (vs_l σ))).2)) (fun I' => vm_qf I I') P J S nc ns) := by
      intro I1 hq1 thr1
      have dN1 := dN.qf hq1
      have dM1 := vmd_l dN1
      have hR1 := vmd_x dN1
      refine vb_down (vb_n (vs_l σ)) ?_
      intro i hi ihI W0 y5 y6 y7 hy5 hy6 hy7 hok0
      have hcn := q_pt_le (vs_l σ) (vx_f (vs_x σ) s_) i
      have hin := vx_in2 (vx_f (vs_x σ)) i
      have hst1 : q_pt (vs_l σ) (vx_f (vs_x σ) s_) (i + 1) = if vb_has (q_pt (vs_l σ) (vx_f (vs_x σ) s_) i).1 i then ((q_pt (vs_l σ) (vx_f (vs_x σ) s_) i).1 &&& ~~~ vb_grow (vs_l σ) (q_pt (vs_l σ) (vx_f (vs_x σ) s_) i).1 10 (vb_bit i), (q_pt (vs_l σ) (vx_f (vs_x σ) s_) i).2 + 1) else q_pt (vs_l σ) (vx_f (vs_x σ) s_) i := rfl
      have zl : i < vb_n (vs_l σ) → vb_has (q_pt (vs_l σ) (vx_f (vs_x σ) s_) i).1 i = true → ∀ z, z ≤ vb_n (vs_l σ) → ∀ (W : Int32) (y6 y7 : Value), y6.category = 1 → y7.category = 1 → vp_lo (vs_l σ) (q_pt (vs_l σ) (vx_f (vs_x σ) s_) i).1 i W0 W → vp_hi (vs_l σ) (q_pt (vs_l σ) (vx_f (vs_x σ) s_) i).1 i z W0 W → mm_W G d 240 (mm_blk 240 71) [.ref 60, .int (vb_i s_), .int (vb_i ((q_pt (vs_l σ) (vx_f (vs_x σ) s_) i).2 + 1)), .int W, .int (vb_i i), .int (vb_i z), y6, y7] [] (I1, P, J, S, nc, ns) (vm_RV (.inl (vb_i (q_pt (vs_l σ) (vx_f (vs_x σ) s_) (vb_n (vs_l σ))).2)) (fun I' => vm_qf I I') P J S nc ns) := by
        intro hi2 hlf
        refine vb_down (vb_n (vs_l σ)) ?_
        intro z hz ihZ W y6 y7 hy6 hy7 hlo hhi
        have pl : z < vb_n (vs_l σ) → ∀ p, p ≤ vb_n (vs_l σ) → ∀ (W : Int32) (y7 : Value), y7.category = 1 → vp_lo (vs_l σ) (q_pt (vs_l σ) (vx_f (vs_x σ) s_) i).1 i W0 W → vp_hi (vs_l σ) (q_pt (vs_l σ) (vx_f (vs_x σ) s_) i).1 i z W0 W → vp_pr (vs_l σ) (q_pt (vs_l σ) (vx_f (vs_x σ) s_) i).1 i z p 0 W → mm_W G d 240 (mm_blk 240 83) [.ref 60, .int (vb_i s_), .int (vb_i ((q_pt (vs_l σ) (vx_f (vs_x σ) s_) i).2 + 1)), .int W, .int (vb_i i), .int (vb_i z), .int (vb_i p), y7] [] (I1, P, J, S, nc, ns) (vm_RV (.inl (vb_i (q_pt (vs_l σ) (vx_f (vs_x σ) s_) (vb_n (vs_l σ))).2)) (fun I' => vm_qf I I') P J S nc ns) := by
          intro hz2
          refine vb_down (vb_n (vs_l σ)) ?_
          intro p hp ihP W y7 hy7 hlo hhi hpr
          have ql : p < vb_n (vs_l σ) → ∀ q, q ≤ vb_n (vs_l σ) → ∀ (W : Int32), vp_lo (vs_l σ) (q_pt (vs_l σ) (vx_f (vs_x σ) s_) i).1 i W0 W → vp_hi (vs_l σ) (q_pt (vs_l σ) (vx_f (vs_x σ) s_) i).1 i z W0 W → vp_pr (vs_l σ) (q_pt (vs_l σ) (vx_f (vs_x σ) s_) i).1 i z p q W → mm_W G d 240 (mm_blk 240 95) [.ref 60, .int (vb_i s_), .int (vb_i ((q_pt (vs_l σ) (vx_f (vs_x σ) s_) i).2 + 1)), .int W, .int (vb_i i), .int (vb_i z), .int (vb_i p), .int (vb_i q)] [] (I1, P, J, S, nc, ns) (vm_RV (.inl (vb_i (q_pt (vs_l σ) (vx_f (vs_x σ) s_) (vb_n (vs_l σ))).2)) (fun I' => vm_qf I I') P J S nc ns) := by
            intro hp2
            refine vb_down (vb_n (vs_l σ)) ?_
            intro q hqq ihQ W hlo hhi hpr
            have hinq := vx_in2 (vx_f (vs_x σ)) q
            refine mm_w1 rfl ?_
            refine mm_w1 rfl ?_
            refine mm_wgiv _ (vM_S60 hM) (by decide) (by decide) (vm_n dM1) ?_
            refine mm_nicge (by omega) (by omega) ?_ ?_
            · intro h101
              refine mm_nincL (ls' := [_, _, _, _, _, _, _, _]) 1 rfl (by decide) rfl ?_
              refine mm_wgoto ?_
              exact ihP (by omega) W _ rfl hlo hhi (vp_row (by rw [show vb_n (vs_l σ) = q by omega]; exact hpr))
            · intro h101
              refine mm_w1 rfl ?_
              refine mm_w1 rfl ?_
              refine mm_w1 rfl ?_
              refine mm_wv (vb_i 1) rfl (by decide) ?_
              refine mm_wv (vb_b (vb_has _ _)) rfl (vb_shr1 _ (by omega)) ?_
              refine mm_wv (vb_i 1) rfl (by decide) ?_
              refine mm_wicne ?_ ?_
              · intro h111
                refine mm_nincL (ls' := [_, _, _, _, _, _, _, _]) 1 rfl (by decide) rfl ?_
                refine mm_wgoto ?_
                exact ihQ (by omega) W hlo hhi (vp_skip hok0 hhi hpr (fun g1 g2 g3 => h111 (vb_b_eq1.mpr g1)))
              · intro h111
                have h111 := vb_b_eq1.mp h111
                refine mm_w1 rfl ?_
                refine mm_wgr (vM_S60 hM) (by decide) (by decide) (vM_P60_38 hM) (vM_a76 hM) ?_
                refine mm_wv (vb_i 10) rfl (by decide) ?_
                refine mm_w1 rfl ?_
                refine mm_nadd ?_
                refine mm_wiav (vb_i (vx_in (vx_f (vs_x σ)) q)) (vM_a76 hM) (vM_S76 hM) (by decide) (by omega) (by rw [show 10 + q = 0 + 10 + q by omega]; exact vm_rf hR1 (by omega)) ?_
                refine mm_w1 rfl ?_
                refine mm_nicne (by omega) (by omega) ?_ ?_
                · intro h125
                  refine mm_nincL (ls' := [_, _, _, _, _, _, _, _]) 1 rfl (by decide) rfl ?_
                  refine mm_wgoto ?_
                  exact ihQ (by omega) W hlo hhi (vp_skip hok0 hhi hpr (fun g1 g2 g3 => h125 ((vx_in_eq hfj ls).mpr g2)))
                · intro h125
                  refine mm_w1 rfl ?_
                  refine mm_wgr (vM_S60 hM) (by decide) (by decide) (vM_P60_9 hM) (vM_a65 hM) ?_
                  refine mm_wv (vb_i 10) rfl (by decide) ?_
                  refine mm_w1 rfl ?_
                  refine mm_nmul ?_
                  refine mm_w1 rfl ?_
                  refine mm_nadd ?_
                  refine mm_wzav _ (vM_S65 hM) (by decide) (by omega) (vm_rd dM1 (by omega) (by omega)) ?_
                  refine mm_bifeq ?_ ?_
                  · intro h141
                    refine mm_nincL (ls' := [_, _, _, _, _, _, _, _]) 1 rfl (by decide) rfl ?_
                    refine mm_wgoto ?_
                    first
                      | (obtain ⟨k1, k2, k3⟩ := vp_take hn hok0 hlo hhi hpr hp2 (by omega) h111 ((vx_in_eq hfj ls).mp h125) h141; exact ihQ (by omega) _ k1 k2 k3)
                      | exact ihQ (by omega) W hlo hhi (vp_skip hok0 hhi hpr (fun g1 g2 g3 => by rw [h141] at g3; cases g3))
                  · intro h141
                    refine mm_w1 rfl ?_
                    refine mm_wv (vb_i 1) rfl (by decide) ?_
                    refine mm_w1 rfl ?_
                    refine mm_nbit (by omega) ?_
                    refine mm_w1 rfl ?_
                    refine mm_w1 (ls' := [_, _, _, _, _, _, _, _]) rfl ?_
                    refine mm_nincL (ls' := [_, _, _, _, _, _, _, _]) 1 rfl (by decide) rfl ?_
                    refine mm_wgoto ?_
                    first
                      | (obtain ⟨k1, k2, k3⟩ := vp_take hn hok0 hlo hhi hpr hp2 (by omega) h111 ((vx_in_eq hfj ls).mp h125) h141; exact ihQ (by omega) _ k1 k2 k3)
                      | exact ihQ (by omega) W hlo hhi (vp_skip hok0 hhi hpr (fun g1 g2 g3 => by rw [h141] at g3; cases g3))  
          refine mm_w1 rfl ?_
          refine mm_w1 rfl ?_
          refine mm_wgiv _ (vM_S60 hM) (by decide) (by decide) (vm_n dM1) ?_
          refine mm_nicge (by omega) (by omega) ?_ ?_
          · intro h89
            refine mm_nincL (ls' := [_, _, _, _, _, _, _, _]) 1 rfl (by decide) rfl ?_
            refine mm_wgoto ?_
            exact ihZ (by omega) W _ _ rfl hy7 hlo (vp_round hn hhi (by rw [show vb_n (vs_l σ) = p by omega]; exact hpr))
          · intro h89
            refine mm_wv (vb_i 0) rfl (by decide) ?_
            refine mm_w1 (ls' := [_, _, _, _, _, _, _, _]) rfl ?_
            exact ql (by omega) 0 (by omega) W hlo hhi hpr
        refine mm_w1 rfl ?_
        refine mm_w1 rfl ?_
        refine mm_wgiv _ (vM_S60 hM) (by decide) (by decide) (vm_n dM1) ?_
        refine mm_nicge (by omega) (by omega) ?_ ?_
        · intro h77
          refine mm_nincL (ls' := [_, _, _, _, _, _, _, _]) 1 rfl (by decide) rfl ?_
          refine mm_wgoto ?_
          have ih := fun y5 y6 y7 a b c => ihI (by omega) W y5 y6 y7 a b c
          rw [hst1, if_pos hlf] at ih
          exact ih _ _ _ rfl hy6 hy7 (vp_fin hn hok0 hi2 hlf hlo (by rw [show vb_n (vs_l σ) = z by omega]; exact hhi))
        · intro h77
          refine mm_wv (vb_i 0) rfl (by decide) ?_
          refine mm_w1 (ls' := [_, _, _, _, _, _, _, _]) rfl ?_
          exact pl (by omega) 0 (by omega) W _ hy7 hlo hhi (fun a b _ _ h => by omega)
      refine mm_w1 rfl ?_
      refine mm_w1 rfl ?_
      refine mm_wgiv _ (vM_S60 hM) (by decide) (by decide) (vm_n dM1) ?_
      refine mm_nicge (by omega) (by omega) ?_ ?_
      · intro h28
        refine mm_w1 rfl ?_
        refine mm_wr rfl rfl rfl ?_
        refine ⟨_, _, rfl, hq1, ?_, thr1⟩
        rw [show i = vb_n (vs_l σ) by omega]
      · intro h28
        refine mm_w1 rfl ?_
        refine mm_wgr (vM_S60 hM) (by decide) (by decide) (vM_P60_38 hM) (vM_a76 hM) ?_
        refine mm_wv (vb_i 10) rfl (by decide) ?_
        refine mm_w1 rfl ?_
        refine mm_nadd ?_
        refine mm_wiav (vb_i (vx_in (vx_f (vs_x σ)) i)) (vM_a76 hM) (vM_S76 hM) (by decide) (by omega) (by rw [show 10 + i = 0 + 10 + i by omega]; exact vm_rf hR1 (by omega)) ?_
        refine mm_w1 rfl ?_
        refine mm_nicne (by omega) (by omega) ?_ ?_
        · intro h42
          refine mm_nincL (ls' := [_, _, _, _, _, _, _, _]) 1 rfl (by decide) rfl ?_
          refine mm_wgoto ?_
          have ih := ihI (by omega) W0 _ _ _ hy5 hy6 hy7
          rw [hst1, if_neg (fun e => h42 ((vx_in_eq hfj ls).mpr (hok0.2.1 i e)))] at ih
          exact ih hok0
        · intro h42
          have hfi := (vx_in_eq hfj ls).mp h42
          refine mm_w1 rfl ?_
          refine mm_w1 rfl ?_
          refine mm_w1 rfl ?_
          refine mm_wv (vb_i 1) rfl (by decide) ?_
          refine mm_wv (vb_b (vb_has _ _)) rfl (vb_shr1 _ (by omega)) ?_
          refine mm_wv (vb_i 1) rfl (by decide) ?_
          refine mm_wicne ?_ ?_
          · intro h52
            have hlf : vb_has (q_pt (vs_l σ) (vx_f (vs_x σ) s_) i).1 i = true := by
              cases e : vb_has (q_pt (vs_l σ) (vx_f (vs_x σ) s_) i).1 i with
              | true => rfl
              | false => exact absurd (vb_b_eq1.mpr (by rw [hok0.1 i (by omega), hfi, e]; rfl)) h52
            refine mm_nincL (ls' := [_, _, _, _, _, _, _, _]) 1 rfl (by decide) rfl ?_
            refine mm_w1 rfl ?_
            refine mm_wv (vb_i 1) rfl (by decide) ?_
            refine mm_w1 rfl ?_
            refine mm_nbit (by omega) ?_
            refine mm_w1 rfl ?_
            refine mm_w1 (ls' := [_, _, _, _, _, _, _, _]) rfl ?_
            refine mm_wv (vb_i 0) rfl (by decide) ?_
            refine mm_w1 (ls' := [_, _, _, _, _, _, _, _]) rfl ?_
            exact zl (by omega) hlf 0 (by omega) _ _ _ hy6 hy7 (vp_init_lo (by omega)) (vp_init_hi (by omega))
          · intro h52
            have hnl : ¬ vb_has (q_pt (vs_l σ) (vx_f (vs_x σ) s_) i).1 i = true := fun e => by
              have h := vb_b_eq1.mp h52
              rw [hok0.1 i (by omega), e] at h; simp at h
            refine mm_wgoto ?_
            refine mm_nincL (ls' := [_, _, _, _, _, _, _, _]) 1 rfl (by decide) rfl ?_
            refine mm_wgoto ?_
            have ih := ihI (by omega) W0 _ _ _ hy5 hy6 hy7
            rw [hst1, if_neg hnl] at ih
            exact ih hok0  
    show mm_W _ _ 240 (mm_blk 240 0) [.ref 60, .int (vb_i s_), .null, .null, .null, .null, .null, .null] [] _ _
    refine mm_w1 rfl ?_
    refine mm_wv (vb_i 0) rfl (by decide) ?_
    refine mm_wpiN (vM_S60 hM) (by decide) (by decide) ?_
    intro I1 hI1
    have hq1 : vm_qf I I1 := by rw [hI1]; exact vm_qf.thr _
    have dN1 := dN.qf hq1
    have dM1 := vmd_l dN1
    have hR1 := vmd_x dN1
    have thr1 : I1 60 0 = vb_i 0 := by rw [hI1, vb_up1]
    refine mm_w1 rfl ?_
    refine mm_w1 rfl ?_
    refine mm_cvp (vb_cv (vM_S60 hM) rfl rfl rfl rfl) (by decide) (by omega) (m_isS_t hM thr1 (by rw [hs]; rfl) (by omega)) ?_
    refine mm_nifne (by decide) (fun _ => ?_) (fun h => absurd h (by decide))
    refine mm_wv (vb_i 0) rfl (by decide) ?_
    refine mm_w1 (ls' := [_, _, _, _, _, _, _, _]) rfl ?_
    refine mm_wv (vb_i 0) rfl (by decide) ?_
    refine mm_w1 (ls' := [_, _, _, _, _, _, _, _]) rfl ?_
    refine mm_wv (vb_i 0) rfl (by decide) ?_
    refine mm_w1 (ls' := [_, _, _, _, _, _, _, _]) rfl ?_
    refine loop _ hq1 thr1 0 (by omega) _ _ _ _ rfl rfl rfl ⟨fun v _ => ?_, fun v h => h, fun a b _ _ h => ?_⟩
    · show vb_has 0 v = (vb_has (vx_f (vs_x σ) s_) v && !vb_has (vx_f (vs_x σ) s_) v)
      rw [vb_has_0]; cases vb_has (vx_f (vs_x σ) s_) v <;> rfl
    · rw [show (vb_i 0 : Int32) = 0 from rfl, vb_has_0] at h; cases h
end NPART
