/-! WHAT MAY BE DONE -/
/-- taking, by the values of a move -/
def vb_take (ℓ : vb_L) (own foe : Int32) (fr to : Nat) (ev : Int32) : Bool :=
  if vb_ht ℓ then decide (0 < vb_ru ℓ 3 (vb_val ℓ own foe own fr to ev)) else decide (vb_val ℓ own foe own fr to ev 1 + vb_val ℓ own foe own fr to ev 2 - vb_i 1 < vb_val ℓ own foe own fr to ev 0)
def vb_law (ℓ : vb_L) (own foe : Int32) (fr : Nat) (ev : Int32) : Int32 := vb_set (vb_n ℓ) (fun to => vb_has (vb_nb ℓ fr) to && ((!vb_has own to && !vb_has foe to) || (vb_has foe to && vb_take ℓ own foe fr to ev)))
def vb_tk (ℓ : vb_L) (own foe : Int32) (v : Nat) (ev : Int32) : Int32 := vb_set (vb_n ℓ) (fun fr => vb_has (vb_nb ℓ v &&& foe) fr && vb_take ℓ foe own fr v ev)
def vb_ep (ℓ : vb_L) (own foe : Int32) (ev : Int32) : Int32 := vb_set (vb_n ℓ) (fun v => vb_has own v && !(vb_tk ℓ own foe v ev == 0))
/-- a move as 10 by where from and where to -/
def vb_q (ℓ : vb_L) (own foe : Int32) (ev : Int32) (m : Nat) : Bool := decide (m / 10 < vb_n ℓ) && decide (m % 10 < vb_n ℓ) && vb_has own (m / 10) && vb_has (vb_law ℓ own foe (m / 10) ev) (m % 10)
/-- those from m on -/
def vb_rs (q : Nat → Bool) (m : Nat) : List Nat := (List.range' m (100 - m)).filter q
def vb_ms (ℓ : vb_L) (own foe : Int32) (ev : Int32) : List Nat := vb_rs (vb_q ℓ own foe ev) 0
def vb_mv (m : Nat) : Nat := 100 * (m / 10) + m % 10
theorem vb_rs_cons {q : Nat → Bool} {m : Nat} (hm : m < 100) : vb_rs q m = if q m then m :: vb_rs q (m + 1) else vb_rs q (m + 1) := by
  simp only [vb_rs]
  obtain ⟨j, hj⟩ : ∃ j, 100 - m = j + 1 := ⟨99 - m, by omega⟩
  rw [hj, List.range'_succ, List.filter_cons, show 100 - (m + 1) = j by omega]
theorem vb_rs_end {q : Nat → Bool} {m : Nat} (hm : 100 ≤ m) : vb_rs q m = [] := by
  simp only [vb_rs, show 100 - m = 0 by omega]; rfl
theorem vb_rs_skip {q : Nat → Bool} {m m' : Nat} (h : m ≤ m') (hq : ∀ j, m ≤ j → j < m' → q j = false) : vb_rs q m = vb_rs q m' := by
  obtain ⟨k, rfl⟩ : ∃ k, m' = m + k := ⟨m' - m, by omega⟩
  induction k with
  | zero => rfl
  | succ k ih =>
    rw [ih (by omega) (fun j h1 h2 => hq j h1 (by omega))]
    by_cases hm : m + k < 100
    · rw [vb_rs_cons hm, hq (m + k) (by omega) (by omega)]; rfl
    · rw [vb_rs_end (by omega), vb_rs_end (by omega)]
theorem vb_q_to {ℓ : vb_L} {own foe ev : Int32} {m : Nat} (h : ¬ m % 10 < vb_n ℓ) : vb_q ℓ own foe ev m = false := by simp [vb_q, h]
theorem vb_q_fr {ℓ : vb_L} {own foe ev : Int32} {m : Nat} (h : ¬ m / 10 < vb_n ℓ) : vb_q ℓ own foe ev m = false := by simp [vb_q, h]
theorem vb_q_at {ℓ : vb_L} {own foe ev : Int32} {fr to : Nat} (h10 : vb_n ℓ ≤ 10) (hf : fr < vb_n ℓ) (ht : to < vb_n ℓ) : vb_q ℓ own foe ev (10 * fr + to) = (vb_has own fr && vb_has (vb_law ℓ own foe fr ev) to) := by
  have e1 : (10 * fr + to) / 10 = fr := by omega
  have e2 : (10 * fr + to) % 10 = to := by omega
  simp [vb_q, e1, e2, hf, ht]
theorem vb_rs_row {ℓ : vb_L} {own foe ev : Int32} {fr : Nat} (h10 : vb_n ℓ ≤ 10) : vb_rs (vb_q ℓ own foe ev) (10 * fr + vb_n ℓ) = vb_rs (vb_q ℓ own foe ev) (10 * (fr + 1)) :=
  vb_rs_skip (by omega) (fun j h1 h2 => vb_q_to (by omega))
theorem vb_rs_last {ℓ : vb_L} {own foe ev : Int32} (h10 : vb_n ℓ ≤ 10) : vb_rs (vb_q ℓ own foe ev) (10 * vb_n ℓ) = [] := by
  rw [vb_rs_skip (m' := 100) (by omega) (fun j h1 h2 => vb_q_fr (by omega)), vb_rs_end (by omega)]
theorem vb_mv_at {fr to : Nat} (ht : to < 10) : vb_mv (10 * fr + to) = 100 * fr + to := by simp only [vb_mv]; omega
/-- there are no more moves than there are ends of roads -/
theorem vb_law_cnt (ℓ : vb_L) (own foe ev : Int32) (fr : Nat) (h10 : vb_n ℓ ≤ 10) : vb_cnt 10 (vb_has (vb_law ℓ own foe fr ev)) ≤ vb_cnt 10 (vb_has (vb_nb ℓ fr)) := by
  refine vb_cnt_mono (fun v _ h => ?_)
  rw [vb_law, vb_has_set _ (by omega)] at h
  simp at h; exact h.2.1
theorem vb_rs_len (ℓ : vb_L) (own foe ev : Int32) (h10 : vb_n ℓ ≤ 10) : ∀ k, k ≤ vb_n ℓ → vb_deg ℓ (vb_n ℓ - k) + (vb_rs (vb_q ℓ own foe ev) (10 * (vb_n ℓ - k))).length ≤ vb_deg ℓ (vb_n ℓ) := by
  intro k
  induction k with
  | zero => intro _; rw [Nat.sub_zero, vb_rs_last h10]; simp
  | succ k ih =>
    intro hk
    have ih := ih (by omega)
    obtain ⟨v, hv⟩ : ∃ v, vb_n ℓ - (k + 1) = v := ⟨_, rfl⟩
    have e : vb_n ℓ - k = v + 1 := by omega
    rw [e] at ih
    rw [hv]
    simp only [vb_deg] at ih
    have inner : ∀ j, j ≤ vb_n ℓ → (vb_rs (vb_q ℓ own foe ev) (10 * v + (vb_n ℓ - j))).length + vb_cnt (vb_n ℓ - j) (vb_has (vb_law ℓ own foe v ev)) ≤ vb_cnt (vb_n ℓ) (vb_has (vb_law ℓ own foe v ev)) + (vb_rs (vb_q ℓ own foe ev) (10 * (v + 1))).length := by
      intro j
      induction j with
      | zero => intro _; rw [Nat.sub_zero, vb_rs_row h10]; omega
      | succ j ihj =>
        intro hj
        have ihj := ihj (by omega)
        obtain ⟨u, hu⟩ : ∃ u, vb_n ℓ - (j + 1) = u := ⟨_, rfl⟩
        have e2 : vb_n ℓ - j = u + 1 := by omega
        rw [e2] at ihj
        rw [hu, vb_rs_cons (by omega), vb_q_at h10 (by omega) (by omega)]
        simp only [vb_cnt] at ihj
        rw [show 10 * v + (u + 1) = 10 * v + u + 1 by omega] at ihj
        cases hh : vb_has (vb_law ℓ own foe v ev) u with
        | false => rw [hh] at ihj; simp only [Bool.and_false, Bool.false_eq_true, if_false]; simp at ihj; omega
        | true =>
          rw [hh] at ihj
          simp only [Bool.toNat_true] at ihj
          split
          · simp only [List.length_cons]; omega
          · omega
    have i0 := inner (vb_n ℓ) (by omega)
    rw [Nat.sub_self] at i0
    simp only [vb_cnt, Nat.add_zero] at i0
    have c1 := vb_law_cnt ℓ own foe ev v h10
    have c2 : vb_cnt 10 (vb_has (vb_law ℓ own foe v ev)) = vb_cnt (vb_n ℓ) (vb_has (vb_law ℓ own foe v ev)) := vb_cnt_up h10 (fun w hw => by
      cases hh : vb_has (vb_law ℓ own foe v ev) w with
      | false => rfl
      | true => rw [vb_law, vb_has_set _ (by omega)] at hh; simp at hh; omega)
    omega
theorem vb_ms_len {ℓ : vb_L} {own foe ev : Int32} (h10 : vb_n ℓ ≤ 10) (hd : vb_deg ℓ (vb_n ℓ) ≤ 36) : (vb_ms ℓ own foe ev).length ≤ 36 := by
  have := vb_rs_len ℓ own foe ev h10 (vb_n ℓ) (Nat.le_refl _)
  rw [Nat.sub_self] at this
  simp only [vb_deg, Nat.mul_zero] at this
  simp only [vb_ms]; omega
section WHAT
variable {G : mm_G} {d : Nat} {I : Nat → Nat → Int32} {P : Nat → Nat → Nat} {J : Nat → Nat → Int64} {S : List (Nat × Nat)} {nc ns : Nat} {μ : mm_M} {ℓ : vb_L} {L : Nat}
theorem vb_scr_of {I I' : Nat → Nat → Int32} {c : Nat} (h : vb_fr (fun a => a = c) I I') (hc : vb_scr L c) : vb_fr (vb_scr L) I I' := h.mono (fun a e => by rw [e]; exact hc)
/-- but for the list of moves -/
def vb_sc2 (L a : Nat) : Prop := a = L + 10 ∨ a = L + 11
theorem vb_s2 {I I' : Nat → Nat → Int32} (h : vb_fr (vb_sc2 L) I I') : vb_fr (vb_scr L) I I' := h.mono (fun a e => Or.inr e)
theorem vb_sc2_of {I I' : Nat → Nat → Int32} {c : Nat} (h : vb_fr (fun a => a = c) I I') (hc : vb_sc2 L c) : vb_fr (vb_sc2 L) I I' := h.mono (fun a e => by rw [e]; exact hc)
theorem v2_10 : vb_sc2 L (L + 10) := Or.inl rfl
theorem v2_11 : vb_sc2 L (L + 11) := Or.inr rfl
theorem vs_5 : vb_scr L (L + 5) := Or.inl rfl
theorem vs_10 : vb_scr L (L + 10) := Or.inr (Or.inl rfl)
theorem vs_11 : vb_scr L (L + 11) := Or.inr (Or.inr rfl)
theorem c_mayTake {own foe ev : Int32} {fr to : Nat} (hL : vb_isL P S L) (hD : vb_LD ℓ L I) (hd : 2 ≤ d) (hfr : fr < vb_n ℓ) (hto : to < vb_n ℓ) : mm_C G d 23 [.ref L, .int own, .int foe, .int (vb_i (100 * fr + to)), .int ev] (I, P, J, S, nc, ns) (vb_R (some (.int (vb_b (vb_take ℓ own foe fr to ev)))) (fun I' => vb_fr (vb_sc2 L) I I') P J S nc ns) := by
  have hn := vl_10 hD
  show mm_W _ _ 23 (mm_blk 23 0) [.ref L, .int own, .int foe, .int (vb_i (100 * fr + to)), .int ev, .null] [] _ _
  refine mm_w1 rfl ?_
  refine mm_w1 rfl ?_
  refine mm_w1 rfl ?_
  refine mm_w1 rfl ?_
  refine mm_w1 rfl ?_
  refine mm_w1 rfl ?_
  refine mm_cvn (vb_cv (vL_S0 hL) rfl rfl rfl rfl) (by decide) (by omega) (c_setv (ℓ := ℓ) hL hD (by omega) hfr hto) ?_
  intro I1 hq
  obtain ⟨hv, hf1⟩ := hq
  have hs1 := vb_sc2_of hf1 v2_10
  have hD1 := hD.fr (vb_s2 hs1) 
  refine mm_w1 rfl ?_
  refine mm_wgiv (vb_b (vb_ht ℓ)) (vL_S0 hL) (by decide) (by decide) (vl_ht hD1) ?_
  refine mm_bifeq ?_ ?_
  · intro h14
    refine mm_w1 rfl ?_
    refine mm_wgr (vL_S0 hL) (by decide) (by decide) (vL_P0_9 hL) (vL_a6 hL) ?_
    refine mm_wgr (vL_S6 hL) (by decide) (by decide) (vL_P6_4 hL) (vL_a10 hL) ?_
    refine mm_wv (vb_i 0) rfl (by decide) ?_
    refine mm_wiav _ (vL_a10 hL) (vL_S10 hL) (by decide) (by omega) (hv _ (by decide)) ?_
    refine mm_w1 (ls' := [_, _, _, _, _, _]) rfl ?_
    refine mm_w1 rfl ?_
    refine mm_w1 rfl ?_
    refine mm_wgr (vL_S0 hL) (by decide) (by decide) (vL_P0_9 hL) (vL_a6 hL) ?_
    refine mm_wgr (vL_S6 hL) (by decide) (by decide) (vL_P6_4 hL) (vL_a10 hL) ?_
    refine mm_wv (vb_i 1) rfl (by decide) ?_
    refine mm_wiav _ (vL_a10 hL) (vL_S10 hL) (by decide) (by omega) (hv _ (by decide)) ?_
    refine mm_w1 rfl ?_
    refine mm_wgr (vL_S0 hL) (by decide) (by decide) (vL_P0_9 hL) (vL_a6 hL) ?_
    refine mm_wgr (vL_S6 hL) (by decide) (by decide) (vL_P6_4 hL) (vL_a10 hL) ?_
    refine mm_wv (vb_i 2) rfl (by decide) ?_
    refine mm_wiav _ (vL_a10 hL) (vL_S10 hL) (by decide) (by omega) (hv _ (by decide)) ?_
    refine mm_w1 rfl ?_
    refine mm_wv (vb_i 1) rfl (by decide) ?_
    refine mm_w1 rfl ?_
    refine mm_wicle ?_ ?_
    · intro h68
      refine mm_wv (vb_i 0) rfl (by decide) ?_
      refine mm_wr rfl rfl rfl ?_
      refine ⟨_, by first | exact hs2 | exact hs1, ?_⟩
      rw [vb_take, h14]
      first
        | rw [if_pos rfl, decide_eq_true h25]; rfl
        | rw [if_pos rfl, decide_eq_false h25]; rfl
        | rw [if_neg (by decide), decide_eq_true h68]; rfl
        | rw [if_neg (by decide), decide_eq_false h68]; rfl
    · intro h68
      refine mm_wv (vb_i 1) rfl (by decide) ?_
      refine mm_wgoto ?_
      refine mm_wr rfl rfl rfl ?_
      refine ⟨_, by first | exact hs2 | exact hs1, ?_⟩
      rw [vb_take, h14]
      first
        | rw [if_pos rfl, decide_eq_true h25]; rfl
        | rw [if_pos rfl, decide_eq_false h25]; rfl
        | rw [if_neg (by decide), decide_eq_true h68]; rfl
        | rw [if_neg (by decide), decide_eq_false h68]; rfl
  · intro h14
    refine mm_w1 rfl ?_
    refine mm_wgr (vL_S0 hL) (by decide) (by decide) (vL_P0_9 hL) (vL_a6 hL) ?_
    refine mm_wv (vb_i 3) rfl (by decide) ?_
    refine mm_cvi (vb_cv (vL_S6 hL) rfl rfl rfl rfl) (by decide) (by omega) (c_give (by decide) hL (vl_take hD1 h14)) ?_
    intro I2 hf2
    have hs2 := hs1.tr (vb_sc2_of hf2 v2_11)
    rw [(vl_take hD1 h14).cg _ _ hv] 
    refine mm_wifle ?_ ?_
    · intro h25
      refine mm_wv (vb_i 0) rfl (by decide) ?_
      refine mm_wr rfl rfl rfl ?_
      refine ⟨_, by first | exact hs2 | exact hs1, ?_⟩
      rw [vb_take, h14]
      first
        | rw [if_pos rfl, decide_eq_true h25]; rfl
        | rw [if_pos rfl, decide_eq_false h25]; rfl
        | rw [if_neg (by decide), decide_eq_true h68]; rfl
        | rw [if_neg (by decide), decide_eq_false h68]; rfl
    · intro h25
      refine mm_wv (vb_i 1) rfl (by decide) ?_
      refine mm_wgoto ?_
      refine mm_wr rfl rfl rfl ?_
      refine ⟨_, by first | exact hs2 | exact hs1, ?_⟩
      rw [vb_take, h14]
      first
        | rw [if_pos rfl, decide_eq_true h25]; rfl
        | rw [if_pos rfl, decide_eq_false h25]; rfl
        | rw [if_neg (by decide), decide_eq_true h68]; rfl
        | rw [if_neg (by decide), decide_eq_false h68]; rfl
theorem c_lawful {own foe ev : Int32} {fr : Nat} (hL : vb_isL P S L) (hD : vb_LD ℓ L I) (hd : 3 ≤ d) (hfr : fr < vb_n ℓ) : mm_C G d 22 [.ref L, .int own, .int foe, .int (vb_i fr), .int ev] (I, P, J, S, nc, ns) (vb_R (some (.int (vb_law ℓ own foe fr ev))) (fun I' => vb_fr (vb_sc2 L) I I') P J S nc ns) := by
  have hn := vl_10 hD
  have loop := vb_down (p := fun i => ∀ (I1 : Nat → Nat → Int32) (x : Int32), vb_fr (vb_sc2 L) I I1 → (∀ u, u < 32 → vb_has x u = (vb_has (vb_nb ℓ fr) u && ((!vb_has own u && !vb_has foe u) || (decide (u < i) && vb_has foe u && vb_take ℓ own foe fr u ev)))) → mm_W G d 22 (mm_blk 22 29) [.ref L, .int own, .int foe, .int (vb_i fr), .int ev, .int x, .int (vb_nb ℓ fr &&& foe), .int (vb_i i)] [] (I1, P, J, S, nc, ns) (vb_R (some (.int (vb_law ℓ own foe fr ev))) (fun I' => vb_fr (vb_sc2 L) I I') P J S nc ns)) (vb_n ℓ) (by
    intro i hi ih I1 x hs1 hx
    have hD1 := hD.fr (vb_s2 hs1)
    have done : (∀ u, u < 32 → i ≤ u → vb_has (vb_nb ℓ fr &&& foe) u = false) → x = vb_law ℓ own foe fr ev := by
      intro hp
      refine vb_ext (fun u hu => ?_)
      rw [hx u hu, vb_law, vb_has_set _ (by omega)]
      cases hb : vb_has (vb_nb ℓ fr) u with
      | false => simp
      | true =>
        have hun := vl_nbb hD hfr u hb
        rw [decide_eq_true hun]
        by_cases hui : u < i
        · rw [decide_eq_true hui]; simp
        · have := hp u hu (by omega)
          rw [vb_has_and, hb, Bool.true_and] at this
          rw [this]; simp
    refine mm_w1 rfl ?_
    refine mm_w1 rfl ?_
    refine mm_wgiv (vb_i (vb_n ℓ)) (vL_S0 hL) (by decide) (by decide) (vl_n hD1) ?_
    refine mm_nicge (by omega) (by omega) ?_ ?_
    · intro h35
      refine mm_w1 rfl ?_
      refine mm_wr rfl rfl rfl ?_
      refine ⟨I1, hs1, ?_⟩
      rw [done (fun u hu hi => ?_)]
      first
        | exact vb_eq0.mp h40 u hu
        | (rw [vb_has_and]
           cases hb : vb_has (vb_nb ℓ fr) u with
           | false => rfl
           | true => exact absurd (vl_nbb hD hfr u hb) (by omega))
    · intro h35
      refine mm_w1 rfl ?_
      refine mm_wifeq ?_ ?_
      · intro h40
        refine mm_w1 rfl ?_
        refine mm_wr rfl rfl rfl ?_
        refine ⟨I1, hs1, ?_⟩
        rw [done (fun u hu hi => ?_)]
        first
          | exact vb_eq0.mp h40 u hu
          | (rw [vb_has_and]
             cases hb : vb_has (vb_nb ℓ fr) u with
             | false => rfl
             | true => exact absurd (vl_nbb hD hfr u hb) (by omega))
      · intro h40
        refine mm_w1 rfl ?_
        refine mm_w1 rfl ?_
        refine mm_csp rfl (by decide) (by omega) (c_has (by omega)) ?_
        refine mm_bifeq ?_ ?_
        · intro h50
          refine mm_nincL (ls' := [_, _, _, _, _, _, _, _]) 1 rfl (by decide) rfl ?_
          refine mm_wgoto ?_
          refine ih (by omega) _ _ (by first | exact hs2 | exact hs1) (fun u hu => ?_)
          try rw [vb_has_or, vb_has_bit (by omega)]
          rw [hx u hu]
          by_cases hui : u = i
          · subst hui
            have e1 : decide (u < u + 1) = true := decide_eq_true (by omega)
            have e2 : decide (u < u) = false := decide_eq_false (by omega)
            rw [vb_has_and] at h50
            rw [e1, e2]
            first
              | (rw [h68]; cases hb : vb_has (vb_nb ℓ fr) u <;> cases hc : vb_has foe u <;> simp_all)
              | (cases hb : vb_has (vb_nb ℓ fr) u <;> cases hc : vb_has foe u <;> simp_all)
          · have e1 : decide (u < i + 1) = decide (u < i) := by congr 1; exact propext (by omega)
            rw [e1]
            try rw [decide_eq_false hui]
            try rw [Bool.or_false]
        · intro h50
          refine mm_w1 rfl ?_
          refine mm_w1 rfl ?_
          refine mm_w1 rfl ?_
          refine mm_wv (vb_i 100) rfl (by decide) ?_
          refine mm_w1 rfl ?_
          refine mm_nmul ?_
          refine mm_w1 rfl ?_
          refine mm_nadd ?_
          refine mm_w1 rfl ?_
          refine mm_cvi (vb_cv (vL_S0 hL) rfl rfl rfl rfl) (by decide) (by omega) (c_mayTake (ℓ := ℓ) hL hD1 (by omega) hfr (by omega)) ?_
          intro I2 hf2
          have hs2 := hs1.tr hf2 
          refine mm_bifeq ?_ ?_
          · intro h68
            refine mm_nincL (ls' := [_, _, _, _, _, _, _, _]) 1 rfl (by decide) rfl ?_
            refine mm_wgoto ?_
            refine ih (by omega) _ _ (by first | exact hs2 | exact hs1) (fun u hu => ?_)
            try rw [vb_has_or, vb_has_bit (by omega)]
            rw [hx u hu]
            by_cases hui : u = i
            · subst hui
              have e1 : decide (u < u + 1) = true := decide_eq_true (by omega)
              have e2 : decide (u < u) = false := decide_eq_false (by omega)
              rw [vb_has_and] at h50
              rw [e1, e2]
              first
                | (rw [h68]; cases hb : vb_has (vb_nb ℓ fr) u <;> cases hc : vb_has foe u <;> simp_all)
                | (cases hb : vb_has (vb_nb ℓ fr) u <;> cases hc : vb_has foe u <;> simp_all)
            · have e1 : decide (u < i + 1) = decide (u < i) := by congr 1; exact propext (by omega)
              rw [e1]
              try rw [decide_eq_false hui]
              try rw [Bool.or_false]
          · intro h68
            refine mm_w1 rfl ?_
            refine mm_wv (vb_i 1) rfl (by decide) ?_
            refine mm_w1 rfl ?_
            refine mm_nbit (by omega) ?_
            refine mm_w1 rfl ?_
            refine mm_w1 (ls' := [_, _, _, _, _, _, _, _]) rfl ?_
            refine mm_nincL (ls' := [_, _, _, _, _, _, _, _]) 1 rfl (by decide) rfl ?_
            refine mm_wgoto ?_
            refine ih (by omega) _ _ (by first | exact hs2 | exact hs1) (fun u hu => ?_)
            try rw [vb_has_or, vb_has_bit (by omega)]
            rw [hx u hu]
            by_cases hui : u = i
            · subst hui
              have e1 : decide (u < u + 1) = true := decide_eq_true (by omega)
              have e2 : decide (u < u) = false := decide_eq_false (by omega)
              rw [vb_has_and] at h50
              rw [e1, e2]
              first
                | (rw [h68]; cases hb : vb_has (vb_nb ℓ fr) u <;> cases hc : vb_has foe u <;> simp_all)
                | (cases hb : vb_has (vb_nb ℓ fr) u <;> cases hc : vb_has foe u <;> simp_all)
            · have e1 : decide (u < i + 1) = decide (u < i) := by congr 1; exact propext (by omega)
              rw [e1]
              try rw [decide_eq_false hui]
              try rw [Bool.or_false]
    )
  show mm_W _ _ 22 (mm_blk 22 0) [.ref L, .int own, .int foe, .int (vb_i fr), .int ev, .null, .null, .null] [] _ _
  refine mm_w1 rfl ?_
  refine mm_wgr (vL_S0 hL) (by decide) (by decide) (vL_P0_6 hL) (vL_a3 hL) ?_
  refine mm_w1 rfl ?_
  refine mm_wiav _ (vL_a3 hL) (vL_S3 hL) (by decide) (by omega) (vl_nb hD (by omega)) ?_
  refine mm_w1 rfl ?_
  refine mm_wv (-1) rfl (by decide) ?_
  refine mm_nnot ?_
  refine mm_w1 rfl ?_
  refine mm_w1 rfl ?_
  refine mm_wv (-1) rfl (by decide) ?_
  refine mm_nnot ?_
  refine mm_w1 rfl ?_
  refine mm_w1 (ls' := [_, _, _, _, _, _, _, _]) rfl ?_
  refine mm_w1 rfl ?_
  refine mm_wgr (vL_S0 hL) (by decide) (by decide) (vL_P0_6 hL) (vL_a3 hL) ?_
  refine mm_w1 rfl ?_
  refine mm_wiav _ (vL_a3 hL) (vL_S3 hL) (by decide) (by omega) (vl_nb hD (by omega)) ?_
  refine mm_w1 rfl ?_
  refine mm_w1 rfl ?_
  refine mm_w1 (ls' := [_, _, _, _, _, _, _, _]) rfl ?_
  refine mm_wv (vb_i 0) rfl (by decide) ?_
  refine mm_w1 (ls' := [_, _, _, _, _, _, _, _]) rfl ?_
  refine loop 0 (by omega) I _ vb_fr.rf (fun u hu => ?_)
  rw [vb_has_and, vb_has_and, vb_has_not _ hu, vb_has_not _ hu, decide_eq_false (by omega)]
  cases vb_has (vb_nb ℓ fr) u <;> cases vb_has own u <;> cases vb_has foe u <;> rfl
theorem c_takers {own foe ev : Int32} {v : Nat} (hL : vb_isL P S L) (hD : vb_LD ℓ L I) (hd : 3 ≤ d) (hv : v < vb_n ℓ) : mm_C G d 25 [.ref L, .int own, .int foe, .int (vb_i v), .int ev] (I, P, J, S, nc, ns) (vb_R (some (.int (vb_tk ℓ own foe v ev))) (fun I' => vb_fr (vb_sc2 L) I I') P J S nc ns) := by
  have hn := vl_10 hD
  have loop := vb_down (p := fun i => ∀ (I1 : Nat → Nat → Int32), vb_fr (vb_sc2 L) I I1 → mm_W G d 25 (mm_blk 25 16) [.ref L, .int own, .int foe, .int (vb_i v), .int ev, .int (vb_set i (fun fr => vb_has (vb_nb ℓ v &&& foe) fr && vb_take ℓ foe own fr v ev)), .int (vb_nb ℓ v &&& foe), .int (vb_i i)] [] (I1, P, J, S, nc, ns) (vb_R (some (.int (vb_tk ℓ own foe v ev))) (fun I' => vb_fr (vb_sc2 L) I I') P J S nc ns)) (vb_n ℓ) (by
    intro i hi ih I1 hs1
    have hD1 := hD.fr (vb_s2 hs1)
    refine mm_w1 rfl ?_
    refine mm_w1 rfl ?_
    refine mm_wgiv (vb_i (vb_n ℓ)) (vL_S0 hL) (by decide) (by decide) (vl_n hD1) ?_
    refine mm_nicge (by omega) (by omega) ?_ ?_
    · intro h22
      refine mm_w1 rfl ?_
      refine mm_wr rfl rfl rfl ?_
      have e : i = vb_n ℓ := by omega
      subst e
      exact ⟨I1, hs1, rfl⟩
    · intro h22
      refine mm_w1 rfl ?_
      refine mm_w1 rfl ?_
      refine mm_csp rfl (by decide) (by omega) (c_has (by omega)) ?_
      refine mm_bifeq ?_ ?_
      · intro h32
        refine mm_nincL (ls' := [_, _, _, _, _, _, _, _]) 1 rfl (by decide) rfl ?_
        refine mm_wgoto ?_
        have ih := ih (by omega) _ (by first | exact hs2 | exact hs1)
        simp only [vb_set, h32, Bool.false_and, Bool.true_and, Bool.false_eq_true, if_false] at ih
        first | exact ih | (simp only [h50, if_true] at ih; exact ih) | (simp only [h50, Bool.false_eq_true, if_false] at ih; exact ih)
      · intro h32
        refine mm_w1 rfl ?_
        refine mm_w1 rfl ?_
        refine mm_w1 rfl ?_
        refine mm_wv (vb_i 100) rfl (by decide) ?_
        refine mm_w1 rfl ?_
        refine mm_nmul ?_
        refine mm_w1 rfl ?_
        refine mm_nadd ?_
        refine mm_w1 rfl ?_
        refine mm_cvi (vb_cv (vL_S0 hL) rfl rfl rfl rfl) (by decide) (by omega) (c_mayTake (ℓ := ℓ) hL hD1 (by omega) (by omega) hv) ?_
        intro I2 hf2
        have hs2 := hs1.tr hf2 
        refine mm_bifeq ?_ ?_
        · intro h50
          refine mm_nincL (ls' := [_, _, _, _, _, _, _, _]) 1 rfl (by decide) rfl ?_
          refine mm_wgoto ?_
          have ih := ih (by omega) _ (by first | exact hs2 | exact hs1)
          simp only [vb_set, h32, Bool.false_and, Bool.true_and, Bool.false_eq_true, if_false] at ih
          first | exact ih | (simp only [h50, if_true] at ih; exact ih) | (simp only [h50, Bool.false_eq_true, if_false] at ih; exact ih)
        · intro h50
          refine mm_w1 rfl ?_
          refine mm_wv (vb_i 1) rfl (by decide) ?_
          refine mm_w1 rfl ?_
          refine mm_nbit (by omega) ?_
          refine mm_w1 rfl ?_
          refine mm_w1 (ls' := [_, _, _, _, _, _, _, _]) rfl ?_
          refine mm_nincL (ls' := [_, _, _, _, _, _, _, _]) 1 rfl (by decide) rfl ?_
          refine mm_wgoto ?_
          have ih := ih (by omega) _ (by first | exact hs2 | exact hs1)
          simp only [vb_set, h32, Bool.false_and, Bool.true_and, Bool.false_eq_true, if_false] at ih
          first | exact ih | (simp only [h50, if_true] at ih; exact ih) | (simp only [h50, Bool.false_eq_true, if_false] at ih; exact ih)
    )
  show mm_W _ _ 25 (mm_blk 25 0) [.ref L, .int own, .int foe, .int (vb_i v), .int ev, .null, .null, .null] [] _ _
  refine mm_wv (vb_i 0) rfl (by decide) ?_
  refine mm_w1 (ls' := [_, _, _, _, _, _, _, _]) rfl ?_
  refine mm_w1 rfl ?_
  refine mm_wgr (vL_S0 hL) (by decide) (by decide) (vL_P0_6 hL) (vL_a3 hL) ?_
  refine mm_w1 rfl ?_
  refine mm_wiav _ (vL_a3 hL) (vL_S3 hL) (by decide) (by omega) (vl_nb hD (by omega)) ?_
  refine mm_w1 rfl ?_
  refine mm_w1 rfl ?_
  refine mm_w1 (ls' := [_, _, _, _, _, _, _, _]) rfl ?_
  refine mm_wv (vb_i 0) rfl (by decide) ?_
  refine mm_w1 (ls' := [_, _, _, _, _, _, _, _]) rfl ?_
  exact loop 0 (by omega) I vb_fr.rf
theorem c_enPrise {own foe ev : Int32} (hL : vb_isL P S L) (hD : vb_LD ℓ L I) (hd : 4 ≤ d) : mm_C G d 26 [.ref L, .int own, .int foe, .int ev] (I, P, J, S, nc, ns) (vb_R (some (.int (vb_ep ℓ own foe ev))) (fun I' => vb_fr (vb_sc2 L) I I') P J S nc ns) := by
  have hn := vl_10 hD
  have loop := vb_down (p := fun i => ∀ (I1 : Nat → Nat → Int32), vb_fr (vb_sc2 L) I I1 → mm_W G d 26 (mm_blk 26 6) [.ref L, .int own, .int foe, .int ev, .int (vb_set i (fun v => vb_has own v && !(vb_tk ℓ own foe v ev == 0))), .int (vb_i i)] [] (I1, P, J, S, nc, ns) (vb_R (some (.int (vb_ep ℓ own foe ev))) (fun I' => vb_fr (vb_sc2 L) I I') P J S nc ns)) (vb_n ℓ) (by
    intro i hi ih I1 hs1
    have hD1 := hD.fr (vb_s2 hs1)
    refine mm_w1 rfl ?_
    refine mm_w1 rfl ?_
    refine mm_wgiv (vb_i (vb_n ℓ)) (vL_S0 hL) (by decide) (by decide) (vl_n hD1) ?_
    refine mm_nicge (by omega) (by omega) ?_ ?_
    · intro h12
      refine mm_w1 rfl ?_
      refine mm_wr rfl rfl rfl ?_
      have e : i = vb_n ℓ := by omega
      subst e
      exact ⟨I1, hs1, rfl⟩
    · intro h12
      refine mm_w1 rfl ?_
      refine mm_w1 rfl ?_
      refine mm_csp rfl (by decide) (by omega) (c_has (by omega)) ?_
      refine mm_bifeq ?_ ?_
      · intro h21
        refine mm_nincL (ls' := [_, _, _, _, _, _]) 1 rfl (by decide) rfl ?_
        refine mm_wgoto ?_
        have ih := ih (by omega) _ (by first | exact hs2 | exact hs1)
        simp only [vb_set, h21, Bool.false_and, Bool.true_and, Bool.false_eq_true, if_false] at ih
        first | exact ih | (simp only [vb_eqb h33, Bool.not_true, Bool.false_eq_true, if_false] at ih; exact ih) | (simp only [vb_neb h33, Bool.not_false, if_true] at ih; exact ih)
      · intro h21
        refine mm_w1 rfl ?_
        refine mm_w1 rfl ?_
        refine mm_w1 rfl ?_
        refine mm_w1 rfl ?_
        refine mm_w1 rfl ?_
        refine mm_cvi (vb_cv (vL_S0 hL) rfl rfl rfl rfl) (by decide) (by omega) (c_takers (ℓ := ℓ) hL hD1 (by omega) (by omega)) ?_
        intro I2 hf2
        have hs2 := hs1.tr hf2
        refine mm_wifeq ?_ ?_
        · intro h33
          refine mm_nincL (ls' := [_, _, _, _, _, _]) 1 rfl (by decide) rfl ?_
          refine mm_wgoto ?_
          have ih := ih (by omega) _ (by first | exact hs2 | exact hs1)
          simp only [vb_set, h21, Bool.false_and, Bool.true_and, Bool.false_eq_true, if_false] at ih
          first | exact ih | (simp only [vb_eqb h33, Bool.not_true, Bool.false_eq_true, if_false] at ih; exact ih) | (simp only [vb_neb h33, Bool.not_false, if_true] at ih; exact ih)
        · intro h33
          refine mm_w1 rfl ?_
          refine mm_wv (vb_i 1) rfl (by decide) ?_
          refine mm_w1 rfl ?_
          refine mm_nbit (by omega) ?_
          refine mm_w1 rfl ?_
          refine mm_w1 (ls' := [_, _, _, _, _, _]) rfl ?_
          refine mm_nincL (ls' := [_, _, _, _, _, _]) 1 rfl (by decide) rfl ?_
          refine mm_wgoto ?_
          have ih := ih (by omega) _ (by first | exact hs2 | exact hs1)
          simp only [vb_set, h21, Bool.false_and, Bool.true_and, Bool.false_eq_true, if_false] at ih
          first | exact ih | (simp only [vb_eqb h33, Bool.not_true, Bool.false_eq_true, if_false] at ih; exact ih) | (simp only [vb_neb h33, Bool.not_false, if_true] at ih; exact ih)
    )
  show mm_W _ _ 26 (mm_blk 26 0) [.ref L, .int own, .int foe, .int ev, .null, .null] [] _ _
  refine mm_wv (vb_i 0) rfl (by decide) ?_
  refine mm_w1 (ls' := [_, _, _, _, _, _]) rfl ?_
  refine mm_wv (vb_i 0) rfl (by decide) ?_
  refine mm_w1 (ls' := [_, _, _, _, _, _]) rfl ?_
  exact loop 0 (by omega) I vb_fr.rf
theorem c_list {own foe ev : Int32} (hL : vb_isL P S L) (hD : vb_LD ℓ L I) (hd : 4 ≤ d) : mm_C G d 27 [.ref L, .int own, .int foe, .int ev] (I, P, J, S, nc, ns) (vb_R (some (.int (vb_i (vb_ms ℓ own foe ev).length))) (fun I' => vb_fr (vb_scr L) I I' ∧ ∀ j x, (vb_ms ℓ own foe ev)[j]? = some x → I' (L + 5) j = vb_i (vb_mv x)) P J S nc ns) := by
  have hn := vl_10 hD
  have hlen := vb_ms_len (own := own) (foe := foe) (ev := ev) hn (vl_deg hD)
  have outer := vb_down (p := fun fr => ∀ (I1 : Nat → Nat → Int32) (pre : List Nat) (x6 x7 : Value) (h6 : x6.category = 1) (h7 : x7.category = 1), vb_fr (vb_scr L) I I1 → (∀ j x, pre[j]? = some x → I1 (L + 5) j = vb_i (vb_mv x)) → pre ++ vb_rs (vb_q ℓ own foe ev) (10 * fr) = vb_ms ℓ own foe ev → mm_W G d 27 (mm_blk 27 6) [.ref L, .int own, .int foe, .int ev, .int (vb_i pre.length), .int (vb_i fr), x6, x7] [] (I1, P, J, S, nc, ns) (vb_R (some (.int (vb_i (vb_ms ℓ own foe ev).length))) (fun I' => vb_fr (vb_scr L) I I' ∧ ∀ j x, (vb_ms ℓ own foe ev)[j]? = some x → I' (L + 5) j = vb_i (vb_mv x)) P J S nc ns)) (vb_n ℓ) (by
    intro fr hfr ihO I1 pre x6 x7 h6 h7 hs1 hpre heq
    have hD1 := hD.fr hs1
    have inner : fr < vb_n ℓ → ∀ tg : Int32, (∀ to, to < vb_n ℓ → vb_has tg to = vb_q ℓ own foe ev (10 * fr + to)) → ∀ to, to ≤ vb_n ℓ → ∀ (I1 : Nat → Nat → Int32) (pre : List Nat), vb_fr (vb_scr L) I I1 → (∀ j x, pre[j]? = some x → I1 (L + 5) j = vb_i (vb_mv x)) → pre ++ vb_rs (vb_q ℓ own foe ev) (10 * fr + to) = vb_ms ℓ own foe ev → mm_W G d 27 (mm_blk 27 42) [.ref L, .int own, .int foe, .int ev, .int (vb_i pre.length), .int (vb_i fr), .int tg, .int (vb_i to)] [] (I1, P, J, S, nc, ns) (vb_R (some (.int (vb_i (vb_ms ℓ own foe ev).length))) (fun I' => vb_fr (vb_scr L) I I' ∧ ∀ j x, (vb_ms ℓ own foe ev)[j]? = some x → I' (L + 5) j = vb_i (vb_mv x)) P J S nc ns) := by
      intro hfn tg htg
      refine vb_down (vb_n ℓ) ?_
      intro to hto ihI I1 pre hs1 hpre heq
      have hD1 := hD.fr hs1
      have hle : pre.length ≤ 36 := by
        have := congrArg List.length heq
        rw [List.length_append] at this; omega
      refine mm_w1 rfl ?_
      refine mm_w1 rfl ?_
      refine mm_wgiv (vb_i (vb_n ℓ)) (vL_S0 hL) (by decide) (by decide) (vl_n hD1) ?_
      refine mm_nicge (by omega) (by omega) ?_ ?_
      · intro h48
        refine mm_nincL (ls' := [_, _, _, _, _, _, _, _]) 1 rfl (by decide) rfl ?_
        refine mm_wgoto ?_
        have e : to = vb_n ℓ := by omega
        subst e
        rw [vb_rs_row hn] at heq
        exact ihO (by omega) I1 pre _ _ rfl rfl hs1 hpre heq
      · intro h48
        rw [vb_rs_cons (by omega), ← htg to (by omega)] at heq
        refine mm_w1 rfl ?_
        refine mm_w1 rfl ?_
        refine mm_csp rfl (by decide) (by omega) (c_has (by omega)) ?_
        refine mm_bifeq ?_ ?_
        · intro h58
          rw [h58, if_neg (by decide)] at heq
          refine mm_nincL (ls' := [_, _, _, _, _, _, _, _]) 1 rfl (by decide) rfl ?_
          refine mm_wgoto ?_
          exact ihI (by omega) I1 pre hs1 hpre heq
        · intro h58
          refine mm_w1 rfl ?_
          refine mm_w1 rfl ?_
          refine mm_wgr (vL_S0 hL) (by decide) (by decide) (vL_P0_8 hL) (vL_a5 hL) ?_
          refine mm_wal (vL_a5 hL) (vL_S5 hL) (by decide) ?_
          refine mm_nicge (by omega) (by omega) ?_ ?_
          · intro h68
            rw [h58, if_pos rfl] at heq
            have := congrArg List.length heq
            rw [List.length_append, List.length_cons] at this; omega
          · intro h68
            refine mm_w1 rfl ?_
            refine mm_wgr (vL_S0 hL) (by decide) (by decide) (vL_P0_8 hL) (vL_a5 hL) ?_
            refine mm_w1 rfl ?_
            refine mm_wv (vb_i 100) rfl (by decide) ?_
            refine mm_w1 rfl ?_
            refine mm_nmul ?_
            refine mm_w1 rfl ?_
            refine mm_nadd ?_
            refine mm_wis (vL_S5 hL) (by decide) (by omega) ?_
            refine mm_nincL (ls' := [_, _, _, _, _, _, _, _]) 1 rfl (by decide) rfl ?_
            refine mm_nincL (ls' := [_, _, _, _, _, _, _, _]) 1 rfl (by decide) rfl ?_
            refine mm_wgoto ?_
            rw [h58, if_pos rfl, show pre ++ (10 * fr + to) :: vb_rs (vb_q ℓ own foe ev) (10 * fr + to + 1) = (pre ++ [10 * fr + to]) ++ vb_rs (vb_q ℓ own foe ev) (10 * fr + to + 1) by simp] at heq
            have hl : (pre ++ [10 * fr + to]).length = pre.length + 1 := by simp
            have := ihI (by omega) (mm_up I1 (L + 5) pre.length (vb_i (100 * fr + to))) (pre ++ [10 * fr + to]) (hs1.up vs_5) (fun j x hj => ?_) heq
            · rw [hl] at this
              exact this
            · by_cases hjp : j < pre.length
              · rw [List.getElem?_append_left hjp] at hj
                rw [vb_up2 _ _ (by omega)]
                exact hpre j x hj
              · rw [List.getElem?_append_right (by omega)] at hj
                have e0 : j - pre.length = 0 := by
                  by_cases e : j - pre.length = 0
                  · exact e
                  · obtain ⟨q, hq⟩ : ∃ q, j - pre.length = q + 1 := ⟨j - pre.length - 1, by omega⟩
                    rw [hq] at hj; cases hj
                have ej : j = pre.length := by omega
                subst ej
                rw [Nat.sub_self] at hj
                cases hj
                rw [vb_up1, vb_mv_at (by omega)]  
    have hq : ∀ to, fr < vb_n ℓ → to < vb_n ℓ → vb_q ℓ own foe ev (10 * fr + to) = (vb_has own fr && vb_has (vb_law ℓ own foe fr ev) to) := fun to h1 h2 => vb_q_at hn h1 h2
    refine mm_w1 rfl ?_
    refine mm_w1 rfl ?_
    refine mm_wgiv (vb_i (vb_n ℓ)) (vL_S0 hL) (by decide) (by decide) (vl_n hD1) ?_
    refine mm_nicge (by omega) (by omega) ?_ ?_
    · intro h12
      refine mm_w1 rfl ?_
      refine mm_wr rfl rfl rfl ?_
      have e : fr = vb_n ℓ := by omega
      subst e
      rw [vb_rs_last hn, List.append_nil] at heq
      subst heq
      exact ⟨I1, ⟨hs1, hpre⟩, rfl⟩
    · intro h12
      refine mm_w1 rfl ?_
      refine mm_w1 rfl ?_
      refine mm_csp rfl (by decide) (by omega) (c_has (by omega)) ?_
      refine mm_bifeq ?_ ?_
      · intro h21
        refine mm_wv (vb_i 0) rfl (by decide) ?_
        refine mm_w1 (ls' := [_, _, _, _, _, _, _, _]) rfl ?_
        refine mm_wv (vb_i 0) rfl (by decide) ?_
        refine mm_w1 (ls' := [_, _, _, _, _, _, _, _]) rfl ?_
        refine inner (by omega) _ (fun to ht => ?_) 0 (by omega) _ pre (by first | exact hs2 | exact hs1) ?_ (by rw [Nat.add_zero]; exact heq)
        · rw [hq to (by omega) ht, h21]; first | rfl | (rw [show (vb_i 0 : Int32) = 0 from rfl, vb_has_0]; rfl)
        · first
            | exact hpre
            | (intro j x hj; rw [hk5]; exact hpre j x hj)
      · intro h21
        refine mm_w1 rfl ?_
        refine mm_w1 rfl ?_
        refine mm_w1 rfl ?_
        refine mm_w1 rfl ?_
        refine mm_w1 rfl ?_
        refine mm_cvi (vb_cv (vL_S0 hL) rfl rfl rfl rfl) (by decide) (by omega) (c_lawful (ℓ := ℓ) hL hD1 (by omega) (by omega)) ?_
        intro I2 hf2
        have hk5 : I2 (L + 5) = I1 (L + 5) := hf2 _ (by simp only [vb_sc2]; omega)
        have hs2 := hs1.tr (vb_s2 hf2) 
        refine mm_wgoto ?_
        refine mm_w1 (ls' := [_, _, _, _, _, _, _, _]) rfl ?_
        refine mm_wv (vb_i 0) rfl (by decide) ?_
        refine mm_w1 (ls' := [_, _, _, _, _, _, _, _]) rfl ?_
        refine inner (by omega) _ (fun to ht => ?_) 0 (by omega) _ pre (by first | exact hs2 | exact hs1) ?_ (by rw [Nat.add_zero]; exact heq)
        · rw [hq to (by omega) ht, h21]; first | rfl | (rw [show (vb_i 0 : Int32) = 0 from rfl, vb_has_0]; rfl)
        · first
            | exact hpre
            | (intro j x hj; rw [hk5]; exact hpre j x hj)
    )
  show mm_W _ _ 27 (mm_blk 27 0) [.ref L, .int own, .int foe, .int ev, .null, .null, .null, .null] [] _ _
  refine mm_wv (vb_i 0) rfl (by decide) ?_
  refine mm_w1 (ls' := [_, _, _, _, _, _, _, _]) rfl ?_
  refine mm_wv (vb_i 0) rfl (by decide) ?_
  refine mm_w1 (ls' := [_, _, _, _, _, _, _, _]) rfl ?_
  exact outer 0 (by omega) I [] _ _ rfl rfl vb_fr.rf (fun j x hj => absurd hj (by simp)) rfl
end WHAT
