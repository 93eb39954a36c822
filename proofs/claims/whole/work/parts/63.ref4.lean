section REF4
variable {G : mm_G} {d : Nat} {I : Nat → Nat → Int32} {P : Nat → Nat → Nat} {J : Nat → Nat → Int64} {S : List (Nat × Nat)} {nc ns : Nat} {μ : mm_M} {ℓ : vb_L} {x : vb_X} {b t : Nat}
/-- where a stone stands the other side has no flag -/
def vx_ws (x : vb_X) : Prop := ∀ s, s < 2 → ∀ v, vb_has (vx_s x (1 - s)) v = true → vb_has (vx_f x s) v = false
theorem vx_wf.fj (h : vx_wf ℓ x) : vx_dj (vx_f x) := h.2.1
theorem vx_wf.sj (h : vx_wf ℓ x) : vx_dj (vx_s x) := fun v hv => by
  cases e : vb_has (vx_s x 1) v with
  | false => rfl
  | true =>
    have h1 := h.2.2 0 (by decide) v hv
    have h2 := h.2.2 1 (by decide) v e
    rw [h.2.1 v h1] at h2; cases h2
theorem vx_wf.ws (h : vx_wf ℓ x) : vx_ws x := fun s hs v hv => by
  have h1 := h.2.2 (1 - s) (by omega) v hv
  exact vx_dis' h hs v h1
/-- whether a move may be done by a side -/
def vm_may (ℓ : vb_L) (x : vb_X) (sd m : Nat) : Bool := decide (m = 100) || vb_q ℓ (vx_s x sd) (vx_s x (1 - sd)) (vb_i (vx_e x)) m
theorem m_mayDo {m sd : Nat} (hM : vm_isM P S) (dM : vm_LD ℓ I) (hR : vm_row ℓ (I 76) b x t) (hb : b + 46 ≤ 276) (hli : vl_inv ℓ) (hlb : vl_bel ℓ) (hsj : vx_dj (vx_s x)) (hfj : vx_dj (vx_f x)) (hst : vx_ws x) (hd : 3 ≤ d) (hm : m ≤ 100) (hs : sd < 2) : mm_C G d 181 [.ref 60, .int (vb_i b), .int (vb_i m), .int (vb_i sd)] (I, P, J, S, nc, ns) (vb_R (some (.int (vb_b (vm_may ℓ x sd m)))) (fun I' => vb_fr vm_s8 I I') P J S nc ns) := by
  have hn := vm_10 dM
  have hin := vx_in2 (vx_s x) (m / 10)
  show mm_W _ _ 181 (mm_blk 181 0) [.ref 60, .int (vb_i b), .int (vb_i m), .int (vb_i sd)] [] _ _
  refine mm_w1 rfl ?_
  refine mm_wv (vb_i 100) rfl (by decide) ?_
  refine mm_nicne (by omega) (by omega) ?_ ?_
  · intro h3
    refine mm_w1 rfl ?_
    refine mm_wv (vb_i 10) rfl (by decide) ?_
    refine mm_ndiv (by omega) (by omega) (by omega) ?_
    refine mm_w1 rfl ?_
    refine mm_wgiv _ (vM_S60 hM) (by decide) (by decide) (vm_n dM) ?_
    refine mm_nicge (by omega) (by omega) ?_ ?_
    · intro h16
      refine mm_wv (vb_i 0) rfl (by decide) ?_
      refine mm_wr rfl rfl rfl ?_
      have hq : vm_may ℓ x sd m = vb_q ℓ (vx_s x sd) (vx_s x (1 - sd)) (vb_i (vx_e x)) m := by rw [vm_may, decide_eq_false h3, Bool.false_or]
      rw [hq, vb_q]
      first
        | (refine ⟨_, vb_fr.rf, ?_⟩; rw [decide_eq_false h16]; rfl)
        | (refine ⟨_, vb_fr.rf, ?_⟩; rw [decide_eq_false h27, Bool.and_false]; rfl)
        | (refine ⟨_, vb_fr.rf, ?_⟩; rw [← vx_in_dec hsj hs, decide_eq_false h44, Bool.and_false]; rfl)
        | (refine ⟨_, hF1, ?_⟩
           have ht : q_tgt ℓ x (m / 10) = vb_law ℓ (vx_s x sd) (vx_s x (1 - sd)) (m / 10) (vb_i (vx_e x)) := by rw [q_tgt, h44, if_neg (by omega)]
           rw [ht] at h60
           rw [decide_eq_true h16, decide_eq_true h27, ← vx_in_dec hsj hs, decide_eq_true h44, h60]; rfl)
    · intro h16
      refine mm_w1 rfl ?_
      refine mm_wv (vb_i 10) rfl (by decide) ?_
      refine mm_nrem (by omega) (by omega) (by omega) ?_
      refine mm_w1 rfl ?_
      refine mm_wgiv _ (vM_S60 hM) (by decide) (by decide) (vm_n dM) ?_
      refine mm_nicge (by omega) (by omega) ?_ ?_
      · intro h27
        refine mm_wv (vb_i 0) rfl (by decide) ?_
        refine mm_wr rfl rfl rfl ?_
        have hq : vm_may ℓ x sd m = vb_q ℓ (vx_s x sd) (vx_s x (1 - sd)) (vb_i (vx_e x)) m := by rw [vm_may, decide_eq_false h3, Bool.false_or]
        rw [hq, vb_q]
        first
          | (refine ⟨_, vb_fr.rf, ?_⟩; rw [decide_eq_false h16]; rfl)
          | (refine ⟨_, vb_fr.rf, ?_⟩; rw [decide_eq_false h27, Bool.and_false]; rfl)
          | (refine ⟨_, vb_fr.rf, ?_⟩; rw [← vx_in_dec hsj hs, decide_eq_false h44, Bool.and_false]; rfl)
          | (refine ⟨_, hF1, ?_⟩
             have ht : q_tgt ℓ x (m / 10) = vb_law ℓ (vx_s x sd) (vx_s x (1 - sd)) (m / 10) (vb_i (vx_e x)) := by rw [q_tgt, h44, if_neg (by omega)]
             rw [ht] at h60
             rw [decide_eq_true h16, decide_eq_true h27, ← vx_in_dec hsj hs, decide_eq_true h44, h60]; rfl)
      · intro h27
        refine mm_w1 rfl ?_
        refine mm_wgr (vM_S60 hM) (by decide) (by decide) (vM_P60_38 hM) (vM_a76 hM) ?_
        refine mm_w1 rfl ?_
        refine mm_wv (vb_i 0) rfl (by decide) ?_
        refine mm_nadd ?_
        refine mm_w1 rfl ?_
        refine mm_wv (vb_i 10) rfl (by decide) ?_
        refine mm_ndiv (by omega) (by omega) (by omega) ?_
        refine mm_nadd ?_
        refine mm_wiav _ (vM_a76 hM) (vM_S76 hM) (by decide) (by omega) (vm_rs hR (by omega)) ?_
        refine mm_w1 rfl ?_
        refine mm_nicne (by omega) (by omega) ?_ ?_
        · intro h44
          refine mm_wv (vb_i 0) rfl (by decide) ?_
          refine mm_wr rfl rfl rfl ?_
          have hq : vm_may ℓ x sd m = vb_q ℓ (vx_s x sd) (vx_s x (1 - sd)) (vb_i (vx_e x)) m := by rw [vm_may, decide_eq_false h3, Bool.false_or]
          rw [hq, vb_q]
          first
            | (refine ⟨_, vb_fr.rf, ?_⟩; rw [decide_eq_false h16]; rfl)
            | (refine ⟨_, vb_fr.rf, ?_⟩; rw [decide_eq_false h27, Bool.and_false]; rfl)
            | (refine ⟨_, vb_fr.rf, ?_⟩; rw [← vx_in_dec hsj hs, decide_eq_false h44, Bool.and_false]; rfl)
            | (refine ⟨_, hF1, ?_⟩
               have ht : q_tgt ℓ x (m / 10) = vb_law ℓ (vx_s x sd) (vx_s x (1 - sd)) (m / 10) (vb_i (vx_e x)) := by rw [q_tgt, h44, if_neg (by omega)]
               rw [ht] at h60
               rw [decide_eq_true h16, decide_eq_true h27, ← vx_in_dec hsj hs, decide_eq_true h44, h60]; rfl)
        · intro h44
          refine mm_w1 rfl ?_
          refine mm_w1 rfl ?_
          refine mm_w1 rfl ?_
          refine mm_wv (vb_i 10) rfl (by decide) ?_
          refine mm_ndiv (by omega) (by omega) (by omega) ?_
          refine mm_w1 rfl ?_
          refine mm_wv (vb_i 10) rfl (by decide) ?_
          refine mm_nrem (by omega) (by omega) (by omega) ?_
          refine mm_cvi (vb_cv (vM_S60 hM) rfl rfl rfl rfl) (by decide) (by omega) (m_mayGo hM dM hR hb hli hlb hsj hfj (fun s hs h => hst s hs _ h) (by omega) h16 h27) ?_
          intro I1 hF1 
          refine mm_bifeq ?_ ?_
          · intro h60
            refine mm_wv (vb_i 0) rfl (by decide) ?_
            refine mm_wr rfl rfl rfl ?_
            have hq : vm_may ℓ x sd m = vb_q ℓ (vx_s x sd) (vx_s x (1 - sd)) (vb_i (vx_e x)) m := by rw [vm_may, decide_eq_false h3, Bool.false_or]
            rw [hq, vb_q]
            first
              | (refine ⟨_, vb_fr.rf, ?_⟩; rw [decide_eq_false h16]; rfl)
              | (refine ⟨_, vb_fr.rf, ?_⟩; rw [decide_eq_false h27, Bool.and_false]; rfl)
              | (refine ⟨_, vb_fr.rf, ?_⟩; rw [← vx_in_dec hsj hs, decide_eq_false h44, Bool.and_false]; rfl)
              | (refine ⟨_, hF1, ?_⟩
                 have ht : q_tgt ℓ x (m / 10) = vb_law ℓ (vx_s x sd) (vx_s x (1 - sd)) (m / 10) (vb_i (vx_e x)) := by rw [q_tgt, h44, if_neg (by omega)]
                 rw [ht] at h60
                 rw [decide_eq_true h16, decide_eq_true h27, ← vx_in_dec hsj hs, decide_eq_true h44, h60]; rfl)
          · intro h60
            refine mm_wv (vb_i 1) rfl (by decide) ?_
            refine mm_wgoto ?_
            refine mm_wr rfl rfl rfl ?_
            have hq : vm_may ℓ x sd m = vb_q ℓ (vx_s x sd) (vx_s x (1 - sd)) (vb_i (vx_e x)) m := by rw [vm_may, decide_eq_false h3, Bool.false_or]
            rw [hq, vb_q]
            first
              | (refine ⟨_, vb_fr.rf, ?_⟩; rw [decide_eq_false h16]; rfl)
              | (refine ⟨_, vb_fr.rf, ?_⟩; rw [decide_eq_false h27, Bool.and_false]; rfl)
              | (refine ⟨_, vb_fr.rf, ?_⟩; rw [← vx_in_dec hsj hs, decide_eq_false h44, Bool.and_false]; rfl)
              | (refine ⟨_, hF1, ?_⟩
                 have ht : q_tgt ℓ x (m / 10) = vb_law ℓ (vx_s x sd) (vx_s x (1 - sd)) (m / 10) (vb_i (vx_e x)) := by rw [q_tgt, h44, if_neg (by omega)]
                 rw [ht] at h60
                 rw [decide_eq_true h16, decide_eq_true h27, ← vx_in_dec hsj hs, decide_eq_true h44, h60]; rfl)
  · intro h3
    refine mm_wv (vb_i 1) rfl (by decide) ?_
    refine mm_wr rfl rfl rfl ?_
    refine ⟨_, vb_fr.rf, ?_⟩
    rw [vm_may, decide_eq_true h3]; rfl
theorem vx_in_bs (hsj : vx_dj (vx_s x)) {sd fr to v : Nat} (hs : sd < 2) (hfr : fr < 32) (hto : to < 32) (hv : v < 32) (hh : vb_has (vx_s x sd) fr = true) (hne : fr ≠ to) : vx_in (vx_s (vx_bring x sd fr to)) v = if v = fr then 2 else if v = to then sd else vx_in (vx_s x) v := by
  have hs2 : sd = 0 ∨ sd = 1 := by omega
  have e : ∀ j, vx_s (vx_bring x sd fr to) j = if j = sd then (vx_s x j &&& ~~~ vb_bit fr) ||| vb_bit to else vx_s x j &&& ~~~ vb_bit to := fun _ => rfl
  have b1 : vb_has (vb_bit to) v = decide (v = to) := vb_has_bit hto
  have b2 : vb_has (vb_bit fr) v = decide (v = fr) := vb_has_bit hfr
  simp only [vx_in, e]
  rcases hs2 with rfl | rfl
  · rw [if_pos rfl, if_neg (by decide : ¬ 1 = 0), vb_has_or, vb_has_and, vb_has_and, vb_has_not _ hv, vb_has_not _ hv, b1, b2]
    by_cases h1 : v = fr
    · subst h1
      have h0 := hsj v hh
      rw [h0, decide_eq_true rfl, decide_eq_false hne, if_pos rfl]; simp
    · by_cases h2 : v = to
      · subst h2; rw [decide_eq_true rfl, if_neg h1, if_pos rfl]; simp
      · rw [decide_eq_false h1, decide_eq_false h2, if_neg h1, if_neg h2]; simp
  · rw [if_pos rfl, if_neg (by decide : ¬ 0 = 1), vb_has_or, vb_has_and, vb_has_and, vb_has_not _ hv, vb_has_not _ hv, b1, b2]
    by_cases h1 : v = fr
    · subst h1
      have h0 : vb_has (vx_s x 0) v = false := vb_dis_sw hsj v hh
      rw [h0, decide_eq_true rfl, decide_eq_false hne, if_pos rfl]; simp
    · by_cases h2 : v = to
      · subst h2; rw [decide_eq_true rfl, if_neg h1, if_pos rfl]; simp
      · rw [decide_eq_false h1, decide_eq_false h2, if_neg h1, if_neg h2]; simp
theorem vx_in_bf {sd fr to v : Nat} (hs : sd < 2) (hto : to < 32) (hv : v < 32) : vx_in (vx_f (vx_bring x sd fr to)) v = if v = to then sd else vx_in (vx_f x) v := by
  have hs2 : sd = 0 ∨ sd = 1 := by omega
  have e : ∀ j, vx_f (vx_bring x sd fr to) j = if j = sd then vx_f x j ||| vb_bit to else vx_f x j &&& ~~~ vb_bit to := fun _ => rfl
  have b1 : vb_has (vb_bit to) v = decide (v = to) := vb_has_bit hto
  simp only [vx_in, e]
  rcases hs2 with rfl | rfl
  · rw [if_pos rfl, if_neg (by decide : ¬ 1 = 0), vb_has_or, vb_has_and, vb_has_not _ hv, b1]
    by_cases h2 : v = to
    · subst h2; rw [decide_eq_true rfl, if_pos rfl]; simp
    · rw [decide_eq_false h2, if_neg h2]; simp
  · rw [if_pos rfl, if_neg (by decide : ¬ 0 = 1), vb_has_or, vb_has_and, vb_has_not _ hv, b1]
    by_cases h2 : v = to
    · subst h2; rw [decide_eq_true rfl, if_pos rfl]; simp
    · rw [decide_eq_false h2, if_neg h2]; simp
theorem m_brings {sd fr to : Nat} (hM : vm_isM P S) (dM : vm_LD ℓ I) (hR : vm_row ℓ (I 76) b x t) (hb : b + 46 ≤ 276) (hsj : vx_dj (vx_s x)) (hfr : fr < vb_n ℓ) (hto : to < vb_n ℓ) (hs : sd < 2) (hsd : vx_in (vx_s x) fr = sd) (hne : fr ≠ to) : mm_C G d 182 [.ref 60, .int (vb_i b), .int (vb_i fr), .int (vb_i to)] (I, P, J, S, nc, ns) (vb_R none (fun I' => vm_row ℓ (I' 76) b (vx_bring x sd fr to) t ∧ (∀ j, ¬ (b ≤ j ∧ j < b + 46) → I' 76 j = I 76 j) ∧ vb_fr (fun a => a = 76) I I') P J S nc ns) := by
  have hn := vm_10 dM
  have hh := (vx_in_eq hsj hs).mp hsd
  show mm_W _ _ 182 (mm_blk 182 0) [.ref 60, .int (vb_i b), .int (vb_i fr), .int (vb_i to)] [] _ _
  refine mm_w1 rfl ?_
  refine mm_wgr (vM_S60 hM) (by decide) (by decide) (vM_P60_38 hM) (vM_a76 hM) ?_
  refine mm_w1 rfl ?_
  refine mm_wv (vb_i 0) rfl (by decide) ?_
  refine mm_nadd ?_
  refine mm_w1 rfl ?_
  refine mm_nadd ?_
  refine mm_w1 rfl ?_
  refine mm_wgr (vM_S60 hM) (by decide) (by decide) (vM_P60_38 hM) (vM_a76 hM) ?_
  refine mm_w1 rfl ?_
  refine mm_wv (vb_i 0) rfl (by decide) ?_
  refine mm_nadd ?_
  refine mm_w1 rfl ?_
  refine mm_nadd ?_
  refine mm_wiav (vb_i sd) (vM_a76 hM) (vM_S76 hM) (by decide) (by omega) (by rw [vm_rs hR hfr, hsd]) ?_
  refine mm_wis (vM_S76 hM) (by decide) (by omega) ?_
  refine mm_w1 rfl ?_
  refine mm_wgr (vM_S60 hM) (by decide) (by decide) (vM_P60_38 hM) (vM_a76 hM) ?_
  refine mm_w1 rfl ?_
  refine mm_wv (vb_i 10) rfl (by decide) ?_
  refine mm_nadd ?_
  refine mm_w1 rfl ?_
  refine mm_nadd ?_
  refine mm_w1 rfl ?_
  refine mm_wgr (vM_S60 hM) (by decide) (by decide) (vM_P60_38 hM) (vM_a76 hM) ?_
  refine mm_w1 rfl ?_
  refine mm_wv (vb_i 0) rfl (by decide) ?_
  refine mm_nadd ?_
  refine mm_w1 rfl ?_
  refine mm_nadd ?_
  refine mm_wiav (vb_i sd) (vM_a76 hM) (vM_S76 hM) (by decide) (by omega) (by rw [vb_up2 _ _ (by omega), vm_rs hR hfr, hsd]) ?_
  refine mm_wis (vM_S76 hM) (by decide) (by omega) ?_
  refine mm_w1 rfl ?_
  refine mm_wgr (vM_S60 hM) (by decide) (by decide) (vM_P60_38 hM) (vM_a76 hM) ?_
  refine mm_w1 rfl ?_
  refine mm_wv (vb_i 0) rfl (by decide) ?_
  refine mm_nadd ?_
  refine mm_w1 rfl ?_
  refine mm_nadd ?_
  refine mm_wv (vb_i 2) rfl (by decide) ?_
  refine mm_wis (vM_S76 hM) (by decide) (by omega) ?_
  refine mm_wr rfl rfl rfl ?_
  obtain ⟨h1, h2, h3, h4, h5, h6, h7, h8, h9⟩ := hR
  refine ⟨_, ⟨⟨?_, ?_, ?_, ?_, ?_, ?_, ?_, h8, h9⟩, ?_, ((vb_fr.rf.up1).up1).up1⟩, rfl⟩
  · intro v hv
    rw [vx_in_bs hsj hs (by omega) (by omega) (by omega) hh hne]
    by_cases e1 : v = fr
    · subst e1; rw [vb_up1, if_pos rfl]
    · rw [vb_up2 _ _ (by omega), vb_up2 _ _ (by omega), if_neg e1]
      by_cases e2 : v = to
      · subst e2; rw [vb_up1, if_pos rfl]
      · rw [vb_up2 _ _ (by omega), if_neg e2]; exact h1 v hv
  · intro v hv
    rw [vx_in_bf hs (by omega) (by omega), vb_up2 _ _ (by omega)]
    by_cases e2 : v = to
    · subst e2; rw [vb_up1, if_pos rfl]
    · rw [vb_up2 _ _ (by omega), vb_up2 _ _ (by omega), if_neg e2]; exact h2 v hv
  · intro j hj; rw [vb_up2 _ _ (by omega), vb_up2 _ _ (by omega), vb_up2 _ _ (by omega)]; exact h3 j hj
  · intro j hj; rw [vb_up2 _ _ (by omega), vb_up2 _ _ (by omega), vb_up2 _ _ (by omega)]; exact h4 j hj
  · rw [vb_up2 _ _ (by omega), vb_up2 _ _ (by omega), vb_up2 _ _ (by omega)]; exact h5
  · rw [vb_up2 _ _ (by omega), vb_up2 _ _ (by omega), vb_up2 _ _ (by omega)]; exact h6
  · intro j hj; rw [vb_up2 _ _ (by omega), vb_up2 _ _ (by omega), vb_up2 _ _ (by omega)]; exact h7 j hj
  · intro j hj; rw [vb_up2 _ _ (by omega), vb_up2 _ _ (by omega), vb_up2 _ _ (by omega)]
theorem vx_cap2 (a : Int32) : (if vb_i 9999 < a then vb_i 9999 else a) = vx_cap a := by
  simp only [vx_cap]
  by_cases h1 : a < vb_i 9999
  · rw [if_pos h1, if_neg]
    rw [Int32.lt_iff_toInt_lt] at h1 ⊢; omega
  · rw [if_neg h1]
    by_cases h2 : vb_i 9999 < a
    · rw [if_pos h2]
    · rw [if_neg h2]
      apply Int32.toInt_inj.mp
      rw [Int32.lt_iff_toInt_lt] at h1 h2; omega
/-- a move that may be done by a side, or a pass -/
def vm_ok1 (ℓ : vb_L) (x : vb_X) (t m : Nat) : Prop := m = 100 ∨ (m < 100 ∧ m / 10 < vb_n ℓ ∧ m % 10 < vb_n ℓ ∧ m / 10 ≠ m % 10 ∧ vx_in (vx_s x) (m / 10) = t)
theorem vx_pay_in (ℓ : vb_L) (x : vb_X) (i v : Nat) : vx_in (vx_f (vx_pay ℓ x i)) v = vx_in (vx_f x) v := by rw [vx_pay_f]
theorem m_does {m : Nat} (hM : vm_isM P S) (dM : vm_LD ℓ I) (hR : vm_row ℓ (I 76) b x t) (hb : b + 46 ≤ 276) (hsj : vx_dj (vx_s x)) (hd : 1 ≤ d) (hm : vm_ok1 ℓ x t m) (he : vx_e x < 2000) : mm_C G d 183 [.ref 60, .int (vb_i b), .int (vb_i m)] (I, P, J, S, nc, ns) (vb_R none (fun I' => vm_row ℓ (I' 76) b (vx_doT ℓ x t m) (1 - t) ∧ (∀ j, ¬ (b ≤ j ∧ j < b + 46) → I' 76 j = I 76 j) ∧ vb_fr (fun a => a = 76) I I') P J S nc ns) := by
  have hn := vm_10 dM
  have ht := vm_r2 hR
  obtain ⟨y, hy⟩ : ∃ y, y = (if m = 100 then x else vx_bring x t (m / 10) (m % 10)) := ⟨_, rfl⟩
  have hdo : vx_doT ℓ x t m = vx_end ℓ y := by rw [vx_doT, hy]
  have hye : vx_e y = vx_e x := by rw [hy]; split <;> rfl
  rw [hdo]
  have hm100 : m ≤ 100 := by rcases hm with h | ⟨h, _⟩ <;> omega
  have loop := vb_down (p := fun i => ∀ (I1 : Nat → Nat → Int32) (y4 y5 : Value), y4.category = 1 → vm_row ℓ (I1 76) b (vx_pay ℓ y i) t → (∀ j, ¬ (b ≤ j ∧ j < b + 46) → I1 76 j = I 76 j) → vb_fr (fun a => a = 76) I I1 → mm_W G d 183 (mm_blk 183 21) [.ref 60, .int (vb_i b), .int (vb_i m), .int (vb_i i), y4, y5] [] (I1, P, J, S, nc, ns) (vb_R none (fun I' => vm_row ℓ (I' 76) b (vx_end ℓ y) (1 - t) ∧ (∀ j, ¬ (b ≤ j ∧ j < b + 46) → I' 76 j = I 76 j) ∧ vb_fr (fun a => a = 76) I I') P J S nc ns)) (vb_n ℓ) (by
    intro i hi ih I1 y4 y5 hy4 hR1 ho1 hf1
    have dM1 := dM.fr hf1 (fun a h1 h2 h3 => by omega)
    have hin := vx_in2 (vx_f (vx_pay ℓ y i)) i
    refine mm_w1 rfl ?_
    refine mm_w1 rfl ?_
    refine mm_wgiv _ (vM_S60 hM) (by decide) (by decide) (vm_n dM1) ?_
    refine mm_nicge (by omega) (by omega) ?_ ?_
    · intro h26
      refine mm_w1 rfl ?_
      refine mm_wgr (vM_S60 hM) (by decide) (by decide) (vM_P60_38 hM) (vM_a76 hM) ?_
      refine mm_w1 rfl ?_
      refine mm_wv (vb_i 42) rfl (by decide) ?_
      refine mm_nadd ?_
      refine mm_w1 rfl ?_
      refine mm_wiav _ (vM_a76 hM) (vM_S76 hM) (by decide) (by omega) (vm_re hR1) ?_
      refine mm_wv (vb_i 1) rfl (by decide) ?_
      refine mm_w1 rfl ?_
      refine mm_wis (vM_S76 hM) (by decide) (by omega) ?_
      refine mm_w1 rfl ?_
      refine mm_wgr (vM_S60 hM) (by decide) (by decide) (vM_P60_38 hM) (vM_a76 hM) ?_
      refine mm_w1 rfl ?_
      refine mm_wv (vb_i 43) rfl (by decide) ?_
      refine mm_nadd ?_
      refine mm_wv (vb_i 1) rfl (by decide) ?_
      refine mm_w1 rfl ?_
      refine mm_wgr (vM_S60 hM) (by decide) (by decide) (vM_P60_38 hM) (vM_a76 hM) ?_
      refine mm_w1 rfl ?_
      refine mm_wv (vb_i 43) rfl (by decide) ?_
      refine mm_nadd ?_
      refine mm_wiav (vb_i t) (vM_a76 hM) (vM_S76 hM) (by decide) (by omega) (by rw [vb_up2 _ _ (by omega)]; exact vm_ru hR1) ?_
      refine mm_nsub (by omega) ?_
      refine mm_wis (vM_S76 hM) (by decide) (by omega) ?_
      refine mm_wr rfl rfl rfl ?_
      have e : i = vb_n ℓ := by omega
      subst e
      have hpe := vx_pay_e ℓ y (vb_n ℓ)
      obtain ⟨h1, h2, h3, h4, h5, h6, h7, h8, h9⟩ := hR1
      refine ⟨_, ⟨⟨?_, ?_, ?_, ?_, ?_, ?_, ?_, by omega, ?_⟩, ?_, (hf1.up1).up1⟩, rfl⟩
      · intro v hv; rw [vb_up2 _ _ (by omega), vb_up2 _ _ (by omega)]; exact h1 v hv
      · intro v hv; rw [vb_up2 _ _ (by omega), vb_up2 _ _ (by omega)]; exact h2 v hv
      · intro j hj; rw [vb_up2 _ _ (by omega), vb_up2 _ _ (by omega)]; exact h3 j hj
      · intro j hj; rw [vb_up2 _ _ (by omega), vb_up2 _ _ (by omega)]; exact h4 j hj
      · rw [vb_up2 _ _ (by omega), vb_up1, vb_add]; rfl
      · rw [vb_up1]
      · intro j hj; rw [vb_up2 _ _ (by omega), vb_up2 _ _ (by omega)]; exact h7 j hj
      · rw [vx_end_e]; omega
      · intro j hj; rw [vb_up2 _ _ (by omega), vb_up2 _ _ (by omega)]; exact ho1 j hj
    · intro h26
      refine mm_w1 rfl ?_
      refine mm_wgr (vM_S60 hM) (by decide) (by decide) (vM_P60_38 hM) (vM_a76 hM) ?_
      refine mm_w1 rfl ?_
      refine mm_wv (vb_i 10) rfl (by decide) ?_
      refine mm_nadd ?_
      refine mm_w1 rfl ?_
      refine mm_nadd ?_
      refine mm_wiav _ (vM_a76 hM) (vM_S76 hM) (by decide) (by omega) (vm_rf hR1 (by omega)) ?_
      refine mm_w1 (ls' := [_, _, _, _, _, _]) rfl ?_
      refine mm_w1 rfl ?_
      refine mm_wv (vb_i 2) rfl (by decide) ?_
      refine mm_nicne (by omega) (by omega) ?_ ?_
      · intro h45
        refine mm_w1 rfl ?_
        refine mm_wgr (vM_S60 hM) (by decide) (by decide) (vM_P60_38 hM) (vM_a76 hM) ?_
        refine mm_w1 rfl ?_
        refine mm_wv (vb_i 40) rfl (by decide) ?_
        refine mm_nadd ?_
        refine mm_w1 rfl ?_
        refine mm_nadd ?_
        refine mm_wiav _ (vM_a76 hM) (vM_S76 hM) (by decide) (by omega) (vm_rt hR1 (by omega)) ?_
        refine mm_w1 rfl ?_
        refine mm_wgr (vM_S60 hM) (by decide) (by decide) (vM_P60_5 hM) (vM_a61 hM) ?_
        refine mm_w1 rfl ?_
        refine mm_wiav _ (vM_a61 hM) (vM_S61 hM) (by decide) (by omega) (vm_wo dM1 (by omega)) ?_
        refine mm_w1 rfl ?_
        refine mm_w1 (ls' := [_, _, _, _, _, _]) rfl ?_
        refine mm_w1 rfl ?_
        refine mm_wgr (vM_S60 hM) (by decide) (by decide) (vM_P60_38 hM) (vM_a76 hM) ?_
        refine mm_w1 rfl ?_
        refine mm_wv (vb_i 40) rfl (by decide) ?_
        refine mm_nadd ?_
        refine mm_w1 rfl ?_
        refine mm_nadd ?_
        refine mm_w1 rfl ?_
        refine mm_wv (vb_i 9999) rfl (by decide) ?_
        refine mm_wicle ?_ ?_
        · intro h88
          refine mm_w1 rfl ?_
          refine mm_wis (vM_S76 hM) (by decide) (by omega) ?_
          refine mm_w1 rfl ?_
          refine mm_wgr (vM_S60 hM) (by decide) (by decide) (vM_P60_38 hM) (vM_a76 hM) ?_
          refine mm_w1 rfl ?_
          refine mm_wv (vb_i 20) rfl (by decide) ?_
          refine mm_nadd ?_
          refine mm_wv (vb_i 10) rfl (by decide) ?_
          refine mm_w1 rfl ?_
          refine mm_nmul ?_
          refine mm_nadd ?_
          refine mm_w1 rfl ?_
          refine mm_nadd ?_
          refine mm_w1 rfl ?_
          refine mm_wiav (vx_b (vx_pay ℓ y i) (10 * vx_in (vx_f (vx_pay ℓ y i)) i + i)) (vM_a76 hM) (vM_S76 hM) (by decide) (by omega) (by rw [vb_up2 _ _ (by omega), Nat.add_assoc]; exact vm_rb hR1 (by omega)) ?_
          refine mm_wv (vb_i 1) rfl (by decide) ?_
          refine mm_w1 rfl ?_
          refine mm_wis (vM_S76 hM) (by decide) (by omega) ?_
          refine mm_nincL (ls' := [_, _, _, _, _, _]) 1 rfl (by decide) rfl ?_
          refine mm_wgoto ?_
          obtain ⟨h1, h2, h3, h4, h5, h6, h7, h8, h9⟩ := hR1
          refine ih (by omega) _ _ _ rfl ?_ ?_ (hf1.up1.up1)
          · simp only [vx_pay, vx_pay1]
            rw [if_neg h45]
            refine ⟨?_, ?_, ?_, ?_, ?_, ?_, ?_, h8, h9⟩
            · intro v hv; rw [vb_up2 _ _ (by omega), vb_up2 _ _ (by omega)]; exact h1 v hv
            · intro v hv; rw [vb_up2 _ _ (by omega), vb_up2 _ _ (by omega)]; exact h2 v hv
            · intro j hj
              show _ = if j = 10 * vx_in (vx_f (vx_pay ℓ y i)) i + i then _ else _
              by_cases e : j = 10 * vx_in (vx_f (vx_pay ℓ y i)) i + i
              · subst e; rw [if_pos rfl, ← Nat.add_assoc, vb_up1]
              · rw [if_neg e, vb_up2 _ _ (by omega), vb_up2 _ _ (by omega)]; exact h3 j hj
            · intro j hj
              show _ = if j = vx_in (vx_f (vx_pay ℓ y i)) i then _ else _
              rw [vb_up2 _ _ (by omega)]
              by_cases e : j = vx_in (vx_f (vx_pay ℓ y i)) i
              · subst e; rw [if_pos rfl, vb_up1, ← vx_cap2]
                first
                  | rw [if_neg h88]
                  | rw [if_pos h88]
              · rw [if_neg e, vb_up2 _ _ (by omega)]; exact h4 j hj
            · rw [vb_up2 _ _ (by omega), vb_up2 _ _ (by omega)]; exact h5
            · rw [vb_up2 _ _ (by omega), vb_up2 _ _ (by omega)]; exact h6
            · intro j hj; rw [vb_up2 _ _ (by omega), vb_up2 _ _ (by omega)]; exact h7 j hj
          · intro j hj; rw [vb_up2 _ _ (by omega), vb_up2 _ _ (by omega)]; exact ho1 j hj
        · intro h88
          refine mm_wv (vb_i 9999) rfl (by decide) ?_
          refine mm_wgoto ?_
          refine mm_wis (vM_S76 hM) (by decide) (by omega) ?_
          refine mm_w1 rfl ?_
          refine mm_wgr (vM_S60 hM) (by decide) (by decide) (vM_P60_38 hM) (vM_a76 hM) ?_
          refine mm_w1 rfl ?_
          refine mm_wv (vb_i 20) rfl (by decide) ?_
          refine mm_nadd ?_
          refine mm_wv (vb_i 10) rfl (by decide) ?_
          refine mm_w1 rfl ?_
          refine mm_nmul ?_
          refine mm_nadd ?_
          refine mm_w1 rfl ?_
          refine mm_nadd ?_
          refine mm_w1 rfl ?_
          refine mm_wiav (vx_b (vx_pay ℓ y i) (10 * vx_in (vx_f (vx_pay ℓ y i)) i + i)) (vM_a76 hM) (vM_S76 hM) (by decide) (by omega) (by rw [vb_up2 _ _ (by omega), Nat.add_assoc]; exact vm_rb hR1 (by omega)) ?_
          refine mm_wv (vb_i 1) rfl (by decide) ?_
          refine mm_w1 rfl ?_
          refine mm_wis (vM_S76 hM) (by decide) (by omega) ?_
          refine mm_nincL (ls' := [_, _, _, _, _, _]) 1 rfl (by decide) rfl ?_
          refine mm_wgoto ?_
          obtain ⟨h1, h2, h3, h4, h5, h6, h7, h8, h9⟩ := hR1
          refine ih (by omega) _ _ _ rfl ?_ ?_ (hf1.up1.up1)
          · simp only [vx_pay, vx_pay1]
            rw [if_neg h45]
            refine ⟨?_, ?_, ?_, ?_, ?_, ?_, ?_, h8, h9⟩
            · intro v hv; rw [vb_up2 _ _ (by omega), vb_up2 _ _ (by omega)]; exact h1 v hv
            · intro v hv; rw [vb_up2 _ _ (by omega), vb_up2 _ _ (by omega)]; exact h2 v hv
            · intro j hj
              show _ = if j = 10 * vx_in (vx_f (vx_pay ℓ y i)) i + i then _ else _
              by_cases e : j = 10 * vx_in (vx_f (vx_pay ℓ y i)) i + i
              · subst e; rw [if_pos rfl, ← Nat.add_assoc, vb_up1]
              · rw [if_neg e, vb_up2 _ _ (by omega), vb_up2 _ _ (by omega)]; exact h3 j hj
            · intro j hj
              show _ = if j = vx_in (vx_f (vx_pay ℓ y i)) i then _ else _
              rw [vb_up2 _ _ (by omega)]
              by_cases e : j = vx_in (vx_f (vx_pay ℓ y i)) i
              · subst e; rw [if_pos rfl, vb_up1, ← vx_cap2]
                first
                  | rw [if_neg h88]
                  | rw [if_pos h88]
              · rw [if_neg e, vb_up2 _ _ (by omega)]; exact h4 j hj
            · rw [vb_up2 _ _ (by omega), vb_up2 _ _ (by omega)]; exact h5
            · rw [vb_up2 _ _ (by omega), vb_up2 _ _ (by omega)]; exact h6
            · intro j hj; rw [vb_up2 _ _ (by omega), vb_up2 _ _ (by omega)]; exact h7 j hj
          · intro j hj; rw [vb_up2 _ _ (by omega), vb_up2 _ _ (by omega)]; exact ho1 j hj
      · intro h45
        refine mm_wgoto ?_
        refine mm_nincL (ls' := [_, _, _, _, _, _]) 1 rfl (by decide) rfl ?_
        refine mm_wgoto ?_
        refine ih (by omega) I1 _ _ rfl ?_ ho1 hf1
        simp only [vx_pay, vx_pay1]; rw [if_pos h45]; exact hR1 
    )
  show mm_W _ _ 183 (mm_blk 183 0) [.ref 60, .int (vb_i b), .int (vb_i m), .null, .null, .null] [] _ _
  refine mm_w1 rfl ?_
  refine mm_wv (vb_i 100) rfl (by decide) ?_
  refine mm_niceq (by omega) (by omega) ?_ ?_
  · intro h3
    refine mm_wv (vb_i 0) rfl (by decide) ?_
    refine mm_w1 (ls' := [_, _, _, _, _, _]) rfl ?_
    have hyx : y = x := by rw [hy, if_pos h3]
    exact loop 0 (by omega) I _ _ rfl (by rw [hyx]; exact hR) (fun j _ => rfl) vb_fr.rf
  · intro h3
    obtain ⟨m1, m2, m3, m4, m5⟩ := hm.resolve_left h3
    have hyx : y = vx_bring x t (m / 10) (m % 10) := by rw [hy, if_neg h3]
    refine mm_w1 rfl ?_
    refine mm_w1 rfl ?_
    refine mm_w1 rfl ?_
    refine mm_wv (vb_i 10) rfl (by decide) ?_
    refine mm_ndiv (by omega) (by omega) (by omega) ?_
    refine mm_w1 rfl ?_
    refine mm_wv (vb_i 10) rfl (by decide) ?_
    refine mm_nrem (by omega) (by omega) (by omega) ?_
    refine mm_cvn (vb_cv (vM_S60 hM) rfl rfl rfl rfl) (by decide) (by omega) (m_brings hM dM hR hb hsj m2 m3 ht m5 m4) ?_
    intro I1 hq1
    obtain ⟨hR1, ho1, hf1⟩ := hq1 
    refine mm_wv (vb_i 0) rfl (by decide) ?_
    refine mm_w1 (ls' := [_, _, _, _, _, _]) rfl ?_
    exact loop 0 (by omega) I1 _ _ rfl (by rw [hyx]; exact hR1) ho1 hf1 
end REF4
