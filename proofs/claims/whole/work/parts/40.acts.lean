/-! ACTS, SIGHTINGS -/
def vb_ac (A a : Nat) : Prop := a = A ∨ a = A + 1
def vb_tc (T a : Nat) : Prop := T ≤ a ∧ a < T + 3
def vb_AD (xs : List vb_X) (A : Nat) (I : Nat → Nat → Int32) : Prop := ∃ f, f < 40 ∧ I A 1 = vb_i f ∧ I A 2 = vb_i xs.length ∧ xs.length ≤ 40 ∧ ∀ i x, xs[i]? = some x → vx_row (I (A + 1)) ((f + i) % 40 * 29) x
def vb_keep (xs : List vb_X) (x : vb_X) : List vb_X := if xs.length < 40 then xs ++ [x] else xs.tail ++ [x]
def vb_TD (ss : List (Nat × Nat)) (T : Nat) (I : Nat → Nat → Int32) : Prop := I T 2 = vb_i ss.length ∧ ss.length ≤ 6 ∧ ∀ i p, ss[i]? = some p → I (T + 1) i = vb_i p.1 ∧ I (T + 2) i = vb_told p.2 ∧ p.1 < 30 ∧ p.2 ≤ 100
section
variable {xs : List vb_X} {ss : List (Nat × Nat)} {A T : Nat} {I I' : Nat → Nat → Int32} {F : Nat → Prop}
theorem vb_AD.kp (h : vb_AD xs A I) (h0 : I' A = I A) (h1 : I' (A + 1) = I (A + 1)) : vb_AD xs A I' := by
  simp only [vb_AD, h0, h1]; exact h
theorem vb_AD.fr (h : vb_AD xs A I) (hf : vb_fr F I I') (hd : ∀ j, j < 2 → ¬ F (A + j)) : vb_AD xs A I' := h.kp (hf _ (hd 0 (by decide))) (hf _ (hd 1 (by decide)))
theorem vb_TD.fr (h : vb_TD ss T I) (hf : vb_fr F I I') (hd : ∀ j, j < 3 → ¬ F (T + j)) : vb_TD ss T I' := by
  have h0 : I' T = I T := hf _ (hd 0 (by decide))
  have h1 := hf _ (hd 1 (by decide))
  have h2 := hf _ (hd 2 (by decide))
  simp only [vb_TD, h0, h1, h2]; exact h
theorem vb_AD.len (h : vb_AD xs A I) : I A 2 = vb_i xs.length := by obtain ⟨f, h1, h2, h3, h4, h5⟩ := h; exact h3
theorem vb_AD.le (h : vb_AD xs A I) : xs.length ≤ 40 := by obtain ⟨f, h1, h2, h3, h4, h5⟩ := h; exact h4
theorem vb_TD.len (h : vb_TD ss T I) : I T 2 = vb_i ss.length := h.1
theorem vb_TD.le (h : vb_TD ss T I) : ss.length ≤ 6 := h.2.1
theorem vb_keep_len (xs : List vb_X) (x : vb_X) (h : xs.length ≤ 40) : (vb_keep xs x).length ≤ 40 := by
  simp only [vb_keep]; split
  · simp; omega
  · simp; omega
theorem vb_app1 {α : Type} {l : List α} {i : Nat} {x y : α} (h : (l ++ [y])[i]? = some x) : (i < l.length ∧ l[i]? = some x) ∨ (i = l.length ∧ x = y) := by
  by_cases hi : i < l.length
  · rw [List.getElem?_append_left hi] at h; exact Or.inl ⟨hi, h⟩
  · rw [List.getElem?_append_right (by omega)] at h
    have : i - l.length = 0 := by
      by_cases e : i - l.length = 0
      · exact e
      · obtain ⟨q, hq⟩ : ∃ q, i - l.length = q + 1 := ⟨i - l.length - 1, by omega⟩
        rw [hq] at h; cases h
    rw [this] at h
    cases h
    exact Or.inr ⟨by omega, rfl⟩
end
section ACTS
variable {G : mm_G} {d : Nat} {I : Nat → Nat → Int32} {P : Nat → Nat → Nat} {J : Nat → Nat → Int64} {S : List (Nat × Nat)} {nc ns : Nat} {μ : mm_M} {ℓ : vb_L} {L : Nat}
variable {x y : vb_X} {X Y A B T U : Nat} {xs : List vb_X} {ss : List (Nat × Nat)}
theorem c_clrA (hA : vb_isA P S A) : mm_C G d 2 [.ref A] (I, P, J, S, nc, ns) (vb_R none (fun I' => vb_AD [] A I' ∧ vb_fr (vb_ac A) I I') P J S nc ns) := by
  show mm_W _ _ 2 (mm_blk 2 0) [.ref A] [] _ _
  refine mm_w1 rfl ?_
  refine mm_wv (vb_i 0) rfl (by decide) ?_
  refine mm_wpi (vA_S0 hA) (by decide) (by decide) ?_
  refine mm_w1 rfl ?_
  refine mm_wv (vb_i 0) rfl (by decide) ?_
  refine mm_wpi (vA_S0 hA) (by decide) (by decide) ?_
  refine mm_wr rfl rfl rfl ?_
  refine ⟨_, ⟨⟨0, by decide, ?_, ?_, by decide, fun i x h => by simp at h⟩, (vb_fr.rf.up (Or.inl rfl)).up (Or.inl rfl)⟩, rfl⟩
  · rw [vb_up2 _ _ (by omega), vb_up1]
  · rw [vb_up1]; rfl
theorem c_keep (hA : vb_isA P S A) (hX : vb_isX P S X) (dA : vb_AD xs A I) (dX : vb_XD x X I) (hd : 1 ≤ d) (hAX : A + 2 ≤ X ∨ X + 6 ≤ A) : mm_C G d 3 [.ref A, .ref X] (I, P, J, S, nc, ns) (vb_R none (fun I' => vb_AD (vb_keep xs x) A I' ∧ vb_fr (vb_ac A) I I') P J S nc ns) := by
  obtain ⟨f, hf, h1, h2, hl, hrow⟩ := dA
  show mm_W _ _ 3 (mm_blk 3 0) [.ref A, .ref X] [] _ _
  refine mm_w1 rfl ?_
  refine mm_w1 rfl ?_
  refine mm_wgr (vA_S0 hA) (by decide) (by decide) (vA_P0_0 hA) (vA_a1 hA) ?_
  refine mm_w1 rfl ?_
  refine mm_wgiv (vb_i f) (vA_S0 hA) (by decide) (by decide) (by first | exact h1 | (rw [hf1 A (by omega)]; exact h1)) ?_
  refine mm_w1 rfl ?_
  refine mm_wgiv (vb_i xs.length) (vA_S0 hA) (by decide) (by decide) (by first | exact h2 | (rw [hf1 A (by omega)]; exact h2)) ?_
  refine mm_nadd ?_
  refine mm_wv (vb_i 40) rfl (by decide) ?_
  refine mm_nrem (by omega) (by omega) (by omega) ?_
  refine mm_wv (vb_i 29) rfl (by decide) ?_
  refine mm_nmul ?_
  refine mm_cvn (vb_cv (vX_S0 hX) rfl rfl rfl rfl) (by decide) (by omega) (c_save hX hA dX (by omega) hAX) ?_
  intro I1 hq1
  obtain ⟨hr1, ho1, hf1⟩ := hq1
  have hrow1 : ∀ i x, i < 40 → (f + i) % 40 ≠ (f + xs.length) % 40 → xs[i]? = some x → vx_row (I1 (A + 1)) ((f + i) % 40 * 29) x := fun i x h3 h4 h5 => (hrow i x h5).kp (fun j h6 h7 => ho1 j (by omega)) 
  refine mm_w1 rfl ?_
  refine mm_wgiv (vb_i xs.length) (vA_S0 hA) (by decide) (by decide) (by first | exact h2 | (rw [hf1 A (by omega)]; exact h2)) ?_
  refine mm_wv (vb_i 40) rfl (by decide) ?_
  refine mm_nicge (by omega) (by omega) ?_ ?_
  · intro h29
    refine mm_w1 rfl ?_
    refine mm_w1 rfl ?_
    refine mm_wgiv (vb_i f) (vA_S0 hA) (by decide) (by decide) (by first | exact h1 | (rw [hf1 A (by omega)]; exact h1)) ?_
    refine mm_wv (vb_i 1) rfl (by decide) ?_
    refine mm_nadd ?_
    refine mm_wv (vb_i 40) rfl (by decide) ?_
    refine mm_nrem (by omega) (by omega) (by omega) ?_
    refine mm_wpi (vA_S0 hA) (by decide) (by decide) ?_
    refine mm_wr rfl rfl rfl ?_
    refine ⟨_, ⟨?_, (hf1.mono (fun a h => Or.inr h)).up (Or.inl rfl)⟩, rfl⟩
    have e40 : xs.length = 40 := by omega
    have hk : vb_keep xs x = xs.tail ++ [x] := if_neg h29
    have ht : xs.tail.length = 39 := by rw [List.length_tail]; omega
    rw [hk]
    refine ⟨(f + 1) % 40, by omega, ?_, ?_, by rw [List.length_append]; simp; omega, ?_⟩
    · rw [vb_up1]
    · rw [vb_up2 _ _ (by omega), hf1 A (by omega), List.length_append, ht, h2, e40]; rfl
    · intro i z hz
      rw [vb_up3 _ _ (by omega)]
      rcases vb_app1 hz with ⟨hi, hz2⟩ | ⟨hi, hz2⟩
      · rw [List.getElem?_tail] at hz2
        have := hrow1 (i + 1) z (by omega) (by omega) hz2
        rw [show ((f + 1) % 40 + i) % 40 = (f + (i + 1)) % 40 by omega]
        exact this
      · subst hz2
        rw [show ((f + 1) % 40 + i) % 40 = (f + xs.length) % 40 by omega]; exact hr1
  · intro h29
    refine mm_w1 rfl ?_
    refine mm_w1 rfl ?_
    refine mm_wgiv (vb_i xs.length) (vA_S0 hA) (by decide) (by decide) (by first | exact h2 | (rw [hf1 A (by omega)]; exact h2)) ?_
    refine mm_wv (vb_i 1) rfl (by decide) ?_
    refine mm_nadd ?_
    refine mm_wpi (vA_S0 hA) (by decide) (by decide) ?_
    refine mm_wgoto ?_
    refine mm_wr rfl rfl rfl ?_
    refine ⟨_, ⟨?_, (hf1.mono (fun a h => Or.inr h)).up (Or.inl rfl)⟩, rfl⟩
    have hk : vb_keep xs x = xs ++ [x] := if_pos h29
    rw [hk]
    refine ⟨f, hf, ?_, ?_, by rw [List.length_append]; simp; omega, ?_⟩
    · rw [vb_up2 _ _ (by omega), hf1 A (by omega)]; exact h1
    · rw [vb_up1, List.length_append]; rfl
    · intro i z hz
      rw [vb_up3 _ _ (by omega)]
      rcases vb_app1 hz with ⟨hi, hz2⟩ | ⟨hi, hz2⟩
      · exact hrow1 i z (by omega) (by omega) hz2
      · subst hi; subst hz2; exact hr1 
theorem c_back (hA : vb_isA P S A) (hX : vb_isX P S X) (dA : vb_AD (xs ++ [x]) A I) (hd : 1 ≤ d) (hAX : A + 2 ≤ X ∨ X + 6 ≤ A) : mm_C G d 4 [.ref A, .ref X] (I, P, J, S, nc, ns) (vb_R none (fun I' => vb_AD xs A I' ∧ vb_XD x X I' ∧ vb_fr (fun a => vb_ac A a ∨ vb_xc X a) I I') P J S nc ns) := by
  obtain ⟨f, hf, h1, h2, hl, hrow⟩ := dA
  rw [List.length_append, List.length_singleton] at h2 hl
  show mm_W _ _ 4 (mm_blk 4 0) [.ref A, .ref X] [] _ _
  refine mm_w1 rfl ?_
  refine mm_wgiv _ (vA_S0 hA) (by decide) (by decide) (by first | exact h2 | (rw [hI1, vb_up1])) ?_
  refine mm_nifle (by omega) ?_ ?_
  · intro h4
    exact absurd h4 (by omega)
  · intro h4
    refine mm_w1 rfl ?_
    refine mm_w1 rfl ?_
    refine mm_wgiv _ (vA_S0 hA) (by decide) (by decide) (by first | exact h2 | (rw [hI1, vb_up1])) ?_
    refine mm_wv (vb_i 1) rfl (by decide) ?_
    refine mm_nsub (by omega) ?_
    rw [Nat.add_sub_cancel] 
    refine mm_wpiN (vA_S0 hA) (by decide) (by decide) ?_
    intro I1 hI1
    refine mm_w1 rfl ?_
    refine mm_w1 rfl ?_
    refine mm_wgr (vA_S0 hA) (by decide) (by decide) (vA_P0_0 hA) (vA_a1 hA) ?_
    refine mm_w1 rfl ?_
    refine mm_wgiv (vb_i f) (vA_S0 hA) (by decide) (by decide) (by rw [hI1, vb_up2 _ _ (by omega)]; exact h1) ?_
    refine mm_w1 rfl ?_
    refine mm_wgiv _ (vA_S0 hA) (by decide) (by decide) (by first | exact h2 | (rw [hI1, vb_up1])) ?_
    refine mm_nadd ?_
    refine mm_wv (vb_i 40) rfl (by decide) ?_
    refine mm_nrem (by omega) (by omega) (by omega) ?_
    refine mm_wv (vb_i 29) rfl (by decide) ?_
    refine mm_nmul ?_
    refine mm_cvn (vb_cv (vX_S0 hX) rfl rfl rfl rfl) (by decide) (by omega) (c_load (x := x) hX hA (by rw [hI1, vb_up3 _ _ (by omega)]; exact hrow xs.length x (by rw [List.getElem?_append_right (by omega), Nat.sub_self]; rfl)) (by omega) hAX) ?_
    intro I2 hq2
    obtain ⟨dX2, hf2⟩ := hq2 
    refine mm_wr rfl rfl rfl ?_
    have hx : ∀ a, a = A ∨ a = A + 1 → ¬ vb_xc X a := fun a ha h => by simp only [vb_xc] at h; omega
    refine ⟨_, ⟨⟨f, hf, ?_, ?_, by omega, ?_⟩, dX2, ?_⟩, rfl⟩
    · rw [hf2 _ (hx _ (Or.inl rfl)), hI1, vb_up2 _ _ (by omega)]; exact h1
    · rw [hf2 _ (hx _ (Or.inl rfl)), hI1, vb_up1]
    · intro i z hz
      rw [hf2 _ (hx _ (Or.inr rfl)), hI1, vb_up3 _ _ (by omega)]
      have hi : i < xs.length := by
        by_cases hi : i < xs.length
        · exact hi
        · rw [List.getElem?_eq_none (by omega)] at hz; cases hz
      exact hrow i z (by rw [List.getElem?_append_left hi]; exact hz)
    · intro a ha
      rw [hf2 _ (fun h => ha (Or.inr h)), hI1, vb_up3 _ _ (fun h => ha (Or.inl (Or.inl h)))]
theorem c_copyA (hA : vb_isA P S A) (hB : vb_isA P S B) (dB : vb_AD xs B I) (hAB : A + 2 ≤ B ∨ B + 2 ≤ A) : mm_C G d 5 [.ref A, .ref B] (I, P, J, S, nc, ns) (vb_R none (fun I' => vb_AD xs A I' ∧ vb_fr (vb_ac A) I I') P J S nc ns) := by
  obtain ⟨f, hf, h1, h2, hl, hrow⟩ := dB
  show mm_W _ _ 5 (mm_blk 5 0) [.ref A, .ref B] [] _ _
  refine mm_w1 rfl ?_
  refine mm_wgr (vA_S0 hB) (by decide) (by decide) (vA_P0_0 hB) (vA_a1 hB) ?_
  refine mm_wv (vb_i 0) rfl (by decide) ?_
  refine mm_w1 rfl ?_
  refine mm_wgr (vA_S0 hA) (by decide) (by decide) (vA_P0_0 hA) (vA_a1 hA) ?_
  refine mm_wv (vb_i 0) rfl (by decide) ?_
  refine mm_wv (vb_i 1160) rfl (by decide) ?_
  refine mm_wcpyN (vA_S1 hB) (vA_S1 hA) (by decide) (by decide) (by omega) (by omega) (of_decide_eq_true rfl) ?_
  intro I1 hI1
  refine mm_w1 rfl ?_
  refine mm_w1 rfl ?_
  refine mm_wgiv (vb_i f) (vA_S0 hB) (by decide) (by decide) (by rw [hI1.2.2 B (by omega)]; exact h1) ?_
  refine mm_wpi (vA_S0 hA) (by decide) (by decide) ?_
  refine mm_w1 rfl ?_
  refine mm_w1 rfl ?_
  refine mm_wgiv (vb_i xs.length) (vA_S0 hB) (by decide) (by decide) (by rw [vb_up3 _ _ (by omega), hI1.2.2 B (by omega)]; exact h2) ?_
  refine mm_wpi (vA_S0 hA) (by decide) (by decide) ?_
  refine mm_wr rfl rfl rfl ?_
  refine ⟨_, ⟨⟨f, hf, ?_, ?_, hl, ?_⟩, ?_⟩, rfl⟩
  · rw [vb_up2 _ _ (by omega), vb_up1]
  · rw [vb_up1]
  · intro i z hz
    rw [vb_up3 _ _ (by omega), vb_up3 _ _ (by omega)]
    refine (hrow i z hz).kp (fun j h3 h4 => ?_)
    rw [hI1.1 j (by omega) (by omega), Nat.zero_add, Nat.sub_zero]
  · intro a ha
    rw [vb_up3 _ _ (fun h => ha (Or.inl h)), vb_up3 _ _ (fun h => ha (Or.inl h)), hI1.2.2 _ (fun h => ha (Or.inr h))]
theorem c_clrT (hT : vb_isT P S T) : mm_C G d 70 [.ref T] (I, P, J, S, nc, ns) (vb_R none (fun I' => vb_TD [] T I' ∧ vb_fr (vb_tc T) I I') P J S nc ns) := by
  show mm_W _ _ 70 (mm_blk 70 0) [.ref T] [] _ _
  refine mm_w1 rfl ?_
  refine mm_wv (vb_i 0) rfl (by decide) ?_
  refine mm_wpi (vT_S0 hT) (by decide) (by decide) ?_
  refine mm_wr rfl rfl rfl ?_
  refine ⟨_, ⟨⟨by rw [vb_up1]; rfl, by decide, fun i p h => by simp at h⟩, vb_fr.rf.up ⟨by omega, by omega⟩⟩, rfl⟩
theorem c_add {i m : Nat} (hT : vb_isT P S T) (dT : vb_TD ss T I) (hs6 : ss.length < 6) (hi : i < 30) (hm : m ≤ 100) : mm_C G d 71 [.ref T, .int (vb_i i), .int (vb_told m)] (I, P, J, S, nc, ns) (vb_R none (fun I' => vb_TD (ss ++ [(i, m)]) T I' ∧ vb_fr (vb_tc T) I I') P J S nc ns) := by
  obtain ⟨h1, h2, h3⟩ := dT
  show mm_W _ _ 71 (mm_blk 71 0) [.ref T, .int (vb_i i), .int (vb_told m)] [] _ _
  refine mm_w1 rfl ?_
  refine mm_wgiv (vb_i ss.length) (vT_S0 hT) (by decide) (by decide) (by first | exact h1 | (rw [vb_up3 _ _ (by omega)]; exact h1) | (rw [vb_up3 _ _ (by omega), vb_up3 _ _ (by omega)]; exact h1)) ?_
  refine mm_wv (vb_i 6) rfl (by decide) ?_
  refine mm_nicge (by omega) (by omega) ?_ ?_
  · intro h6
    exact absurd hs6 h6
  · intro h6
    refine mm_w1 rfl ?_
    refine mm_wgr (vT_S0 hT) (by decide) (by decide) (vT_P0_0 hT) (vT_a1 hT) ?_
    refine mm_w1 rfl ?_
    refine mm_wgiv (vb_i ss.length) (vT_S0 hT) (by decide) (by decide) (by first | exact h1 | (rw [vb_up3 _ _ (by omega)]; exact h1) | (rw [vb_up3 _ _ (by omega), vb_up3 _ _ (by omega)]; exact h1)) ?_
    refine mm_w1 rfl ?_
    refine mm_wis (vT_S1 hT) (by decide) (by omega) ?_
    refine mm_w1 rfl ?_
    refine mm_wgr (vT_S0 hT) (by decide) (by decide) (vT_P0_1 hT) (vT_a2 hT) ?_
    refine mm_w1 rfl ?_
    refine mm_wgiv (vb_i ss.length) (vT_S0 hT) (by decide) (by decide) (by first | exact h1 | (rw [vb_up3 _ _ (by omega)]; exact h1) | (rw [vb_up3 _ _ (by omega), vb_up3 _ _ (by omega)]; exact h1)) ?_
    refine mm_w1 rfl ?_
    refine mm_wis (vT_S2 hT) (by decide) (by omega) ?_
    refine mm_w1 rfl ?_
    refine mm_w1 rfl ?_
    refine mm_wgiv (vb_i ss.length) (vT_S0 hT) (by decide) (by decide) (by first | exact h1 | (rw [vb_up3 _ _ (by omega)]; exact h1) | (rw [vb_up3 _ _ (by omega), vb_up3 _ _ (by omega)]; exact h1)) ?_
    refine mm_wv (vb_i 1) rfl (by decide) ?_
    refine mm_nadd ?_
    refine mm_wpi (vT_S0 hT) (by decide) (by decide) ?_
    refine mm_wr rfl rfl rfl ?_
    refine ⟨_, ⟨⟨?_, by rw [List.length_append]; simp; omega, ?_⟩, ((vb_fr.rf.up ⟨by omega, by omega⟩).up ⟨by omega, by omega⟩).up ⟨by omega, by omega⟩⟩, rfl⟩
    · rw [vb_up1, List.length_append]; rfl
    · intro j p hj
      rcases vb_app1 hj with ⟨hl, hp⟩ | ⟨hl, hp⟩
      · obtain ⟨b1, b2, b3⟩ := h3 j p hp
        refine ⟨?_, ?_, b3⟩
        · rw [vb_up3 _ _ (by omega), vb_up3 _ _ (by omega), vb_up2 _ _ (by omega)]; exact b1
        · rw [vb_up3 _ _ (by omega), vb_up2 _ _ (by omega), vb_up3 _ _ (by omega)]; exact b2
      · subst hl; subst hp
        refine ⟨?_, ?_, hi, hm⟩
        · rw [vb_up3 _ _ (by omega), vb_up3 _ _ (by omega), vb_up1]
        · rw [vb_up3 _ _ (by omega), vb_up1]
theorem c_copyT (hT : vb_isT P S T) (hU : vb_isT P S U) (dU : vb_TD ss U I) (hTU : T + 3 ≤ U ∨ U + 3 ≤ T) : mm_C G d 72 [.ref T, .ref U] (I, P, J, S, nc, ns) (vb_R none (fun I' => vb_TD ss T I' ∧ vb_fr (vb_tc T) I I') P J S nc ns) := by
  obtain ⟨h1, h2, h3⟩ := dU
  show mm_W _ _ 72 (mm_blk 72 0) [.ref T, .ref U] [] _ _
  refine mm_w1 rfl ?_
  refine mm_wgr (vT_S0 hU) (by decide) (by decide) (vT_P0_0 hU) (vT_a1 hU) ?_
  refine mm_wv (vb_i 0) rfl (by decide) ?_
  refine mm_w1 rfl ?_
  refine mm_wgr (vT_S0 hT) (by decide) (by decide) (vT_P0_0 hT) (vT_a1 hT) ?_
  refine mm_wv (vb_i 0) rfl (by decide) ?_
  refine mm_wv (vb_i 6) rfl (by decide) ?_
  refine mm_wcpyN (vT_S1 hU) (vT_S1 hT) (by decide) (by decide) (by omega) (by omega) (of_decide_eq_true rfl) ?_
  intro I1 hI1
  refine mm_w1 rfl ?_
  refine mm_wgr (vT_S0 hU) (by decide) (by decide) (vT_P0_1 hU) (vT_a2 hU) ?_
  refine mm_wv (vb_i 0) rfl (by decide) ?_
  refine mm_w1 rfl ?_
  refine mm_wgr (vT_S0 hT) (by decide) (by decide) (vT_P0_1 hT) (vT_a2 hT) ?_
  refine mm_wv (vb_i 0) rfl (by decide) ?_
  refine mm_wv (vb_i 6) rfl (by decide) ?_
  refine mm_wcpyN (vT_S2 hU) (vT_S2 hT) (by decide) (by decide) (by omega) (by omega) (of_decide_eq_true rfl) ?_
  intro I2 hI2
  refine mm_w1 rfl ?_
  refine mm_w1 rfl ?_
  refine mm_wgiv (vb_i ss.length) (vT_S0 hU) (by decide) (by decide) (by rw [hI2.2.2 U (by omega), hI1.2.2 U (by omega)]; exact h1) ?_
  refine mm_wpi (vT_S0 hT) (by decide) (by decide) ?_
  refine mm_wr rfl rfl rfl ?_
  refine ⟨_, ⟨⟨by rw [vb_up1], h2, ?_⟩, ?_⟩, rfl⟩
  · intro j p hj
    have hl : j < ss.length := by
      by_cases hl : j < ss.length
      · exact hl
      · rw [List.getElem?_eq_none (by omega)] at hj; cases hj
    obtain ⟨b1, b2, b3⟩ := h3 j p hj
    refine ⟨?_, ?_, b3⟩
    · rw [vb_up3 _ _ (by omega), hI2.2.2 (T + 1) (by omega), hI1.1 j (by omega) (by omega), Nat.zero_add, Nat.sub_zero]; exact b1
    · rw [vb_up3 _ _ (by omega), hI2.1 j (by omega) (by omega), hI1.2.2 (U + 2) (by omega), Nat.zero_add, Nat.sub_zero]; exact b2
  · intro a ha
    simp only [vb_tc] at ha
    rw [vb_up3 _ _ (by omega), hI2.2.2 a (by omega), hI1.2.2 a (by omega)]
end ACTS
