/-! the guard that is found by trying all sets -/
def vg_stp (A : Int32 → Bool) (F' best j : Int32) : Int32 := if j &&& ~~~ F' = 0 then (if best = -1 ∨ vb_cnt 10 (vb_has j) < vb_cnt 10 (vb_has best) then (if A j = true then j else best) else best) else best
def vg_bst (A : Int32 → Bool) (F' : Int32) : Nat → Int32
  | 0 => -1
  | k + 1 => vg_stp A F' (vg_bst A F' k) (vb_i k)
theorem vg_inj {a b : Nat} (ha : a < 1024) (hb : b < 1024) (h : vb_i a = vb_i b) : a = b := by
  have h1 := congrArg Int32.toNatClampNeg h
  rw [vb_i, vb_i, Int32.toNatClampNeg_ofNat_of_lt (by omega), Int32.toNatClampNeg_ofNat_of_lt (by omega)] at h1
  exact h1
theorem vg_min {F : Int32} {g j : Nat} (hg : g < 1024) (hj : j < 1024) (hs : vg_seg F (vb_i g)) (hsub : ∀ w, vb_has (vb_i j) w = true → vb_has F w = true) (hc : vb_cnt 10 (vb_has (vb_i j)) = vb_cnt 10 (vb_has (vb_i g))) : g ≤ j := by
  have hb : ∀ {a w : Nat}, a < 1024 → 10 ≤ w → a.testBit w = false := fun {a w} ha hw => Nat.testBit_lt_two_pow (Nat.lt_of_lt_of_le ha (Nat.pow_le_pow_right (n := 2) (by decide) hw))
  by_cases h : ∃ w, w < 10 ∧ vb_has (vb_i j) w = true ∧ vb_has (vb_i g) w = false
  · obtain ⟨w, hw, h1, h2⟩ := h
    have h3 : 2 ^ w ≤ j := Nat.ge_two_pow_of_testBit (by rw [← vb_has_i _ (by omega)]; exact h1)
    have h4 : g < 2 ^ w := by
      refine Nat.lt_pow_two_of_testBit g (fun i hi => ?_)
      by_cases h10 : 10 ≤ i
      · exact hb hg h10
      · rw [← vb_has_i _ (by omega)]
        cases e : vb_has (vb_i g) i with
        | false => rfl
        | true =>
          by_cases ei : i = w
          · rw [ei, h2] at e; cases e
          · have := hs.2 i w e (by omega) (hsub w h1)
            rw [h2] at this; cases this
    omega
  · have h0 : ∀ w, w < 10 → vb_has (vb_i j) w = true → vb_has (vb_i g) w = true := fun w hw h1 => by
      cases e : vb_has (vb_i g) w with
      | true => rfl
      | false => exact absurd ⟨w, hw, h1, e⟩ h
    have e : vb_i g = vb_i j := by
      refine vb_ext (fun w hw => ?_)
      by_cases h10 : 10 ≤ w
      · rw [vb_has_i _ hw, vb_has_i _ hw, hb hg h10, hb hj h10]
      · cases h1 : vb_has (vb_i j) w with
        | true => exact h0 w (by omega) h1
        | false =>
          cases h2 : vb_has (vb_i g) w with
          | false => rfl
          | true =>
            have := vb_cnt_more (n := 10) (p := vb_has (vb_i j)) (q := vb_has (vb_i g)) h0 (by omega) h1 h2
            omega
    rw [vg_inj hg hj e]; exact Nat.le_refl _
theorem vg_gd {ℓ : vb_L} {own foe ev F : Int32} {v : Nat} {b : Nat → Bool} (hb : ∀ k, (vb_tk ℓ (own ||| vg_lw F k) foe v ev = 0) ↔ b k = true) : ∀ K k, (∀ i, i < k → b i = false) → (q_gd ℓ own foe v ev F K (vg_lw F k) = -1 ∧ ∀ i, i < k + K → b i = false) ∨ ∃ k0, k0 < k + K ∧ b k0 = true ∧ (∀ i, i < k0 → b i = false) ∧ q_gd ℓ own foe v ev F K (vg_lw F k) = vg_lw F k0 := by
  intro K
  induction K with
  | zero => intro k h; exact Or.inl ⟨rfl, fun i hi => h i (by omega)⟩
  | succ K ih =>
    intro k h
    rw [q_gd]
    by_cases e : vb_tk ℓ (own ||| vg_lw F k) foe v ev = 0
    · rw [if_pos e]
      exact Or.inr ⟨k, by omega, (hb k).mp e, h, rfl⟩
    · rw [if_neg e]
      have hk : b k = false := by
        cases e2 : b k with
        | false => rfl
        | true => exact absurd ((hb k).mpr e2) e
      have := ih (k + 1) (fun i hi => by
        by_cases ei : i = k
        · rw [ei]; exact hk
        · exact h i (by omega))
      rw [show k + 1 + K = k + (K + 1) by omega] at this
      exact this
theorem vg_sub0 {j F : Int32} (h : j &&& ~~~ F = 0) : ∀ w, vb_has j w = true → vb_has F w = true := fun w hw => by
  have hw32 : w < 32 := by
    by_cases e : w < 32
    · exact e
    · rw [vb_has_ge _ (by omega)] at hw; cases hw
  have := vb_eq0.mp h w hw32
  rw [vb_has_and, vb_has_not _ hw32, hw, Bool.true_and, Bool.not_eq_false'] at this
  exact this
theorem vg_sub1 {j F : Int32} (h : ∀ w, vb_has j w = true → vb_has F w = true) : j &&& ~~~ F = 0 := by
  refine vb_eq0.mpr (fun w hw => ?_)
  rw [vb_has_and, vb_has_not _ hw]
  cases e : vb_has j w with
  | false => rfl
  | true => rw [h w e]; rfl
theorem vg_all {A : Int32 → Bool} {a : Nat → Bool} {F F' : Int32} {f : Nat} (hf : f < 1024) (hF' : F' = vb_i f) (hF : vb_below 10 F) (hFF : ∀ w, vb_has F w = true → vb_has F' w = true) (hA : ∀ j, (∀ w, vb_has j w = true → vb_has F' w = true) → A j = a (vb_cnt 10 (vb_has (F &&& j)))) :
    ((∀ i, i ≤ vb_cnt 10 (vb_has F) → a i = false) → vg_bst A F' (f + 1) = -1) ∧ ∀ k0, k0 ≤ vb_cnt 10 (vb_has F) → a k0 = true → (∀ i, i < k0 → a i = false) → vg_bst A F' (f + 1) = vg_lw F k0 := by
  refine ⟨fun h => ?_, fun k0 hk ha hlt => ?_⟩
  · have : ∀ k, vg_bst A F' k = -1 := by
      intro k
      induction k with
      | zero => rfl
      | succ k ih =>
        rw [vg_bst, ih, vg_stp]
        by_cases e : vb_i k &&& ~~~ F' = 0
        · rw [if_pos e, if_pos (Or.inl rfl), hA _ (vg_sub0 e), h _ (vb_cnt_mono (fun w _ hw => by rw [vb_has_and, Bool.and_eq_true] at hw; exact hw.1))]
          rfl
        · rw [if_neg e]
    exact this _
  · have hseg := vg_lw_seg hF k0
    have hcg : vb_cnt 10 (vb_has (vg_lw F k0)) = k0 := by rw [vg_lw_cnt hF]; omega
    obtain ⟨g, hg, eg⟩ := vb_small (s := vg_lw F k0) (fun w hw => hF w (hseg.1 w hw))
    have hgF : ∀ w, vb_has (vb_i g) w = true → vb_has F' w = true := fun w hw => hFF w (hseg.1 w (by rw [eg]; exact hw))
    rw [eg] at hseg hcg ⊢
    have hm1 : ∀ k, k < 1024 → ¬ vb_i k = -1 := fun k hk e => by
      have := congrArg Int32.toInt e
      rw [vb_i, Int32.toInt_ofNat_of_lt (by omega)] at this
      have h2 : Int32.toInt (-1) = -1 := by decide
      omega
    have key : ∀ k, k < 1024 → vb_i k &&& ~~~ F' = 0 → A (vb_i k) = true → k0 ≤ vb_cnt 10 (vb_has (vb_i k)) ∧ (vb_cnt 10 (vb_has (vb_i k)) = k0 → g ≤ k) := by
      intro k hk e h
      rw [hA _ (vg_sub0 e)] at h
      have h1 : vb_cnt 10 (vb_has (F &&& vb_i k)) ≤ vb_cnt 10 (vb_has (vb_i k)) := vb_cnt_mono (fun w _ hw => by rw [vb_has_and, Bool.and_eq_true] at hw; exact hw.2)
      have h2 : k0 ≤ vb_cnt 10 (vb_has (F &&& vb_i k)) := by
        by_cases e2 : k0 ≤ vb_cnt 10 (vb_has (F &&& vb_i k))
        · exact e2
        · rw [hlt _ (by omega)] at h; cases h
      refine ⟨by omega, fun h3 => vg_min hg hk hseg (fun w hw => ?_) (by omega)⟩
      cases e4 : vb_has F w with
      | true => rfl
      | false =>
        have hw10 : w < 10 := by
          by_cases e5 : w < 10
          · exact e5
          · exfalso
            by_cases e6 : w < 32
            · rw [vb_has_i _ e6, Nat.testBit_lt_two_pow (Nat.lt_of_lt_of_le hk (Nat.pow_le_pow_right (n := 2) (by decide) (by omega : 10 ≤ w)))] at hw; cases hw
            · rw [vb_has_ge _ (by omega)] at hw; cases hw
        have := vb_cnt_more (n := 10) (p := vb_has (F &&& vb_i k)) (q := vb_has (vb_i k)) (fun w _ hw => by rw [vb_has_and, Bool.and_eq_true] at hw; exact hw.2) hw10 (by rw [vb_has_and, e4]; rfl) hw
        omega
    have hFg : F &&& vb_i g = vb_i g := by
      refine vb_ext (fun w _ => ?_)
      rw [vb_has_and]
      cases e : vb_has (vb_i g) w with
      | false => rw [Bool.and_false]
      | true => rw [hseg.1 w e]; rfl
    have hAg : A (vb_i g) = true := by rw [hA _ hgF, hFg, hcg]; exact ha
    have inv1 : ∀ k, k ≤ g → vg_bst A F' k = -1 ∨ k0 < vb_cnt 10 (vb_has (vg_bst A F' k)) := by
      intro k
      induction k with
      | zero => intro _; exact Or.inl rfl
      | succ k ih =>
        intro hk
        have ih := ih (by omega)
        rw [vg_bst, vg_stp]
        by_cases e : vb_i k &&& ~~~ F' = 0
        · rw [if_pos e]
          by_cases e2 : vg_bst A F' k = -1 ∨ vb_cnt 10 (vb_has (vb_i k)) < vb_cnt 10 (vb_has (vg_bst A F' k))
          · rw [if_pos e2]
            by_cases e3 : A (vb_i k) = true
            · rw [if_pos e3]
              have := key k (by omega) e e3
              right
              by_cases e4 : vb_cnt 10 (vb_has (vb_i k)) = k0
              · have := this.2 e4; omega
              · omega
            · rw [if_neg e3]; exact ih
          · rw [if_neg e2]; exact ih
        · rw [if_neg e]; exact ih
    have hat : vg_bst A F' (g + 1) = vb_i g := by
      rw [vg_bst, vg_stp, if_pos (vg_sub1 hgF), if_pos (by
        rcases inv1 g (Nat.le_refl _) with h | h
        · exact Or.inl h
        · exact Or.inr (by omega)), if_pos hAg]
    have inv2 : ∀ k, g + 1 + k ≤ 1024 → vg_bst A F' (g + 1 + k) = vb_i g := by
      intro k
      induction k with
      | zero => intro _; exact hat
      | succ k ih =>
        intro hk
        have ih := ih (by omega)
        rw [show g + 1 + (k + 1) = (g + 1 + k) + 1 by omega, vg_bst, vg_stp, ih]
        by_cases e : vb_i (g + 1 + k) &&& ~~~ F' = 0
        · rw [if_pos e]
          by_cases e2 : vb_i g = -1 ∨ vb_cnt 10 (vb_has (vb_i (g + 1 + k))) < vb_cnt 10 (vb_has (vb_i g))
          · rw [if_pos e2]
            have e2 := e2.resolve_left (hm1 g hg)
            by_cases e3 : A (vb_i (g + 1 + k)) = true
            · have := (key _ (by omega) e e3).1
              omega
            · rw [if_neg e3]
          · rw [if_neg e2]
        · rw [if_neg e]
    have hgf : g ≤ f := by
      have h1 : g &&& f = g := by
        refine Nat.eq_of_testBit_eq (fun w => ?_)
        rw [Nat.testBit_and]
        cases e : g.testBit w with
        | false => rfl
        | true =>
          rw [Bool.true_and]
          by_cases e6 : w < 32
          · have := hgF w (by rw [vb_has_i _ e6]; exact e)
            rw [hF', vb_has_i _ e6] at this; exact this
          · rw [Nat.testBit_lt_two_pow (Nat.lt_of_lt_of_le hg (Nat.pow_le_pow_right (n := 2) (by decide) (by omega : 10 ≤ w)))] at e; cases e
      rw [← h1]; exact Nat.and_le_right
    have := inv2 (f - g) (by omega)
    rw [show g + 1 + (f - g) = f + 1 by omega] at this
    exact this
