theorem vg_fin {ℓ : vb_L} {x : vb_X} {v f : Nat} (ev : Int32) (hn : vb_n ℓ ≤ 10) (hlb : vl_bel ℓ) (hsj : vx_dj (vx_s x)) (hv : v < vb_n ℓ) (hs : vx_in (vx_s x) v < 2) (ef : vb_set (vb_n ℓ) (fun w => decide (vx_in (vx_s x) w = 2)) = vb_i f) (hf : f < 1024) :
    vg_bst (fun j => vb_tk ℓ (vx_s x (vx_in (vx_s x) v) ||| j) (vx_s x (1 - vx_in (vx_s x) v)) v ev == 0) (vb_i f) (f + 1) = q_gd ℓ (vx_s x (vx_in (vx_s x) v)) (vx_s x (1 - vx_in (vx_s x) v)) v ev (vb_nb ℓ v &&& ~~~ (vx_s x 0 ||| vx_s x 1)) (vb_n ℓ + 1) 0 := by
  have hF'h : ∀ w, vb_has (vb_i f) w = (decide (w < vb_n ℓ) && decide (vx_in (vx_s x) w = 2)) := fun w => by rw [← ef, vb_has_set _ (by omega)]
  have hin2 : ∀ w, decide (vx_in (vx_s x) w = 2) = (!vb_has (vx_s x 0) w && !vb_has (vx_s x 1) w) := fun w => by
    cases h0 : vb_has (vx_s x 0) w <;> cases h1 : vb_has (vx_s x 1) w <;> simp [vx_in, h0, h1]
  have hFh : ∀ w, w < 32 → vb_has (vb_nb ℓ v &&& ~~~ (vx_s x 0 ||| vx_s x 1)) w = (vb_has (vb_nb ℓ v) w && decide (vx_in (vx_s x) w = 2)) := fun w hw => by
    rw [hin2, vb_has_and, vb_has_not _ hw, vb_has_or]
    cases vb_has (vx_s x 0) w <;> cases vb_has (vx_s x 1) w <;> rfl
  have h32 : ∀ {s : Int32} {w : Nat}, vb_has s w = true → w < 32 := fun {s w} h => by
    by_cases e : w < 32
    · exact e
    · rw [vb_has_ge _ (by omega)] at h; cases h
  generalize hF : vb_nb ℓ v &&& ~~~ (vx_s x 0 ||| vx_s x 1) = F at hFh ⊢
  have hFn : vb_below (vb_n ℓ) F := fun w hw => by
    rw [hFh w (h32 hw), Bool.and_eq_true] at hw
    exact hlb v hv w hw.1
  have hFb : vb_below 10 F := fun w hw => Nat.lt_of_lt_of_le (hFn w hw) hn
  have hFF : ∀ w, vb_has F w = true → vb_has (vb_i f) w = true := fun w hw => by
    have h1 := hFn w hw
    rw [hFh w (h32 hw), Bool.and_eq_true] at hw
    rw [hF'h, decide_eq_true h1, hw.2]; rfl
  have hown : vb_has (vx_s x (vx_in (vx_s x) v)) v = true := (vx_in_eq hsj hs).mp rfl
  have hA : ∀ j, (∀ w, vb_has j w = true → vb_has (vb_i f) w = true) → (vb_tk ℓ (vx_s x (vx_in (vx_s x) v) ||| j) (vx_s x (1 - vx_in (vx_s x) v)) v ev == 0) = (fun c => !vg_tk ℓ (vx_s x (1 - vx_in (vx_s x) v)) v (vb_cnt 10 (vb_has (vb_nb ℓ v &&& vx_s x (vx_in (vx_s x) v))) + c) ev) (vb_cnt 10 (vb_has (F &&& j))) := by
    intro j hj
    have hd : ∀ w, vb_has j w = true → vb_has (vx_s x (vx_in (vx_s x) v)) w = false := fun w hw => by
      have h1 := hj w hw
      rw [hF'h, Bool.and_eq_true] at h1
      rw [← vx_in_dec hsj hs]
      have := of_decide_eq_true h1.2
      exact decide_eq_false (by omega)
    have e1 : F &&& j = vb_nb ℓ v &&& j := by
      refine vb_ext (fun w hw => ?_)
      rw [vb_has_and, vb_has_and, hFh w hw]
      cases e : vb_has j w with
      | false => rw [Bool.and_false, Bool.and_false]
      | true =>
        have h1 := hj w e
        rw [hF'h, Bool.and_eq_true] at h1
        rw [h1.2, Bool.and_true]
    have h2 := vg_tk_eq (ℓ := ℓ) (own := vx_s x (vx_in (vx_s x) v) ||| j) (foe := vx_s x (1 - vx_in (vx_s x) v)) (ev := ev) (v := v) hn (by rw [vb_has_or, hown]; rfl)
    rw [vg_cnt hd, ← e1] at h2
    by_cases e : vb_tk ℓ (vx_s x (vx_in (vx_s x) v) ||| j) (vx_s x (1 - vx_in (vx_s x) v)) v ev = 0
    · rw [vb_eqb e]
      show true = !_
      rw [h2.mp e]; rfl
    · rw [vb_neb e]
      show false = !_
      cases e3 : vg_tk ℓ (vx_s x (1 - vx_in (vx_s x) v)) v (vb_cnt 10 (vb_has (vb_nb ℓ v &&& vx_s x (vx_in (vx_s x) v))) + vb_cnt 10 (vb_has (F &&& j))) ev with
      | true => rfl
      | false => exact absurd (h2.mpr e3) e
  have hall := vg_all (A := fun j => vb_tk ℓ (vx_s x (vx_in (vx_s x) v) ||| j) (vx_s x (1 - vx_in (vx_s x) v)) v ev == 0) (a := fun c => !vg_tk ℓ (vx_s x (1 - vx_in (vx_s x) v)) v (vb_cnt 10 (vb_has (vb_nb ℓ v &&& vx_s x (vx_in (vx_s x) v))) + c) ev) hf rfl hFb hFF hA
  have hmn : vb_cnt 10 (vb_has F) ≤ vb_n ℓ := by
    rw [vb_cnt_up hn (fun w hw => by
      cases e : vb_has F w with
      | false => rfl
      | true => have := hFn w e; omega)]
    exact vb_cnt_le _ _
  have hb : ∀ k, (vb_tk ℓ (vx_s x (vx_in (vx_s x) v) ||| vg_lw F k) (vx_s x (1 - vx_in (vx_s x) v)) v ev = 0) ↔ (fun k => (fun c => !vg_tk ℓ (vx_s x (1 - vx_in (vx_s x) v)) v (vb_cnt 10 (vb_has (vb_nb ℓ v &&& vx_s x (vx_in (vx_s x) v))) + c) ev) (min k (vb_cnt 10 (vb_has F)))) k = true := by
    intro k
    have hsg := vg_lw_seg hFb k
    have h1 := hA (vg_lw F k) (fun w hw => hFF w (hsg.1 w hw))
    have e1 : F &&& vg_lw F k = vg_lw F k := by
      refine vb_ext (fun w hw => ?_)
      rw [vb_has_and]
      cases e : vb_has (vg_lw F k) w with
      | false => rw [Bool.and_false]
      | true => rw [hsg.1 w e]; rfl
    rw [e1, vg_lw_cnt hFb] at h1
    show _ ↔ (fun c => !vg_tk ℓ (vx_s x (1 - vx_in (vx_s x) v)) v (vb_cnt 10 (vb_has (vb_nb ℓ v &&& vx_s x (vx_in (vx_s x) v))) + c) ev) (min k (vb_cnt 10 (vb_has F))) = true
    rw [← h1]
    constructor
    · intro h; exact vb_eqb h
    · intro h
      by_cases e : vb_tk ℓ (vx_s x (vx_in (vx_s x) v) ||| vg_lw F k) (vx_s x (1 - vx_in (vx_s x) v)) v ev = 0
      · exact e
      · rw [vb_neb e] at h; cases h
  have hz : vg_lw F 0 = 0 := rfl
  rcases vg_gd hb (vb_n ℓ + 1) 0 (fun i hi => absurd hi (by omega)) with ⟨h1, h2⟩ | ⟨k0, h1, h2, h3, h4⟩
  · rw [hz] at h1
    rw [h1]
    refine hall.1 (fun i hi => ?_)
    have := h2 i (by omega)
    simp only [Nat.min_eq_left hi] at this
    exact this
  · rw [hz] at h4
    rw [h4]
    have hk : k0 ≤ vb_cnt 10 (vb_has F) := by
      by_cases e : k0 ≤ vb_cnt 10 (vb_has F)
      · exact e
      · exfalso
        have h5 := h3 (vb_cnt 10 (vb_has F)) (by omega)
        simp only [Nat.min_self] at h5
        simp only [Nat.min_eq_right (show vb_cnt 10 (vb_has F) ≤ k0 by omega)] at h2
        rw [h5] at h2; cases h2
    simp only [Nat.min_eq_left hk] at h2
    refine hall.2 k0 hk h2 (fun i hi => ?_)
    have := h3 i hi
    simp only [Nat.min_eq_left (show i ≤ vb_cnt 10 (vb_has F) by omega)] at this
    exact this
/-! stones laid beside, without flags -/
def vg_x (x : vb_X) (sd : Nat) (g : Int32) : vb_X := (fun q => if q = sd then vx_s x q ||| g else vx_s x q, vx_f x, vx_t x, vx_y x, vx_b x, vx_e x)
theorem vg_s (x : vb_X) (sd q : Nat) (g : Int32) : vx_s (vg_x x sd g) q = if q = sd then vx_s x q ||| g else vx_s x q := rfl
theorem vg_x0 (x : vb_X) (sd : Nat) : vg_x x sd 0 = x := by
  obtain ⟨a, b, c, d, e, f⟩ := x
  simp only [vg_x, vx_s, vx_f, vx_t, vx_y, vx_b, vx_e, Prod.mk.injEq, and_true]
  funext q
  split
  · exact Int32.or_zero
  · rfl
theorem vg_own (x : vb_X) (sd : Nat) (g : Int32) : vx_s (vg_x x sd g) sd = vx_s x sd ||| g := by rw [vg_s, if_pos rfl]
theorem vg_foe (x : vb_X) {sd : Nat} (hs : sd < 2) (g : Int32) : vx_s (vg_x x sd g) (1 - sd) = vx_s x (1 - sd) := by rw [vg_s, if_neg (by omega)]
theorem vg_in {x : vb_X} {sd v : Nat} {g : Int32} (hs : sd < 2) (hg : vb_has g v = true → vx_in (vx_s x) v = 2) : vx_in (vx_s (vg_x x sd g)) v = if vb_has g v = true then sd else vx_in (vx_s x) v := by
  have e : sd = 0 ∨ sd = 1 := by omega
  rcases e with rfl | rfl
  · have e0 : vx_s (vg_x x 0 g) 0 = vx_s x 0 ||| g := by rw [vg_s, if_pos rfl]
    have e1 : vx_s (vg_x x 0 g) 1 = vx_s x 1 := by rw [vg_s, if_neg (by decide)]
    simp only [vx_in] at hg ⊢
    rw [e0, e1, vb_has_or]
    cases h : vb_has g v with
    | false => rw [Bool.or_false]; rfl
    | true => rw [Bool.or_true]; rfl
  · have e0 : vx_s (vg_x x 1 g) 0 = vx_s x 0 := by rw [vg_s, if_neg (by decide)]
    have e1 : vx_s (vg_x x 1 g) 1 = vx_s x 1 ||| g := by rw [vg_s, if_pos rfl]
    simp only [vx_in] at hg ⊢
    rw [e0, e1, vb_has_or]
    cases h : vb_has g v with
    | false => rw [Bool.or_false]; rfl
    | true =>
      have := hg h
      cases h0 : vb_has (vx_s x 0) v with
      | true => rw [h0] at this; cases this
      | false => rw [Bool.or_true]; rfl
theorem vg_row {ℓ : vb_L} {x : vb_X} {sd i t : Nat} {g : Int32} {I : Nat → Nat → Int32} (hs : sd < 2) (hn : vb_n ℓ ≤ 10) (hi : i < vb_n ℓ) (hg : ∀ v, vb_has (g ||| vb_bit i) v = true → vx_in (vx_s x) v = 2) (h : vm_row ℓ (I 76) 46 (vg_x x sd g) t) : vm_row ℓ (mm_up I 76 (46 + i) (vb_i sd) 76) 46 (vg_x x sd (g ||| vb_bit i)) t := by
  obtain ⟨h1, h2, h3, h4, h5, h6, h7, h8, h9⟩ := h
  refine ⟨fun v hv => ?_, fun v hv => ?_, fun j hj => ?_, fun j hj => ?_, ?_, ?_, fun j hj => ?_, h8, h9⟩
  · rw [vg_in hs (hg v)]
    by_cases e : v = i
    · subst e
      rw [show 46 + 0 + v = 46 + v by omega, vb_up1, if_pos (vp_at (by omega))]
    · rw [vb_up2 _ _ (by omega), h1 v hv, vg_in hs (fun h => hg v (vp_up (by omega) h))]
      rw [vp_add (by omega), decide_eq_false e, Bool.or_false]
  · rw [vb_up2 _ _ (by omega)]; exact h2 v hv
  · rw [vb_up2 _ _ (by omega)]; exact h3 j hj
  · rw [vb_up2 _ _ (by omega)]; exact h4 j hj
  · rw [vb_up2 _ _ (by omega)]; exact h5
  · rw [vb_up2 _ _ (by omega)]; exact h6
  · rw [vb_up2 _ _ (by omega)]; exact h7 j hj
theorem vg_dj {x : vb_X} {sd : Nat} {g : Int32} (hsj : vx_dj (vx_s x)) (hs : sd < 2) (hg : ∀ v, vb_has g v = true → vx_in (vx_s x) v = 2) : vx_dj (vx_s (vg_x x sd g)) := by
  intro v hv
  have h2 : vx_in (vx_s x) v = 2 → vb_has (vx_s x 0) v = false ∧ vb_has (vx_s x 1) v = false := by
    cases h0 : vb_has (vx_s x 0) v <;> cases h1 : vb_has (vx_s x 1) v <;> simp [vx_in, h0, h1]
  have e : sd = 0 ∨ sd = 1 := by omega
  rcases e with rfl | rfl
  · rw [show vx_s (vg_x x 0 g) 0 = vx_s x 0 ||| g by rw [vg_s, if_pos rfl], vb_has_or, Bool.or_eq_true] at hv
    rw [show vx_s (vg_x x 0 g) 1 = vx_s x 1 by rw [vg_s, if_neg (by decide)]]
    rcases hv with hv | hv
    · exact hsj v hv
    · exact (h2 (hg v hv)).2
  · rw [show vx_s (vg_x x 1 g) 0 = vx_s x 0 by rw [vg_s, if_neg (by decide)]] at hv
    rw [show vx_s (vg_x x 1 g) 1 = vx_s x 1 ||| g by rw [vg_s, if_pos rfl], vb_has_or, hsj v hv, Bool.false_or]
    cases h : vb_has g v with
    | false => rfl
    | true => rw [(h2 (hg v h)).1] at hv; cases hv
