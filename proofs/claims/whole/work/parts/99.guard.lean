/-! who takes a stone depends on the stones beside it only by their number -/
def vg_tk (ℓ : vb_L) (foe : Int32) (v c : Nat) (ev : Int32) : Bool := (List.range (vb_n ℓ)).any (fun fr => vb_has (vb_nb ℓ v &&& foe) fr && (if vb_ht ℓ then decide (0 < vb_ru ℓ 3 (fun j => if j = 1 then vb_i c else if j = 5 then vb_b true else vb_val ℓ foe 0 foe fr v ev j)) else decide (vb_i c + vb_fo ℓ v - vb_i 1 < vb_val ℓ foe 0 foe fr v ev 0)))
theorem vg_val {ℓ : vb_L} {own foe ev : Int32} {v fr : Nat} (hv : vb_has own v = true) : vb_val ℓ foe own foe fr v ev = fun j => if j = 1 then vb_i (vb_cnt 10 (vb_has (vb_nb ℓ v &&& own))) else if j = 5 then vb_b true else vb_val ℓ foe 0 foe fr v ev j := by
  funext j
  by_cases h1 : j = 1
  · subst h1; rfl
  · rw [if_neg h1]
    by_cases h5 : j = 5
    · subst h5; show vb_b (vb_has own v) = _; rw [hv]; rfl
    · rw [if_neg h5]
      simp only [vb_val, h1, h5, if_false]
theorem vg_tk_eq {ℓ : vb_L} {own foe ev : Int32} {v : Nat} (hn : vb_n ℓ ≤ 10) (hv : vb_has own v = true) : (vb_tk ℓ own foe v ev = 0) ↔ vg_tk ℓ foe v (vb_cnt 10 (vb_has (vb_nb ℓ v &&& own))) ev = false := by
  rw [vb_tk, vb_set_eq0 (by omega), vg_tk, List.any_eq_false]
  have e : ∀ fr, vb_take ℓ foe own fr v ev = (if vb_ht ℓ then decide (0 < vb_ru ℓ 3 (fun j => if j = 1 then vb_i (vb_cnt 10 (vb_has (vb_nb ℓ v &&& own))) else if j = 5 then vb_b true else vb_val ℓ foe 0 foe fr v ev j)) else decide (vb_i (vb_cnt 10 (vb_has (vb_nb ℓ v &&& own))) + vb_fo ℓ v - vb_i 1 < vb_val ℓ foe 0 foe fr v ev 0)) := by
    intro fr
    rw [vb_take, vg_val hv]; rfl
  constructor
  · intro h fr hfr
    rw [← e, h fr (List.mem_range.mp hfr)]; decide
  · intro h fr hfr
    have h2 := h fr (List.mem_range.mpr hfr)
    rw [← e] at h2
    cases h3 : (vb_has (vb_nb ℓ v &&& foe) fr && vb_take ℓ foe own fr v ev) with
    | false => rfl
    | true => exact absurd h3 h2
