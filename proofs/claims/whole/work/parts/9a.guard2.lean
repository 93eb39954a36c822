/-! the free villages beside v, counted by an added set -/
theorem vg_cnt {ℓ : vb_L} {own g : Int32} {v : Nat} (hd : ∀ w, vb_has g w = true → vb_has own w = false) : vb_cnt 10 (vb_has (vb_nb ℓ v &&& (own ||| g))) = vb_cnt 10 (vb_has (vb_nb ℓ v &&& own)) + vb_cnt 10 (vb_has (vb_nb ℓ v &&& g)) := by
  have e : ∀ n, vb_cnt n (vb_has (vb_nb ℓ v &&& (own ||| g))) = vb_cnt n (vb_has (vb_nb ℓ v &&& own)) + vb_cnt n (vb_has (vb_nb ℓ v &&& g)) := by
    intro n
    induction n with
    | zero => rfl
    | succ n ih =>
      simp only [vb_cnt, ih, vb_has_and, vb_has_or]
      have h := hd n
      cases h1 : vb_has (vb_nb ℓ v) n <;> cases h2 : vb_has own n <;> cases h3 : vb_has g n <;> simp_all <;> omega
  exact e 10
