/-! A WHOLE TEXT -/
abbrev pl_S : Type := Nat × (Nat → Int32) × (Nat → Int32) × (Nat → Int32) × (Nat → Int32) × (Nat → List (Nat × Int32)) × Bool × Nat × Nat
def pl_n (p : pl_S) : Nat := p.1
def pl_wo (p : pl_S) : Nat → Int32 := p.2.1
def pl_fo (p : pl_S) : Nat → Int32 := p.2.2.1
def pl_nb (p : pl_S) : Nat → Int32 := p.2.2.2.1
def pl_fs (p : pl_S) : Nat → Int32 := p.2.2.2.2.1
def pl_ru (p : pl_S) : Nat → List (Nat × Int32) := p.2.2.2.2.2.1
def pl_ht (p : pl_S) : Bool := p.2.2.2.2.2.2.1
def pl_sc (p : pl_S) : Nat := p.2.2.2.2.2.2.2.1
def pl_rc (p : pl_S) : Nat := p.2.2.2.2.2.2.2.2
def pl_l (p : pl_S) : vb_L := (pl_n p, pl_wo p, pl_fo p, pl_nb p, (fun r => px_f (pl_ru p r)), pl_ht p, pl_sc p, pl_rc p)
def pl_0 : pl_S := (0, (fun _ => 0), (fun _ => 0), (fun _ => 0), (fun _ => 0), (fun _ => []), false, 0, 0)
def pl_up {α : Type} (f : Nat → α) (i : Nat) (v : α) : Nat → α := fun j => if j = i then v else f j
def pl_addV (p : pl_S) (its w f : Nat) : pl_S := (pl_n p + 1, pl_up (pl_wo p) (pl_n p) (vb_i w), pl_up (pl_fo p) (pl_n p) (vb_i f), pl_nb p, (fun j => if j = its then pl_fs p j ||| vb_bit (pl_n p) else pl_fs p j), pl_ru p, pl_ht p, pl_sc p, pl_rc p)
def pl_addR (p : pl_S) (a c : Nat) : pl_S := (pl_n p, pl_wo p, pl_fo p, (fun v => if v = a then pl_nb p a ||| vb_bit c else if v = c then pl_nb p c ||| vb_bit a else pl_nb p v), pl_fs p, pl_ru p, pl_ht p, pl_sc p, pl_rc p + 1)
def pl_addT (p : pl_S) (c : List (Nat × Int32)) : pl_S := (pl_n p, pl_wo p, pl_fo p, pl_nb p, pl_fs p, pl_up (pl_ru p) 3 c, true, pl_sc p, pl_rc p)
def pl_addS (p : pl_S) (c : List (Nat × Int32)) : pl_S := (pl_n p, pl_wo p, pl_fo p, pl_nb p, pl_fs p, pl_up (pl_ru p) (pl_sc p) c, pl_ht p, pl_sc p + 1, pl_rc p)
def pl_ok (p : pl_S) : Prop := pl_n p ≤ 10 ∧ pl_rc p ≤ 18 ∧ pl_sc p ≤ 3 ∧ (∀ v, pl_n p ≤ v → pl_nb p v = 0) ∧ (∀ v, vb_below (pl_n p) (pl_nb p v)) ∧ (∀ a c, vb_has (pl_nb p a) c = vb_has (pl_nb p c) a) ∧ (∀ a, vb_has (pl_nb p a) a = false) ∧ vb_deg (pl_l p) (pl_n p) = 2 * pl_rc p ∧ (∀ j, j < 2 → vb_below (pl_n p) (pl_fs p j)) ∧ (∀ v, vb_has (pl_fs p 0) v = true → vb_has (pl_fs p 1) v = false) ∧ (pl_ht p = true → px_ht (pl_ru p 3) 0 1) ∧ ∀ r, r < pl_sc p → px_ht (pl_ru p r) 0 1
theorem pl_ok0 : pl_ok pl_0 := by
  have h0 : ∀ v, vb_has 0 v = true → False := fun v h => by rw [vb_has_0] at h; cases h
  exact ⟨by decide, by decide, by decide, fun _ _ => rfl, fun _ v h => (h0 v h).elim, (fun a c => by rw [show pl_nb pl_0 a = 0 from rfl, show pl_nb pl_0 c = 0 from rfl, vb_has_0, vb_has_0]), fun a => vb_has_0 a, rfl, fun _ _ v h => (h0 v h).elim, fun v h => (h0 v h).elim, (fun h => by cases h), fun r h => absurd h (Nat.not_lt_zero r)⟩
theorem pl_degc {ℓ ℓ' : vb_L} : ∀ v, (∀ u, u < v → vb_nb ℓ' u = vb_nb ℓ u) → vb_deg ℓ' v = vb_deg ℓ v := by
  intro v
  induction v with
  | zero => intro _; rfl
  | succ v ih => intro h; rw [vb_deg, vb_deg, ih (fun u hu => h u (by omega)), h v (by omega)]
theorem pl_okV {p : pl_S} (h : pl_ok p) (hn : pl_n p < 10) (its w f : Nat) : pl_ok (pl_addV p its w f) := by
  obtain ⟨h1, h2, h3, h4, h5, h6, h7, h8, h9, h10, h11, h12⟩ := h
  have hbit : ∀ j, vb_has (pl_fs (pl_addV p its w f) j) = fun v => vb_has (pl_fs p j) v || (decide (j = its) && decide (v = pl_n p)) := fun j => by
    funext v
    show vb_has (if j = its then pl_fs p j ||| vb_bit (pl_n p) else pl_fs p j) v = _
    split
    · rename_i e; rw [vb_has_or, vb_has_bit (by omega), decide_eq_true e, Bool.true_and]
    · rename_i e; rw [decide_eq_false e, Bool.false_and, Bool.or_false]
  have hlo : ∀ j, j < 2 → ∀ v, vb_has (pl_fs p j) v = true → v < pl_n p := h9
  refine ⟨by show pl_n p + 1 ≤ 10; omega, h2, h3, fun v hv => h4 v (by show pl_n p ≤ v; have : pl_n p + 1 ≤ v := hv; omega), fun v => vb_below_mono (h5 v) (Nat.le_succ _), h6, h7, ?_, fun j hj v hv => ?_, fun v hv => ?_, h11, h12⟩
  · show vb_deg (pl_l (pl_addV p its w f)) (pl_n p + 1) = 2 * pl_rc p
    rw [vb_deg, pl_degc (ℓ := pl_l p) (ℓ' := pl_l (pl_addV p its w f)) _ (fun _ _ => rfl), h8]
    have : vb_nb (pl_l (pl_addV p its w f)) (pl_n p) = 0 := h4 _ (Nat.le_refl _)
    rw [this, vb_cnt_0]; rfl
  · show v < pl_n p + 1
    rw [hbit] at hv
    simp only [Bool.or_eq_true, Bool.and_eq_true, decide_eq_true_eq] at hv
    rcases hv with hv | hv
    · have := hlo j hj v hv; omega
    · omega
  · rw [hbit] at hv ⊢
    simp only [Bool.or_eq_true, Bool.and_eq_true, decide_eq_true_eq] at hv
    rcases hv with hv | ⟨e1, e2⟩
    · have := hlo 0 (by decide) v hv
      show (vb_has (pl_fs p 1) v || _) = false
      rw [h10 v hv, decide_eq_false (show ¬ v = pl_n p by omega), Bool.and_false]; rfl
    · show (vb_has (pl_fs p 1) v || _) = false
      rw [decide_eq_false (show ¬ 1 = its by omega), Bool.false_and, Bool.or_false]
      cases e : vb_has (pl_fs p 1) v with
      | false => rfl
      | true => have := hlo 1 (by decide) v e; omega
theorem pl_nbR {p : pl_S} {a c : Nat} (ha : a < 10) (hc : c < 10) (hne : a ≠ c) (u v : Nat) : vb_has (pl_nb (pl_addR p a c) u) v = (vb_has (pl_nb p u) v || (decide (u = a) && decide (v = c)) || (decide (u = c) && decide (v = a))) := by
  show vb_has (if u = a then pl_nb p a ||| vb_bit c else if u = c then pl_nb p c ||| vb_bit a else pl_nb p u) v = _
  by_cases h1 : u = a
  · subst h1
    rw [if_pos rfl, vb_has_or, vb_has_bit (by omega), decide_eq_true rfl, decide_eq_false hne]; simp
  · rw [if_neg h1]
    by_cases h2 : u = c
    · subst h2
      rw [if_pos rfl, vb_has_or, vb_has_bit (by omega), decide_eq_true rfl, decide_eq_false h1]; simp
    · rw [if_neg h2, decide_eq_false h1, decide_eq_false h2]; simp
theorem pl_okR {p : pl_S} {a c : Nat} (h : pl_ok p) (hr : pl_rc p < 18) (ha : a < pl_n p) (hc : c < pl_n p) (hne : a ≠ c) (hno : vb_has (pl_nb p a) c = false) : pl_ok (pl_addR p a c) := by
  obtain ⟨h1, h2, h3, h4, h5, h6, h7, h8, h9, h10, h11, h12⟩ := h
  have hh := pl_nbR (p := p) (a := a) (c := c) (by omega) (by omega) hne
  refine ⟨h1, by show pl_rc p + 1 ≤ 18; omega, h3, fun v hv => ?_, fun v u hu => ?_, fun u v => ?_, fun u => ?_, ?_, h9, h10, h11, h12⟩
  · have hv : pl_n p ≤ v := hv
    show (if v = a then pl_nb p a ||| vb_bit c else if v = c then pl_nb p c ||| vb_bit a else pl_nb p v) = 0
    rw [if_neg (by omega), if_neg (by omega)]; exact h4 v hv
  · show u < pl_n p
    rw [hh] at hu
    simp only [Bool.or_eq_true, Bool.and_eq_true, decide_eq_true_eq] at hu
    rcases hu with (hu | hu) | hu
    · exact h5 v u hu
    · omega
    · omega
  · rw [hh, hh, h6 u v, Bool.or_assoc, Bool.or_assoc]
    congr 1
    rw [Bool.or_comm, Bool.and_comm (decide (u = a)), Bool.and_comm (decide (u = c))]
  · rw [hh, h7 u, Bool.false_or, Bool.or_eq_false_iff]
    constructor
    · by_cases e : u = a
      · rw [decide_eq_false (show ¬ u = c by omega), Bool.and_false]
      · rw [decide_eq_false e, Bool.false_and]
    · by_cases e : u = a
      · rw [decide_eq_false (show ¬ u = c by omega), Bool.false_and]
      · rw [decide_eq_false e, Bool.and_false]
  · have key : ∀ v, vb_deg (pl_l (pl_addR p a c)) v = vb_deg (pl_l p) v + (if a < v then 1 else 0) + (if c < v then 1 else 0) := by
      intro v
      induction v with
      | zero => rfl
      | succ v ih =>
        rw [vb_deg, vb_deg, ih]
        have e : vb_nb (pl_l (pl_addR p a c)) v = if v = a then pl_nb p a ||| vb_bit c else if v = c then pl_nb p c ||| vb_bit a else pl_nb p v := rfl
        have e' : vb_nb (pl_l p) v = pl_nb p v := rfl
        rw [e, e']
        by_cases e1 : v = a
        · subst e1
          rw [if_pos rfl, vg_add1 (by omega) hno]
          (repeat' split) <;> omega
        · rw [if_neg e1]
          by_cases e2 : v = c
          · subst e2
            rw [if_pos rfl, vg_add1 (by omega) (by rw [h6]; exact hno)]
            (repeat' split) <;> omega
          · rw [if_neg e2]
            (repeat' split) <;> omega
    show vb_deg (pl_l (pl_addR p a c)) (pl_n p) = 2 * (pl_rc p + 1)
    rw [key, h8, if_pos ha, if_pos hc]; omega
theorem pl_okT {p : pl_S} {c : List (Nat × Int32)} (h : pl_ok p) (hc : px_ht c 0 1) : pl_ok (pl_addT p c) := by
  obtain ⟨h1, h2, h3, h4, h5, h6, h7, h8, h9, h10, h11, h12⟩ := h
  refine ⟨h1, h2, h3, h4, h5, h6, h7, ?_, h9, h10, fun _ => hc, fun r hr => ?_⟩
  · exact (pl_degc (ℓ := pl_l p) (ℓ' := pl_l (pl_addT p c)) _ (fun _ _ => rfl)).trans h8
  · show px_ht (if r = 3 then c else pl_ru p r) 0 1
    have hr : r < pl_sc p := hr
    rw [if_neg (by omega)]; exact h12 r hr
theorem pl_okS {p : pl_S} {c : List (Nat × Int32)} (h : pl_ok p) (hs : pl_sc p < 3) (hc : px_ht c 0 1) : pl_ok (pl_addS p c) := by
  obtain ⟨h1, h2, h3, h4, h5, h6, h7, h8, h9, h10, h11, h12⟩ := h
  refine ⟨h1, h2, by show pl_sc p + 1 ≤ 3; omega, h4, h5, h6, h7, ?_, h9, h10, fun h => ?_, fun r hr => ?_⟩
  · exact (pl_degc (ℓ := pl_l p) (ℓ' := pl_l (pl_addS p c)) _ (fun _ _ => rfl)).trans h8
  · show px_ht (if 3 = pl_sc p then c else pl_ru p 3) 0 1
    rw [if_neg (by omega)]; exact h11 h
  · show px_ht (if r = pl_sc p then c else pl_ru p r) 0 1
    have hr : r < pl_sc p + 1 := hr
    split
    · exact hc
    · exact h12 r (by omega)
def tx_Vs (b : Nat → Int32) (s : Nat) : Nat := tx_V b s (tx_E b s - s)
def ln_n (b : Nat → Int32) (most s : Nat) : (Nat × Nat) ⊕ Nat := if tx_K b s = 2 then (if tx_Vs b s ≤ most then .inr (tx_Vs b s) else .inl (2, s)) else .inl (if tx_K b s = 3 then 2 else 1, s)
def ln_a (b : Nat → Int32) (n s : Nat) : (Nat × Nat) ⊕ Nat := if tx_K b s = 2 then (if tx_Vs b s < n then .inr (tx_Vs b s) else .inl (3, s)) else .inl (if tx_K b s = 3 then 2 else 1, s)
abbrev ln_R : Type := Option ((Nat × Nat) ⊕ (Nat × pl_S))
def ln_v (b : Nat → Int32) (p : pl_S) (its s : Nat) : ln_R := if pl_n p < 10 then (match ln_n b 20 (tx_N b s) with
  | .inl x => some (.inl x)
  | .inr w => match ln_n b 9 (tx_N b (tx_N b s)) with
    | .inl x => some (.inl x)
    | .inr f => some (.inr (tx_N b (tx_N b (tx_N b s)), pl_addV p its w f))) else some (.inl (2, s))
def ln_r (b : Nat → Int32) (p : pl_S) (s : Nat) : ln_R := if pl_rc p < 18 then (match ln_a b (pl_n p) (tx_N b s) with
  | .inl x => some (.inl x)
  | .inr a => match ln_a b (pl_n p) (tx_N b (tx_N b s)) with
    | .inl x => some (.inl x)
    | .inr c => if a = c ∨ vb_has (pl_nb p a) c = true then some (.inl (4, tx_N b (tx_N b s))) else some (.inr (tx_N b (tx_N b (tx_N b s)), pl_addR p a c))) else some (.inl (2, s))
def ln_e (r : px_R) (k : List (Nat × Int32) → pl_S) : ln_R := match r with
  | none => none
  | some (.inl x) => some (.inl x)
  | some (.inr (s, c)) => some (.inr (s, k c))
def ln_0 (b : Nat → Int32) (f : Nat) (p : pl_S) (s : Nat) : ln_R :=
  if tx_w b s = 8 then ln_v b p 0 s else if tx_w b s = 9 then ln_v b p 1 s else if tx_w b s = 10 then ln_v b p 2 s else if tx_w b s = 11 then ln_r b p s
  else if tx_w b s = 5 then (if pl_ht p = true then some (.inl (5, s)) else ln_e (px b f 0 0 (tx_N b s)) (pl_addT p))
  else if tx_w b s = 12 then (if pl_sc p < 3 then ln_e (px b f 0 0 (tx_N b s)) (pl_addS p) else some (.inl (2, s)))
  else some (.inl (1, s))
def ln (b : Nat → Int32) (f : Nat) (p : pl_S) (s : Nat) : ln_R := match ln_0 b f p s with
  | none => none
  | some (.inl x) => some (.inl x)
  | some (.inr (s', p')) => if tx_K b s' = 59 then some (.inr (tx_N b s', p')) else some (.inl (1, s'))
def rd (b : Nat → Int32) (f : Nat) : Nat → pl_S → Nat → Option ((Nat × Nat) ⊕ pl_S)
  | 0, _, _ => none
  | g + 1, p, s => if tx_K b s = 0 then some (.inr p) else match ln b f p s with
    | none => none
    | some (.inl x) => some (.inl x)
    | some (.inr (s', p')) => rd b f g p' s'
