/-! reading comes to an end -/
def px_rk (m : Nat) : Nat := if m = 5 then 1 else if m = 4 then 2 else if m = 3 then 3 else if 20 ≤ m then 4 else if m = 2 then 5 else if m = 1 then 6 else if m = 0 then 7 else 1
theorem px_bd_t {r : px_R} {k : Nat → List (Nat × Int32) → px_R} {q : (Nat × Nat) ⊕ (Nat × List (Nat × Int32))} (h : r = some q) (hk : ∀ s c, q = .inr (s, c) → ∃ z, k s c = some z) : ∃ z, px_bd r k = some z := by
  subst h
  cases q with
  | inl x => exact ⟨.inl x, rfl⟩
  | inr y => exact hk y.1 y.2 rfl
theorem px_tot {b : Nat → Int32} {n : Nat} (hb : tx_ok b n) : ∀ f m w s, px_md m → w ≤ 5 → s ≤ n → 10 * (n - s) + px_rk m ≤ f → ∃ r, px b f m w s = some r := by
  intro f
  induction f with
  | zero => intro m w s hm _ hs h; exfalso; simp only [px_rk] at h; (repeat' split at h) <;> omega
  | succ f ih =>
    intro m w s hm hw hs hf
    have hlt : ∀ {s : Nat}, s ≤ n → tx_K b s ≠ 0 → s < tx_N b s ∧ tx_N b s ≤ n ∧ s < n := fun {s} hs hk => ⟨tx_N_lt hb (tx_lt hb hs hk), tx_N_n hb hs, tx_lt hb hs hk⟩
    by_cases h5 : m = 5
    · subst h5
      have hf : 10 * (n - s) + 1 ≤ f + 1 := hf
      rw [px_5]
      split
      · rename_i hK
        have h1 := hlt hs (by rw [hK]; decide)
        split
        · obtain ⟨r, hr⟩ := ih 0 (w + 1) (tx_N b s) (Or.inl (by decide)) (by omega) h1.2.1 (by show 10 * (n - tx_N b s) + 7 ≤ f; omega)
          refine px_bd_t hr (fun s2 c _ => ?_)
          split <;> exact ⟨_, rfl⟩
        · exact ⟨_, rfl⟩
      · (repeat' split) <;> exact ⟨_, rfl⟩
    · by_cases h2 : m = 2
      · subst h2
        have hf : 10 * (n - s) + 5 ≤ f + 1 := hf
        rw [px_2]
        exact ih 20 w s (by simp [px_md]) hw hs (by show 10 * (n - s) + 4 ≤ f; omega)
      · by_cases h20 : 20 ≤ m
        · obtain ⟨j, rfl⟩ : ∃ j, m = 20 + j := ⟨m - 20, by omega⟩
          have hj : j ≤ 6 := by simp only [px_md] at hm; omega
          have hr : ∀ j, px_rk (20 + j) = 4 := fun j => by simp only [px_rk]; rw [if_neg (by omega), if_neg (by omega), if_neg (by omega), if_pos (by omega)]
          rw [hr] at hf
          rw [px_20]
          split
          · have h1 := hlt hs (by rw [tx_w_K (by omega)]; decide)
            split
            · exact ⟨_, rfl⟩
            · exact ih (20 + (j + 1)) w _ (by simp only [px_md]; omega) hw h1.2.1 (by rw [hr]; omega)
          · have hm3 : px_md 3 := by simp [px_md]
            obtain ⟨r, hr3⟩ := ih 3 w s hm3 hw hs (by show 10 * (n - s) + 3 ≤ f; omega)
            refine px_bd_t hr3 (fun s1 c1 e => ?_)
            subst e
            have h3 := px_q hb f 3 w s _ hm3 hw hs hr3
            split
            · exact ⟨_, rfl⟩
            · rename_i hj2
              have h4 := hlt h3.2.1 (px_j_K hj2)
              have h5 := h3.1
              obtain ⟨r, hr4⟩ := ih 3 w (tx_N b s1) hm3 hw h4.2.1 (by show 10 * (n - tx_N b s1) + 3 ≤ f; omega)
              exact px_bd_t hr4 (fun s2 c2 _ => ⟨_, rfl⟩)
        · by_cases h10 : 10 ≤ m
          · obtain ⟨l, rfl⟩ : ∃ l, m = 10 + l := ⟨m - 10, by omega⟩
            have hl : l = 0 ∨ l = 1 ∨ l = 3 ∨ l = 4 := by simp only [px_md] at hm; omega
            have hr1 : px_rk (10 + l) = 1 := by rcases hl with rfl | rfl | rfl | rfl <;> rfl
            have hr2 : px_rk (l + 1) ≤ 6 := by rcases hl with rfl | rfl | rfl | rfl <;> decide
            rw [hr1] at hf
            rw [px_10 _ _ _ _ _ (by omega)]
            split
            · exact ⟨_, rfl⟩
            · rename_i hj2
              have h4 := hlt hs (px_j_K hj2)
              have hm1 : px_md (l + 1) := by simp only [px_md]; omega
              obtain ⟨r, hr3⟩ := ih (l + 1) w (tx_N b s) hm1 hw h4.2.1 (by omega)
              refine px_bd_t hr3 (fun s1 c1 e => ?_)
              subst e
              have h3 := px_q hb f (l + 1) w _ _ hm1 hw h4.2.1 hr3
              have h5 := h3.1
              have h6 := h3.2.1
              obtain ⟨r, hr4⟩ := ih (10 + l) w s1 hm hw h3.2.1 (by rw [hr1]; omega)
              exact px_bd_t hr4 (fun s2 c2 _ => ⟨_, rfl⟩)
          · have hl : m = 0 ∨ m = 1 ∨ m = 3 ∨ m = 4 := by simp only [px_md] at hm; omega
            have hm1 : px_md (m + 1) := by simp only [px_md]; omega
            have hm2 : px_md (10 + m) := by simp only [px_md]; omega
            have hr1 : px_rk (10 + m) = 1 := by rcases hl with rfl | rfl | rfl | rfl <;> rfl
            have hr2 : px_rk (m + 1) + 1 ≤ px_rk m := by rcases hl with rfl | rfl | rfl | rfl <;> decide
            rw [px_0 _ _ _ _ _ (by omega) h2]
            obtain ⟨r, hr3⟩ := ih (m + 1) w s hm1 hw hs (by omega)
            refine px_bd_t hr3 (fun s1 c1 e => ?_)
            subst e
            have h3 := px_q hb f (m + 1) w _ _ hm1 hw hs hr3
            have h5 := h3.2.2.1 (decide_eq_false (by omega))
            have h6 := h3.2.1
            obtain ⟨r, hr4⟩ := ih (10 + m) w s1 hm2 hw h3.2.1 (by rw [hr1]; omega)
            exact px_bd_t hr4 (fun s2 c2 _ => ⟨_, rfl⟩)
/-! the class's code and the reference's code of what is read -/
def px_it (p : Nat × Int32) : List Int32 := if p.1 = 1 then [p.2] else if p.1 = 2 then [-1 - p.2] else if p.1 = 3 then [vb_i 0, -1 - vb_i 15] else [-1 - vb_i (if p.1 = 4 then 8 else if p.1 = 5 then 9 else if p.1 = 6 then 14 else if p.1 = 7 then 15 else if p.1 = 8 then 10 else if p.1 = 9 then 11 else if p.1 = 10 then 12 else 13)]
def px_cc (c : List (Nat × Int32)) : List Int32 := c.flatMap px_it
theorem px_cc_app (a c : List (Nat × Int32)) : px_cc (a ++ c) = px_cc a ++ px_cc c := List.flatMap_append
theorem px_cc_cons (p : Nat × Int32) (c : List (Nat × Int32)) : px_cc (p :: c) = px_it p ++ px_cc c := rfl
theorem px_cc_len (c : List (Nat × Int32)) : (px_cc c).length = px_cl c := by
  induction c with
  | nil => rfl
  | cons p c ih =>
    rw [px_cc_cons, List.length_append, ih, px_cl]
    congr 1
    simp only [px_it]
    by_cases h3 : p.1 = 3
    · rw [h3]; rfl
    · rw [if_neg h3, if_neg h3]
      (repeat' split) <;> rfl
theorem px_small (v : Nat) (h : v ≤ 9999) : -1 - vb_i v < vb_i 8 ∧ ¬ vb_i v < 0 := by
  have e : (vb_i v).toInt = v := by rw [vb_i, Int32.toInt_ofNat_of_lt (by omega)]
  have e2 : (-1 - vb_i v).toInt = -1 - (v : Int) := by
    rw [Int32.toInt_sub, e, show Int32.toInt (-1) = -1 by decide]
    exact Int.bmod_eq_of_le (by omega) (by omega)
  constructor
  · rw [Int32.lt_iff_toInt_lt, e2, show (vb_i 8).toInt = 8 by decide]; omega
  · rw [Int32.lt_iff_toInt_lt, e, show Int32.toInt 0 = 0 by decide]; omega
theorem px_val8 : ∀ j, j < 8 → -1 - (-1 - vb_i j) < vb_i 8 ∧ -1 - vb_i j < 0 ∧ (-1 - (-1 - vb_i j)).toNatClampNeg = j ∧ (vb_i j).toNatClampNeg = j := by decide
theorem px_opI : ∀ q, q < 12 → 4 ≤ q → ∀ l r : Int32, vb_op (-1 - (-1 - vb_i (if q = 4 then 8 else if q = 5 then 9 else if q = 6 then 14 else if q = 7 then 15 else if q = 8 then 10 else if q = 9 then 11 else if q = 10 then 12 else 13))) l r = vm_wk q l r := by
  intro q h1 h2 l r
  have : q = 4 ∨ q = 5 ∨ q = 6 ∨ q = 7 ∨ q = 8 ∨ q = 9 ∨ q = 10 ∨ q = 11 := by omega
  rcases this with rfl | rfl | rfl | rfl | rfl | rfl | rfl | rfl
  · exact vo_8
  · exact vo_9
  · exact vo_14
  · exact vo_15
  · exact vo_10
  · exact vo_11
  · exact vo_12
  · exact vo_13
theorem px_opn : ∀ q, q < 12 → 4 ≤ q → ∃ j, j < 8 ∧ -1 - (-1 - vb_i (if q = 4 then 8 else if q = 5 then 9 else if q = 6 then 14 else if q = 7 then 15 else if q = 8 then 10 else if q = 9 then 11 else if q = 10 then 12 else 13)) = vb_i (8 + j) := by decide
theorem px_op8 {j : Nat} (hj : j < 8) : ¬ vb_i (8 + j) < vb_i 8 := by
  have : ∀ j, j < 8 → ¬ vb_i (8 + j) < vb_i 8 := by decide
  exact this j hj
theorem px_it1 (a : Int32) : px_it (1, a) = [a] := if_pos rfl
theorem px_it2 (a : Int32) : px_it (2, a) = [-1 - a] := (if_neg (by decide : ¬ (2 : Nat) = 1)).trans (if_pos rfl)
theorem px_it3 (a : Int32) : px_it (3, a) = [vb_i 0, -1 - vb_i 15] := (if_neg (by decide : ¬ (3 : Nat) = 1)).trans ((if_neg (by decide : ¬ (3 : Nat) = 2)).trans (if_pos rfl))
theorem px_it4 {q : Nat} {a : Int32} (h : 4 ≤ q) : px_it (q, a) = [-1 - vb_i (if q = 4 then 8 else if q = 5 then 9 else if q = 6 then 14 else if q = 7 then 15 else if q = 8 then 10 else if q = 9 then 11 else if q = 10 then 12 else 13)] := (if_neg (show ¬ q = 1 by omega)).trans ((if_neg (show ¬ q = 2 by omega)).trans (if_neg (show ¬ q = 3 by omega)))
theorem vs_t1 (vals : Nat → Int32) (stk : List Int32) (a : Int32) : vm_st vals stk (1, a) = a :: stk := if_pos rfl
theorem vs_t2 (vals : Nat → Int32) (stk : List Int32) (a : Int32) : vm_st vals stk (2, a) = vals a.toNatClampNeg :: stk := (if_neg (by decide : ¬ (2 : Nat) = 1)).trans (if_pos rfl)
theorem vs_t3 (vals : Nat → Int32) (z : Int32) (s : List Int32) (a : Int32) : vm_st vals (z :: s) (3, a) = vb_b (z == 0) :: s := (if_neg (by decide : ¬ (3 : Nat) = 1)).trans ((if_neg (by decide : ¬ (3 : Nat) = 2)).trans (if_pos rfl))
/-- both codes do the same to a stack that is high enough -/
theorem px_run {vals : Nat → Int32} : ∀ (c : List (Nat × Int32)) (stk : List Int32) (h' : Nat), px_ht c stk.length h' → (px_cc c).foldl (vb_st1 vals) stk = c.foldl (vm_st vals) stk ∧ (c.foldl (vm_st vals) stk).length = h' := by
  intro c
  induction c with
  | nil => intro stk h' h; exact ⟨rfl, h⟩
  | cons p c ih =>
    obtain ⟨q, a⟩ := p
    intro stk h' h
    rw [px_cc_cons, List.foldl_append, List.foldl_cons]
    have key : (px_it (q, a)).foldl (vb_st1 vals) stk = vm_st vals stk (q, a) ∧ px_ht c (vm_st vals stk (q, a)).length h' := by
      rw [px_ht] at h
      rcases h with ⟨rfl, ⟨v, hv, rfl⟩, h3, h4⟩ | ⟨rfl, ⟨j, hj, rfl⟩, h3, h4⟩ | ⟨rfl, h2, h3, h4⟩ | ⟨h1, h2, h3, h4⟩
      · have hs := px_small v hv
        rw [px_it1, vs_t1, List.foldl_cons, List.foldl_nil]
        refine ⟨?_, h4⟩
        rw [vb_st1_p hs.1, if_neg hs.2]
      · obtain ⟨e1, e2, e3, e4⟩ := px_val8 j hj
        rw [px_it2, vs_t2, List.foldl_cons, List.foldl_nil]
        refine ⟨?_, h4⟩
        rw [vb_st1_p e1, if_pos e2, e3, e4]
      · obtain ⟨z, s, rfl⟩ : ∃ z s, stk = z :: s := by
          cases stk with
          | nil => exact absurd h2 (by decide)
          | cons z s => exact ⟨z, s, rfl⟩
        rw [px_it3, vs_t3, List.foldl_cons, List.foldl_cons, List.foldl_nil]
        refine ⟨?_, h4⟩
        rw [vb_st1_p (it := vb_i 0) (by decide), if_neg (by decide), vb_st1_o (by decide), show (-1 - (-1 - vb_i 15) : Int32) = vb_i (8 + 7) by decide, vo_15]
        rfl
      · obtain ⟨rr, ll, s, rfl⟩ := vb_two h3
        have e1 : ¬ q = 1 := by omega
        have e2 : ¬ q = 2 := by omega
        have e3 : ¬ q = 3 := by omega
        have e4 : vm_st vals (rr :: ll :: s) (q, a) = vm_wk q ll rr :: s := by simp only [vm_st]; rw [if_neg e1, if_neg e2, if_neg e3]
        obtain ⟨j, hj, ej⟩ := px_opn q (by omega) h1
        rw [e4]
        refine ⟨?_, h4⟩
        rw [px_it4 (by omega), List.foldl_cons, List.foldl_nil]
        rw [vb_st1_o (by rw [ej]; exact px_op8 hj), px_opI q (by omega) h1]
    rw [key.1]
    exact ih _ _ key.2
theorem px_wf : ∀ (c : List (Nat × Int32)) (h h' : Nat), px_ht c h h' → vb_wf (px_cc c) h := by
  intro c
  induction c with
  | nil => intro h h' _; exact True.intro
  | cons p c ih =>
    obtain ⟨q, a⟩ := p
    intro h h' hh
    rw [px_cc_cons]
    rw [px_ht] at hh
    rcases hh with ⟨rfl, ⟨v, hv, rfl⟩, h3, h4⟩ | ⟨rfl, ⟨j, hj, rfl⟩, h3, h4⟩ | ⟨rfl, h2, h3, h4⟩ | ⟨h1, h2, h3, h4⟩
    · exact Or.inl ⟨(px_small v hv).1, h3, ih _ _ h4⟩
    · exact Or.inl ⟨(px_val8 j hj).1, h3, ih _ _ h4⟩
    · refine Or.inl ⟨by decide, h3, Or.inr ⟨by omega, ⟨7, by decide, by decide⟩, ?_⟩⟩
      rw [show h + 1 - 1 = h by omega]; exact ih _ _ h4
    · obtain ⟨j, hj, ej⟩ := px_opn q (by omega) h1
      have e1 : ¬ q = 1 := by omega
      have e2 : ¬ q = 2 := by omega
      have e3 : ¬ q = 3 := by omega
      simp only [px_it]
      rw [if_neg e1, if_neg e2, if_neg e3]
      exact Or.inr ⟨h3, ⟨j, hj, ej⟩, ih _ _ h4⟩
def px_f (c : List (Nat × Int32)) (vals : Nat → Int32) : Int32 := (c.foldl (vm_st vals) []).headD 0
theorem px_f1 {c : List (Nat × Int32)} (h : px_ht c 0 1) (vals : Nat → Int32) : c.foldl (vm_st vals) [] = [px_f c vals] := by
  have := (px_run (vals := vals) c [] 1 h).2
  rw [px_f]
  cases e : c.foldl (vm_st vals) [] with
  | nil => rw [e] at this; cases this
  | cons x l =>
    rw [e] at this
    cases l with
    | nil => rfl
    | cons y l => simp at this
theorem px_RD {co sa en : Nat → Int32} {r s : Nat} {c : List (Nat × Int32)} (h : px_ht c 0 1) (h1 : sa r = vb_i s) (h2 : en r = vb_i (s + px_cl c)) (h3 : s + px_cl c ≤ 700) (h4 : ∀ j, j < px_cl c → co (s + j) = (px_cc c).getD j 0) : vb_RD co sa en r (px_f c) := by
  refine ⟨s, px_cc c, h1, by rw [px_cc_len]; exact h2, by rw [px_cc_len]; exact h3, fun j hj => h4 j (by rw [px_cc_len] at hj; exact hj), px_wf c 0 1 h, fun vals => ?_⟩
  rw [(px_run (vals := vals) c [] 1 h).1]; rfl
/-- the reference's ints of a code -/
def px_ri (p : Nat × Int32) : List Int32 := if p.1 = 1 ∨ p.1 = 2 then [vb_i p.1, p.2] else [vb_i p.1]
def px_rc (c : List (Nat × Int32)) : List Int32 := c.flatMap px_ri
theorem px_rc_app (a c : List (Nat × Int32)) : px_rc (a ++ c) = px_rc a ++ px_rc c := List.flatMap_append
theorem px_rc_len (c : List (Nat × Int32)) : (px_rc c).length ≤ 2 * px_cl c := by
  induction c with
  | nil => exact Nat.le_refl _
  | cons p c ih =>
    show (px_ri p ++ px_rc c).length ≤ _
    rw [List.length_append, px_cl]
    have : (px_ri p).length ≤ 2 := by simp only [px_ri]; split <;> simp
    split <;> omega
theorem px_vok {co : Nat → Int32} : ∀ (c : List (Nat × Int32)) (k h : Nat), px_ht c h 1 → (∀ j, j < (px_rc c).length → co (k + j) = (px_rc c).getD j 0) → co (k + (px_rc c).length) = 0 → k + (px_rc c).length < 2800 → vm_ok co c k h := by
  intro c
  induction c with
  | nil => intro k h hh _ h0 hk; exact ⟨h0, hk, hh⟩
  | cons p c ih =>
    obtain ⟨q, a⟩ := p
    intro k h hh hc h0 hk
    have e : px_rc ((q, a) :: c) = px_ri (q, a) ++ px_rc c := rfl
    rw [e] at hc h0 hk
    rw [px_ht] at hh
    have two : q = 1 ∨ q = 2 → co k = vb_i q ∧ co (k + 1) = a ∧ (∀ j, j < (px_rc c).length → co (k + 2 + j) = (px_rc c).getD j 0) ∧ co (k + 2 + (px_rc c).length) = 0 ∧ k + 2 + (px_rc c).length < 2800 := by
      intro hq
      have e2 : px_ri (q, a) = [vb_i q, a] := by simp only [px_ri]; rw [if_pos hq]
      rw [e2] at hc h0 hk
      simp only [List.cons_append, List.nil_append, List.length_cons] at hc h0 hk
      refine ⟨?_, ?_, fun j hj => ?_, ?_, by omega⟩
      · have := hc 0 (by omega); exact this
      · have := hc 1 (by omega); exact this
      · have := hc (j + 2) (by omega)
        rw [show k + 2 + j = k + (j + 2) by omega, this]; rfl
      · rw [← h0]; congr 1; omega
    have one : ¬ (q = 1 ∨ q = 2) → co k = vb_i q ∧ (∀ j, j < (px_rc c).length → co (k + 1 + j) = (px_rc c).getD j 0) ∧ co (k + 1 + (px_rc c).length) = 0 ∧ k + 1 + (px_rc c).length < 2800 := by
      intro hq
      have e2 : px_ri (q, a) = [vb_i q] := by simp only [px_ri]; rw [if_neg hq]
      rw [e2] at hc h0 hk
      simp only [List.cons_append, List.nil_append, List.length_cons] at hc h0 hk
      refine ⟨?_, fun j hj => ?_, ?_, by omega⟩
      · have := hc 0 (by omega); exact this
      · have := hc (j + 1) (by omega)
        rw [show k + 1 + j = k + (j + 1) by omega, this]; rfl
      · rw [← h0]; congr 1; omega
    rw [vm_ok]
    rcases hh with ⟨rfl, hv, h3, h4⟩ | ⟨rfl, hj, h3, h4⟩ | ⟨rfl, h2, h3, h4⟩ | ⟨h1, h2, h3, h4⟩
    · obtain ⟨x1, x2, x3, x4, x5⟩ := two (Or.inl rfl)
      exact ⟨by omega, x1, Or.inl ⟨rfl, x2, by omega, ih _ _ h4 x3 x4 x5⟩⟩
    · obtain ⟨x1, x2, x3, x4, x5⟩ := two (Or.inr rfl)
      exact ⟨by omega, x1, Or.inr (Or.inl ⟨rfl, hj, x2, by omega, ih _ _ h4 x3 x4 x5⟩)⟩
    · obtain ⟨x1, x3, x4, x5⟩ := one (by omega)
      exact ⟨by omega, x1, Or.inr (Or.inr (Or.inl ⟨rfl, h2, ih _ _ h4 x3 x4 x5⟩))⟩
    · obtain ⟨x1, x3, x4, x5⟩ := one (by omega)
      exact ⟨by omega, x1, Or.inr (Or.inr (Or.inr ⟨h1, h2, h3, ih _ _ h4 x3 x4 x5⟩))⟩
theorem px_vRD {co : Nat → Int32} {a : Nat} {c : List (Nat × Int32)} (h : px_ht c 0 1) (h1 : ∀ j, j < (px_rc c).length → co (a + j) = (px_rc c).getD j 0) (h2 : co (a + (px_rc c).length) = 0) (h3 : a + (px_rc c).length < 2800) : vm_RD co a (px_f c) := ⟨c, px_vok c a 0 h h1 h2 h3, px_f1 h⟩
