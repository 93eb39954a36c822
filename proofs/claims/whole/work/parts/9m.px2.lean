/-! what is read lies within the text; its size, its heights -/
def px_cl : List (Nat × Int32) → Nat
  | [] => 0
  | p :: c => (if p.1 = 3 then 2 else 1) + px_cl c
theorem px_cl_app (a c : List (Nat × Int32)) : px_cl (a ++ c) = px_cl a + px_cl c := by
  induction a with
  | nil => rw [List.nil_append, px_cl, Nat.zero_add]
  | cons p a ih => rw [List.cons_append, px_cl, px_cl, ih]; omega
theorem px_cl_rep (j : Nat) : px_cl (List.replicate j (3, 0)) = 2 * j := by
  induction j with
  | zero => rfl
  | succ j ih => rw [List.replicate_succ, px_cl, ih]; simp only [if_true]; omega
/-- runs from height h to h', never above 64 -/
def px_ht : List (Nat × Int32) → Nat → Nat → Prop
  | [], h, h' => h = h'
  | (q, a) :: c, h, h' => (q = 1 ∧ (∃ v, v ≤ 9999 ∧ a = vb_i v) ∧ h < 64 ∧ px_ht c (h + 1) h') ∨ (q = 2 ∧ (∃ j, j < 8 ∧ a = vb_i j) ∧ h < 64 ∧ px_ht c (h + 1) h') ∨ (q = 3 ∧ 1 ≤ h ∧ h < 64 ∧ px_ht c h h') ∨ (4 ≤ q ∧ q ≤ 11 ∧ 2 ≤ h ∧ px_ht c (h - 1) h')
theorem px_ht_app {c c' : List (Nat × Int32)} {h h1 h2 : Nat} (ha : px_ht c h h1) (hb : px_ht c' h1 h2) : px_ht (c ++ c') h h2 := by
  induction c generalizing h with
  | nil => rw [px_ht] at ha; rw [ha]; exact hb
  | cons p c ih =>
    obtain ⟨q, a⟩ := p
    rw [List.cons_append]
    rw [px_ht] at ha ⊢
    rcases ha with ⟨x1, x2, x3, x4⟩ | ⟨x1, x2, x3, x4⟩ | ⟨x1, x2, x3, x4⟩ | ⟨x1, x2, x3, x4⟩
    · exact Or.inl ⟨x1, x2, x3, ih x4⟩
    · exact Or.inr (Or.inl ⟨x1, x2, x3, ih x4⟩)
    · exact Or.inr (Or.inr (Or.inl ⟨x1, x2, x3, ih x4⟩))
    · exact Or.inr (Or.inr (Or.inr ⟨x1, x2, x3, ih x4⟩))
theorem px_ht_op {q h : Nat} (h1 : 4 ≤ q) (h2 : q ≤ 11) : px_ht [(q, 0)] (h + 2) (h + 1) := Or.inr (Or.inr (Or.inr ⟨h1, h2, by omega, rfl⟩))
theorem px_ht_rep {h : Nat} (hh : h + 1 < 64) (j : Nat) : px_ht (List.replicate j (3, 0)) (h + 1) (h + 1) := by
  induction j with
  | zero => rfl
  | succ j ih => exact Or.inr (Or.inr (Or.inl ⟨rfl, by omega, hh, ih⟩))
def px_B (m : Nat) : Nat := if m = 5 then 1 else if m = 4 ∨ m = 14 then 2 else if m = 3 ∨ m = 13 then 3 else if m = 2 ∨ 20 ≤ m then 4 else if m = 1 ∨ m = 11 then 5 else 6
def px_md (m : Nat) : Prop := m ≤ 5 ∨ m = 10 ∨ m = 11 ∨ m = 13 ∨ m = 14 ∨ (20 ≤ m ∧ m ≤ 26)
def px_lp (m : Nat) : Bool := decide (10 ≤ m ∧ m < 20)
/-- what holds of an answer -/
def px_Q (n m w s : Nat) (r : (Nat × Nat) ⊕ (Nat × List (Nat × Int32))) : Prop := match r with
  | .inl (why, pl) => 1 ≤ why ∧ why ≤ 3 ∧ pl ≤ n
  | .inr (s', c) => s ≤ s' ∧ s' ≤ n ∧ (px_lp m = false → s < s') ∧ px_cl c + s ≤ s' + 2 * (m - 20) ∧ ∀ h, h + 5 * (5 - w) + px_B m ≤ 64 → px_ht c (if px_lp m then h + 1 else h) (h + 1)
theorem px_q {b : Nat → Int32} {n : Nat} (hb : tx_ok b n) : ∀ f m w s r, px_md m → w ≤ 5 → s ≤ n → px b f m w s = some r → px_Q n m w s r := by
  intro f
  induction f with
  | zero => intro m w s r _ _ _ h; cases h
  | succ f ih =>
    intro m w s r hm hw hs h
    have hlt : ∀ {s : Nat}, s ≤ n → tx_K b s ≠ 0 → s < tx_N b s ∧ tx_N b s ≤ n := fun {s} hs hk => ⟨tx_N_lt hb (tx_lt hb hs hk), tx_N_n hb hs⟩
    by_cases h5 : m = 5
    · subst h5
      rw [px_5] at h
      split at h
      · rename_i hK
        have h1 := hlt hs (by rw [hK]; decide)
        split at h
        · rename_i hw6
          cases r with
          | inl x =>
            rcases px_bd_l h with h | ⟨s1, c1, h, h2⟩
            · exact ih 0 (w + 1) _ _ (Or.inl (by decide)) (by omega) h1.2 h
            · have h3 := ih 0 (w + 1) _ _ (Or.inl (by decide)) (by omega) h1.2 h
              split at h2
              · cases h2
              · cases h2; exact ⟨by decide, by decide, h3.2.1⟩
          | inr y =>
            obtain ⟨y1, y2⟩ := y
            obtain ⟨s1, c1, h, h2⟩ := px_bd_r h
            have h3 := ih 0 (w + 1) _ _ (Or.inl (by decide)) (by omega) h1.2 h
            split at h2
            · rename_i hK2
              cases h2
              have h4 := hlt h3.2.1 (by rw [hK2]; decide)
              have h5 := h3.1
              have h6 := h3.2.2.2.1
              refine ⟨by omega, h4.2, fun _ => by omega, by omega, fun h hh => ?_⟩
              exact h3.2.2.2.2 h (by simp only [px_B] at hh ⊢; simp at hh ⊢; omega)
            · cases h2
        · cases h
          refine ⟨?_, ?_, h1.2⟩ <;> split <;> decide
      · split at h
        · rename_i hK
          have h1 := hlt hs (by rw [hK]; decide)
          split at h
          · rename_i hw8
            cases h
            refine ⟨by omega, h1.2, fun _ => by omega, by simp only [px_cl]; simp; omega, fun h hh => ?_⟩
            exact Or.inr (Or.inl ⟨rfl, ⟨_, hw8, rfl⟩, by simp only [px_B] at hh; simp at hh; show h < 64; omega, rfl⟩)
          · cases h; exact ⟨by decide, by decide, hs⟩
        · split at h
          · rename_i hK
            have h1 := hlt hs (by rw [hK]; decide)
            cases h
            refine ⟨by omega, h1.2, fun _ => by omega, by simp only [px_cl]; simp; omega, fun h hh => ?_⟩
            exact Or.inl ⟨rfl, ⟨_, (tx_num hK).2.2, rfl⟩, by simp only [px_B] at hh; simp at hh; show h < 64; omega, rfl⟩
          · cases h
            refine ⟨?_, ?_, hs⟩ <;> split <;> decide
    · by_cases h2 : m = 2
      · subst h2
        rw [px_2] at h
        have := ih 20 w s r (by simp [px_md]) hw hs h
        cases r with
        | inl x => exact this
        | inr y => exact this
      · by_cases h20 : 20 ≤ m
        · obtain ⟨j, rfl⟩ : ∃ j, m = 20 + j := ⟨m - 20, by omega⟩
          have hj : j ≤ 6 := by simp only [px_md] at hm; omega
          have hlp : px_lp (20 + j) = false := decide_eq_false (by omega)
          have hB : px_B (20 + j) = 4 := by simp only [px_B]; rw [if_neg (by omega), if_neg (by omega), if_neg (by omega), if_pos (by omega)]
          rw [px_20] at h
          split at h
          · rename_i hw15
            have hl := tx_w_len (b := b) (s := s) (by omega)
            have h1 := hlt hs (by rw [tx_w_K (by omega)]; decide)
            split at h
            · cases h; exact ⟨by decide, by decide, hs⟩
            · rename_i hj6
              have h3 := ih (20 + (j + 1)) w _ r (by simp only [px_md]; omega) hw h1.2 h
              cases r with
              | inl x => exact h3
              | inr y =>
                obtain ⟨s', c⟩ := y
                obtain ⟨g1, g2, g3, g4, g5⟩ := h3
                have hN : s + 3 ≤ tx_N b s := by
                  have := tx_E_N b s
                  have e : (tx_wl.getD (tx_w b s) []).length = 3 := by rw [hw15]; rfl
                  omega
                refine ⟨by omega, g2, fun _ => by omega, by omega, fun h hh => ?_⟩
                have hB' : px_B (20 + (j + 1)) = 4 := by simp only [px_B]; rw [if_neg (by omega), if_neg (by omega), if_neg (by omega), if_pos (by omega)]
                have := g5 h (by rw [hB']; rw [hB] at hh; exact hh)
                rw [show px_lp (20 + (j + 1)) = false from decide_eq_false (by omega)] at this
                rw [hlp]; exact this
          · have hm3 : px_md 3 := by simp [px_md]
            cases r with
            | inl x =>
              rcases px_bd_l h with h | ⟨s1, c1, h, h2⟩
              · exact ih 3 w s _ hm3 hw hs h
              · have h3 := ih 3 w s _ hm3 hw hs h
                split at h2
                · cases h2
                · rename_i hj2
                  have h4 := hlt h3.2.1 (px_j_K hj2)
                  rcases px_bd_l h2 with h6 | ⟨s2, c2, h6, h7⟩
                  · exact ih 3 w _ _ hm3 hw h4.2 h6
                  · cases h7
            | inr y =>
              obtain ⟨y1, y2⟩ := y
              obtain ⟨s1, c1, h, h2⟩ := px_bd_r h
              obtain ⟨g1, g2, g3, g4, g5⟩ := ih 3 w s _ hm3 hw hs h
              have e3 : px_lp 3 = false := rfl
              have g3 := g3 rfl
              have eB : px_B 3 = 3 := rfl
              rw [e3, eB] at g5
              split at h2
              · cases h2
                refine ⟨g1, g2, fun _ => g3, by rw [px_cl_app, px_cl_rep]; omega, fun h hh => ?_⟩
                rw [hB] at hh
                rw [hlp]
                exact px_ht_app (g5 h (by omega)) (px_ht_rep (by omega) j)
              · rename_i hj2
                have h4 := hlt g2 (px_j_K hj2)
                obtain ⟨s2, c2, h6, h7⟩ := px_bd_r h2
                cases h7
                obtain ⟨k1, k2, k3, k4, k5⟩ := ih 3 w _ _ hm3 hw h4.2 h6
                rw [e3, eB] at k5
                have ho := px_j_op hj2
                refine ⟨by omega, k2, fun _ => by omega, by rw [px_cl_app, px_cl_app, px_cl, px_cl_rep, if_neg (by show ¬ px_j b 2 s1 = 3; omega)]; omega, fun h hh => ?_⟩
                rw [hB] at hh
                rw [hlp]
                refine px_ht_app (px_ht_app (g5 h (by omega)) (k5 (h + 1) (by omega))) ?_
                exact px_ht_app (c := [(px_j b 2 s1, 0)]) (px_ht_op ho.1 ho.2) (px_ht_rep (by omega) j)
        · by_cases h10 : 10 ≤ m
          · obtain ⟨l, rfl⟩ : ∃ l, m = 10 + l := ⟨m - 10, by omega⟩
            have hl : l = 0 ∨ l = 1 ∨ l = 3 ∨ l = 4 := by simp only [px_md] at hm; omega
            rw [px_10 _ _ _ _ _ (by omega)] at h
            have hlp : px_lp (10 + l) = true := decide_eq_true (by omega)
            have hm1 : px_md (l + 1) := by simp only [px_md]; omega
            have e3 : px_lp (l + 1) = false := decide_eq_false (by omega)
            have hB1 : px_B (10 + l) = px_B (l + 1) + 1 := by rcases hl with rfl | rfl | rfl | rfl <;> rfl
            split at h
            · cases h
              refine ⟨Nat.le_refl _, hs, (fun e => by rw [hlp] at e; cases e), by simp only [px_cl]; omega, fun h hh => ?_⟩
              rw [hlp]; rfl
            · rename_i hj2
              have h4 := hlt hs (px_j_K hj2)
              have ho := px_j_op hj2
              cases r with
              | inl x =>
                rcases px_bd_l h with h | ⟨s1, c1, h, h2⟩
                · exact ih (l + 1) w _ _ hm1 hw h4.2 h
                · have h3 := ih (l + 1) w _ _ hm1 hw h4.2 h
                  rcases px_bd_l h2 with h6 | ⟨s2, c2, h6, h7⟩
                  · exact ih (10 + l) w s1 _ hm hw h3.2.1 h6
                  · cases h7
              | inr y =>
                obtain ⟨y1, y2⟩ := y
                obtain ⟨s1, c1, h, h2⟩ := px_bd_r h
                obtain ⟨g1, g2, g3, g4, g5⟩ := ih (l + 1) w _ _ hm1 hw h4.2 h
                obtain ⟨s2, c2, h6, h7⟩ := px_bd_r h2
                cases h7
                obtain ⟨k1, k2, k3, k4, k5⟩ := ih (10 + l) w _ _ hm hw g2 h6
                rw [e3] at g5
                rw [hlp] at k5
                refine ⟨by omega, k2, (fun e => by rw [hlp] at e; cases e), by rw [px_cl_app, px_cl, if_neg (by show ¬ px_j b l s = 3; omega)]; omega, fun h hh => ?_⟩
                rw [hlp]
                rw [hB1] at hh k5
                exact px_ht_app (g5 (h + 1) (by omega)) (px_ht_app (c := [(px_j b l s, 0)]) (px_ht_op ho.1 ho.2) (k5 h (by omega)))
          · have hl : m = 0 ∨ m = 1 ∨ m = 3 ∨ m = 4 := by simp only [px_md] at hm; omega
            rw [px_0 _ _ _ _ _ (by omega) h2] at h
            have hlp : px_lp m = false := decide_eq_false (by omega)
            have hlp1 : px_lp (10 + m) = true := decide_eq_true (by omega)
            have hm1 : px_md (m + 1) := by simp only [px_md]; omega
            have hm2 : px_md (10 + m) := by simp only [px_md]; omega
            have e3 : px_lp (m + 1) = false := decide_eq_false (by omega)
            have hB1 : px_B m = px_B (m + 1) + 1 := by rcases hl with rfl | rfl | rfl | rfl <;> rfl
            have hB2 : px_B (10 + m) = px_B m := by rcases hl with rfl | rfl | rfl | rfl <;> rfl
            cases r with
            | inl x =>
              rcases px_bd_l h with h | ⟨s1, c1, h, h2⟩
              · exact ih (m + 1) w _ _ hm1 hw hs h
              · have h3 := ih (m + 1) w _ _ hm1 hw hs h
                rcases px_bd_l h2 with h6 | ⟨s2, c2, h6, h7⟩
                · exact ih (10 + m) w s1 _ hm2 hw h3.2.1 h6
                · cases h7
            | inr y =>
              obtain ⟨y1, y2⟩ := y
              obtain ⟨s1, c1, h, h2⟩ := px_bd_r h
              obtain ⟨g1, g2, g3, g4, g5⟩ := ih (m + 1) w _ _ hm1 hw hs h
              obtain ⟨s2, c2, h6, h7⟩ := px_bd_r h2
              cases h7
              obtain ⟨k1, k2, k3, k4, k5⟩ := ih (10 + m) w _ _ hm2 hw g2 h6
              rw [e3] at g5
              rw [hlp1, hB2] at k5
              have g3 := g3 e3
              refine ⟨by omega, k2, fun _ => by omega, by rw [px_cl_app]; omega, fun h hh => ?_⟩
              rw [hlp]
              rw [hB1] at hh k5
              exact px_ht_app (g5 h (by omega)) (k5 h (by omega))
