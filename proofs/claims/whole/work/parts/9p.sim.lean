/-! BOTH WAYS READ THE SAME -/
def rf_K (b : Nat → Int32) (m D : Nat) (W : List Nat) (t : Nat → Bool) (C c0 : List (Nat × Int32)) (r q : (Nat × Nat) ⊕ (Nat × List (Nat × Int32))) : Prop := match q with
  | .inl x => r = .inl x
  | .inr (s', c) => ∀ (e : List (Nat × Int32)) (p : List Nat) (t' : Nat → Bool), e ++ rf_em p = c0 ++ c → rf_pd (rf_k m) p → rf_sp b m s' (t' D) → (∀ i, i < D → t' i = t i) → (3 ≤ m → t' D = t D) → rf_L b D (p ++ W) t' (C ++ e) s' r
theorem rf_up_ne {t : Nat → Bool} {D i : Nat} {v : Bool} (h : i ≠ D) : rf_up t D v i = t i := if_neg h
theorem rf_up_eq {t : Nat → Bool} {D : Nat} {v : Bool} : rf_up t D v D = v := if_pos rfl
theorem rf_bd_i {r q : (Nat × Nat) ⊕ (Nat × List (Nat × Int32))} {z : px_R} {k : Nat → List (Nat × Int32) → px_R} (h : px_bd z k = some q) : ∃ q1, z = some q1 ∧ ((∃ x, q1 = .inl x ∧ q = .inl x) ∨ ∃ s c, q1 = .inr (s, c) ∧ k s c = some q) := by
  cases z with
  | none => cases h
  | some q1 =>
    refine ⟨q1, rfl, ?_⟩
    cases q1 with
    | inl x => cases h; exact Or.inl ⟨x, rfl, rfl⟩
    | inr y => exact Or.inr ⟨y.1, y.2, rfl, h⟩
theorem rf_j_st {b : Nat → Int32} {l s : Nat} (h : px_j b l s ≠ 0) (hl : l < 5) : px_j b l s < 14 ∧ rf_st (px_j b l s) = (if l = 2 then 4 else rf_k l) := by
  have : l = 0 ∨ l = 1 ∨ l = 2 ∨ l = 3 ∨ l = 4 := by omega
  simp only [px_j] at h ⊢
  rcases this with rfl | rfl | rfl | rfl | rfl <;> simp at h ⊢ <;> (repeat' split) <;> simp_all [rf_st, rf_k]
theorem rf_sim {b : Nat → Int32} : ∀ f,
    (∀ m w s q, m ≤ 5 → px b f m w s = some q → ∀ (nt : Bool) (j : Nat) (W : List Nat) (t : Nat → Bool) (C : List (Nat × Int32)) (r : (Nat × Nat) ⊕ (Nat × List (Nat × Int32))), (m ≤ 2 → nt = true ∧ j = 0 ∧ t (w + 1) = false) → (3 ≤ m → nt = true → tx_w b s ≠ 15) → rf_tc (rf_k m) W → rf_K b m (w + 1) W t C [] r q → rf_A b nt j (w + 1) W t C s r)
    ∧ (∀ j w s q, j ≤ 6 → px b f (20 + j) w s = some q → ∀ (W : List Nat) (t : Nat → Bool) (C : List (Nat × Int32)) (r : (Nat × Nat) ⊕ (Nat × List (Nat × Int32))), t (w + 1) = false → rf_tc 3 W → rf_K b 2 (w + 1) W t C [] r q → rf_A b true j (w + 1) (List.replicate j 3 ++ W) t C s r)
    ∧ (∀ l w s q, (l = 0 ∨ l = 1 ∨ l = 3 ∨ l = 4) → px b f (10 + l) w s = some q → ∀ (W p : List Nat) (t : Nat → Bool) (C c0 e : List (Nat × Int32)) (r : (Nat × Nat) ⊕ (Nat × List (Nat × Int32))), e ++ rf_em p = c0 → rf_pd (rf_k l) p → rf_sp b (l + 1) s (t (w + 1)) → rf_tc (rf_k l) W → rf_K b l (w + 1) W t C c0 r q → rf_L b (w + 1) (p ++ W) t (C ++ e) s r) := by
  intro f
  induction f with
  | zero => exact ⟨(fun _ _ _ _ _ h => by cases h), (fun _ _ _ _ _ h => by cases h), (fun _ _ _ _ _ h => by cases h)⟩
  | succ f ih =>
    obtain ⟨ih1, ih2, ih3⟩ := ih
    refine ⟨?_, ?_, ?_⟩
    · intro m w s q hm h nt j W t C r h12 h3 hW hK
      by_cases h5 : m = 5
      · subst h5
        have hn := h3 (by decide)
        rw [px_5] at h
        split at h
        · rename_i hk
          split at h
          · rename_i hw
            refine rf_Aop hn hk (by omega) ?_
            obtain ⟨q1, e1, hq⟩ := rf_bd_i (r := r) h
            refine ih1 0 (w + 1) _ q1 (by decide) e1 true 0 (14 :: W) _ C r (fun _ => ⟨rfl, rfl, rf_up_eq⟩) (fun h => absurd h (by decide)) (Or.inl (by decide)) ?_
            rcases hq with ⟨x, rfl, rfl⟩ | ⟨s2, c, rfl, h2⟩
            · exact hK
            · intro e p t' he hp hsp hag _
              rw [List.nil_append] at he
              split at h2
              · rename_i hk2
                cases h2
                refine rf_Lcl hk2 rf_any ?_
                have hd := rf_drop (k := 0) (p := p) (W := 14 :: W) (rf_pd_mono hp (by decide)) (Or.inl (by decide))
                rw [hd.1, hd.2, List.append_assoc, he]
                show rf_L b (w + 1) W t' (C ++ c) _ r
                have := hK c [] t' (by rw [List.nil_append]; exact List.append_nil c) (fun a ha => absurd ha List.not_mem_nil) ⟨fun h => absurd h (by decide), fun h => absurd h (by decide), fun h => absurd h (by decide), fun h => absurd h (by decide), fun h => absurd h (by decide)⟩ (fun i hi => by rw [hag i (by omega), rf_up_ne (by omega)]) (fun _ => by rw [hag (w + 1) (by omega), rf_up_ne (by omega)])
                exact this
              · rename_i hk2
                cases h2
                have hr : r = .inl (1, s2) := hK
                have := rf_Lend (W := p ++ 14 :: W) (C := C ++ e) hsp (fun h => hk2 h.1)
                rw [if_pos (by omega)] at this
                rw [hr]; exact this
          · rename_i hw
            cases h
            have hr : r = _ := hK
            rw [hr]
            exact rf_Aop6 hn hk (by omega)
        · rename_i hk
          split at h
          · rename_i hk1
            split at h
            · rename_i h8
              cases h
              refine rf_Awd hn hk1 h8 ?_
              exact hK _ [] t (by rw [List.nil_append]; exact List.append_nil _) (fun a ha => absurd ha List.not_mem_nil) ⟨fun h => absurd h (by decide), fun h => absurd h (by decide), fun h => absurd h (by decide), fun h => absurd h (by decide), fun h => absurd h (by decide)⟩ (fun _ _ => rfl) (fun _ => rfl)
            · rename_i h8
              cases h
              have hr : r = _ := hK
              rw [hr]
              exact rf_Awd3 hn hk1 h8
          · rename_i hk1
            split at h
            · rename_i hk2
              cases h
              refine rf_Anum hn hk2 ?_
              exact hK _ [] t (by rw [List.nil_append]; exact List.append_nil _) (fun a ha => absurd ha List.not_mem_nil) ⟨fun h => absurd h (by decide), fun h => absurd h (by decide), fun h => absurd h (by decide), fun h => absurd h (by decide), fun h => absurd h (by decide)⟩ (fun _ _ => rfl) (fun _ => rfl)
            · rename_i hk2
              cases h
              have hr : r = _ := hK
              rw [hr]
              exact rf_Abad hn hk hk1 hk2
      · by_cases h2 : m = 2
        · subst h2
          rw [px_2] at h
          obtain ⟨rfl, rfl, ht⟩ := h12 (by decide)
          exact ih2 0 w s q (by decide) h W t C r ht hW hK
        · have hl : m = 0 ∨ m = 1 ∨ m = 3 ∨ m = 4 := by omega
          rw [px_0 _ _ _ _ _ (by omega) h2] at h
          obtain ⟨q1, e1, hq⟩ := rf_bd_i (r := r) h
          have hkk : rf_k m ≤ rf_k (m + 1) := by rcases hl with rfl | rfl | rfl | rfl <;> decide
          refine ih1 (m + 1) w s q1 (by omega) e1 nt j W t C r (fun h => h12 (by omega)) (fun h => ?_) (rf_tc_mono hW hkk) ?_
          · exact h3 (by omega)
          · rcases hq with ⟨x, rfl, rfl⟩ | ⟨s1, c1, rfl, h4⟩
            · exact hK
            · intro e p t' he hp hsp hag h3D
              rw [List.nil_append] at he
              obtain ⟨q2, e2, hq⟩ := rf_bd_i (r := r) h4
              refine ih3 m w s1 q2 hl e2 W p t' C c1 e r he (rf_pd_mono hp hkk) hsp hW ?_
              rcases hq with ⟨x, rfl, rfl⟩ | ⟨s2, c2, rfl, h6⟩
              · exact hK
              · cases h6
                intro e' p' t'' he' hp' hsp' hag' h3D'
                exact hK e' p' t'' (by rw [List.nil_append]; exact he') hp' hsp' (fun i hi => (hag' i hi).trans (hag i hi)) (fun h => (h3D' h).trans (h3D (by omega)))
    · intro j w s q hj h W t C r ht hW hK
      rw [px_20] at h
      split at h
      · rename_i hw15
        split at h
        · rename_i hj6
          subst hj6
          cases h
          have hr : r = _ := hK
          rw [hr]
          exact rf_Anot6 hw15
        · rename_i hj6
          refine rf_Anot hw15 hj6 ?_
          exact ih2 (j + 1) w _ q (by omega) h W t C r ht hW hK
      · rename_i hw15
        obtain ⟨q1, e1, hq⟩ := rf_bd_i (r := r) h
        refine ih1 3 w s q1 (by decide) e1 true j (List.replicate j 3 ++ W) t C r (fun h => absurd h (by decide)) (fun _ _ => hw15) (rf_tc_rep (by decide) hW) ?_
        rcases hq with ⟨x, rfl, rfl⟩ | ⟨s1, c1, rfl, h4⟩
        · exact hK
        · intro e p t' he hp hsp hag h3D
          rw [List.nil_append] at he
          have h3D := h3D (by decide)
          have hrep : rf_pd 3 (List.replicate j 3) := fun a ha => by rw [List.eq_of_mem_replicate ha]; exact ⟨by decide, by decide⟩
          split at h4
          · rename_i hj2
            cases h4
            have := hK e (p ++ List.replicate j 3) t' (by rw [rf_em_app, rf_em_rep, ← List.append_assoc, he, List.nil_append]) (rf_pd_app (rf_pd_mono hp (by decide)) hrep) ⟨fun _ => hsp.1 (by decide), fun _ => hsp.2.1 (by decide), fun _ => Or.inr hj2, fun h => absurd h (by decide), fun h => absurd h (by decide)⟩ hag (fun h => absurd h (by decide))
            rw [List.append_assoc] at this
            exact this
          · rename_i hj2
            obtain ⟨q2, e2, hq⟩ := rf_bd_i (r := r) h4
            have hd := rf_drop (k := 4) (p := p) (W := List.replicate j 3 ++ W) (rf_pd_mono hp (by decide)) (rf_tc_rep (by decide) hW)
            have hst := rf_j_st hj2 (by decide)
            refine rf_Lc hj2 (h3D.trans ht) ?_
            rw [hd.1, hd.2, List.append_assoc, he]
            refine ih1 3 w _ q2 (by decide) e2 false 0 _ _ _ r (fun h => absurd h (by decide)) (fun _ h => by cases h) (Or.inr (by rw [hst.2]; decide)) ?_
            rcases hq with ⟨x, rfl, rfl⟩ | ⟨s2, c2, rfl, h6⟩
            · exact hK
            · cases h6
              intro e2 p2 t2 he2 hp2 hsp2 hag2 h3D2
              rw [List.nil_append] at he2
              have h3D2 := h3D2 (by decide)
              rw [rf_up_eq] at h3D2
              have := hK (c1 ++ e2) (p2 ++ px_j b 2 s1 :: List.replicate j 3) t2 (by
                rw [rf_em_app, List.append_assoc, ← List.append_assoc e2, he2, List.nil_append, List.append_assoc]
                show _ = c1 ++ (c2 ++ ((px_j b 2 s1, 0) :: List.replicate j (3, 0)))
                rw [← rf_em_rep]; rfl) (rf_pd_app (rf_pd_mono hp2 (by decide)) (fun a ha => by
                rcases List.mem_cons.mp ha with rfl | ha
                · exact ⟨hst.1, by rw [hst.2]; decide⟩
                · exact hrep a ha)) ⟨fun _ => hsp2.1 (by decide), fun _ => hsp2.2.1 (by decide), fun _ => Or.inl h3D2, fun h => absurd h (by decide), fun h => absurd h (by decide)⟩ (fun i hi => by rw [hag2 i hi, rf_up_ne (by omega), hag i hi]) (fun h => absurd h (by decide))
              rw [List.append_assoc, ← List.append_assoc C] at this
              exact this
    · intro l w s q hl h W p t C c0 e r he hp hsp hW hK
      rw [px_10 _ _ _ _ _ (by omega)] at h
      split at h
      · rename_i hj
        cases h
        refine hK e p t (by rw [List.append_nil]; exact he) hp ?_ (fun _ _ => rfl) (fun _ => rfl)
        refine ⟨fun h => ?_, fun h => ?_, fun h => ?_, fun h => ?_, fun h => ?_⟩
        · by_cases e : l = 4
          · subst e; exact hj
          · exact hsp.1 (by omega)
        · by_cases e : l = 3
          · subst e; exact hj
          · exact hsp.2.1 (by omega)
        · exact hsp.2.2.1 (by omega)
        · by_cases e : l = 1
          · subst e; exact hj
          · exact hsp.2.2.2.1 (by omega)
        · subst h; exact hj
      · rename_i hj
        have hst := rf_j_st hj (by omega)
        rw [if_neg (by omega)] at hst
        have hd := rf_drop hp hW
        obtain ⟨q1, e1, hq⟩ := rf_bd_i (r := r) h
        refine rf_Lj hl hj ?_
        rw [hd.1, hd.2, List.append_assoc, he]
        have hkk : rf_k l < rf_k (l + 1) := by rcases hl with rfl | rfl | rfl | rfl <;> decide
        refine ih1 (l + 1) w _ q1 (by omega) e1 _ 0 _ _ _ r (fun h => ⟨decide_eq_true (by omega), rfl, by rw [rf_t1, if_pos (by omega)]; exact rf_up_eq⟩) (fun h h' => absurd (of_decide_eq_true h') (by omega)) (Or.inr (by rw [hst.2]; exact hkk)) ?_
        have hag1 : ∀ i, i < w + 1 → rf_t1 t (w + 1) l i = t i := fun i hi => by
          rw [rf_t1]; split
          · exact rf_up_ne (by omega)
          · rfl
        rcases hq with ⟨x, rfl, rfl⟩ | ⟨s1, c1, rfl, h4⟩
        · exact hK
        · intro e2 p2 t2 he2 hp2 hsp2 hag2 h3D2
          rw [List.nil_append] at he2
          obtain ⟨q2, e3, hq⟩ := rf_bd_i (r := r) h4
          have := ih3 l w s1 q2 hl e3 W (p2 ++ [px_j b l s]) t2 C (c0 ++ c1 ++ [(px_j b l s, 0)]) (c0 ++ e2) r (by
            rw [rf_em_app, List.append_assoc, ← List.append_assoc e2, he2, List.append_assoc]; rfl) (rf_pd_app (rf_pd_mono hp2 (by omega)) (fun a ha => by
            rcases List.mem_cons.mp ha with rfl | ha
            · exact ⟨hst.1, by rw [hst.2]; exact Nat.le_refl _⟩
            · exact absurd ha List.not_mem_nil)) hsp2 hW ?_
          · rw [List.append_assoc, ← List.append_assoc C] at this
            exact this
          · rcases hq with ⟨x, rfl, rfl⟩ | ⟨s2, c2, rfl, h6⟩
            · exact hK
            · cases h6
              intro e' p' t'' he' hp' hsp' hag' h3D'
              refine hK e' p' t'' (by rw [he']; simp only [List.append_assoc, List.cons_append, List.nil_append]) hp' hsp' (fun i hi => ((hag' i hi).trans (hag2 i hi)).trans (hag1 i hi)) (fun h => ?_)
              rw [h3D' h, h3D2 (by omega), rf_t1, if_neg (by omega)]
/-- a whole expression -/
theorem rf_all {b : Nat → Int32} {f s : Nat} {q : (Nat × Nat) ⊕ (Nat × List (Nat × Int32))} (h : px b f 0 0 s = some q) (t : Nat → Bool) (C : List (Nat × Int32)) (ht : t 1 = false) : rf_A b true 0 1 [] t C s (match q with
    | .inl x => .inl x
    | .inr (s', c) => .inr (s', C ++ c)) := by
  refine (rf_sim f).1 0 0 s q (by decide) h true 0 [] t C _ (fun _ => ⟨rfl, rfl, ht⟩) (fun h => absurd h (by decide)) True.intro ?_
  cases q with
  | inl x => rfl
  | inr y =>
    obtain ⟨s', c⟩ := y
    intro e p t' he hp hsp _ _
    rw [List.nil_append] at he
    have h1 := rf_Lend (W := p ++ []) (C := C ++ e) hsp (fun h => by rw [List.append_nil, rf_none hp] at h; cases h.2)
    rw [if_neg (by decide), (rf_drop (k := 0) (W := []) (rf_pd_mono hp (by decide)) True.intro).2, List.append_assoc, he] at h1
    exact h1
