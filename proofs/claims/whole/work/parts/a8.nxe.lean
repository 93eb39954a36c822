/-! AN EXPRESSION OF THE REFERENCE: what waits, what is written -/
def nx_E (a0 D : Nat) (W : List Nat) (t : Nat → Bool) (C : List (Nat × Int32)) (I : Nat → Nat → Int32) : Prop := I 60 27 = vb_i (a0 + (px_rc C).length) ∧ I 60 28 = vb_i W.length ∧ I 60 29 = vb_i D ∧ (∀ i, i < W.length → I 73 i = vb_i (W.reverse.getD i 0)) ∧ (∀ j, 1 ≤ j → j ≤ D → I 75 j = vb_b (t j)) ∧ ∀ j, j < (px_rc C).length → I 72 (a0 + j) = (px_rc C).getD j 0
def nx_g (a0 : Nat) (I I' : Nat → Nat → Int32) : Prop := (∀ a, a ≠ 60 → a ≠ 72 → a ≠ 73 → a ≠ 75 → I' a = I a) ∧ (∀ q, q < 27 ∨ 29 < q → I' 60 q = I 60 q) ∧ ∀ j, j < a0 → I' 72 j = I 72 j
def nx_f (a0 : Nat) (I I' : Nat → Nat → Int32) : Prop := (∀ a, a ≠ 60 → a ≠ 72 → a ≠ 73 → a ≠ 75 → I' a = I a) ∧ (∀ q, q < 12 ∨ q = 14 ∨ q = 15 ∨ (22 ≤ q ∧ q ≤ 26) ∨ 30 ≤ q → I' 60 q = I 60 q) ∧ (∀ j, j < a0 → I' 72 j = I 72 j) ∧ (I' 60 12 = vb_i 0 → I' 60 13 = I 60 13 ∧ I 60 12 = vb_i 0)
theorem vb_n0 {x : Nat} (h1 : 1 ≤ x) (h5 : x ≤ 5) : ¬ vb_i x = vb_i 0 := fun e => vb_ne0 (by omega) (by omega) (e.trans (by decide))
section NXP
variable {a0 D : Nat} {W : List Nat} {t : Nat → Bool} {C : List (Nat × Int32)} {I I' I'' : Nat → Nat → Int32} {J : Nat → Nat → Int64} {b : Nat → Int32} {n s : Nat}
theorem nx_g.rf : nx_g a0 I I := ⟨fun _ _ _ _ _ => rfl, fun _ _ => rfl, fun _ _ => rfl⟩
theorem nx_g.tr (h : nx_g a0 I I') (h' : nx_g a0 I' I'') : nx_g a0 I I'' := ⟨fun a h1 h2 h3 h4 => (h'.1 a h1 h2 h3 h4).trans (h.1 a h1 h2 h3 h4), fun q hq => (h'.2.1 q hq).trans (h.2.1 q hq), fun j hj => (h'.2.2 j hj).trans (h.2.2 j hj)⟩
theorem nx_f.rf : nx_f a0 I I := ⟨fun _ _ _ _ _ => rfl, fun _ _ => rfl, fun _ _ => rfl, fun h => ⟨rfl, h⟩⟩
theorem nx_f.tr (h : nx_f a0 I I') (h' : nx_f a0 I' I'') : nx_f a0 I I'' := ⟨fun a h1 h2 h3 h4 => (h'.1 a h1 h2 h3 h4).trans (h.1 a h1 h2 h3 h4), fun q hq => (h'.2.1 q hq).trans (h.2.1 q hq), fun j hj => (h'.2.2.1 j hj).trans (h.2.2.1 j hj), fun e => ⟨(h'.2.2.2 e).1.trans (h.2.2.2 (h'.2.2.2 e).2).1, (h.2.2.2 (h'.2.2.2 e).2).2⟩⟩
theorem nx_g.f (h : nx_g a0 I I') : nx_f a0 I I' := ⟨h.1, fun q hq => h.2.1 q (by omega), h.2.2, fun e => ⟨h.2.1 13 (by decide), (h.2.1 12 (by decide)).symm.trans e⟩⟩
theorem nx_f.of (h : nt_f I I') : nx_f a0 I I' := ⟨fun a h1 _ _ _ => h.1 a h1, fun q hq => h.2 q (by omega), fun j _ => by rw [h.1 72 (by decide)], fun e => ⟨h.2 13 (by decide), (h.2 12 (by decide)).symm.trans e⟩⟩
theorem nx_f.wr {v w : Int32} (h : I' = mm_up (mm_up I 60 12 v) 60 13 w) (hv : ¬ v = vb_i 0 := by first | decide | (split <;> decide) | exact vb_n0 (by assumption) (by assumption)) : nx_f a0 I I' := ⟨fun a h1 _ _ _ => by rw [h, vb_up3 _ _ h1, vb_up3 _ _ h1], fun q hq => by rw [h, vb_up2 _ _ (by omega), vb_up2 _ _ (by omega)], fun j _ => by rw [h, vb_up3 _ _ (by decide), vb_up3 _ _ (by decide)], fun e => absurd (by rw [h, vb_up2 _ _ (by decide), vb_up1] at e; exact e) hv⟩
theorem nt_D.g (h : nt_D b n I) (k : nx_g a0 I I') : nt_D b n I' := ⟨fun i hi => by rw [k.1 66 (by decide) (by decide) (by decide) (by decide)]; exact h.1 i hi, by rw [k.2.1 15 (by decide)]; exact h.2.1, h.2.2⟩
theorem nt_tk.g (h : nt_tk b n s I J) (k : nx_g a0 I I') : nt_tk b n s I' J := by
  simp only [nt_tk, k.2.1 16 (by decide), k.2.1 17 (by decide), k.2.1 18 (by decide), k.2.1 19 (by decide), k.2.1 20 (by decide), k.2.1 21 (by decide)]; exact h
theorem nx_E.cg (h : nx_E a0 D W t C I) (h1 : ∀ q, 27 ≤ q → q ≤ 29 → I' 60 q = I 60 q) (h2 : I' 72 = I 72) (h3 : I' 73 = I 73) (h4 : I' 75 = I 75) : nx_E a0 D W t C I' := by
  simp only [nx_E, h1 27 (by decide) (by decide), h1 28 (by decide) (by decide), h1 29 (by decide) (by decide), h2, h3, h4]; exact h
theorem nx_E.f (h : nx_E a0 D W t C I) (k : nt_f I I') : nx_E a0 D W t C I' := h.cg (fun q h1 h2 => k.2 q (by omega)) (k.1 72 (by decide)) (k.1 73 (by decide)) (k.1 75 (by decide))
theorem nx_E.wrong {v w : Int32} (h : nx_E a0 D W t C I) (k : I' = mm_up (mm_up I 60 12 v) 60 13 w) : nx_E a0 D W t C I' := h.cg (fun q h1 h2 => by rw [k, vb_up2 _ _ (by omega), vb_up2 _ _ (by omega)]) (by rw [k, vb_up3 _ _ (by decide), vb_up3 _ _ (by decide)]) (by rw [k, vb_up3 _ _ (by decide), vb_up3 _ _ (by decide)]) (by rw [k, vb_up3 _ _ (by decide), vb_up3 _ _ (by decide)])
theorem nx_rev0 (a : Nat) (W : List Nat) : (a :: W).reverse.getD W.length 0 = a := by
  rw [List.reverse_cons, List.getD_eq_getElem?_getD, List.getElem?_append_right (by rw [List.length_reverse]; exact Nat.le_refl _), List.length_reverse, Nat.sub_self]; rfl
theorem nx_rev1 (a : Nat) (W : List Nat) {i : Nat} (h : i < W.length) : (a :: W).reverse.getD i 0 = W.reverse.getD i 0 := by
  rw [List.reverse_cons, List.getD_eq_getElem?_getD, List.getElem?_append_left (by rw [List.length_reverse]; exact h), ← List.getD_eq_getElem?_getD]
theorem nx_E.put {q : Nat} (h : nx_E a0 D W t C I) (hq : 3 ≤ q) : nx_E a0 D W t (C ++ [(q, 0)]) (mm_up (mm_up I 72 (a0 + (px_rc C).length) (vb_i q)) 60 27 (vb_i (a0 + (px_rc C).length + 1))) := by
  have e : px_rc (C ++ [(q, 0)]) = px_rc C ++ [vb_i q] := by
    rw [px_rc_app]
    show px_rc C ++ (px_ri (q, 0) ++ []) = _
    rw [px_ri, if_neg (by show ¬ (q = 1 ∨ q = 2); omega), List.append_nil]
  obtain ⟨h1, h2, h3, h4, h5, h6⟩ := h
  refine ⟨?_, ?_, ?_, fun i hi => ?_, fun j hj0 hj => ?_, fun j hj => ?_⟩
  · rw [vb_up1, e, List.length_append]; rfl
  · rw [vb_up2 _ _ (by decide), vb_up3 _ _ (by decide)]; exact h2
  · rw [vb_up2 _ _ (by decide), vb_up3 _ _ (by decide)]; exact h3
  · rw [vb_up3 _ _ (by decide), vb_up3 _ _ (by decide)]; exact h4 i hi
  · rw [vb_up3 _ _ (by decide), vb_up3 _ _ (by decide)]; exact h5 j hj0 hj
  · rw [vb_up3 _ _ (by decide), e]
    rw [e, List.length_append] at hj
    have hj : j < (px_rc C).length + 1 := hj
    by_cases e2 : j = (px_rc C).length
    · subst e2
      rw [vb_up1, List.getD_eq_getElem?_getD, List.getElem?_append_right (Nat.le_refl _), Nat.sub_self]; rfl
    · rw [vb_up2 _ _ (by omega), List.getD_eq_getElem?_getD, List.getElem?_append_left (by omega), ← List.getD_eq_getElem?_getD]
      exact h6 j (by omega)
theorem nx_E.put2 {q : Nat} {v : Int32} (h : nx_E a0 D W t C I) (hq : q = 1 ∨ q = 2) : nx_E a0 D W t (C ++ [(q, v)]) (mm_up (mm_up (mm_up (mm_up I 72 (a0 + (px_rc C).length) (vb_i q)) 60 27 (vb_i (a0 + (px_rc C).length + 1))) 72 (a0 + (px_rc C).length + 1) v) 60 27 (vb_i (a0 + (px_rc C).length + 1 + 1))) := by
  have e : px_rc (C ++ [(q, v)]) = px_rc C ++ [vb_i q, v] := by
    rw [px_rc_app]
    show px_rc C ++ (px_ri (q, v) ++ []) = _
    rw [px_ri, if_pos hq, List.append_nil]
  obtain ⟨h1, h2, h3, h4, h5, h6⟩ := h
  refine ⟨?_, ?_, ?_, fun i hi => ?_, fun j hj0 hj => ?_, fun j hj => ?_⟩
  · rw [vb_up1, e, List.length_append]; rfl
  · rw [vb_up2 _ _ (by decide), vb_up3 _ _ (by decide), vb_up2 _ _ (by decide), vb_up3 _ _ (by decide)]; exact h2
  · rw [vb_up2 _ _ (by decide), vb_up3 _ _ (by decide), vb_up2 _ _ (by decide), vb_up3 _ _ (by decide)]; exact h3
  · rw [vb_up3 _ _ (by decide), vb_up3 _ _ (by decide), vb_up3 _ _ (by decide), vb_up3 _ _ (by decide)]; exact h4 i hi
  · rw [vb_up3 _ _ (by decide), vb_up3 _ _ (by decide), vb_up3 _ _ (by decide), vb_up3 _ _ (by decide)]; exact h5 j hj0 hj
  · rw [vb_up3 _ _ (by decide), e]
    rw [e, List.length_append] at hj
    have hj : j < (px_rc C).length + 2 := hj
    by_cases e2 : j = (px_rc C).length + 1
    · subst e2
      rw [← Nat.add_assoc, vb_up1, List.getD_eq_getElem?_getD, List.getElem?_append_right (by omega), show (px_rc C).length + 1 - (px_rc C).length = 1 by omega]; rfl
    · rw [vb_up2 _ _ (by omega), vb_up3 _ _ (by decide)]
      by_cases e3 : j = (px_rc C).length
      · subst e3
        rw [vb_up1, List.getD_eq_getElem?_getD, List.getElem?_append_right (Nat.le_refl _), Nat.sub_self]; rfl
      · rw [vb_up2 _ _ (by omega), List.getD_eq_getElem?_getD, List.getElem?_append_left (by omega), ← List.getD_eq_getElem?_getD]
        exact h6 j (by omega)
theorem nx_E.push (h : nx_E a0 D W t C I) (a : Nat) : nx_E a0 D (a :: W) t C (mm_up (mm_up I 73 W.length (vb_i a)) 60 28 (vb_i (W.length + 1))) := by
  obtain ⟨h1, h2, h3, h4, h5, h6⟩ := h
  refine ⟨?_, ?_, ?_, fun i hi => ?_, fun j hj0 hj => ?_, fun j hj => ?_⟩
  · rw [vb_up2 _ _ (by decide), vb_up3 _ _ (by decide)]; exact h1
  · rw [vb_up1]; rfl
  · rw [vb_up2 _ _ (by decide), vb_up3 _ _ (by decide)]; exact h3
  · rw [vb_up3 _ _ (by decide)]
    have hi : i < W.length + 1 := hi
    by_cases e : i = W.length
    · subst e; rw [vb_up1, nx_rev0]
    · rw [vb_up2 _ _ (by omega), nx_rev1 _ _ (by omega)]; exact h4 i (by omega)
  · rw [vb_up3 _ _ (by decide), vb_up3 _ _ (by decide)]; exact h5 j hj0 hj
  · rw [vb_up3 _ _ (by decide), vb_up3 _ _ (by decide)]; exact h6 j hj
theorem nx_E.pop {a : Nat} (h : nx_E a0 D (a :: W) t C I) : nx_E a0 D W t C (mm_up I 60 28 (vb_i W.length)) := by
  obtain ⟨h1, h2, h3, h4, h5, h6⟩ := h
  refine ⟨?_, ?_, ?_, fun i hi => ?_, fun j hj0 hj => ?_, fun j hj => ?_⟩
  · rw [vb_up2 _ _ (by decide)]; exact h1
  · rw [vb_up1]
  · rw [vb_up2 _ _ (by decide)]; exact h3
  · rw [vb_up3 _ _ (by decide), h4 i (Nat.lt_succ_of_lt hi), nx_rev1 _ _ hi]
  · rw [vb_up3 _ _ (by decide)]; exact h5 j hj0 hj
  · rw [vb_up3 _ _ (by decide)]; exact h6 j hj
theorem nx_E.deep (h : nx_E a0 D W t C I) : nx_E a0 (D + 1) W (rf_up t (D + 1) false) C (mm_up (mm_up I 60 29 (vb_i (D + 1))) 75 (D + 1) (vb_i 0)) := by
  obtain ⟨h1, h2, h3, h4, h5, h6⟩ := h
  refine ⟨?_, ?_, ?_, fun i hi => ?_, fun j hj0 hj => ?_, fun j hj => ?_⟩
  · rw [vb_up3 _ _ (by decide), vb_up2 _ _ (by decide)]; exact h1
  · rw [vb_up3 _ _ (by decide), vb_up2 _ _ (by decide)]; exact h2
  · rw [vb_up3 _ _ (by decide), vb_up1]
  · rw [vb_up3 _ _ (by decide), vb_up3 _ _ (by decide)]; exact h4 i hi
  · by_cases e : j = D + 1
    · subst e; rw [vb_up1, rf_up, if_pos rfl]; rfl
    · rw [vb_up2 _ _ (by omega), vb_up3 _ _ (by decide), rf_up, if_neg e]; exact h5 j hj0 (by omega)
  · rw [vb_up3 _ _ (by decide), vb_up3 _ _ (by decide)]; exact h6 j hj
theorem nx_E.test {v : Bool} (h : nx_E a0 D W t C I) : nx_E a0 D W (rf_up t D v) C (mm_up I 75 D (vb_b v)) := by
  obtain ⟨h1, h2, h3, h4, h5, h6⟩ := h
  refine ⟨?_, ?_, ?_, fun i hi => ?_, fun j hj0 hj => ?_, fun j hj => ?_⟩
  · rw [vb_up3 _ _ (by decide)]; exact h1
  · rw [vb_up3 _ _ (by decide)]; exact h2
  · rw [vb_up3 _ _ (by decide)]; exact h3
  · rw [vb_up3 _ _ (by decide)]; exact h4 i hi
  · by_cases e : j = D
    · subst e; rw [vb_up1, rf_up, if_pos rfl]
    · rw [vb_up2 _ _ (by omega), rf_up, if_neg e]; exact h5 j hj0 hj
  · rw [vb_up3 _ _ (by decide)]; exact h6 j hj
theorem nx_E.up (h : nx_E a0 D W t C I) (hD : 1 ≤ D) : nx_E a0 (D - 1) W t C (mm_up I 60 29 (vb_i (D - 1))) := by
  obtain ⟨h1, h2, h3, h4, h5, h6⟩ := h
  refine ⟨?_, ?_, ?_, fun i hi => ?_, fun j hj0 hj => ?_, fun j hj => ?_⟩
  · rw [vb_up2 _ _ (by decide)]; exact h1
  · rw [vb_up2 _ _ (by decide)]; exact h2
  · rw [vb_up1]
  · rw [vb_up3 _ _ (by decide)]; exact h4 i hi
  · rw [vb_up3 _ _ (by decide)]; exact h5 j hj0 (by omega)
  · rw [vb_up3 _ _ (by decide)]; exact h6 j hj
theorem nx_g.u60 {q : Nat} {v : Int32} (h : nx_g a0 I I') (h1 : 27 ≤ q) (h2 : q ≤ 29) : nx_g a0 I (mm_up I' 60 q v) := ⟨fun a k1 k2 k3 k4 => by rw [vb_up3 _ _ k1]; exact h.1 a k1 k2 k3 k4, fun j hj => by rw [vb_up2 _ _ (by omega)]; exact h.2.1 j hj, fun j hj => by rw [vb_up3 _ _ (by decide)]; exact h.2.2 j hj⟩
theorem nx_g.u72 {k : Nat} {v : Int32} (h : nx_g a0 I I') (h1 : a0 ≤ k) : nx_g a0 I (mm_up I' 72 k v) := ⟨fun a k1 k2 k3 k4 => by rw [vb_up3 _ _ k2]; exact h.1 a k1 k2 k3 k4, fun j hj => by rw [vb_up3 _ _ (by decide)]; exact h.2.1 j hj, fun j hj => by rw [vb_up2 _ _ (by omega)]; exact h.2.2 j hj⟩
theorem nx_g.u73 {k : Nat} {v : Int32} (h : nx_g a0 I I') : nx_g a0 I (mm_up I' 73 k v) := ⟨fun a k1 k2 k3 k4 => by rw [vb_up3 _ _ k3]; exact h.1 a k1 k2 k3 k4, fun j hj => by rw [vb_up3 _ _ (by decide)]; exact h.2.1 j hj, fun j hj => by rw [vb_up3 _ _ (by decide)]; exact h.2.2 j hj⟩
theorem nx_g.u75 {k : Nat} {v : Int32} (h : nx_g a0 I I') : nx_g a0 I (mm_up I' 75 k v) := ⟨fun a k1 k2 k3 k4 => by rw [vb_up3 _ _ k4]; exact h.1 a k1 k2 k3 k4, fun j hj => by rw [vb_up3 _ _ (by decide)]; exact h.2.1 j hj, fun j hj => by rw [vb_up3 _ _ (by decide)]; exact h.2.2 j hj⟩
end NXP
section NXW
variable {G : mm_G} {d : Nat} {I : Nat → Nat → Int32} {P : Nat → Nat → Nat} {J : Nat → Nat → Int64} {S : List (Nat × Nat)} {nc ns : Nat} {μ : mm_M} {b : Nat → Int32} {n : Nat}
variable {a0 D : Nat} {t : Nat → Bool}
theorem m_puts {k : Nat} {v : Int32} (hM : vm_isM P S) (h27 : I 60 27 = vb_i k) (hk : k < 2800) : mm_C G d 156 [.ref 60, .int v] (I, P, J, S, nc, ns) (vb_R none (fun I' => I' = mm_up (mm_up I 72 k v) 60 27 (vb_i (k + 1))) P J S nc ns) := by
  show mm_W _ _ 156 (mm_blk 156 0) [.ref 60, .int v] [] _ _
  refine mm_w1 rfl ?_
  refine mm_wgr (vM_S60 hM) (by decide) (by decide) (vM_P60_34 hM) (vM_a72 hM) ?_
  refine mm_w1 rfl ?_
  refine mm_wgiv _ (vM_S60 hM) (by decide) (by decide) h27 ?_
  refine mm_w1 rfl ?_
  refine mm_wisN (vM_S72 hM) (by decide) (by omega) ?_
  intro I1 hI1
  have h271 := (congrFun (congrFun hI1 60) 27).trans ((congrFun (vb_up3 _ _ (by decide)) 27).trans h27)
  refine mm_w1 rfl ?_
  refine mm_w1 rfl ?_
  refine mm_wgiv _ (vM_S60 hM) (by decide) (by decide) h271 ?_
  refine mm_wv (vb_i 1) rfl (by decide) ?_
  refine mm_nadd ?_
  refine mm_wpiN (vM_S60 hM) (by decide) (by decide) ?_
  intro I2 hI2
  have _u := hI2
  refine mm_wr rfl rfl rfl ?_
  exact ⟨_, by rw [hI2, hI1], rfl⟩
theorem m_waits {k : Nat} {v : Int32} (hM : vm_isM P S) (h28 : I 60 28 = vb_i k) (hk : k < 950) : mm_C G d 160 [.ref 60, .int v] (I, P, J, S, nc, ns) (vb_R none (fun I' => I' = mm_up (mm_up I 73 k v) 60 28 (vb_i (k + 1))) P J S nc ns) := by
  show mm_W _ _ 160 (mm_blk 160 0) [.ref 60, .int v] [] _ _
  refine mm_w1 rfl ?_
  refine mm_wgr (vM_S60 hM) (by decide) (by decide) (vM_P60_35 hM) (vM_a73 hM) ?_
  refine mm_w1 rfl ?_
  refine mm_wgiv _ (vM_S60 hM) (by decide) (by decide) h28 ?_
  refine mm_w1 rfl ?_
  refine mm_wisN (vM_S73 hM) (by decide) (by omega) ?_
  intro I1 hI1
  have h281 := (congrFun (congrFun hI1 60) 28).trans ((congrFun (vb_up3 _ _ (by decide)) 28).trans h28)
  refine mm_w1 rfl ?_
  refine mm_w1 rfl ?_
  refine mm_wgiv _ (vM_S60 hM) (by decide) (by decide) h281 ?_
  refine mm_wv (vb_i 1) rfl (by decide) ?_
  refine mm_nadd ?_
  refine mm_wpiN (vM_S60 hM) (by decide) (by decide) ?_
  intro I2 hI2
  have _u := hI2
  refine mm_wr rfl rfl rfl ?_
  exact ⟨_, by rw [hI2, hI1], rfl⟩
theorem m_isOpen {a : Nat} (ha : a ≤ 14) : mm_Call G d 157 [.int (vb_i a)] μ (.inl (some (.int (vb_b (decide (14 ≤ a))))), μ) := by
  refine mm_C.call ?_
  show mm_W _ _ 157 (mm_blk 157 0) [.int (vb_i a)] [] _ _
  refine mm_w1 rfl ?_
  refine mm_wv (vb_i 14) rfl (by decide) ?_
  refine mm_niclt (by omega) (by omega) ?_ ?_
  · intro h3
    refine mm_wv (vb_i 0) rfl (by decide) ?_
    refine mm_wr rfl rfl rfl ?_
    first | (rw [decide_eq_true (by omega)]; rfl) | (rw [decide_eq_false (by omega)]; rfl)
  · intro h3
    refine mm_wv (vb_i 1) rfl (by decide) ?_
    refine mm_wgoto ?_
    refine mm_wr rfl rfl rfl ?_
    first | (rw [decide_eq_true (by omega)]; rfl) | (rw [decide_eq_false (by omega)]; rfl)
theorem m_strength {a : Nat} (ha : a ≤ 14) : mm_Call G d 158 [.int (vb_i a)] μ (.inl (some (.int (vb_i (rf_st a)))), μ) := by
  refine mm_C.call ?_
  show mm_W _ _ 158 (mm_blk 158 0) [.int (vb_i a)] [] _ _
  refine mm_w1 rfl ?_
  refine mm_wv (vb_i 5) rfl (by decide) ?_
  refine mm_nicne (by omega) (by omega) ?_ ?_
  · intro h2
    refine mm_w1 rfl ?_
    refine mm_wv (vb_i 4) rfl (by decide) ?_
    refine mm_nicne (by omega) (by omega) ?_ ?_
    · intro h11
      refine mm_w1 rfl ?_
      refine mm_wv (vb_i 3) rfl (by decide) ?_
      refine mm_nicne (by omega) (by omega) ?_ ?_
      · intro h20
        refine mm_w1 rfl ?_
        refine mm_wv (vb_i 6) rfl (by decide) ?_
        refine mm_niceq (by omega) (by omega) ?_ ?_
        · intro h30
          refine mm_wv (vb_i 4) rfl (by decide) ?_
          refine mm_wgoto ?_
          refine mm_wr rfl rfl rfl ?_
          refine congrArg (fun z => ((Sum.inl (some (Value.int (vb_i z))), μ) : mm_R)) ?_
          simp only [rf_st]
          (repeat' split) <;> omega
        · intro h30
          refine mm_w1 rfl ?_
          refine mm_wv (vb_i 7) rfl (by decide) ?_
          refine mm_nicne (by omega) (by omega) ?_ ?_
          · intro h36
            refine mm_w1 rfl ?_
            refine mm_wv (vb_i 8) rfl (by decide) ?_
            refine mm_niceq (by omega) (by omega) ?_ ?_
            · intro h46
              refine mm_wv (vb_i 5) rfl (by decide) ?_
              refine mm_wgoto ?_
              refine mm_wr rfl rfl rfl ?_
              refine congrArg (fun z => ((Sum.inl (some (Value.int (vb_i z))), μ) : mm_R)) ?_
              simp only [rf_st]
              (repeat' split) <;> omega
            · intro h46
              refine mm_w1 rfl ?_
              refine mm_wv (vb_i 9) rfl (by decide) ?_
              refine mm_nicne (by omega) (by omega) ?_ ?_
              · intro h52
                refine mm_wv (vb_i 6) rfl (by decide) ?_
                refine mm_wr rfl rfl rfl ?_
                refine congrArg (fun z => ((Sum.inl (some (Value.int (vb_i z))), μ) : mm_R)) ?_
                simp only [rf_st]
                (repeat' split) <;> omega
              · intro h52
                refine mm_wv (vb_i 5) rfl (by decide) ?_
                refine mm_wgoto ?_
                refine mm_wr rfl rfl rfl ?_
                refine congrArg (fun z => ((Sum.inl (some (Value.int (vb_i z))), μ) : mm_R)) ?_
                simp only [rf_st]
                (repeat' split) <;> omega
          · intro h36
            refine mm_wv (vb_i 4) rfl (by decide) ?_
            refine mm_wgoto ?_
            refine mm_wr rfl rfl rfl ?_
            refine congrArg (fun z => ((Sum.inl (some (Value.int (vb_i z))), μ) : mm_R)) ?_
            simp only [rf_st]
            (repeat' split) <;> omega
      · intro h20
        refine mm_wv (vb_i 3) rfl (by decide) ?_
        refine mm_wgoto ?_
        refine mm_wr rfl rfl rfl ?_
        refine congrArg (fun z => ((Sum.inl (some (Value.int (vb_i z))), μ) : mm_R)) ?_
        simp only [rf_st]
        (repeat' split) <;> omega
    · intro h11
      refine mm_wv (vb_i 2) rfl (by decide) ?_
      refine mm_wgoto ?_
      refine mm_wr rfl rfl rfl ?_
      refine congrArg (fun z => ((Sum.inl (some (Value.int (vb_i z))), μ) : mm_R)) ?_
      simp only [rf_st]
      (repeat' split) <;> omega
  · intro h2
    refine mm_wv (vb_i 1) rfl (by decide) ?_
    refine mm_wgoto ?_
    refine mm_wr rfl rfl rfl ?_
    refine congrArg (fun z => ((Sum.inl (some (Value.int (vb_i z))), μ) : mm_R)) ?_
    simp only [rf_st]
    (repeat' split) <;> omega
theorem m_drops {k : Nat} (hM : vm_isM P S) (hk : k ≤ 6) (hd : 1 ≤ d) : ∀ (W : List Nat) (C : List (Nat × Int32)) (I : Nat → Nat → Int32), nx_E a0 D W t C I → (∀ a, a ∈ W → 3 ≤ a ∧ a ≤ 14) → a0 + (px_rc C).length + W.length ≤ 2700 → W.length ≤ 900 → mm_C G d 159 [.ref 60, .int (vb_i k)] (I, P, J, S, nc, ns) (vb_R none (fun I' => nx_E a0 D (rf_dW k W) t (C ++ rf_dC k W) I' ∧ nx_g a0 I I') P J S nc ns) := by
  intro W
  induction W with
  | nil =>
    intro C I dE _ _ _
    have h28 : I 60 28 = vb_i 0 := dE.2.1
    show mm_W _ _ 159 (mm_blk 159 0) [.ref 60, .int (vb_i k)] [] _ _
    refine mm_w1 rfl ?_
    refine mm_wgiv _ (vM_S60 hM) (by decide) (by decide) h28 ?_
    refine mm_nifle (by omega) ?_ ?_
    · intro h4
      refine mm_wr rfl rfl rfl ?_
      refine ⟨_, ⟨?_, .rf⟩, rfl⟩
      show nx_E a0 D [] t (C ++ []) I
      rw [List.append_nil]; exact dE
    · intro h4
      omega
  | cons a W ih =>
    intro C I dE hW hl hw
    have ha := hW a List.mem_cons_self
    have hl : a0 + (px_rc C).length + (W.length + 1) ≤ 2700 := hl
    have hw : W.length + 1 ≤ 900 := hw
    have h28 : I 60 28 = vb_i (W.length + 1) := dE.2.1
    have h73 : I 73 W.length = vb_i a := by rw [dE.2.2.2.1 _ (Nat.lt_succ_self _), nx_rev0]
    have hst : rf_st a ≤ 6 := by simp only [rf_st]; (repeat' split) <;> omega
    show mm_W _ _ 159 (mm_blk 159 0) [.ref 60, .int (vb_i k)] [] _ _
    refine mm_w1 rfl ?_
    refine mm_wgiv _ (vM_S60 hM) (by decide) (by decide) h28 ?_
    refine mm_nifle (by omega) ?_ ?_
    · intro h4
      omega
    · intro h4
      refine mm_w1 rfl ?_
      refine mm_wgr (vM_S60 hM) (by decide) (by decide) (vM_P60_35 hM) (vM_a73 hM) ?_
      refine mm_w1 rfl ?_
      refine mm_wgiv _ (vM_S60 hM) (by decide) (by decide) h28 ?_
      refine mm_wv (vb_i 1) rfl (by decide) ?_
      refine mm_nsub (by omega) ?_
      refine mm_wiav (vb_i a) (vM_a73 hM) (vM_S73 hM) (by decide) (by omega) h73 ?_
      refine mm_csp rfl (by decide) (by omega) (m_isOpen (by omega)) ?_
      refine mm_bifne ?_ ?_
      · intro h21
        refine mm_wr rfl rfl rfl ?_
        first
          | (rw [rf_dW, rf_dC, if_neg (fun h => by have := of_decide_eq_true h21; omega), if_neg (fun h => by have := of_decide_eq_true h21; omega), List.append_nil]; exact ⟨_, ⟨dE, .rf⟩, rfl⟩)
          | (rw [rf_dW, rf_dC, if_neg (by omega), if_neg (by omega), List.append_nil]; exact ⟨_, ⟨dE, .rf⟩, rfl⟩)
      · intro h21
        refine mm_w1 rfl ?_
        refine mm_wgr (vM_S60 hM) (by decide) (by decide) (vM_P60_35 hM) (vM_a73 hM) ?_
        refine mm_w1 rfl ?_
        refine mm_wgiv _ (vM_S60 hM) (by decide) (by decide) h28 ?_
        refine mm_wv (vb_i 1) rfl (by decide) ?_
        refine mm_nsub (by omega) ?_
        refine mm_wiav (vb_i a) (vM_a73 hM) (vM_S73 hM) (by decide) (by omega) h73 ?_
        refine mm_csp rfl (by decide) (by omega) (m_strength (by omega)) ?_
        refine mm_w1 rfl ?_
        refine mm_niclt (by omega) (by omega) ?_ ?_
        · intro h39
          refine mm_wr rfl rfl rfl ?_
          first
            | (rw [rf_dW, rf_dC, if_neg (fun h => by have := of_decide_eq_true h21; omega), if_neg (fun h => by have := of_decide_eq_true h21; omega), List.append_nil]; exact ⟨_, ⟨dE, .rf⟩, rfl⟩)
            | (rw [rf_dW, rf_dC, if_neg (by omega), if_neg (by omega), List.append_nil]; exact ⟨_, ⟨dE, .rf⟩, rfl⟩)
        · intro h39
          refine mm_w1 rfl ?_
          refine mm_w1 rfl ?_
          refine mm_wgiv _ (vM_S60 hM) (by decide) (by decide) h28 ?_
          refine mm_wv (vb_i 1) rfl (by decide) ?_
          refine mm_nsub (by omega) ?_
          refine mm_wpiN (vM_S60 hM) (by decide) (by decide) ?_
          intro I1 hI1
          have h281 : I1 60 28 = vb_i W.length := by rw [hI1, vb_up1]; rfl
          have dE1 : nx_E a0 D W t C I1 := by rw [hI1]; exact dE.pop
          have hg1 : nx_g a0 I I1 := by rw [hI1]; exact nx_g.rf.u60 (by decide) (by decide)
          refine mm_w1 rfl ?_
          refine mm_w1 rfl ?_
          refine mm_wgr (vM_S60 hM) (by decide) (by decide) (vM_P60_35 hM) (vM_a73 hM) ?_
          refine mm_w1 rfl ?_
          refine mm_wgiv (vb_i W.length) (vM_S60 hM) (by decide) (by decide) h281 ?_
          refine mm_wiav (vb_i a) (vM_a73 hM) (vM_S73 hM) (by decide) (by omega) (by rw [hI1, vb_up3 _ _ (by decide)]; exact h73) ?_
          refine mm_cvn (vb_cv (vM_S60 hM) rfl rfl rfl rfl) (by decide) (by omega) (m_puts hM dE1.1 (by omega)) ?_
          intro I2 hI2
          have dE2 : nx_E a0 D W t (C ++ [(a, 0)]) I2 := by rw [hI2]; exact dE1.put ha.1
          have hg2 : nx_g a0 I I2 := by rw [hI2]; exact (hg1.u72 (Nat.le_add_right _ _)).u60 (by decide) (by decide)
          refine mm_wgoto ?_
          have hyes : a < 14 ∧ k ≤ rf_st a := ⟨Nat.lt_of_not_le (of_decide_eq_false h21), by omega⟩
          have hrl : (px_rc (C ++ [(a, 0)])).length = (px_rc C).length + 1 := by
            rw [px_rc_app, List.length_append]
            show _ + (px_ri (a, 0) ++ []).length = _
            rw [px_ri, if_neg (by show ¬ (a = 1 ∨ a = 2); omega)]; rfl
          have key := ih (C ++ [(a, 0)]) _ dE2 (fun x hx => hW x (List.mem_cons_of_mem _ hx)) (by omega) (by omega)
          rw [rf_dW, rf_dC, if_pos hyes, if_pos hyes]
          refine mm_W.imp key (fun r hr => ?_)
          obtain ⟨I', ⟨k1, k2⟩, k3⟩ := hr
          refine ⟨I', ⟨?_, hg2.tr k2⟩, k3⟩
          rw [List.append_assoc] at k1; exact k1
theorem m_isOpened (hM : vm_isM P S) {W : List Nat} {C : List (Nat × Int32)} (dE : nx_E a0 D W t C I) (hW : ∀ a, a ∈ W → 3 ≤ a ∧ a ≤ 14) (hw : W.length ≤ 900) (hd : 1 ≤ d) : mm_Call G d 164 [.ref 60] (I, P, J, S, nc, ns) (.inl (some (.int (vb_b (W.any (fun a => decide (14 ≤ a)))))), (I, P, J, S, nc, ns)) := by
  refine mm_C.call ?_
  have loop : ∀ (V : List Nat) (v : Int32), v = vb_i V.length - vb_i 1 → V.length ≤ 900 → (∀ a, a ∈ V → 3 ≤ a ∧ a ≤ 14) → (∀ i, i < V.length → I 73 i = vb_i (V.reverse.getD i 0)) → mm_W G d 164 (mm_blk 164 7) [.ref 60, .int v] [] (I, P, J, S, nc, ns) (fun r => r = (.inl (some (.int (vb_b (V.any (fun a => decide (14 ≤ a)))))), (I, P, J, S, nc, ns))) := by
    intro V
    induction V with
    | nil =>
      intro v hv _ _ _
      have hv : v = -1 := hv.trans (by decide)
      subst hv
      refine mm_w1 rfl ?_
      refine mm_wiflt ?_ ?_
      · intro h8
        refine mm_w1 rfl ?_
        refine mm_wiflt ?_ ?_
        · intro h30
          refine mm_wv (vb_i 0) rfl (by decide) ?_
          refine mm_wr rfl rfl rfl ?_
          rfl
        · intro h30
          exact absurd (by decide) h30
      · intro h8
        exact absurd (by decide) h8
    | cons a V ih =>
      intro v hv hl hV h73
      have ha := hV a List.mem_cons_self
      have hv : v = vb_i V.length := hv.trans ((vb_sub (by show 1 ≤ V.length + 1; omega)).trans rfl)
      subst hv
      have hl : V.length + 1 ≤ 900 := hl
      have h7 : I 73 V.length = vb_i a := by rw [h73 _ (Nat.lt_succ_self _), nx_rev0]
      refine mm_w1 rfl ?_
      refine mm_niflt (by omega) ?_
      refine mm_w1 rfl ?_
      refine mm_wgr (vM_S60 hM) (by decide) (by decide) (vM_P60_35 hM) (vM_a73 hM) ?_
      refine mm_w1 rfl ?_
      refine mm_wiav (vb_i a) (vM_a73 hM) (vM_S73 hM) (by decide) (by omega) h7 ?_
      refine mm_csp rfl (by decide) (by omega) (m_isOpen (by omega)) ?_
      refine mm_bifne ?_ ?_
      · intro h20
        refine mm_w1 rfl ?_
        refine mm_niflt (by omega) ?_
        refine mm_wv (vb_i 1) rfl (by decide) ?_
        refine mm_wgoto ?_
        refine mm_wr rfl rfl rfl ?_
        rw [List.any_cons, h20, Bool.true_or]; rfl
      · intro h20
        refine mm_wincv (vb_i V.length - vb_i 1) rfl (by rw [Int32.sub_eq_add_neg]; rfl) ?_ 
        refine mm_wgoto ?_
        rw [List.any_cons, h20, Bool.false_or]
        exact ih _ rfl (by omega) (fun x hx => hV x (List.mem_cons_of_mem _ hx)) (fun i hi => by rw [h73 i (Nat.lt_succ_of_lt hi), nx_rev1 _ _ hi])
  have h28 := dE.2.1
  show mm_W _ _ 164 (mm_blk 164 0) [.ref 60, .null] [] _ _
  refine mm_w1 rfl ?_
  refine mm_wgiv _ (vM_S60 hM) (by decide) (by decide) h28 ?_
  refine mm_wv (vb_i 1) rfl (by decide) ?_
  refine mm_w1 rfl ?_ 
  refine mm_w1 (ls' := [_, _]) rfl ?_
  exact loop W _ rfl hw hW dE.2.2.2.1
end NXW
