section RD7
variable {G : mm_G} {d : Nat} {I : Nat → Nat → Int32} {P : Nat → Nat → Nat} {J : Nat → Nat → Int64} {S : List (Nat × Nat)} {nc ns : Nat} {μ : mm_M} {L : Nat} {b : Nat → Int32} {n : Nat}
theorem c_addR {p : pl_S} {C : List Int32} {a c : Nat} (hL : vb_isL P S L) (hp : pl_ok p) (dP : pl_C L p C I) (ha : a < pl_n p) (hc : c < pl_n p) (hne : a ≠ c) : mm_C G d 16 [.ref L, .int (vb_i a), .int (vb_i c)] (I, P, J, S, nc, ns) (vb_R none (fun I' => pl_C L (pl_addR p a c) C I' ∧ ∀ a, ¬ (L ≤ a ∧ a < L + 12) → I' a = I a) P J S nc ns) := by
  obtain ⟨⟨q1, q2, q3, q4⟩, k1, k2, k3, k4, k5, k6, k7⟩ := dP
  have hn10 := hp.1
  have hrc := hp.2.1
  have hn0 := q1
  have hr0 := q2
  have fin : ∀ (I1 : Nat → Nat → Int32), (∀ a, a ≠ L → a ≠ L + 3 → I1 a = I a) → (∀ q, I1 L q = if q = 1 then vb_i (pl_rc p + 1) else I L q) → (∀ j, I1 (L + 3) j = if j = a then pl_nb p a ||| vb_bit c else if j = c then pl_nb p c ||| vb_bit a else I (L + 3) j) → pl_C L (pl_addR p a c) C I1 ∧ ∀ a, ¬ (L ≤ a ∧ a < L + 12) → I1 a = I a := by
    intro I1 hf f0 f3
    refine ⟨⟨⟨?_, ?_, ?_, ?_⟩, ?_, ?_, fun v hv => ?_, ?_, k5.fr (hf _ (by omega) (by omega)) (hf _ (by omega) (by omega)), ?_, ?_⟩, fun a ha => hf a (by omega) (by omega)⟩
    · rw [f0, if_neg (by decide)]; exact q1
    · rw [f0, if_pos rfl]; rfl
    · rw [f0, if_neg (by decide)]; exact q3
    · rw [f0, if_neg (by decide)]; exact q4
    · rw [hf (L + 1) (by omega) (by omega)]; exact k1
    · rw [hf (L + 2) (by omega) (by omega)]; exact k2
    · show _ = if v = a then pl_nb p a ||| vb_bit c else if v = c then pl_nb p c ||| vb_bit a else pl_nb p v
      rw [f3, k3 v hv]
    · rw [hf (L + 4) (by omega) (by omega)]; exact k4
    · rw [hf (L + 8) (by omega) (by omega), hf (L + 9) (by omega) (by omega)]; exact k6
    · rw [hf (L + 8) (by omega) (by omega), hf (L + 9) (by omega) (by omega)]; exact k7
  show mm_W _ _ 16 (mm_blk 16 0) [.ref L, .int (vb_i a), .int (vb_i c)] [] _ _
  refine mm_w1 rfl ?_
  refine mm_w1 rfl ?_
  refine mm_wgiv _ (vL_S0 hL) (by decide) (by decide) hn0 ?_
  refine mm_nicge (by omega) (by omega) ?_ ?_
  · intro h5
    omega
  · intro h5
    refine mm_w1 rfl ?_
    refine mm_w1 rfl ?_
    refine mm_wgiv _ (vL_S0 hL) (by decide) (by decide) hn0 ?_
    refine mm_nicge (by omega) (by omega) ?_ ?_
    · intro h13
      omega
    · intro h13
      refine mm_w1 rfl ?_
      refine mm_wgr (vL_S0 hL) (by decide) (by decide) (vL_P0_6 hL) (vL_a3 hL) ?_
      refine mm_w1 rfl ?_
      refine mm_w1 rfl ?_
      refine mm_wiav (pl_nb p a) (vL_a3 hL) (vL_S3 hL) (by decide) (by omega) (k3 a ha) ?_
      refine mm_wv (vb_i 1) rfl (by decide) ?_
      refine mm_w1 rfl ?_
      refine mm_nbit (by omega) ?_
      refine mm_w1 rfl ?_
      refine mm_wisN (vL_S3 hL) (by decide) (by omega) ?_
      intro I1 hI1
      have _u1 := hI1
      refine mm_w1 rfl ?_
      refine mm_wgr (vL_S0 hL) (by decide) (by decide) (vL_P0_6 hL) (vL_a3 hL) ?_
      refine mm_w1 rfl ?_
      refine mm_w1 rfl ?_
      refine mm_wiav (pl_nb p c) (vL_a3 hL) (vL_S3 hL) (by decide) (by omega) (by rw [hI1, vb_up2 _ _ (by omega)]; exact k3 c hc) ?_
      refine mm_wv (vb_i 1) rfl (by decide) ?_
      refine mm_w1 rfl ?_
      refine mm_nbit (by omega) ?_
      refine mm_w1 rfl ?_
      refine mm_wisN (vL_S3 hL) (by decide) (by omega) ?_
      intro I2 hI2
      have _u2 := hI2
      refine mm_w1 rfl ?_
      refine mm_w1 rfl ?_
      refine mm_wgiv (vb_i (pl_rc p)) (vL_S0 hL) (by decide) (by decide) (by rw [hI2, vb_up3 _ _ (by omega), hI1, vb_up3 _ _ (by omega)]; exact hr0) ?_
      refine mm_wv (vb_i 1) rfl (by decide) ?_
      refine mm_nadd ?_
      refine mm_wpi (vL_S0 hL) (by decide) (by decide) ?_
      refine mm_wr rfl rfl rfl ?_
      refine ⟨_, fin _ ?_ ?_ ?_, rfl⟩
      · intro z h1 h2
        rw [vb_up3 _ _ h1, hI2, vb_up3 _ _ h2, hI1, vb_up3 _ _ h2]
      · intro q
        by_cases e : q = 1
        · subst e; rw [vb_up1, if_pos rfl]
        · rw [vb_up2 _ _ (by omega), if_neg e, hI2, vb_up3 _ _ (by omega), hI1, vb_up3 _ _ (by omega)]
      · intro j
        rw [vb_up3 _ _ (by omega), hI2]
        by_cases e1 : j = c
        · rw [e1, vb_up1, if_neg (by omega), if_pos rfl]
        · rw [vb_up2 _ _ (by omega), hI1]
          by_cases e2 : j = a
          · rw [e2, vb_up1, if_pos rfl]
          · rw [vb_up2 _ _ (by omega), if_neg e2, if_neg e1]
theorem c_setRule {r st k : Nat} (hL : vb_isL P S L) (hr : r ≤ 3) (h1 : I (L + 6) 1 = vb_i k) : mm_C G d 67 [.ref (L + 6), .int (vb_i r), .int (vb_i st)] (I, P, J, S, nc, ns) (vb_R none (fun I' => I' = mm_up (mm_up I (L + 8) r (vb_i st)) (L + 9) r (vb_i k)) P J S nc ns) := by
  show mm_W _ _ 67 (mm_blk 67 0) [.ref (L + 6), .int (vb_i r), .int (vb_i st)] [] _ _
  refine mm_w1 rfl ?_
  refine mm_niflt (by omega) ?_
  refine mm_w1 rfl ?_
  refine mm_wv (vb_i 3) rfl (by decide) ?_
  refine mm_nicgt (by omega) (by omega) ?_ ?_
  · intro h6
    omega
  · intro h6
    refine mm_w1 rfl ?_
    refine mm_wgr (vL_S6 hL) (by decide) (by decide) (vL_P6_2 hL) (vL_a8 hL) ?_
    refine mm_w1 rfl ?_
    refine mm_w1 rfl ?_
    refine mm_wisN (vL_S8 hL) (by decide) (by omega) ?_
    intro I1 hI1
    have _u1 := hI1
    refine mm_w1 rfl ?_
    refine mm_wgr (vL_S6 hL) (by decide) (by decide) (vL_P6_3 hL) (vL_a9 hL) ?_
    refine mm_w1 rfl ?_
    refine mm_w1 rfl ?_
    refine mm_wgiv (vb_i k) (vL_S6 hL) (by decide) (by decide) (by rw [hI1, vb_up3 _ _ (by omega)]; exact h1) ?_
    refine mm_wis (vL_S9 hL) (by decide) (by omega) ?_
    refine mm_wr rfl rfl rfl ?_
    refine ⟨_, ?_, rfl⟩
    rw [hI1]
theorem c_addT {p : pl_S} {C : List Int32} {c : List (Nat × Int32)} (hL : vb_isL P S L) (hp : pl_ok p) (dP : pl_C L p (C ++ px_cc c) I) (hd : 1 ≤ d) : mm_C G d 17 [.ref L, .int (vb_i 3), .int (vb_i C.length)] (I, P, J, S, nc, ns) (vb_R none (fun I' => pl_C L (pl_addT p c) (C ++ px_cc c) I' ∧ ∀ a, ¬ (L ≤ a ∧ a < L + 12) → I' a = I a) P J S nc ns) := by
  obtain ⟨⟨q1, q2, q3, q4⟩, k1, k2, k3, k4, k5, k6, k7⟩ := dP
  have hsc3 := hp.2.2.1
  have hs0 := q3
  have hlen : (C ++ px_cc c).length = C.length + px_cl c := by rw [List.length_append, px_cc_len]
  have hlen1 := k5.1
  rw [hlen] at hlen1
  have new : ∀ (sa en : Nat → Int32), pl_R (C ++ px_cc c) (fun j => if j = 3 then vb_i C.length else sa j) (fun j => if j = 3 then vb_i (C.length + px_cl c) else en j) 3 c := fun sa en => ⟨C.length, if_pos rfl, if_pos rfl, by rw [hlen]; exact Nat.le_refl _, fun j hj => by
    rw [List.getD_eq_getElem?_getD, List.getElem?_append_right (by omega), show C.length + j - C.length = j by omega, ← List.getD_eq_getElem?_getD]⟩
  have old : ∀ (sa en : Nat → Int32) (r' : Nat) (c' : List (Nat × Int32)), r' ≠ 3 → pl_R (C ++ px_cc c) sa en r' c' → pl_R (C ++ px_cc c) (fun j => if j = 3 then vb_i C.length else sa j) (fun j => if j = 3 then vb_i (C.length + px_cl c) else en j) r' c' := fun sa en r' c' hr h => by
    obtain ⟨st, h1, h2, h3, h4⟩ := h
    exact ⟨st, (if_neg hr).trans h1, (if_neg hr).trans h2, h3, h4⟩
  show mm_W _ _ 17 (mm_blk 17 0) [.ref L, .int (vb_i 3), .int (vb_i C.length)] [] _ _
  refine mm_w1 rfl ?_
  refine mm_wv (vb_i 3) rfl (by decide) ?_
  refine mm_nicne (by omega) (by omega) ?_ ?_
  · intro h2
    omega
  · intro h2
    refine mm_w1 rfl ?_
    refine mm_wv (vb_i 1) rfl (by decide) ?_
    refine mm_wpzN (vL_S0 hL) (by decide) (by decide) (Or.inr rfl) ?_
    intro I1 hI1
    have _u := hI1
    refine mm_wgoto ?_
    refine mm_w1 rfl ?_
    refine mm_wgr (vL_S0 hL) (by decide) (by decide) (vL_P0_9 hL) (vL_a6 hL) ?_
    refine mm_w1 rfl ?_
    refine mm_w1 rfl ?_
    refine mm_cvn (vb_cv (vL_S6 hL) rfl rfl rfl rfl) (by decide) (by omega) (c_setRule (k := C.length + px_cl c) hL (by omega) (by rw [hI1, vb_up3 _ _ (by omega)]; exact hlen1)) ?_
    intro I2 hI2
    have e8 : I2 (L + 8) = fun j => if j = 3 then vb_i C.length else I (L + 8) j := by
      funext j
      rw [hI2, vb_up3 _ _ (by omega)]
      simp only [mm_up, if_true]
      rw [hI1, vb_up3 _ _ (by omega)]
    have e9 : I2 (L + 9) = fun j => if j = 3 then vb_i (C.length + px_cl c) else I (L + 9) j := by
      funext j
      by_cases e : j = 3
      · rw [if_pos e, hI2, e, vb_up1]
      · rw [if_neg e, hI2, vb_up2 _ _ (by omega), vb_up3 _ _ (by omega), hI1, vb_up3 _ _ (by omega)]
    refine mm_wr rfl rfl rfl ?_
    refine ⟨_, ⟨⟨⟨?_, ?_, ?_, ?_⟩, ?_, ?_, ?_, ?_, ?_, ?_, ?_⟩, ?_⟩, rfl⟩
    · rw [hI2, vb_up3 _ _ (by omega), vb_up3 _ _ (by omega), hI1, vb_up2 _ _ (by omega)]; exact q1
    · rw [hI2, vb_up3 _ _ (by omega), vb_up3 _ _ (by omega), hI1, vb_up2 _ _ (by omega)]; exact q2
    · rw [hI2, vb_up3 _ _ (by omega), vb_up3 _ _ (by omega), hI1]; rw [vb_up2 _ _ (by omega)]; exact q3
    · rw [hI2, vb_up3 _ _ (by omega), vb_up3 _ _ (by omega), hI1]; rw [vb_up1]; rfl
    · rw [hI2, vb_up3 _ _ (by omega), vb_up3 _ _ (by omega), hI1, vb_up3 _ _ (by omega)]; exact k1
    · rw [hI2, vb_up3 _ _ (by omega), vb_up3 _ _ (by omega), hI1, vb_up3 _ _ (by omega)]; exact k2
    · rw [hI2, vb_up3 _ _ (by omega), vb_up3 _ _ (by omega), hI1, vb_up3 _ _ (by omega)]; exact k3
    · rw [hI2, vb_up3 _ _ (by omega), vb_up3 _ _ (by omega), hI1, vb_up3 _ _ (by omega)]; exact k4
    · exact k5.fr (by rw [hI2, vb_up3 _ _ (by omega), vb_up3 _ _ (by omega), hI1, vb_up3 _ _ (by omega)]) (by rw [hI2, vb_up3 _ _ (by omega), vb_up3 _ _ (by omega), hI1, vb_up3 _ _ (by omega)])
    · intro hht
      rw [e8, e9]
      exact new _ _
    · intro r' hr'
      rw [e8, e9]
      have hr2 : r' < pl_sc p := hr'
      show pl_R _ _ _ r' (if r' = 3 then c else pl_ru p r')
      rw [if_neg (by omega)]
      exact old _ _ r' _ (by omega) (k7 r' hr2)
    · intro z hz
      rw [hI2, vb_up3 _ _ (by omega), vb_up3 _ _ (by omega), hI1, vb_up3 _ _ (by omega)]
theorem c_addS {p : pl_S} {C : List Int32} {c : List (Nat × Int32)} (hL : vb_isL P S L) (hp : pl_ok p) (dP : pl_C L p (C ++ px_cc c) I) (hsc : pl_sc p < 3) (hd : 1 ≤ d) : mm_C G d 17 [.ref L, .int (vb_i (pl_sc p)), .int (vb_i C.length)] (I, P, J, S, nc, ns) (vb_R none (fun I' => pl_C L (pl_addS p c) (C ++ px_cc c) I' ∧ ∀ a, ¬ (L ≤ a ∧ a < L + 12) → I' a = I a) P J S nc ns) := by
  obtain ⟨⟨q1, q2, q3, q4⟩, k1, k2, k3, k4, k5, k6, k7⟩ := dP
  have hsc3 := hp.2.2.1
  have hs0 := q3
  have hlen : (C ++ px_cc c).length = C.length + px_cl c := by rw [List.length_append, px_cc_len]
  have hlen1 := k5.1
  rw [hlen] at hlen1
  have new : ∀ (sa en : Nat → Int32), pl_R (C ++ px_cc c) (fun j => if j = (pl_sc p) then vb_i C.length else sa j) (fun j => if j = (pl_sc p) then vb_i (C.length + px_cl c) else en j) (pl_sc p) c := fun sa en => ⟨C.length, if_pos rfl, if_pos rfl, by rw [hlen]; exact Nat.le_refl _, fun j hj => by
    rw [List.getD_eq_getElem?_getD, List.getElem?_append_right (by omega), show C.length + j - C.length = j by omega, ← List.getD_eq_getElem?_getD]⟩
  have old : ∀ (sa en : Nat → Int32) (r' : Nat) (c' : List (Nat × Int32)), r' ≠ (pl_sc p) → pl_R (C ++ px_cc c) sa en r' c' → pl_R (C ++ px_cc c) (fun j => if j = (pl_sc p) then vb_i C.length else sa j) (fun j => if j = (pl_sc p) then vb_i (C.length + px_cl c) else en j) r' c' := fun sa en r' c' hr h => by
    obtain ⟨st, h1, h2, h3, h4⟩ := h
    exact ⟨st, (if_neg hr).trans h1, (if_neg hr).trans h2, h3, h4⟩
  show mm_W _ _ 17 (mm_blk 17 0) [.ref L, .int (vb_i (pl_sc p)), .int (vb_i C.length)] [] _ _
  refine mm_w1 rfl ?_
  refine mm_wv (vb_i 3) rfl (by decide) ?_
  refine mm_nicne (by omega) (by omega) ?_ ?_
  · intro h2
    refine mm_w1 rfl ?_
    refine mm_w1 rfl ?_
    refine mm_wgiv _ (vL_S0 hL) (by decide) (by decide) hs0 ?_
    refine mm_wv (vb_i 1) rfl (by decide) ?_
    refine mm_nadd ?_
    refine mm_wpiN (vL_S0 hL) (by decide) (by decide) ?_
    intro I1 hI1
    have _u := hI1
    refine mm_w1 rfl ?_
    refine mm_wgr (vL_S0 hL) (by decide) (by decide) (vL_P0_9 hL) (vL_a6 hL) ?_
    refine mm_w1 rfl ?_
    refine mm_w1 rfl ?_
    refine mm_cvn (vb_cv (vL_S6 hL) rfl rfl rfl rfl) (by decide) (by omega) (c_setRule (k := C.length + px_cl c) hL (by omega) (by rw [hI1, vb_up3 _ _ (by omega)]; exact hlen1)) ?_
    intro I2 hI2
    have e8 : I2 (L + 8) = fun j => if j = (pl_sc p) then vb_i C.length else I (L + 8) j := by
      funext j
      rw [hI2, vb_up3 _ _ (by omega)]
      simp only [mm_up, if_true]
      rw [hI1, vb_up3 _ _ (by omega)]
    have e9 : I2 (L + 9) = fun j => if j = (pl_sc p) then vb_i (C.length + px_cl c) else I (L + 9) j := by
      funext j
      by_cases e : j = (pl_sc p)
      · rw [if_pos e, hI2, e, vb_up1]
      · rw [if_neg e, hI2, vb_up2 _ _ (by omega), vb_up3 _ _ (by omega), hI1, vb_up3 _ _ (by omega)]
    refine mm_wr rfl rfl rfl ?_
    refine ⟨_, ⟨⟨⟨?_, ?_, ?_, ?_⟩, ?_, ?_, ?_, ?_, ?_, ?_, ?_⟩, ?_⟩, rfl⟩
    · rw [hI2, vb_up3 _ _ (by omega), vb_up3 _ _ (by omega), hI1, vb_up2 _ _ (by omega)]; exact q1
    · rw [hI2, vb_up3 _ _ (by omega), vb_up3 _ _ (by omega), hI1, vb_up2 _ _ (by omega)]; exact q2
    · rw [hI2, vb_up3 _ _ (by omega), vb_up3 _ _ (by omega), hI1]; rw [vb_up1]; rfl
    · rw [hI2, vb_up3 _ _ (by omega), vb_up3 _ _ (by omega), hI1]; rw [vb_up2 _ _ (by omega)]; exact q4
    · rw [hI2, vb_up3 _ _ (by omega), vb_up3 _ _ (by omega), hI1, vb_up3 _ _ (by omega)]; exact k1
    · rw [hI2, vb_up3 _ _ (by omega), vb_up3 _ _ (by omega), hI1, vb_up3 _ _ (by omega)]; exact k2
    · rw [hI2, vb_up3 _ _ (by omega), vb_up3 _ _ (by omega), hI1, vb_up3 _ _ (by omega)]; exact k3
    · rw [hI2, vb_up3 _ _ (by omega), vb_up3 _ _ (by omega), hI1, vb_up3 _ _ (by omega)]; exact k4
    · exact k5.fr (by rw [hI2, vb_up3 _ _ (by omega), vb_up3 _ _ (by omega), hI1, vb_up3 _ _ (by omega)]) (by rw [hI2, vb_up3 _ _ (by omega), vb_up3 _ _ (by omega), hI1, vb_up3 _ _ (by omega)])
    · intro hht
      rw [e8, e9]
      show pl_R _ _ _ 3 (if 3 = pl_sc p then c else pl_ru p 3)
      rw [if_neg (by omega)]
      exact old _ _ 3 _ (by omega) (k6 hht)
    · intro r' hr'
      rw [e8, e9]
      have hr2 : r' < pl_sc p + 1 := hr'
      show pl_R _ _ _ r' (if r' = pl_sc p then c else pl_ru p r')
      by_cases e : r' = pl_sc p
      · rw [if_pos e, e]; exact new _ _
      · rw [if_neg e]; exact old _ _ r' _ e (k7 r' (by omega))
    · intro z hz
      rw [hI2, vb_up3 _ _ (by omega), vb_up3 _ _ (by omega), hI1, vb_up3 _ _ (by omega)]
  · intro h2
    omega
end RD7
