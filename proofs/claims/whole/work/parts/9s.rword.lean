/-! THE CLASS'S READER: words, joints; code that is put -/
section RD2
variable {G : mm_G} {d : Nat} {I : Nat → Nat → Int32} {P : Nat → Nat → Nat} {J : Nat → Nat → Int64} {S : List (Nat × Nat)} {nc ns : Nat} {μ : mm_M} {L : Nat} {b : Nat → Int32} {n : Nat}
variable {k : Nat} {is : List mm_I} {ls st : List Value} {Q : mm_R → Prop}
theorem mm_wslen {j idx nA w : Nat} {c : Int32} (hj : j < 17) (hc : (st.map fun v => v.category).sum ≤ 8) (kk : mm_W G d k is ls (.int (vb_i (mm_str.getD j []).length) :: st) μ Q) : mm_W G d k ((.invokevirtual idx, 9001, nA, w, c) :: is) ls (.ref (mm_SB + j) :: st) μ Q := by
  refine mm_w1 ?_ kk
  simp only [mm_one, if_true]
  rw [if_pos ⟨Nat.le_add_right _ _, by rw [Nat.add_sub_cancel_left]; exact Nat.lt_succ_of_lt hj, hc⟩, Nat.add_sub_cancel_left]; rfl
theorem mm_wschr {j i idx nA w : Nat} {c : Int32} (hj : j < 17) (hi : i < (mm_str.getD j []).length) (hi2 : i < 1000) (hc : (st.map fun v => v.category).sum ≤ 8) (kk : mm_W G d k is ls (.int ((mm_str.getD j []).getD i 0) :: st) μ Q) : mm_W G d k ((.invokevirtual idx, 9002, nA, w, c) :: is) ls (.int (vb_i i) :: .ref (mm_SB + j) :: st) μ Q := by
  have e : (vb_i i).toNatClampNeg = i := by rw [vb_i, Int32.toNatClampNeg_ofNat_of_lt (by omega)]
  have e0 : ¬ vb_i i < 0 := by
    rw [Int32.lt_iff_toInt_lt, vb_i, Int32.toInt_ofNat_of_lt (by omega), show Int32.toInt 0 = 0 by decide]; omega
  refine mm_w1 ?_ kk
  simp only [mm_one]
  rw [if_neg (by decide), if_pos True.intro, if_pos ⟨Nat.le_add_right _ _, by rw [Nat.add_sub_cancel_left]; exact Nat.lt_succ_of_lt hj, (by rw [Nat.add_sub_cancel_left, e]; intro h; rcases h with h | h; exact e0 h; omega), hc⟩, Nat.add_sub_cancel_left, e]
def px_si (j : Nat) : Nat := [8, 9, 10, 11, 5, 15, 0, 1, 2, 3, 4, 5, 6, 7, 14, 13, 12].getD j 0
theorem px_si_w : ∀ j, j < 17 → mm_str.getD j [] = tx_wl.getD (px_si j) [] ∧ px_si j < 16 ∧ (mm_str.getD j []).length ≤ 7 := by decide
theorem px_si6 : ∀ i, i < 8 → px_si (6 + i) = i := by decide
theorem tx_K1 {s : Nat} : tx_K b s = 1 ↔ tx_kd (b s) = 1 := by
  rw [tx_K]; split
  · omega
  · exact Iff.rfl
theorem c_isWord {s j : Nat} (hR : vb_isR P S L) (dD : rd_D b n I) (hb : tx_ok b n) (hs : s ≤ n) (hk : rd_tk b s I) (hj : j < 17) : mm_Call G d 58 [.ref 3, .ref (mm_SB + j)] (I, P, J, S, nc, ns) (.inl (some (.int (vb_b (decide (tx_w b s = px_si j))))), (I, P, J, S, nc, ns)) := by
  obtain ⟨e1, e2, e3⟩ := px_si_w j hj
  rw [← tx_w_is e2, ← e1]
  obtain ⟨h490, h590, h690, _⟩ := hk
  have dD90 := dD
  have hn7 := dD.2.2
  have hE1 := tx_E_n hb hs
  have hE0 := tx_E_le b s
  have hK := tx_K_le b s
  refine mm_C.call ?_
  have no : tx_is b s (mm_str.getD j []) = false → (Sum.inl (some (Value.int (vb_i 0))), (I, P, J, S, nc, ns)) = ((Sum.inl (some (Value.int (vb_b (tx_is b s (mm_str.getD j []))))), (I, P, J, S, nc, ns)) : mm_R) := fun h => by rw [h]; rfl
  have loop : tx_K b s = 1 → tx_E b s - s = (mm_str.getD j []).length → ∀ i, i ≤ (mm_str.getD j []).length → (∀ u, u < i → b (s + u) = (mm_str.getD j []).getD u 0) → ∀ (y3 : Value), mm_W G d 58 (mm_blk 58 28) [.ref 3, .ref (mm_SB + j), .int (vb_i i), y3] [] (I, P, J, S, nc, ns) (fun q => q = (.inl (some (.int (vb_b (tx_is b s (mm_str.getD j []))))), (I, P, J, S, nc, ns))) := by
    intro hK1 hlen
    refine vb_down (mm_str.getD j []).length ?_
    intro i hi ih hu y3
    refine mm_w1 rfl ?_
    refine mm_w1 rfl ?_
    refine mm_wslen hj (of_decide_eq_true rfl) ?_ 
    refine mm_nicge (by omega) (by omega) ?_ ?_
    · intro h33
      refine mm_wv (vb_i 1) rfl (by decide) ?_
      refine mm_wr rfl rfl rfl ?_
      have e : tx_is b s (mm_str.getD j []) = true := by
        simp only [tx_is, Bool.and_eq_true, decide_eq_true_eq]
        refine ⟨⟨tx_K1.mp hK1, hlen⟩, List.all_eq_true.mpr (fun u hu2 => ?_)⟩
        rw [hu u (by have := List.mem_range.mp hu2; omega)]
        exact beq_self_eq_true _
      rw [e]; rfl
    · intro h33
      refine mm_w1 rfl ?_
      refine mm_wgiv _ (vR_S3 hR) (by decide) (by decide) h490 ?_
      refine mm_w1 rfl ?_
      refine mm_nadd ?_
      refine mm_w1 (ls' := [_, _, _, _]) rfl ?_
      refine mm_w1 rfl ?_
      refine mm_niflt (by omega) ?_
      refine mm_w1 rfl ?_
      refine mm_w1 rfl ?_
      refine mm_wgr (vR_S3 hR) (by decide) (by decide) (vR_P3_0 hR) (vR_a1 hR) ?_
      refine mm_wal (vR_a1 hR) (vR_S1 hR) (by decide) ?_
      refine mm_nicge (by omega) (by omega) ?_ ?_
      · intro h53
        omega
      · intro h53
        refine mm_w1 rfl ?_
        refine mm_wgr (vR_S3 hR) (by decide) (by decide) (vR_P3_0 hR) (vR_a1 hR) ?_
        refine mm_w1 rfl ?_
        refine mm_wiav (b (s + i)) (vR_a1 hR) (vR_S1 hR) (by decide) (by omega) (dD.1 _ (by omega)) ?_
        refine mm_w1 rfl ?_
        refine mm_w1 rfl ?_
        refine mm_wschr hj (by omega) (by omega) (of_decide_eq_true rfl) ?_ 
        refine mm_wiceq ?_ ?_
        · intro h67
          refine mm_nincL (ls' := [_, _, _, _]) 1 rfl (by decide) rfl ?_
          refine mm_wgoto ?_
          refine ih (by omega) (fun u hu2 => ?_) _
          by_cases e : u = i
          · rw [e]; exact h67
          · exact hu u (by omega)
        · intro h67
          refine mm_wv (vb_i 0) rfl (by decide) ?_
          refine mm_wr rfl rfl rfl ?_
          refine no ?_
          cases e : tx_is b s (mm_str.getD j []) with
          | false => rfl
          | true =>
            simp only [tx_is, Bool.and_eq_true, decide_eq_true_eq] at e
            exact absurd (eq_of_beq (List.all_eq_true.mp e.2 i (List.mem_range.mpr (by omega)))) h67
  show mm_W _ _ 58 (mm_blk 58 0) [.ref 3, .ref (mm_SB + j), .null, .null] [] _ _
  refine mm_w1 rfl ?_
  refine mm_wgiv _ (vR_S3 hR) (by decide) (by decide) h690 ?_
  refine mm_wv (vb_i 1) rfl (by decide) ?_
  refine mm_nicne (by omega) (by omega) ?_ ?_
  · intro h5
    refine mm_wv (vb_i 0) rfl (by decide) ?_
    refine mm_wr rfl rfl rfl ?_
    refine no ?_
    cases e : tx_is b s (mm_str.getD j []) with
    | false => rfl
    | true =>
      simp only [tx_is, Bool.and_eq_true, decide_eq_true_eq] at e
      first
        | exact absurd (tx_K1.mpr e.1.1) ‹¬ tx_K b s = 1›
        | exact absurd e.1.2 h21
  · intro h5
    refine mm_w1 rfl ?_
    refine mm_wgiv _ (vR_S3 hR) (by decide) (by decide) h590 ?_
    refine mm_w1 rfl ?_
    refine mm_wgiv _ (vR_S3 hR) (by decide) (by decide) h490 ?_
    refine mm_nsub (by omega) ?_
    refine mm_w1 rfl ?_
    refine mm_wslen hj (of_decide_eq_true rfl) ?_ 
    refine mm_niceq (by omega) (by omega) ?_ ?_
    · intro h21
      refine mm_wv (vb_i 0) rfl (by decide) ?_
      refine mm_w1 (ls' := [_, _, _, _]) rfl ?_
      exact loop (by omega) h21 0 (by omega) (fun u h => absurd h (by omega)) _
    · intro h21
      refine mm_wv (vb_i 0) rfl (by decide) ?_
      refine mm_wr rfl rfl rfl ?_
      refine no ?_
      cases e : tx_is b s (mm_str.getD j []) with
      | false => rfl
      | true =>
        simp only [tx_is, Bool.and_eq_true, decide_eq_true_eq] at e
        first
          | exact absurd (tx_K1.mpr e.1.1) ‹¬ tx_K b s = 1›
          | exact absurd e.1.2 h21
def px_cj (q : Nat) : Int32 := if q = 0 then -1 else vb_i (if q = 4 then 8 else if q = 5 then 9 else if q = 6 then 14 else if q = 7 then 15 else if q = 8 then 10 else if q = 9 then 11 else if q = 10 then 12 else 13)
theorem c_joint {s l : Nat} (hR : vb_isR P S L) (dD : rd_D b n I) (hb : tx_ok b n) (hs : s ≤ n) (hk : rd_tk b s I) (hd : 1 ≤ d) (hl : l < 5) (hl2 : l ≠ 2) : mm_Call G d 56 [.ref 3, .int (vb_i l)] (I, P, J, S, nc, ns) (.inl (some (.int (px_cj (px_j b l s)))), (I, P, J, S, nc, ns)) := by
  obtain ⟨h4, h5, h6, h7x⟩ := hk
  have hk : rd_tk b s I := ⟨h4, h5, h6, h7x⟩
  have hK := tx_K_le b s
  refine mm_C.call ?_
  have : l = 0 ∨ l = 1 ∨ l = 3 ∨ l = 4 := by omega
  rcases this with rfl | rfl | rfl | rfl
  · show mm_W _ _ 56 (mm_blk 56 0) [.ref 3, .int (vb_i 0)] [] _ _
    refine mm_w1 rfl ?_
    refine mm_wts 36 (by decide +kernel) ?_
    refine mm_w1 rfl ?_
    refine mm_w1 rfl ?_
    refine mm_cvp (vb_cv (vR_S3 hR) rfl rfl rfl rfl) (by decide) (by omega) (c_isWord hR dD hb (by omega) hk (by decide)) ?_
    refine mm_bifeq ?_ ?_
    · intro h42
      refine mm_wv (-1) rfl (by decide) ?_
      refine mm_wr rfl rfl rfl ?_
      first
        | (have e : tx_w b s = 14 := of_decide_eq_true h42
           rw [show px_j b 0 s = 5 by simp only [px_j]; simp [e]]; rfl)
        | (have e : ¬ tx_w b s = 14 := of_decide_eq_false h42
           rw [show px_j b 0 s = 0 by simp only [px_j]; simp [e]]; rfl)
    · intro h42
      refine mm_wv (vb_i 9) rfl (by decide) ?_
      refine mm_wgoto ?_
      refine mm_wr rfl rfl rfl ?_
      first
        | (have e : tx_w b s = 14 := of_decide_eq_true h42
           rw [show px_j b 0 s = 5 by simp only [px_j]; simp [e]]; rfl)
        | (have e : ¬ tx_w b s = 14 := of_decide_eq_false h42
           rw [show px_j b 0 s = 0 by simp only [px_j]; simp [e]]; rfl)
  · show mm_W _ _ 56 (mm_blk 56 0) [.ref 3, .int (vb_i 1)] [] _ _
    refine mm_w1 rfl ?_
    refine mm_wts 52 (by decide +kernel) ?_
    refine mm_w1 rfl ?_
    refine mm_w1 rfl ?_
    refine mm_cvp (vb_cv (vR_S3 hR) rfl rfl rfl rfl) (by decide) (by omega) (c_isWord hR dD hb (by omega) hk (by decide)) ?_
    refine mm_bifeq ?_ ?_
    · intro h58
      refine mm_wv (-1) rfl (by decide) ?_
      refine mm_wr rfl rfl rfl ?_
      first
        | (have e : tx_w b s = 13 := of_decide_eq_true h58
           rw [show px_j b 1 s = 4 by simp only [px_j]; simp [e]]; rfl)
        | (have e : ¬ tx_w b s = 13 := of_decide_eq_false h58
           rw [show px_j b 1 s = 0 by simp only [px_j]; simp [e]]; rfl)
    · intro h58
      refine mm_wv (vb_i 8) rfl (by decide) ?_
      refine mm_wgoto ?_
      refine mm_wr rfl rfl rfl ?_
      first
        | (have e : tx_w b s = 13 := of_decide_eq_true h58
           rw [show px_j b 1 s = 4 by simp only [px_j]; simp [e]]; rfl)
        | (have e : ¬ tx_w b s = 13 := of_decide_eq_false h58
           rw [show px_j b 1 s = 0 by simp only [px_j]; simp [e]]; rfl)
  · show mm_W _ _ 56 (mm_blk 56 0) [.ref 3, .int (vb_i 3)] [] _ _
    refine mm_w1 rfl ?_
    refine mm_wts 68 (by decide +kernel) ?_
    refine mm_w1 rfl ?_
    refine mm_wgiv _ (vR_S3 hR) (by decide) (by decide) h6 ?_
    refine mm_wv (vb_i 43) rfl (by decide) ?_
    refine mm_nicne (by omega) (by omega) ?_ ?_
    · intro h74
      refine mm_w1 rfl ?_
      refine mm_wgiv _ (vR_S3 hR) (by decide) (by decide) h6 ?_
      refine mm_wv (vb_i 45) rfl (by decide) ?_
      refine mm_nicne (by omega) (by omega) ?_ ?_
      · intro h88
        refine mm_wv (-1) rfl (by decide) ?_
        refine mm_wr rfl rfl rfl ?_
        first
          | (rw [show px_j b 3 s = 8 by simp only [px_j]; simp [h74]]; rfl)
          | (rw [show px_j b 3 s = 9 by simp only [px_j]; simp [h88]]; rfl)
          | (rw [show px_j b 3 s = 0 by simp only [px_j]; simp [h74, h88]]; rfl)
      · intro h88
        refine mm_wv (vb_i 11) rfl (by decide) ?_
        refine mm_wgoto ?_
        refine mm_wr rfl rfl rfl ?_
        first
          | (rw [show px_j b 3 s = 8 by simp only [px_j]; simp [h74]]; rfl)
          | (rw [show px_j b 3 s = 9 by simp only [px_j]; simp [h88]]; rfl)
          | (rw [show px_j b 3 s = 0 by simp only [px_j]; simp [h74, h88]]; rfl)
    · intro h74
      refine mm_wv (vb_i 10) rfl (by decide) ?_
      refine mm_wgoto ?_
      refine mm_wr rfl rfl rfl ?_
      first
        | (rw [show px_j b 3 s = 8 by simp only [px_j]; simp [h74]]; rfl)
        | (rw [show px_j b 3 s = 9 by simp only [px_j]; simp [h88]]; rfl)
        | (rw [show px_j b 3 s = 0 by simp only [px_j]; simp [h74, h88]]; rfl)
  · show mm_W _ _ 56 (mm_blk 56 0) [.ref 3, .int (vb_i 4)] [] _ _
    refine mm_w1 rfl ?_
    refine mm_wts 98 (by decide +kernel) ?_
    refine mm_w1 rfl ?_
    refine mm_wgiv _ (vR_S3 hR) (by decide) (by decide) h6 ?_
    refine mm_wv (vb_i 42) rfl (by decide) ?_
    refine mm_nicne (by omega) (by omega) ?_ ?_
    · intro h104
      refine mm_w1 rfl ?_
      refine mm_wgiv _ (vR_S3 hR) (by decide) (by decide) h6 ?_
      refine mm_wv (vb_i 47) rfl (by decide) ?_
      refine mm_nicne (by omega) (by omega) ?_ ?_
      · intro h118
        refine mm_wv (-1) rfl (by decide) ?_
        refine mm_wr rfl rfl rfl ?_
        first
          | (rw [show px_j b 4 s = 10 by simp only [px_j]; simp [h104]]; rfl)
          | (rw [show px_j b 4 s = 11 by simp only [px_j]; simp [h118]]; rfl)
          | (rw [show px_j b 4 s = 0 by simp only [px_j]; simp [h104, h118]]; rfl)
      · intro h118
        refine mm_wv (vb_i 13) rfl (by decide) ?_
        refine mm_wgoto ?_
        refine mm_wr rfl rfl rfl ?_
        first
          | (rw [show px_j b 4 s = 10 by simp only [px_j]; simp [h104]]; rfl)
          | (rw [show px_j b 4 s = 11 by simp only [px_j]; simp [h118]]; rfl)
          | (rw [show px_j b 4 s = 0 by simp only [px_j]; simp [h104, h118]]; rfl)
    · intro h104
      refine mm_wv (vb_i 12) rfl (by decide) ?_
      refine mm_wgoto ?_
      refine mm_wr rfl rfl rfl ?_
      first
        | (rw [show px_j b 4 s = 10 by simp only [px_j]; simp [h104]]; rfl)
        | (rw [show px_j b 4 s = 11 by simp only [px_j]; simp [h118]]; rfl)
        | (rw [show px_j b 4 s = 0 by simp only [px_j]; simp [h104, h118]]; rfl)
theorem c_nameOf {i : Nat} (hi : i < 8) : mm_Call G d 57 [.int (vb_i i)] (I, P, J, S, nc, ns) (.inl (some (.ref (mm_SB + (6 + i)))), (I, P, J, S, nc, ns)) := by
  refine mm_C.call ?_
  have : i = 0 ∨ i = 1 ∨ i = 2 ∨ i = 3 ∨ i = 4 ∨ i = 5 ∨ i = 6 ∨ i = 7 := by omega
  rcases this with rfl | rfl | rfl | rfl | rfl | rfl | rfl | rfl
  · show mm_W _ _ 57 (mm_blk 57 0) [.int (vb_i 0)] [] _ _
    refine mm_w1 rfl ?_
    refine mm_wts 48 (by decide +kernel) ?_
    refine mm_w1 rfl ?_
    refine mm_wr rfl rfl rfl ?_
    rfl
  · show mm_W _ _ 57 (mm_blk 57 0) [.int (vb_i 1)] [] _ _
    refine mm_w1 rfl ?_
    refine mm_wts 51 (by decide +kernel) ?_
    refine mm_w1 rfl ?_
    refine mm_wr rfl rfl rfl ?_
    rfl
  · show mm_W _ _ 57 (mm_blk 57 0) [.int (vb_i 2)] [] _ _
    refine mm_w1 rfl ?_
    refine mm_wts 54 (by decide +kernel) ?_
    refine mm_w1 rfl ?_
    refine mm_wr rfl rfl rfl ?_
    rfl
  · show mm_W _ _ 57 (mm_blk 57 0) [.int (vb_i 3)] [] _ _
    refine mm_w1 rfl ?_
    refine mm_wts 57 (by decide +kernel) ?_
    refine mm_w1 rfl ?_
    refine mm_wr rfl rfl rfl ?_
    rfl
  · show mm_W _ _ 57 (mm_blk 57 0) [.int (vb_i 4)] [] _ _
    refine mm_w1 rfl ?_
    refine mm_wts 60 (by decide +kernel) ?_
    refine mm_w1 rfl ?_
    refine mm_wr rfl rfl rfl ?_
    rfl
  · show mm_W _ _ 57 (mm_blk 57 0) [.int (vb_i 5)] [] _ _
    refine mm_w1 rfl ?_
    refine mm_wts 63 (by decide +kernel) ?_
    refine mm_w1 rfl ?_
    refine mm_wr rfl rfl rfl ?_
    rfl
  · show mm_W _ _ 57 (mm_blk 57 0) [.int (vb_i 6)] [] _ _
    refine mm_w1 rfl ?_
    refine mm_wts 66 (by decide +kernel) ?_
    refine mm_w1 rfl ?_
    refine mm_wr rfl rfl rfl ?_
    rfl
  · show mm_W _ _ 57 (mm_blk 57 0) [.int (vb_i 7)] [] _ _
    refine mm_w1 rfl ?_
    refine mm_wts 69 (by decide +kernel) ?_
    refine mm_w1 rfl ?_
    refine mm_wr rfl rfl rfl ?_
    rfl
/-- the last of the first i names that is the word -/
def px_vw (b : Nat → Int32) (s i : Nat) : Int32 := if tx_w b s < i then vb_i (tx_w b s) else -1
theorem px_vw1 {b : Nat → Int32} {s i : Nat} (h : tx_w b s = i) : px_vw b s (i + 1) = vb_i i := by rw [px_vw, if_pos (by omega), h]
theorem px_vw0 {b : Nat → Int32} {s i : Nat} (h : ¬ tx_w b s = i) : px_vw b s (i + 1) = px_vw b s i := by
  rw [px_vw, px_vw]
  by_cases h2 : tx_w b s < i
  · rw [if_pos h2, if_pos (by omega)]
  · rw [if_neg h2, if_neg (by omega)]
theorem c_canBegin {s : Nat} (hR : vb_isR P S L) (dD : rd_D b n I) (hb : tx_ok b n) (hk : rd_tk b s I) : mm_Call G d 55 [.ref 3] (I, P, J, S, nc, ns) (.inl (some (.int (vb_b (px_cb b s)))), (I, P, J, S, nc, ns)) := by
  obtain ⟨h4, h5, h6, h7x⟩ := hk
  have hK := tx_K_le b s
  refine mm_C.call ?_
  show mm_W _ _ 55 (mm_blk 55 0) [.ref 3] [] _ _
  refine mm_w1 rfl ?_
  refine mm_wgiv _ (vR_S3 hR) (by decide) (by decide) h6 ?_
  refine mm_wv (vb_i 1) rfl (by decide) ?_
  refine mm_niceq (by omega) (by omega) ?_ ?_
  · intro h5
    refine mm_wv (vb_i 1) rfl (by decide) ?_
    refine mm_wgoto ?_
    refine mm_wr rfl rfl rfl ?_
    first
      | (rw [show px_cb b s = true from decide_eq_true (by omega)]; rfl)
      | (rw [show px_cb b s = false from decide_eq_false (by omega)]; rfl)
  · intro h5
    refine mm_w1 rfl ?_
    refine mm_wgiv _ (vR_S3 hR) (by decide) (by decide) h6 ?_
    refine mm_wv (vb_i 2) rfl (by decide) ?_
    refine mm_niceq (by omega) (by omega) ?_ ?_
    · intro h13
      refine mm_wv (vb_i 1) rfl (by decide) ?_
      refine mm_wgoto ?_
      refine mm_wr rfl rfl rfl ?_
      first
        | (rw [show px_cb b s = true from decide_eq_true (by omega)]; rfl)
        | (rw [show px_cb b s = false from decide_eq_false (by omega)]; rfl)
    · intro h13
      refine mm_w1 rfl ?_
      refine mm_wgiv _ (vR_S3 hR) (by decide) (by decide) h6 ?_
      refine mm_wv (vb_i 3) rfl (by decide) ?_
      refine mm_niceq (by omega) (by omega) ?_ ?_
      · intro h21
        refine mm_wv (vb_i 1) rfl (by decide) ?_
        refine mm_wgoto ?_
        refine mm_wr rfl rfl rfl ?_
        first
          | (rw [show px_cb b s = true from decide_eq_true (by omega)]; rfl)
          | (rw [show px_cb b s = false from decide_eq_false (by omega)]; rfl)
      · intro h21
        refine mm_w1 rfl ?_
        refine mm_wgiv _ (vR_S3 hR) (by decide) (by decide) h6 ?_
        refine mm_wv (vb_i 40) rfl (by decide) ?_
        refine mm_nicne (by omega) (by omega) ?_ ?_
        · intro h30
          refine mm_wv (vb_i 0) rfl (by decide) ?_
          refine mm_wr rfl rfl rfl ?_
          first
            | (rw [show px_cb b s = true from decide_eq_true (by omega)]; rfl)
            | (rw [show px_cb b s = false from decide_eq_false (by omega)]; rfl)
        · intro h30
          refine mm_wv (vb_i 1) rfl (by decide) ?_
          refine mm_wgoto ?_
          refine mm_wr rfl rfl rfl ?_
          first
            | (rw [show px_cb b s = true from decide_eq_true (by omega)]; rfl)
            | (rw [show px_cb b s = false from decide_eq_false (by omega)]; rfl)
theorem c_refuse {v : Int32} (hR : vb_isR P S L) : mm_C G d 46 [.ref 3, .int v] (I, P, J, S, nc, ns) (vb_R (some (.int (vb_b false))) (fun I' => I' = mm_up I 3 3 v) P J S nc ns) := by
  show mm_W _ _ 46 (mm_blk 46 0) [.ref 3, .int v] [] _ _
  refine mm_w1 rfl ?_
  refine mm_w1 rfl ?_
  refine mm_wpi (vR_S3 hR) (by decide) (by decide) ?_
  refine mm_wv (vb_i 0) rfl (by decide) ?_
  refine mm_wr rfl rfl rfl ?_
  exact ⟨_, rfl, rfl⟩
/-- the code that was put -/
def rd_C (L : Nat) (C : List Int32) (I : Nat → Nat → Int32) : Prop := I (L + 6) 1 = vb_i C.length ∧ ∀ j, j < C.length → I (L + 7) j = C.getD j 0
def rd_fc (L : Nat) (I I' : Nat → Nat → Int32) : Prop := ∀ a, a ≠ L + 6 → a ≠ L + 7 → I' a = I a
theorem rd_C.fr {L : Nat} {C : List Int32} {I I' : Nat → Nat → Int32} (h : rd_C L C I) (h6 : I' (L + 6) = I (L + 6)) (h7 : I' (L + 7) = I (L + 7)) : rd_C L C I' := ⟨by rw [h6]; exact h.1, fun j hj => by rw [h7]; exact h.2 j hj⟩
theorem rd_C.put {L : Nat} {C : List Int32} {I : Nat → Nat → Int32} {v : Int32} (h : rd_C L C I) : rd_C L (C ++ [v]) (mm_up (mm_up I (L + 7) C.length v) (L + 6) 1 (vb_i (C.length + 1))) := by
  refine ⟨by rw [vb_up1, List.length_append]; rfl, fun j hj => ?_⟩
  rw [List.length_append] at hj
  have hj : j < C.length + 1 := hj
  rw [vb_up3 _ _ (by omega)]
  by_cases e : j = C.length
  · subst e
    rw [vb_up1, List.getD_eq_getElem?_getD, List.getElem?_append_right (Nat.le_refl _), Nat.sub_self]; rfl
  · rw [vb_up2 _ _ (by omega), h.2 j (by omega), List.getD_eq_getElem?_getD, List.getD_eq_getElem?_getD, List.getElem?_append_left (by omega)]
theorem c_put {v : Int32} {C : List Int32} (hL : vb_isL P S L) (dC : rd_C L C I) (hC : C.length < 700) : mm_C G d 66 [.ref (L + 6), .int v] (I, P, J, S, nc, ns) (vb_R none (fun I' => rd_C L (C ++ [v]) I' ∧ rd_fc L I I') P J S nc ns) := by
  have h1 := dC.1
  show mm_W _ _ 66 (mm_blk 66 0) [.ref (L + 6), .int v] [] _ _
  refine mm_w1 rfl ?_
  refine mm_wgiv _ (vL_S6 hL) (by decide) (by decide) h1 ?_
  refine mm_wv (vb_i 700) rfl (by decide) ?_
  refine mm_nicge (by omega) (by omega) ?_ ?_
  · intro h7
    omega
  · intro h7
    refine mm_w1 rfl ?_
    refine mm_wgr (vL_S6 hL) (by decide) (by decide) (vL_P6_0 hL) (vL_a7 hL) ?_
    refine mm_w1 rfl ?_
    refine mm_wgiv _ (vL_S6 hL) (by decide) (by decide) h1 ?_
    refine mm_w1 rfl ?_
    refine mm_wisN (vL_S7 hL) (by decide) (by omega) ?_
    intro I1 hI1
    have _u := hI1
    refine mm_w1 rfl ?_
    refine mm_w1 rfl ?_
    refine mm_wgiv (vb_i C.length) (vL_S6 hL) (by decide) (by decide) (by rw [hI1, vb_up3 _ _ (by omega)]; exact h1) ?_
    refine mm_wv (vb_i 1) rfl (by decide) ?_
    refine mm_nadd ?_
    refine mm_wpi (vL_S6 hL) (by decide) (by decide) ?_
    refine mm_wr rfl rfl rfl ?_
    refine ⟨_, ⟨?_, ?_⟩, rfl⟩
    · rw [hI1]; exact dC.put
    · intro a h6 h7
      rw [hI1, vb_up3 _ _ h6, vb_up3 _ _ h7]
theorem c_addNum {v : Int32} {C : List Int32} (hL : vb_isL P S L) (dC : rd_C L C I) (hC : C.length < 700) (hd : 1 ≤ d) : mm_C G d 64 [.ref (L + 6), .int v] (I, P, J, S, nc, ns) (vb_R none (fun I' => rd_C L (C ++ [v]) I' ∧ rd_fc L I I') P J S nc ns) := by
  show mm_W _ _ 64 (mm_blk 64 0) [.ref (L + 6), .int v] [] _ _
  refine mm_w1 rfl ?_
  refine mm_w1 rfl ?_
  refine mm_cvn (vb_cv (vL_S6 hL) rfl rfl rfl rfl) (by decide) (by omega) (c_put hL dC (by omega)) ?_
  intro I1 hq1
  refine mm_wr rfl rfl rfl ?_
  exact ⟨_, hq1, rfl⟩
theorem c_addSign {v : Int32} {C : List Int32} (hL : vb_isL P S L) (dC : rd_C L C I) (hC : C.length < 700) (hd : 1 ≤ d) : mm_C G d 65 [.ref (L + 6), .int v] (I, P, J, S, nc, ns) (vb_R none (fun I' => rd_C L (C ++ [(-1 - v)]) I' ∧ rd_fc L I I') P J S nc ns) := by
  show mm_W _ _ 65 (mm_blk 65 0) [.ref (L + 6), .int v] [] _ _
  refine mm_w1 rfl ?_
  refine mm_wv (-1) rfl (by decide) ?_
  refine mm_w1 rfl ?_
  refine mm_w1 rfl ?_
  refine mm_cvn (vb_cv (vL_S6 hL) rfl rfl rfl rfl) (by decide) (by omega) (c_put hL dC (by omega)) ?_
  intro I1 hq1
  refine mm_wr rfl rfl rfl ?_
  exact ⟨_, hq1, rfl⟩
end RD2
