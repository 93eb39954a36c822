/-! THE CLASS'S READER: its tokens -/
def vb_isR (P : Nat → Nat → Nat) (S : List (Nat × Nat)) (L : Nat) : Prop := S[3]? = some (4, 8) ∧ S[1]? = some (100, 700) ∧ P 3 0 = 1 ∧ P 3 2 = L ∧ vb_isL P S L ∧ (L = 5 ∨ L = 17)
theorem vR_S3 {P : Nat → Nat → Nat} {S : List (Nat × Nat)} {L : Nat} (h : vb_isR P S L) : S[3]? = some (4, 8) := h.1
theorem vR_S1 {P : Nat → Nat → Nat} {S : List (Nat × Nat)} {L : Nat} (h : vb_isR P S L) : S[1]? = some (100, 700) := h.2.1
theorem vR_a3 {P : Nat → Nat → Nat} {S : List (Nat × Nat)} {L : Nat} (_ : vb_isR P S L) : 3 < 1000 := by decide
theorem vR_a1 {P : Nat → Nat → Nat} {S : List (Nat × Nat)} {L : Nat} (_ : vb_isR P S L) : 1 < 1000 := by decide
theorem vR_P3_0 {P : Nat → Nat → Nat} {S : List (Nat × Nat)} {L : Nat} (h : vb_isR P S L) : P 3 0 = 1 := h.2.2.1
theorem vR_P3_2 {P : Nat → Nat → Nat} {S : List (Nat × Nat)} {L : Nat} (h : vb_isR P S L) : P 3 2 = L := h.2.2.2.1
theorem vR_L {P : Nat → Nat → Nat} {S : List (Nat × Nat)} {L : Nat} (h : vb_isR P S L) : vb_isL P S L := h.2.2.2.2.1
theorem vR_17 {P : Nat → Nat → Nat} {S : List (Nat × Nat)} {L : Nat} (h : vb_isR P S L) : L = 5 ∨ L = 17 := h.2.2.2.2.2
/-- the text lies there -/
def rd_D (b : Nat → Int32) (n : Nat) (I : Nat → Nat → Int32) : Prop := (∀ i, i < n → I 1 i = b i) ∧ I 3 1 = vb_i n ∧ n ≤ 700
theorem rd_D.up {b : Nat → Int32} {n q : Nat} {I : Nat → Nat → Int32} {v : Int32} (h : rd_D b n I) (hq : q ≠ 1) : rd_D b n (mm_up I 3 q v) := ⟨fun i hi => by rw [vb_up3 _ _ (by decide)]; exact h.1 i hi, by rw [vb_up2 _ _ (by omega)]; exact h.2.1, h.2.2⟩
/-- only the token changes -/
def rd_f3 (I I' : Nat → Nat → Int32) : Prop := (∀ a, a ≠ 3 → I' a = I a) ∧ ∀ q, q < 4 → I' 3 q = I 3 q
theorem rd_f3.rf {I : Nat → Nat → Int32} : rd_f3 I I := ⟨fun _ _ => rfl, fun _ _ => rfl⟩
theorem rd_f3.tr {I I' I'' : Nat → Nat → Int32} (h : rd_f3 I I') (h' : rd_f3 I' I'') : rd_f3 I I'' := ⟨fun a ha => (h'.1 a ha).trans (h.1 a ha), fun q hq => (h'.2 q hq).trans (h.2 q hq)⟩
theorem rd_f3.up {I I' : Nat → Nat → Int32} {q : Nat} {v : Int32} (h : rd_f3 I I') (hq : 4 ≤ q) : rd_f3 I (mm_up I' 3 q v) := ⟨fun a ha => by rw [vb_up3 _ _ ha]; exact h.1 a ha, fun j hj => by rw [vb_up2 _ _ (by omega)]; exact h.2 j hj⟩
theorem rd_D.f3 {b : Nat → Int32} {n : Nat} {I I' : Nat → Nat → Int32} (h : rd_D b n I) (hf : rd_f3 I I') : rd_D b n I' := ⟨fun i hi => by rw [hf.1 1 (by decide)]; exact h.1 i hi, by rw [hf.2 1 (by decide)]; exact h.2.1, h.2.2⟩
def rd_tk (b : Nat → Int32) (s : Nat) (I : Nat → Nat → Int32) : Prop := I 3 4 = vb_i s ∧ I 3 5 = vb_i (tx_E b s) ∧ I 3 6 = vb_i (tx_K b s) ∧ (tx_K b s = 2 → I 3 7 = vb_i (tx_Vs b s))
theorem tx_kd_le (c : Int32) : tx_kd c ≤ 61 := by
  simp only [tx_kd]
  (repeat' split) <;> first
    | decide
    | (rename_i h9; rcases h9 with h9 | h9 | h9 | h9 | h9 | h9 | h9 | h9 | h9 <;> rw [h9] <;> decide)
theorem tx_K_le (b : Nat → Int32) (s : Nat) : tx_K b s ≤ 61 := by
  rw [tx_K]; split
  · decide
  · exact tx_kd_le _
theorem tx_i32 {c : Int32} {z : Int} (h : c.toInt = z) {w : Int32} (hw : w.toInt = z) : c = w := Int32.toInt.inj (h.trans hw.symm)
theorem tx_ls (c : Int32) : (((29 : Nat) : Int) + Op.lookupswitch.offset #[((-1 : Int), (91 : Int)), (40, 93), (41, 93), (42, 93), (43, 93), (45, 93), (47, 93), (59, 93), (60, 93), (61, 93)].toList 95 c.toInt).toNat = if c = -1 then 120 else if c = 59 ∨ c = 40 ∨ c = 41 ∨ c = 43 ∨ c = 45 ∨ c = 42 ∨ c = 47 ∨ c = 60 ∨ c = 61 then 122 else 124 := by
  by_cases h1 : c = -1
  · subst h1; rfl
  · rw [if_neg h1]
    by_cases h2 : c = 59 ∨ c = 40 ∨ c = 41 ∨ c = 43 ∨ c = 45 ∨ c = 42 ∨ c = 47 ∨ c = 60 ∨ c = 61
    · rw [if_pos h2]
      rcases h2 with h2 | h2 | h2 | h2 | h2 | h2 | h2 | h2 | h2 <;> subst h2 <;> rfl
    · rw [if_neg h2]
      have e : ∀ (z : Int) (w : Int32), w.toInt = z → c ≠ w → ¬ c.toInt = z := fun z w hw hne h => hne (tx_i32 h hw)
      have k1 := e (-1) (-1) (by decide) h1
      have k2 := e 40 40 (by decide) (fun h => h2 (by simp [h]))
      have k3 := e 41 41 (by decide) (fun h => h2 (by simp [h]))
      have k4 := e 42 42 (by decide) (fun h => h2 (by simp [h]))
      have k5 := e 43 43 (by decide) (fun h => h2 (by simp [h]))
      have k6 := e 45 45 (by decide) (fun h => h2 (by simp [h]))
      have k7 := e 47 47 (by decide) (fun h => h2 (by simp [h]))
      have k8 := e 59 59 (by decide) (fun h => h2 (by simp [h]))
      have k9 := e 60 60 (by decide) (fun h => h2 (by simp [h]))
      have k10 := e 61 61 (by decide) (fun h => h2 (by simp [h]))
      have : Op.lookupswitch.offset #[((-1 : Int), (91 : Int)), (40, 93), (41, 93), (42, 93), (43, 93), (45, 93), (47, 93), (59, 93), (60, 93), (61, 93)].toList 95 c.toInt = 95 := by
        simp [Op.lookupswitch.offset]
        omega
      rw [this]; rfl
section RD1
variable {G : mm_G} {d : Nat} {I : Nat → Nat → Int32} {P : Nat → Nat → Nat} {J : Nat → Nat → Int64} {S : List (Nat × Nat)} {nc ns : Nat} {μ : mm_M} {L : Nat} {b : Nat → Int32} {n : Nat}
theorem c_kindOf (c : Int32) : mm_Call G d 61 [.int c] μ (.inl (some (.int (vb_i (tx_kd c)))), μ) := by
  refine mm_C.call ?_
  show mm_W _ _ 61 (mm_blk 61 0) [.int c] [] _ _
  have hle := tx_kd_le c
  have k28 : ¬ (97 ≤ c ∧ c ≤ 122) → ¬ (48 ≤ c ∧ c ≤ 57) → mm_W G d 61 (mm_blk 61 28) [.int c] [] μ (fun q => q = (.inl (some (.int (vb_i (tx_kd c)))), μ)) := by
    intro h1 h2
    refine mm_w1 rfl ?_
    refine mm_wls1 _ (tx_ls c) ?_
    by_cases e1 : c = -1
    · rw [if_pos e1, show tx_kd c = 0 by rw [e1]; decide]
      refine mm_wv (vb_i 0) rfl (by decide) ?_
      refine mm_wr rfl rfl rfl ?_
      rfl
    · rw [if_neg e1]
      by_cases e2 : c = 59 ∨ c = 40 ∨ c = 41 ∨ c = 43 ∨ c = 45 ∨ c = 42 ∨ c = 47 ∨ c = 60 ∨ c = 61
      · rw [if_pos e2, show vb_i (tx_kd c) = c by rcases e2 with e2 | e2 | e2 | e2 | e2 | e2 | e2 | e2 | e2 <;> rw [e2] <;> decide]
        refine mm_w1 rfl ?_
        refine mm_wr rfl rfl rfl ?_
        rfl
      · rw [if_neg e2, show tx_kd c = 4 by simp only [tx_kd]; rw [if_neg h1, if_neg h2, if_neg e1, if_neg e2]]
        refine mm_wv (vb_i 4) rfl (by decide) ?_
        refine mm_wr rfl rfl rfl ?_
        rfl
  have k14 : ¬ (97 ≤ c ∧ c ≤ 122) → mm_W G d 61 (mm_blk 61 14) [.int c] [] μ (fun q => q = (.inl (some (.int (vb_i (tx_kd c)))), μ)) := by
    intro h1
    refine mm_w1 rfl ?_
    refine mm_wv (vb_i 48) rfl (by decide) ?_
    refine mm_wiclt ?_ ?_
    · intro h17
      exact k28 h1 (fun h => by first | exact Int32.not_lt.mpr h.1 h17 | exact Int32.not_lt.mpr h.2 h23)
    · intro h17
      refine mm_w1 rfl ?_
      refine mm_wv (vb_i 57) rfl (by decide) ?_
      refine mm_wicgt ?_ ?_
      · intro h23
        exact k28 h1 (fun h => by first | exact Int32.not_lt.mpr h.1 h17 | exact Int32.not_lt.mpr h.2 h23)
      · intro h23
        refine mm_wv (vb_i 2) rfl (by decide) ?_
        refine mm_wr rfl rfl rfl ?_
        have e : tx_kd c = 2 := by simp only [tx_kd]; rw [if_neg h1, if_pos ⟨Int32.not_lt.mp h17, Int32.not_lt.mp h23⟩]
        rw [e]
  refine mm_w1 rfl ?_
  refine mm_wv (vb_i 97) rfl (by decide) ?_
  refine mm_wiclt ?_ ?_
  · intro h3
    exact k14 (fun h => by first | exact Int32.not_lt.mpr h.1 h3 | exact Int32.not_lt.mpr h.2 h9)
  · intro h3
    refine mm_w1 rfl ?_
    refine mm_wv (vb_i 122) rfl (by decide) ?_
    refine mm_wicgt ?_ ?_
    · intro h9
      exact k14 (fun h => by first | exact Int32.not_lt.mpr h.1 h3 | exact Int32.not_lt.mpr h.2 h9)
    · intro h9
      refine mm_wv (vb_i 1) rfl (by decide) ?_
      refine mm_wr rfl rfl rfl ?_
      have e : tx_kd c = 1 := by simp only [tx_kd]; rw [if_pos ⟨Int32.not_lt.mp h3, Int32.not_lt.mp h9⟩]
      rw [e]
theorem c_byteAt {p : Nat} (hR : vb_isR P S L) (dD : rd_D b n I) (hb : tx_ok b n) (hp : p < 5000) : mm_Call G d 60 [.ref 3, .int (vb_i p)] (I, P, J, S, nc, ns) (.inl (some (.int (b p))), (I, P, J, S, nc, ns)) := by
  refine mm_C.call ?_
  have hn7 := dD.2.2
  show mm_W _ _ 60 (mm_blk 60 0) [.ref 3, .int (vb_i p)] [] _ _
  refine mm_w1 rfl ?_
  refine mm_niflt (by omega) ?_
  refine mm_w1 rfl ?_
  refine mm_w1 rfl ?_
  refine mm_wgiv _ (vR_S3 hR) (by decide) (by decide) (dD.2.1) ?_
  refine mm_nicge (by omega) (by omega) ?_ ?_
  · intro h9
    refine mm_wv (-1) rfl (by decide) ?_
    refine mm_wr rfl rfl rfl ?_
    first
      | rfl
      | (show _ = (Sum.inl (some (Value.int (b p))), _)
         rw [hb.2.1 p (by omega)])
  · intro h9
    refine mm_w1 rfl ?_
    refine mm_w1 rfl ?_
    refine mm_wgr (vR_S3 hR) (by decide) (by decide) (vR_P3_0 hR) (vR_a1 hR) ?_
    refine mm_wal (vR_a1 hR) (vR_S1 hR) (by decide) ?_
    refine mm_nicge (by omega) (by omega) ?_ ?_
    · intro h18
      refine mm_wv (-1) rfl (by decide) ?_
      refine mm_wr rfl rfl rfl ?_
      first
        | rfl
        | (show _ = (Sum.inl (some (Value.int (b p))), _)
           rw [hb.2.1 p (by omega)])
    · intro h18
      refine mm_w1 rfl ?_
      refine mm_wgr (vR_S3 hR) (by decide) (by decide) (vR_P3_0 hR) (vR_a1 hR) ?_
      refine mm_w1 rfl ?_
      refine mm_wiav (b p) (vR_a1 hR) (vR_S1 hR) (by decide) (by omega) (dD.1 p (by omega)) ?_
      refine mm_wgoto ?_
      refine mm_wr rfl rfl rfl ?_
      first
        | rfl
        | (show _ = (Sum.inl (some (Value.int (b p))), _)
           rw [hb.2.1 p (by omega)])
theorem c_next {q : Nat} (hR : vb_isR P S L) (dD : rd_D b n I) (hb : tx_ok b n) (hq : q ≤ n) (h5 : I 3 5 = vb_i q) (hd : 1 ≤ d) : mm_C G d 59 [.ref 3] (I, P, J, S, nc, ns) (vb_R none (fun I' => rd_tk b (tx_S b q) I' ∧ rd_f3 I I') P J S nc ns) := by
  have hn7 := dD.2.2
  have hS1 := tx_S_n hb hq
  have hE1 := tx_E_n hb hS1
  have hE0 := tx_E_le b (tx_S b q)
  have hkd := tx_kd_le (b (tx_S b q))
  have fin : ∀ (I1 : Nat → Nat → Int32) (r : Nat) (y2 : Value), r ≤ 1 → (r = 1 ↔ tx_kd (b (tx_S b q)) = 1 ∨ tx_kd (b (tx_S b q)) = 2) → rd_f3 I I1 → rd_D b n I1 → I1 3 4 = vb_i (tx_S b q) → I1 3 5 = vb_i (if r = 1 then tx_E b (tx_S b q) else (tx_S b q)) → I1 3 6 = vb_i (tx_kd (b (tx_S b q))) → (r = 1 → I1 3 7 = tx_vl b (tx_S b q) (tx_E b (tx_S b q) - (tx_S b q))) → mm_W G d 59 (mm_blk 59 179) [.ref 3, .int (vb_i r), y2] [] (I1, P, J, S, nc, ns) (vb_R none (fun I' => rd_tk b (tx_S b q) I' ∧ rd_f3 I I') P J S nc ns) := by
    intro I1 r y2 hr hr1 hf1 dD1 h41 h51 h61 h7x
    have h71 : I1 3 7 = I1 3 7 := rfl
    have k200 : ∀ (I2 : Nat → Nat → Int32), rd_f3 I I2 → rd_D b n I2 → I2 3 4 = vb_i (tx_S b q) → I2 3 5 = vb_i (tx_E b (tx_S b q)) → I2 3 6 = vb_i (tx_kd (b (tx_S b q))) → (tx_kd (b (tx_S b q)) = 2 → I2 3 7 = tx_vl b (tx_S b q) (tx_E b (tx_S b q) - (tx_S b q))) → mm_W G d 59 (mm_blk 59 200) [.ref 3, .int (vb_i r), y2] [] (I2, P, J, S, nc, ns) (vb_R none (fun I' => rd_tk b (tx_S b q) I' ∧ rd_f3 I I') P J S nc ns) := by
      intro I2 hf2 dD2 h42 h52 h62 h7y
      have h72 : I2 3 7 = I2 3 7 := rfl
      refine mm_w1 rfl ?_
      refine mm_wgiv _ (vR_S3 hR) (by decide) (by decide) h62 ?_
      refine mm_wv (vb_i 2) rfl (by decide) ?_
      refine mm_nicne (by omega) (by omega) ?_ ?_
      · intro h205
        refine mm_wr rfl rfl rfl ?_
        refine ⟨_, ⟨⟨h42, h52, ?_, fun hK => ?_⟩, hf2⟩, rfl⟩
        · rw [h62]
          congr 1
          rw [tx_K]
          split <;> omega
        · have hn4 := tx_num hK
          have hk2 : tx_kd (b (tx_S b q)) = 2 := by
            rw [tx_K] at hK
            split at hK
            · cases hK
            · exact hK
          first
            | (exfalso; omega)
            | (rw [h7y hk2]; exact hn4.2.1)
      · intro h205
        refine mm_w1 rfl ?_
        refine mm_wgiv _ (vR_S3 hR) (by decide) (by decide) h52 ?_
        refine mm_w1 rfl ?_
        refine mm_wgiv _ (vR_S3 hR) (by decide) (by decide) h42 ?_
        refine mm_nsub (by omega) ?_
        refine mm_wv (vb_i 4) rfl (by decide) ?_
        refine mm_nicle (by omega) (by omega) ?_ ?_
        · intro h218
          refine mm_wr rfl rfl rfl ?_
          refine ⟨_, ⟨⟨h42, h52, ?_, fun hK => ?_⟩, hf2⟩, rfl⟩
          · rw [h62]
            congr 1
            rw [tx_K]
            split <;> omega
          · have hn4 := tx_num hK
            have hk2 : tx_kd (b (tx_S b q)) = 2 := by
              rw [tx_K] at hK
              split at hK
              · cases hK
              · exact hK
            first
              | (exfalso; omega)
              | (rw [h7y hk2]; exact hn4.2.1)
        · intro h218
          refine mm_w1 rfl ?_
          refine mm_wv (vb_i 3) rfl (by decide) ?_
          refine mm_wpiN (vR_S3 hR) (by decide) (by decide) ?_
          intro I3 hI3
          have h63 := (congrFun (congrFun hI3 3) 6).trans (vb_up1 _ _ _ _)
          have h43 := (congrFun (congrFun hI3 3) 4).trans ((vb_up2 _ _ (by decide)).trans h42)
          have h53 := (congrFun (congrFun hI3 3) 5).trans ((vb_up2 _ _ (by decide)).trans h52)
          have h73 := (congrFun (congrFun hI3 3) 7).trans ((vb_up2 _ _ (by decide)).trans h72)
          have dD3 : rd_D b n I3 := by rw [hI3]; exact dD2.up (by decide)
          have hf3 : rd_f3 I I3 := by rw [hI3]; exact hf2.up (by decide)
          refine mm_wr rfl rfl rfl ?_
          refine ⟨_, ⟨⟨h43, h53, ?_, fun hK => ?_⟩, hf3⟩, rfl⟩
          · rw [h63]
            congr 1
            rw [tx_K]
            split <;> omega
          · have hn4 := tx_num hK
            have hk2 : tx_kd (b (tx_S b q)) = 2 := by
              rw [tx_K] at hK
              split at hK
              · cases hK
              · exact hK
            first
              | (exfalso; omega)
              | (rw [h7y hk2]; exact hn4.2.1)
    have hx : r = 0 → tx_kd (b (tx_S b q)) ≠ 1 ∧ tx_kd (b (tx_S b q)) ≠ 2 := fun h => by omega
    have hE3 : r = 0 → tx_kd (b (tx_S b q)) ≠ 0 → tx_E b (tx_S b q) = (tx_S b q) + 1 := fun h h0 => by rw [tx_E, if_neg (by have := hx h; omega), if_neg h0]
    have hE4 : r = 0 → tx_kd (b (tx_S b q)) = 0 → tx_E b (tx_S b q) = (tx_S b q) := fun h h0 => by rw [tx_E, if_neg (by have := hx h; omega), if_pos h0]
    refine mm_w1 rfl ?_
    refine mm_nifne (by omega) ?_ ?_
    · intro h180
      first
        | exact k200 _ hf1 dD1 h41 (by rw [h51, if_pos (by omega)]) h61 (fun _ => h7x (by omega))
        | exact k200 _ hf1 dD1 h41 (by rw [h51, if_neg (by omega), hE4 (by omega) h187]) h61 (fun h => by omega)
        | exact k200 _ hf1 dD1 h41 (by rw [h51, if_neg (by omega), hE3 (by omega) h187]) h61 (fun h => by omega)
    · intro h180
      refine mm_w1 rfl ?_
      refine mm_wgiv _ (vR_S3 hR) (by decide) (by decide) h61 ?_
      refine mm_nifeq (by omega) ?_ ?_
      · intro h187
        first
          | exact k200 _ hf1 dD1 h41 (by rw [h51, if_pos (by omega)]) h61 (fun _ => h7x (by omega))
          | exact k200 _ hf1 dD1 h41 (by rw [h51, if_neg (by omega), hE4 (by omega) h187]) h61 (fun h => by omega)
          | exact k200 _ hf1 dD1 h41 (by rw [h51, if_neg (by omega), hE3 (by omega) h187]) h61 (fun h => by omega)
      · intro h187
        refine mm_w1 rfl ?_
        refine mm_w1 rfl ?_
        refine mm_wgiv _ (vR_S3 hR) (by decide) (by decide) h51 ?_
        refine mm_wv (vb_i 1) rfl (by decide) ?_
        refine mm_nadd ?_
        refine mm_wpiN (vR_S3 hR) (by decide) (by decide) ?_
        intro I2 hI2
        have h52 := (congrFun (congrFun hI2 3) 5).trans (vb_up1 _ _ _ _)
        have h42 := (congrFun (congrFun hI2 3) 4).trans ((vb_up2 _ _ (by decide)).trans h41)
        have h62 := (congrFun (congrFun hI2 3) 6).trans ((vb_up2 _ _ (by decide)).trans h61)
        have h72 := (congrFun (congrFun hI2 3) 7).trans ((vb_up2 _ _ (by decide)).trans h71)
        have dD2 : rd_D b n I2 := by rw [hI2]; exact dD1.up (by decide)
        have hf2 : rd_f3 I I2 := by rw [hI2]; exact hf1.up (by decide)
        first
          | exact k200 _ hf2 dD2 h42 (by rw [h52, if_pos (by omega)]) h62 (fun _ => h7x (by omega))
          | exact k200 _ hf2 dD2 h42 (by rw [h52, if_neg (by omega), hE4 (by omega) h187]) h62 (fun h => by omega)
          | exact k200 _ hf2 dD2 h42 (by rw [h52, if_neg (by omega), hE3 (by omega) h187]) h62 (fun h => by omega)
  have loop2 : (tx_kd (b (tx_S b q)) = 1 ∨ tx_kd (b (tx_S b q)) = 2) → ∀ i, i ≤ 700 → ∀ (I1 : Nat → Nat → Int32), rd_f3 I I1 → rd_D b n I1 → I1 3 4 = vb_i (tx_S b q) → (tx_S b q) + i ≤ n → I1 3 5 = vb_i ((tx_S b q) + i) → I1 3 6 = vb_i (tx_kd (b (tx_S b q))) → I1 3 7 = tx_vl b (tx_S b q) i → tx_en b (tx_kd (b (tx_S b q))) (700 - i) ((tx_S b q) + i) = tx_E b (tx_S b q) → mm_W G d 59 (mm_blk 59 111) [.ref 3, .int (vb_i 1), .int (vb_i i)] [] (I1, P, J, S, nc, ns) (vb_R none (fun I' => rd_tk b (tx_S b q) I' ∧ rd_f3 I I') P J S nc ns) := by
    intro hk12
    refine vb_down 700 ?_
    intro i hi ih I1 hf1 dD1 h41 hin h51 h61 h71 hen
    have hk2 := tx_kd_le (b ((tx_S b q) + i))
    have hen0 : i = 700 → (tx_S b q) + i = tx_E b (tx_S b q) := fun h => by rw [← hen, h]; rfl
    have hen1 : i < 700 → ¬ tx_kd (b ((tx_S b q) + i)) = tx_kd (b (tx_S b q)) → (tx_S b q) + i = tx_E b (tx_S b q) := fun h h2 => by
      rw [← hen, show 700 - i = (700 - (i + 1)) + 1 by omega, tx_en, if_neg h2]
    have hen2 : i < 700 → tx_kd (b ((tx_S b q) + i)) = tx_kd (b (tx_S b q)) → tx_en b (tx_kd (b (tx_S b q))) (700 - (i + 1)) ((tx_S b q) + (i + 1)) = tx_E b (tx_S b q) := fun h h2 => by
      rw [← hen, show 700 - i = (700 - (i + 1)) + 1 by omega, tx_en, if_pos h2]; rfl
    have hlt : tx_kd (b ((tx_S b q) + i)) = tx_kd (b (tx_S b q)) → (tx_S b q) + i < n := fun h => by
      by_cases e : (tx_S b q) + i = n
      · rw [hb.2.1 _ (by omega), tx_kd_m1] at h; omega
      · omega
    refine mm_w1 rfl ?_
    refine mm_wv (vb_i 700) rfl (by decide) ?_
    refine mm_nicge (by omega) (by omega) ?_ ?_
    · intro h115
      have eE := (by first | exact hen0 (by omega) | exact hen1 (by omega) h137 : (tx_S b q) + i = tx_E b (tx_S b q))
      exact fin _ 1 _ (by decide) ⟨fun _ => hk12, fun _ => rfl⟩ hf1 dD1 h41 (by rw [h51, if_pos rfl, eE]) h61 (fun _ => by rw [h71, ← eE, show (tx_S b q) + i - (tx_S b q) = i by omega])
    · intro h115
      refine mm_w1 rfl ?_
      refine mm_nifeq (by omega) ?_ ?_
      · intro h119
        have eE := (by first | exact hen0 (by omega) | exact hen1 (by omega) h137 : (tx_S b q) + i = tx_E b (tx_S b q))
        exact fin _ 1 _ (by decide) ⟨fun _ => hk12, fun _ => rfl⟩ hf1 dD1 h41 (by rw [h51, if_pos rfl, eE]) h61 (fun _ => by rw [h71, ← eE, show (tx_S b q) + i - (tx_S b q) = i by omega])
      · intro h119
        refine mm_w1 rfl ?_
        refine mm_w1 rfl ?_
        refine mm_wgiv _ (vR_S3 hR) (by decide) (by decide) h51 ?_
        refine mm_cvp (vb_cv (vR_S3 hR) rfl rfl rfl rfl) (by decide) (by omega) (c_byteAt hR dD1 hb (by omega)) ?_
        refine mm_csp rfl (by decide) (by omega) (c_kindOf _) ?_
        refine mm_w1 rfl ?_
        refine mm_wgiv _ (vR_S3 hR) (by decide) (by decide) h61 ?_
        refine mm_nicne (by omega) (by omega) ?_ ?_
        · intro h137
          have eE := (by first | exact hen0 (by omega) | exact hen1 (by omega) h137 : (tx_S b q) + i = tx_E b (tx_S b q))
          exact fin _ 1 _ (by decide) ⟨fun _ => hk12, fun _ => rfl⟩ hf1 dD1 h41 (by rw [h51, if_pos rfl, eE]) h61 (fun _ => by rw [h71, ← eE, show (tx_S b q) + i - (tx_S b q) = i by omega])
        · intro h137
          refine mm_w1 rfl ?_
          refine mm_wv (vb_i 10) rfl (by decide) ?_
          refine mm_w1 rfl ?_
          refine mm_wgiv _ (vR_S3 hR) (by decide) (by decide) h71 ?_
          refine mm_w1 rfl ?_
          refine mm_w1 rfl ?_
          refine mm_w1 rfl ?_
          refine mm_wgiv _ (vR_S3 hR) (by decide) (by decide) h51 ?_
          refine mm_cvp (vb_cv (vR_S3 hR) rfl rfl rfl rfl) (by decide) (by omega) (c_byteAt hR dD1 hb (by omega)) ?_
          refine mm_w1 rfl ?_
          refine mm_wv (vb_i 48) rfl (by decide) ?_
          refine mm_w1 rfl ?_
          refine mm_wpiN (vR_S3 hR) (by decide) (by decide) ?_
          intro I2 hI2
          have h72 := (congrFun (congrFun hI2 3) 7).trans (vb_up1 _ _ _ _)
          have h42 := (congrFun (congrFun hI2 3) 4).trans ((vb_up2 _ _ (by decide)).trans h41)
          have h52 := (congrFun (congrFun hI2 3) 5).trans ((vb_up2 _ _ (by decide)).trans h51)
          have h62 := (congrFun (congrFun hI2 3) 6).trans ((vb_up2 _ _ (by decide)).trans h61)
          have dD2 : rd_D b n I2 := by rw [hI2]; exact dD1.up (by decide)
          have hf2 : rd_f3 I I2 := by rw [hI2]; exact hf1.up (by decide)
          refine mm_w1 rfl ?_
          refine mm_w1 rfl ?_
          refine mm_wgiv _ (vR_S3 hR) (by decide) (by decide) h52 ?_
          refine mm_wv (vb_i 1) rfl (by decide) ?_
          refine mm_nadd ?_
          refine mm_wpiN (vR_S3 hR) (by decide) (by decide) ?_
          intro I3 hI3
          have h53 := (congrFun (congrFun hI3 3) 5).trans (vb_up1 _ _ _ _)
          have h43 := (congrFun (congrFun hI3 3) 4).trans ((vb_up2 _ _ (by decide)).trans h42)
          have h63 := (congrFun (congrFun hI3 3) 6).trans ((vb_up2 _ _ (by decide)).trans h62)
          have h73 := (congrFun (congrFun hI3 3) 7).trans ((vb_up2 _ _ (by decide)).trans h72)
          have dD3 : rd_D b n I3 := by rw [hI3]; exact dD2.up (by decide)
          have hf3 : rd_f3 I I3 := by rw [hI3]; exact hf2.up (by decide)
          refine mm_nincL (ls' := [_, _, _]) 1 rfl (by decide) rfl ?_
          refine mm_wgoto ?_
          exact ih (by omega) _ hf3 dD3 h43 (by have := hlt h137; omega) h53 h63 h73 (hen2 (by omega) h137)
  have k59 : ∀ (I1 : Nat → Nat → Int32) (y1 : Value), rd_f3 I I1 → rd_D b n I1 → I1 3 4 = vb_i (tx_S b q) → mm_W G d 59 (mm_blk 59 59) [.ref 3, y1, .null] [] (I1, P, J, S, nc, ns) (vb_R none (fun I' => rd_tk b (tx_S b q) I' ∧ rd_f3 I I') P J S nc ns) := by
    intro I1 y1 hf1 dD1 h41
    have h51 : I1 3 5 = I1 3 5 := rfl
    have h61 : I1 3 6 = I1 3 6 := rfl
    have h71 : I1 3 7 = I1 3 7 := rfl

    have k111 : ∀ (I2 : Nat → Nat → Int32), rd_f3 I I2 → rd_D b n I2 → I2 3 4 = vb_i (tx_S b q) → I2 3 5 = vb_i (tx_S b q) → I2 3 6 = vb_i (tx_kd (b (tx_S b q))) → ¬ tx_kd (b (tx_S b q)) = 1 → ¬ tx_kd (b (tx_S b q)) = 2 → mm_W G d 59 (mm_blk 59 111) [.ref 3, .int (vb_i 0), .int (vb_i 0)] [] (I2, P, J, S, nc, ns) (vb_R none (fun I' => rd_tk b (tx_S b q) I' ∧ rd_f3 I I') P J S nc ns) := by
      intro I2 hf2 dD2 h42 h52 h62 e1 e2
      refine mm_w1 rfl ?_
      refine mm_wv (vb_i 700) rfl (by decide) ?_
      refine mm_nicge (by omega) (by omega) ?_ ?_
      · intro h115
        omega
      · intro h115
        refine mm_w1 rfl ?_
        refine mm_nifeq (by decide) (fun _ => ?_) (fun h => absurd rfl h)
        exact fin _ 0 _ (by decide) ⟨(fun h => by cases h), (fun h => by omega)⟩ hf2 dD2 h42 (by rw [h52, if_neg (by decide)]) h62 (fun h => by cases h)
    refine mm_w1 rfl ?_
    refine mm_w1 rfl ?_
    refine mm_wgiv _ (vR_S3 hR) (by decide) (by decide) h41 ?_
    refine mm_wpiN (vR_S3 hR) (by decide) (by decide) ?_
    intro I2 hI2
    have h52 := (congrFun (congrFun hI2 3) 5).trans (vb_up1 _ _ _ _)
    have h42 := (congrFun (congrFun hI2 3) 4).trans ((vb_up2 _ _ (by decide)).trans h41)
    have h62 := (congrFun (congrFun hI2 3) 6).trans ((vb_up2 _ _ (by decide)).trans h61)
    have h72 := (congrFun (congrFun hI2 3) 7).trans ((vb_up2 _ _ (by decide)).trans h71)
    have dD2 : rd_D b n I2 := by rw [hI2]; exact dD1.up (by decide)
    have hf2 : rd_f3 I I2 := by rw [hI2]; exact hf1.up (by decide)
    refine mm_w1 rfl ?_
    refine mm_w1 rfl ?_
    refine mm_w1 rfl ?_
    refine mm_wgiv _ (vR_S3 hR) (by decide) (by decide) h42 ?_
    refine mm_cvp (vb_cv (vR_S3 hR) rfl rfl rfl rfl) (by decide) (by omega) (c_byteAt hR dD2 hb (by omega)) ?_
    refine mm_csp rfl (by decide) (by omega) (c_kindOf _) ?_
    refine mm_wpiN (vR_S3 hR) (by decide) (by decide) ?_
    intro I3 hI3
    have h63 := (congrFun (congrFun hI3 3) 6).trans (vb_up1 _ _ _ _)
    have h43 := (congrFun (congrFun hI3 3) 4).trans ((vb_up2 _ _ (by decide)).trans h42)
    have h53 := (congrFun (congrFun hI3 3) 5).trans ((vb_up2 _ _ (by decide)).trans h52)
    have h73 := (congrFun (congrFun hI3 3) 7).trans ((vb_up2 _ _ (by decide)).trans h72)
    have dD3 : rd_D b n I3 := by rw [hI3]; exact dD2.up (by decide)
    have hf3 : rd_f3 I I3 := by rw [hI3]; exact hf2.up (by decide)
    refine mm_w1 rfl ?_
    refine mm_wv (vb_i 0) rfl (by decide) ?_
    refine mm_wpiN (vR_S3 hR) (by decide) (by decide) ?_
    intro I4 hI4
    have h74 := (congrFun (congrFun hI4 3) 7).trans (vb_up1 _ _ _ _)
    have h44 := (congrFun (congrFun hI4 3) 4).trans ((vb_up2 _ _ (by decide)).trans h43)
    have h54 := (congrFun (congrFun hI4 3) 5).trans ((vb_up2 _ _ (by decide)).trans h53)
    have h64 := (congrFun (congrFun hI4 3) 6).trans ((vb_up2 _ _ (by decide)).trans h63)
    have dD4 : rd_D b n I4 := by rw [hI4]; exact dD3.up (by decide)
    have hf4 : rd_f3 I I4 := by rw [hI4]; exact hf3.up (by decide)
    refine mm_w1 rfl ?_
    refine mm_wgiv _ (vR_S3 hR) (by decide) (by decide) h64 ?_
    refine mm_wv (vb_i 1) rfl (by decide) ?_
    refine mm_niceq (by omega) (by omega) ?_ ?_
    · intro h92
      refine mm_wv (vb_i 1) rfl (by decide) ?_
      refine mm_wgoto ?_
      refine mm_w1 (ls' := [_, _, _]) rfl ?_
      refine mm_wv (vb_i 0) rfl (by decide) ?_
      refine mm_w1 (ls' := [_, _, _]) rfl ?_
      first
        | exact loop2 (Or.inl h92) 0 (by decide) _ hf4 dD4 h44 (by omega) h54 h64 h74 (by rw [tx_E, if_pos (Or.inl h92)]; rfl)
        | exact loop2 (Or.inr (by omega)) 0 (by decide) _ hf4 dD4 h44 (by omega) h54 h64 h74 (by rw [tx_E, if_pos (Or.inr (by omega))]; rfl)
        | exact k111 _ hf4 dD4 h44 h54 h64 h92 h100
    · intro h92
      refine mm_w1 rfl ?_
      refine mm_wgiv _ (vR_S3 hR) (by decide) (by decide) h64 ?_
      refine mm_wv (vb_i 2) rfl (by decide) ?_
      refine mm_nicne (by omega) (by omega) ?_ ?_
      · intro h100
        refine mm_wv (vb_i 0) rfl (by decide) ?_
        refine mm_w1 (ls' := [_, _, _]) rfl ?_
        refine mm_wv (vb_i 0) rfl (by decide) ?_
        refine mm_w1 (ls' := [_, _, _]) rfl ?_
        first
          | exact loop2 (Or.inl h92) 0 (by decide) _ hf4 dD4 h44 (by omega) h54 h64 h74 (by rw [tx_E, if_pos (Or.inl h92)]; rfl)
          | exact loop2 (Or.inr (by omega)) 0 (by decide) _ hf4 dD4 h44 (by omega) h54 h64 h74 (by rw [tx_E, if_pos (Or.inr (by omega))]; rfl)
          | exact k111 _ hf4 dD4 h44 h54 h64 h92 h100
      · intro h100
        refine mm_wv (vb_i 1) rfl (by decide) ?_
        refine mm_wgoto ?_
        refine mm_w1 (ls' := [_, _, _]) rfl ?_
        refine mm_wv (vb_i 0) rfl (by decide) ?_
        refine mm_w1 (ls' := [_, _, _]) rfl ?_
        first
          | exact loop2 (Or.inl h92) 0 (by decide) _ hf4 dD4 h44 (by omega) h54 h64 h74 (by rw [tx_E, if_pos (Or.inl h92)]; rfl)
          | exact loop2 (Or.inr (by omega)) 0 (by decide) _ hf4 dD4 h44 (by omega) h54 h64 h74 (by rw [tx_E, if_pos (Or.inr (by omega))]; rfl)
          | exact k111 _ hf4 dD4 h44 h54 h64 h92 h100
  have loop1 : ∀ i, i ≤ 700 → ∀ (I1 : Nat → Nat → Int32), rd_f3 I I1 → rd_D b n I1 → q + i ≤ n → I1 3 4 = vb_i (q + i) → tx_sk b (700 - i) (q + i) = (tx_S b q) → mm_W G d 59 (mm_blk 59 10) [.ref 3, .int (vb_i i), .null] [] (I1, P, J, S, nc, ns) (vb_R none (fun I' => rd_tk b (tx_S b q) I' ∧ rd_f3 I I') P J S nc ns) := by
    refine vb_down 700 ?_
    intro i hi ih I1 hf1 dD1 hin h41 hsk
    have h51 : I1 3 5 = I1 3 5 := rfl
    have h61 : I1 3 6 = I1 3 6 := rfl
    have h71 : I1 3 7 = I1 3 7 := rfl
    have hs0 : i = 700 → q + i = (tx_S b q) := fun h => by rw [← hsk, h]; rfl
    have hs1 : i < 700 → ¬ b (q + i) = vb_i 32 → ¬ b (q + i) = vb_i 10 → q + i = (tx_S b q) := fun h h1 h2 => by
      rw [← hsk, show 700 - i = (700 - (i + 1)) + 1 by omega, tx_sk, if_neg (fun e => by rcases of_decide_eq_true e with e | e; exact h1 e; exact h2 e)]
    have hs2 : i < 700 → (b (q + i) = vb_i 32 ∨ b (q + i) = vb_i 10) → tx_sk b (700 - (i + 1)) (q + (i + 1)) = (tx_S b q) ∧ q + i < n := fun h h1 => by
      refine ⟨?_, ?_⟩
      · rw [← hsk, show 700 - i = (700 - (i + 1)) + 1 by omega, tx_sk, if_pos (show tx_sp (b (q + i)) = true from decide_eq_true h1)]; rfl
      · by_cases e : q + i = n
        · rw [hb.2.1 _ (by omega)] at h1
          rcases h1 with h1 | h1 <;> exact absurd h1 (by decide)
        · omega
    refine mm_w1 rfl ?_
    refine mm_wv (vb_i 700) rfl (by decide) ?_
    refine mm_nicge (by omega) (by omega) ?_ ?_
    · intro h14
      exact k59 _ _ hf1 dD1 (by
        have e : q + i = (tx_S b q) := by first | exact hs0 (by omega) | exact hs1 (by omega) h27 h40
        rw [h41, e])
    · intro h14
      refine mm_w1 rfl ?_
      refine mm_w1 rfl ?_
      refine mm_wgiv _ (vR_S3 hR) (by decide) (by decide) h41 ?_
      refine mm_cvp (vb_cv (vR_S3 hR) rfl rfl rfl rfl) (by decide) (by omega) (c_byteAt hR dD1 hb (by omega)) ?_
      refine mm_wv (vb_i 32) rfl (by decide) ?_
      refine mm_wiceq ?_ ?_
      · intro h27
        refine mm_w1 rfl ?_
        refine mm_w1 rfl ?_
        refine mm_wgiv _ (vR_S3 hR) (by decide) (by decide) h41 ?_
        refine mm_wv (vb_i 1) rfl (by decide) ?_
        refine mm_nadd ?_
        refine mm_wpiN (vR_S3 hR) (by decide) (by decide) ?_
        intro I2 hI2
        have h42 := (congrFun (congrFun hI2 3) 4).trans (vb_up1 _ _ _ _)
        have h52 := (congrFun (congrFun hI2 3) 5).trans ((vb_up2 _ _ (by decide)).trans h51)
        have h62 := (congrFun (congrFun hI2 3) 6).trans ((vb_up2 _ _ (by decide)).trans h61)
        have h72 := (congrFun (congrFun hI2 3) 7).trans ((vb_up2 _ _ (by decide)).trans h71)
        have dD2 : rd_D b n I2 := by rw [hI2]; exact dD1.up (by decide)
        have hf2 : rd_f3 I I2 := by rw [hI2]; exact hf1.up (by decide)
        refine mm_nincL (ls' := [_, _, _]) 1 rfl (by decide) rfl ?_
        refine mm_wgoto ?_
        first
          | exact ih (by omega) _ hf2 dD2 (by have := (hs2 (by omega) (Or.inl h27)).2; omega) h42 (hs2 (by omega) (Or.inl h27)).1
          | exact ih (by omega) _ hf2 dD2 (by have := (hs2 (by omega) (Or.inr h40)).2; omega) h42 (hs2 (by omega) (Or.inr h40)).1
      · intro h27
        refine mm_w1 rfl ?_
        refine mm_w1 rfl ?_
        refine mm_wgiv _ (vR_S3 hR) (by decide) (by decide) h41 ?_
        refine mm_cvp (vb_cv (vR_S3 hR) rfl rfl rfl rfl) (by decide) (by omega) (c_byteAt hR dD1 hb (by omega)) ?_
        refine mm_wv (vb_i 10) rfl (by decide) ?_
        refine mm_wicne ?_ ?_
        · intro h40
          exact k59 _ _ hf1 dD1 (by
            have e : q + i = (tx_S b q) := by first | exact hs0 (by omega) | exact hs1 (by omega) h27 h40
            rw [h41, e])
        · intro h40
          refine mm_w1 rfl ?_
          refine mm_w1 rfl ?_
          refine mm_wgiv _ (vR_S3 hR) (by decide) (by decide) h41 ?_
          refine mm_wv (vb_i 1) rfl (by decide) ?_
          refine mm_nadd ?_
          refine mm_wpiN (vR_S3 hR) (by decide) (by decide) ?_
          intro I2 hI2
          have h42 := (congrFun (congrFun hI2 3) 4).trans (vb_up1 _ _ _ _)
          have h52 := (congrFun (congrFun hI2 3) 5).trans ((vb_up2 _ _ (by decide)).trans h51)
          have h62 := (congrFun (congrFun hI2 3) 6).trans ((vb_up2 _ _ (by decide)).trans h61)
          have h72 := (congrFun (congrFun hI2 3) 7).trans ((vb_up2 _ _ (by decide)).trans h71)
          have dD2 : rd_D b n I2 := by rw [hI2]; exact dD1.up (by decide)
          have hf2 : rd_f3 I I2 := by rw [hI2]; exact hf1.up (by decide)
          refine mm_nincL (ls' := [_, _, _]) 1 rfl (by decide) rfl ?_
          refine mm_wgoto ?_
          first
            | exact ih (by omega) _ hf2 dD2 (by have := (hs2 (by omega) (Or.inl h27)).2; omega) h42 (hs2 (by omega) (Or.inl h27)).1
            | exact ih (by omega) _ hf2 dD2 (by have := (hs2 (by omega) (Or.inr h40)).2; omega) h42 (hs2 (by omega) (Or.inr h40)).1
  show mm_W _ _ 59 (mm_blk 59 0) [.ref 3, .null, .null] [] _ _
  have h4 : I 3 4 = I 3 4 := rfl
  have h6 : I 3 6 = I 3 6 := rfl
  have h7 : I 3 7 = I 3 7 := rfl
  have hf : rd_f3 I I := rd_f3.rf
  refine mm_w1 rfl ?_
  refine mm_w1 rfl ?_
  refine mm_wgiv _ (vR_S3 hR) (by decide) (by decide) h5 ?_
  refine mm_wpiN (vR_S3 hR) (by decide) (by decide) ?_
  intro I1 hI1
  have h41 := (congrFun (congrFun hI1 3) 4).trans (vb_up1 _ _ _ _)
  have h51 := (congrFun (congrFun hI1 3) 5).trans ((vb_up2 _ _ (by decide)).trans h5)
  have h61 := (congrFun (congrFun hI1 3) 6).trans ((vb_up2 _ _ (by decide)).trans h6)
  have h71 := (congrFun (congrFun hI1 3) 7).trans ((vb_up2 _ _ (by decide)).trans h7)
  have dD1 : rd_D b n I1 := by rw [hI1]; exact dD.up (by decide)
  have hf1 : rd_f3 I I1 := by rw [hI1]; exact hf.up (by decide)
  refine mm_wv (vb_i 0) rfl (by decide) ?_
  refine mm_w1 (ls' := [_, _, _]) rfl ?_
  exact loop1 0 (by decide) _ hf1 dD1 (by omega) h41 rfl
end RD1
