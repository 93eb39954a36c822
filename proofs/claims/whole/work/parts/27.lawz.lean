theorem mm_tk {α : Type} (l : List α) (p : α → Bool) (m : Nat) (h1 : (l.take m).all p = true) (h2 : (l.drop m).all p = true) : l.all p = true := by
  rw [← List.take_append_drop m l, List.all_append, h1, h2]; rfl
theorem mm_tk2 {α : Type} (l : List α) (p : α → Bool) (a m : Nat) (h1 : ((l.drop a).take m).all p = true) (h2 : (l.drop (a + m)).all p = true) : (l.drop a).all p = true :=
  mm_tk _ p m h1 (by rw [List.drop_drop]; exact h2)
theorem mm_ck42 : ((List.range 1).map (fun i => i + 279)).all mm_okm = true := by
  have e : mm_okm 279 = true := by
    have z : ((mm_tabs.getD 279 []).drop 0).all (fun q => mm_okl 279 q.1 q.2) = true := by
      refine mm_tk2 _ _ 0 5 mm_ck42_0 ?_
      refine mm_tk2 _ _ 5 5 mm_ck42_1 ?_
      refine mm_tk2 _ _ 10 5 mm_ck42_2 ?_
      refine mm_tk2 _ _ 15 5 mm_ck42_3 ?_
      refine mm_tk2 _ _ 20 5 mm_ck42_4 ?_
      refine mm_tk2 _ _ 25 5 mm_ck42_5 ?_
      refine mm_tk2 _ _ 30 5 mm_ck42_6 ?_
      refine mm_tk2 _ _ 35 5 mm_ck42_7 ?_
      refine mm_tk2 _ _ 40 5 mm_ck42_8 ?_
      refine mm_tk2 _ _ 45 5 mm_ck42_9 ?_
      refine mm_tk2 _ _ 50 5 mm_ck42_10 ?_
      refine mm_tk2 _ _ 55 5 mm_ck42_11 ?_
      refine mm_tk2 _ _ 60 5 mm_ck42_12 ?_
      refine mm_tk2 _ _ 65 5 mm_ck42_13 ?_
      refine mm_tk2 _ _ 70 5 mm_ck42_14 ?_
      refine mm_tk2 _ _ 75 5 mm_ck42_15 ?_
      refine mm_tk2 _ _ 80 5 mm_ck42_16 ?_
      refine mm_tk2 _ _ 85 5 mm_ck42_17 ?_
      refine mm_tk2 _ _ 90 5 mm_ck42_18 ?_
      refine mm_tk2 _ _ 95 5 mm_ck42_19 ?_
      refine mm_tk2 _ _ 100 5 mm_ck42_20 ?_
      refine mm_tk2 _ _ 105 5 mm_ck42_21 ?_
      refine mm_tk2 _ _ 110 5 mm_ck42_22 ?_
      decide +kernel
    exact z
  simp only [List.range_one, List.map_cons, List.map_nil, List.all_cons, List.all_nil, Bool.and_true]
  exact e
theorem mm_cAll {k : Nat} (h : k < 280) : mm_okm k = true := by
  by_cases h0 : k < 10
  · exact List.all_eq_true.mp mm_ck0 k (List.mem_map.mpr ⟨k - 0, List.mem_range.mpr (by omega), by omega⟩)
  by_cases h1 : k < 13
  · exact List.all_eq_true.mp mm_ck1 k (List.mem_map.mpr ⟨k - 10, List.mem_range.mpr (by omega), by omega⟩)
  by_cases h2 : k < 23
  · exact List.all_eq_true.mp mm_ck2 k (List.mem_map.mpr ⟨k - 13, List.mem_range.mpr (by omega), by omega⟩)
  by_cases h3 : k < 29
  · exact List.all_eq_true.mp mm_ck3 k (List.mem_map.mpr ⟨k - 23, List.mem_range.mpr (by omega), by omega⟩)
  by_cases h4 : k < 37
  · exact List.all_eq_true.mp mm_ck4 k (List.mem_map.mpr ⟨k - 29, List.mem_range.mpr (by omega), by omega⟩)
  by_cases h5 : k < 42
  · exact List.all_eq_true.mp mm_ck5 k (List.mem_map.mpr ⟨k - 37, List.mem_range.mpr (by omega), by omega⟩)
  by_cases h6 : k < 49
  · exact List.all_eq_true.mp mm_ck6 k (List.mem_map.mpr ⟨k - 42, List.mem_range.mpr (by omega), by omega⟩)
  by_cases h7 : k < 54
  · exact List.all_eq_true.mp mm_ck7 k (List.mem_map.mpr ⟨k - 49, List.mem_range.mpr (by omega), by omega⟩)
  by_cases h8 : k < 59
  · exact List.all_eq_true.mp mm_ck8 k (List.mem_map.mpr ⟨k - 54, List.mem_range.mpr (by omega), by omega⟩)
  by_cases h9 : k < 68
  · exact List.all_eq_true.mp mm_ck9 k (List.mem_map.mpr ⟨k - 59, List.mem_range.mpr (by omega), by omega⟩)
  by_cases h10 : k < 74
  · exact List.all_eq_true.mp mm_ck10 k (List.mem_map.mpr ⟨k - 68, List.mem_range.mpr (by omega), by omega⟩)
  by_cases h11 : k < 80
  · exact List.all_eq_true.mp mm_ck11 k (List.mem_map.mpr ⟨k - 74, List.mem_range.mpr (by omega), by omega⟩)
  by_cases h12 : k < 87
  · exact List.all_eq_true.mp mm_ck12 k (List.mem_map.mpr ⟨k - 80, List.mem_range.mpr (by omega), by omega⟩)
  by_cases h13 : k < 96
  · exact List.all_eq_true.mp mm_ck13 k (List.mem_map.mpr ⟨k - 87, List.mem_range.mpr (by omega), by omega⟩)
  by_cases h14 : k < 103
  · exact List.all_eq_true.mp mm_ck14 k (List.mem_map.mpr ⟨k - 96, List.mem_range.mpr (by omega), by omega⟩)
  by_cases h15 : k < 108
  · exact List.all_eq_true.mp mm_ck15 k (List.mem_map.mpr ⟨k - 103, List.mem_range.mpr (by omega), by omega⟩)
  by_cases h16 : k < 114
  · exact List.all_eq_true.mp mm_ck16 k (List.mem_map.mpr ⟨k - 108, List.mem_range.mpr (by omega), by omega⟩)
  by_cases h17 : k < 120
  · exact List.all_eq_true.mp mm_ck17 k (List.mem_map.mpr ⟨k - 114, List.mem_range.mpr (by omega), by omega⟩)
  by_cases h18 : k < 131
  · exact List.all_eq_true.mp mm_ck18 k (List.mem_map.mpr ⟨k - 120, List.mem_range.mpr (by omega), by omega⟩)
  by_cases h19 : k < 135
  · exact List.all_eq_true.mp mm_ck19 k (List.mem_map.mpr ⟨k - 131, List.mem_range.mpr (by omega), by omega⟩)
  by_cases h20 : k < 146
  · exact List.all_eq_true.mp mm_ck20 k (List.mem_map.mpr ⟨k - 135, List.mem_range.mpr (by omega), by omega⟩)
  by_cases h21 : k < 148
  · exact List.all_eq_true.mp mm_ck21 k (List.mem_map.mpr ⟨k - 146, List.mem_range.mpr (by omega), by omega⟩)
  by_cases h22 : k < 157
  · exact List.all_eq_true.mp mm_ck22 k (List.mem_map.mpr ⟨k - 148, List.mem_range.mpr (by omega), by omega⟩)
  by_cases h23 : k < 166
  · exact List.all_eq_true.mp mm_ck23 k (List.mem_map.mpr ⟨k - 157, List.mem_range.mpr (by omega), by omega⟩)
  by_cases h24 : k < 168
  · exact List.all_eq_true.mp mm_ck24 k (List.mem_map.mpr ⟨k - 166, List.mem_range.mpr (by omega), by omega⟩)
  by_cases h25 : k < 170
  · exact List.all_eq_true.mp mm_ck25 k (List.mem_map.mpr ⟨k - 168, List.mem_range.mpr (by omega), by omega⟩)
  by_cases h26 : k < 174
  · exact List.all_eq_true.mp mm_ck26 k (List.mem_map.mpr ⟨k - 170, List.mem_range.mpr (by omega), by omega⟩)
  by_cases h27 : k < 179
  · exact List.all_eq_true.mp mm_ck27 k (List.mem_map.mpr ⟨k - 174, List.mem_range.mpr (by omega), by omega⟩)
  by_cases h28 : k < 183
  · exact List.all_eq_true.mp mm_ck28 k (List.mem_map.mpr ⟨k - 179, List.mem_range.mpr (by omega), by omega⟩)
  by_cases h29 : k < 190
  · exact List.all_eq_true.mp mm_ck29 k (List.mem_map.mpr ⟨k - 183, List.mem_range.mpr (by omega), by omega⟩)
  by_cases h30 : k < 199
  · exact List.all_eq_true.mp mm_ck30 k (List.mem_map.mpr ⟨k - 190, List.mem_range.mpr (by omega), by omega⟩)
  by_cases h31 : k < 207
  · exact List.all_eq_true.mp mm_ck31 k (List.mem_map.mpr ⟨k - 199, List.mem_range.mpr (by omega), by omega⟩)
  by_cases h32 : k < 214
  · exact List.all_eq_true.mp mm_ck32 k (List.mem_map.mpr ⟨k - 207, List.mem_range.mpr (by omega), by omega⟩)
  by_cases h33 : k < 219
  · exact List.all_eq_true.mp mm_ck33 k (List.mem_map.mpr ⟨k - 214, List.mem_range.mpr (by omega), by omega⟩)
  by_cases h34 : k < 224
  · exact List.all_eq_true.mp mm_ck34 k (List.mem_map.mpr ⟨k - 219, List.mem_range.mpr (by omega), by omega⟩)
  by_cases h35 : k < 228
  · exact List.all_eq_true.mp mm_ck35 k (List.mem_map.mpr ⟨k - 224, List.mem_range.mpr (by omega), by omega⟩)
  by_cases h36 : k < 232
  · exact List.all_eq_true.mp mm_ck36 k (List.mem_map.mpr ⟨k - 228, List.mem_range.mpr (by omega), by omega⟩)
  by_cases h37 : k < 237
  · exact List.all_eq_true.mp mm_ck37 k (List.mem_map.mpr ⟨k - 232, List.mem_range.mpr (by omega), by omega⟩)
  by_cases h38 : k < 241
  · exact List.all_eq_true.mp mm_ck38 k (List.mem_map.mpr ⟨k - 237, List.mem_range.mpr (by omega), by omega⟩)
  by_cases h39 : k < 246
  · exact List.all_eq_true.mp mm_ck39 k (List.mem_map.mpr ⟨k - 241, List.mem_range.mpr (by omega), by omega⟩)
  by_cases h40 : k < 261
  · exact List.all_eq_true.mp mm_ck40 k (List.mem_map.mpr ⟨k - 246, List.mem_range.mpr (by omega), by omega⟩)
  by_cases h41 : k < 279
  · exact List.all_eq_true.mp mm_ck41 k (List.mem_map.mpr ⟨k - 261, List.mem_range.mpr (by omega), by omega⟩)
  by_cases h42 : k < 280
  · exact List.all_eq_true.mp mm_ck42 k (List.mem_map.mpr ⟨k - 279, List.mem_range.mpr (by omega), by omega⟩)
  omega
