theorem mm_flk0 : ((mm_fl.drop 0).take 40).all mm_flOk = true := by decide +kernel
theorem mm_flk1 : ((mm_fl.drop 40).take 40).all mm_flOk = true := by decide +kernel
theorem mm_flk2 : ((mm_fl.drop 80).take 40).all mm_flOk = true := by decide +kernel
theorem mm_flk3 : ((mm_fl.drop 120).take 26).all mm_flOk = true := by decide +kernel
theorem mm_flAll {i : Nat} {q : Nat × Nat × Nat × Nat × Nat} (h : mm_fl[i]? = some q) : mm_flOk q = true := by
  have hi : i < mm_fl.length := (List.getElem?_eq_some_iff.mp h).1
  have hn : mm_fl.length = 146 := by decide +kernel
  by_cases h0 : i < 40
  · exact List.all_eq_true.mp mm_flk0 q (List.mem_of_getElem? (i := i - 0) (by rw [List.getElem?_take, if_pos (by omega), List.getElem?_drop, show 0 + (i - 0) = i by omega]; exact h))
  by_cases h1 : i < 80
  · exact List.all_eq_true.mp mm_flk1 q (List.mem_of_getElem? (i := i - 40) (by rw [List.getElem?_take, if_pos (by omega), List.getElem?_drop, show 40 + (i - 40) = i by omega]; exact h))
  by_cases h2 : i < 120
  · exact List.all_eq_true.mp mm_flk2 q (List.mem_of_getElem? (i := i - 80) (by rw [List.getElem?_take, if_pos (by omega), List.getElem?_drop, show 80 + (i - 80) = i by omega]; exact h))
  by_cases h3 : i < 146
  · exact List.all_eq_true.mp mm_flk3 q (List.mem_of_getElem? (i := i - 120) (by rw [List.getElem?_take, if_pos (by omega), List.getElem?_drop, show 120 + (i - 120) = i by omega]; exact h))
  omega
theorem mm_mlk0 : ((mm_ml.drop 0).take 40).all mm_mlOk = true := by decide +kernel
theorem mm_mlk1 : ((mm_ml.drop 40).take 40).all mm_mlOk = true := by decide +kernel
theorem mm_mlk2 : ((mm_ml.drop 80).take 40).all mm_mlOk = true := by decide +kernel
theorem mm_mlk3 : ((mm_ml.drop 120).take 40).all mm_mlOk = true := by decide +kernel
theorem mm_mlk4 : ((mm_ml.drop 160).take 40).all mm_mlOk = true := by decide +kernel
theorem mm_mlk5 : ((mm_ml.drop 200).take 40).all mm_mlOk = true := by decide +kernel
theorem mm_mlk6 : ((mm_ml.drop 240).take 40).all mm_mlOk = true := by decide +kernel
theorem mm_mlk7 : ((mm_ml.drop 280).take 40).all mm_mlOk = true := by decide +kernel
theorem mm_mlk8 : ((mm_ml.drop 320).take 2).all mm_mlOk = true := by decide +kernel
theorem mm_mlAll {i : Nat} {q : Nat × Nat × Nat × Nat × Nat} (h : mm_ml[i]? = some q) : mm_mlOk q = true := by
  have hi : i < mm_ml.length := (List.getElem?_eq_some_iff.mp h).1
  have hn : mm_ml.length = 322 := by decide +kernel
  by_cases h0 : i < 40
  · exact List.all_eq_true.mp mm_mlk0 q (List.mem_of_getElem? (i := i - 0) (by rw [List.getElem?_take, if_pos (by omega), List.getElem?_drop, show 0 + (i - 0) = i by omega]; exact h))
  by_cases h1 : i < 80
  · exact List.all_eq_true.mp mm_mlk1 q (List.mem_of_getElem? (i := i - 40) (by rw [List.getElem?_take, if_pos (by omega), List.getElem?_drop, show 40 + (i - 40) = i by omega]; exact h))
  by_cases h2 : i < 120
  · exact List.all_eq_true.mp mm_mlk2 q (List.mem_of_getElem? (i := i - 80) (by rw [List.getElem?_take, if_pos (by omega), List.getElem?_drop, show 80 + (i - 80) = i by omega]; exact h))
  by_cases h3 : i < 160
  · exact List.all_eq_true.mp mm_mlk3 q (List.mem_of_getElem? (i := i - 120) (by rw [List.getElem?_take, if_pos (by omega), List.getElem?_drop, show 120 + (i - 120) = i by omega]; exact h))
  by_cases h4 : i < 200
  · exact List.all_eq_true.mp mm_mlk4 q (List.mem_of_getElem? (i := i - 160) (by rw [List.getElem?_take, if_pos (by omega), List.getElem?_drop, show 160 + (i - 160) = i by omega]; exact h))
  by_cases h5 : i < 240
  · exact List.all_eq_true.mp mm_mlk5 q (List.mem_of_getElem? (i := i - 200) (by rw [List.getElem?_take, if_pos (by omega), List.getElem?_drop, show 200 + (i - 200) = i by omega]; exact h))
  by_cases h6 : i < 280
  · exact List.all_eq_true.mp mm_mlk6 q (List.mem_of_getElem? (i := i - 240) (by rw [List.getElem?_take, if_pos (by omega), List.getElem?_drop, show 240 + (i - 240) = i by omega]; exact h))
  by_cases h7 : i < 320
  · exact List.all_eq_true.mp mm_mlk7 q (List.mem_of_getElem? (i := i - 280) (by rw [List.getElem?_take, if_pos (by omega), List.getElem?_drop, show 280 + (i - 280) = i by omega]; exact h))
  by_cases h8 : i < 322
  · exact List.all_eq_true.mp mm_mlk8 q (List.mem_of_getElem? (i := i - 320) (by rw [List.getElem?_take, if_pos (by omega), List.getElem?_drop, show 320 + (i - 320) = i by omega]; exact h))
  omega
theorem mm_mk0 : ((List.range 40).map (fun i => i + 0)).all mm_mok = true := by decide +kernel
theorem mm_mk1 : ((List.range 40).map (fun i => i + 40)).all mm_mok = true := by decide +kernel
theorem mm_mk2 : ((List.range 40).map (fun i => i + 80)).all mm_mok = true := by decide +kernel
theorem mm_mk3 : ((List.range 40).map (fun i => i + 120)).all mm_mok = true := by decide +kernel
theorem mm_mk4 : ((List.range 40).map (fun i => i + 160)).all mm_mok = true := by decide +kernel
theorem mm_mk5 : ((List.range 40).map (fun i => i + 200)).all mm_mok = true := by decide +kernel
theorem mm_mk6 : ((List.range 40).map (fun i => i + 240)).all mm_mok = true := by decide +kernel
theorem mm_mAll {k : Nat} (h : k < 280) : mm_mok k = true := by
  by_cases h0 : k < 40
  · exact List.all_eq_true.mp mm_mk0 k (List.mem_map.mpr ⟨k - 0, List.mem_range.mpr (by omega), by omega⟩)
  by_cases h1 : k < 80
  · exact List.all_eq_true.mp mm_mk1 k (List.mem_map.mpr ⟨k - 40, List.mem_range.mpr (by omega), by omega⟩)
  by_cases h2 : k < 120
  · exact List.all_eq_true.mp mm_mk2 k (List.mem_map.mpr ⟨k - 80, List.mem_range.mpr (by omega), by omega⟩)
  by_cases h3 : k < 160
  · exact List.all_eq_true.mp mm_mk3 k (List.mem_map.mpr ⟨k - 120, List.mem_range.mpr (by omega), by omega⟩)
  by_cases h4 : k < 200
  · exact List.all_eq_true.mp mm_mk4 k (List.mem_map.mpr ⟨k - 160, List.mem_range.mpr (by omega), by omega⟩)
  by_cases h5 : k < 240
  · exact List.all_eq_true.mp mm_mk5 k (List.mem_map.mpr ⟨k - 200, List.mem_range.mpr (by omega), by omega⟩)
  by_cases h6 : k < 280
  · exact List.all_eq_true.mp mm_mk6 k (List.mem_map.mpr ⟨k - 240, List.mem_range.mpr (by omega), by omega⟩)
  omega
