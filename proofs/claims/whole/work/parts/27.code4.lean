theorem mm_ck33 : ((List.range 5).map (fun i => i + 219)).all mm_okm = true := by decide +kernel
theorem mm_ck34 : ((List.range 4).map (fun i => i + 224)).all mm_okm = true := by decide +kernel
theorem mm_ck35 : ((List.range 4).map (fun i => i + 228)).all mm_okm = true := by decide +kernel
theorem mm_ck36 : ((List.range 5).map (fun i => i + 232)).all mm_okm = true := by decide +kernel
theorem mm_ck37 : ((List.range 4).map (fun i => i + 237)).all mm_okm = true := by decide +kernel
theorem mm_ck38 : ((List.range 5).map (fun i => i + 241)).all mm_okm = true := by decide +kernel
theorem mm_ck39 : ((List.range 15).map (fun i => i + 246)).all mm_okm = true := by decide +kernel
theorem mm_ck40 : ((List.range 18).map (fun i => i + 261)).all mm_okm = true := by decide +kernel
