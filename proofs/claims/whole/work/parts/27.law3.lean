theorem mm_ck41_12 : (((mm_tabs.getD 279 []).drop 60).take 5).all (fun q => mm_okl 279 q.1 q.2) = true := by decide +kernel
theorem mm_ck41_13 : (((mm_tabs.getD 279 []).drop 65).take 5).all (fun q => mm_okl 279 q.1 q.2) = true := by decide +kernel
theorem mm_ck41_14 : (((mm_tabs.getD 279 []).drop 70).take 5).all (fun q => mm_okl 279 q.1 q.2) = true := by decide +kernel
theorem mm_ck41_15 : (((mm_tabs.getD 279 []).drop 75).take 5).all (fun q => mm_okl 279 q.1 q.2) = true := by decide +kernel
theorem mm_ck41_16 : (((mm_tabs.getD 279 []).drop 80).take 5).all (fun q => mm_okl 279 q.1 q.2) = true := by decide +kernel
theorem mm_ck41_17 : (((mm_tabs.getD 279 []).drop 85).take 5).all (fun q => mm_okl 279 q.1 q.2) = true := by decide +kernel
