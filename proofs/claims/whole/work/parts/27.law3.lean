theorem mm_ck42_12 : (((mm_tabs.getD 279 []).drop 60).take 5).all (fun q => mm_okl 279 q.1 q.2) = true := by decide +kernel
theorem mm_ck42_13 : (((mm_tabs.getD 279 []).drop 65).take 5).all (fun q => mm_okl 279 q.1 q.2) = true := by decide +kernel
theorem mm_ck42_14 : (((mm_tabs.getD 279 []).drop 70).take 5).all (fun q => mm_okl 279 q.1 q.2) = true := by decide +kernel
theorem mm_ck42_15 : (((mm_tabs.getD 279 []).drop 75).take 5).all (fun q => mm_okl 279 q.1 q.2) = true := by decide +kernel
theorem mm_ck42_16 : (((mm_tabs.getD 279 []).drop 80).take 5).all (fun q => mm_okl 279 q.1 q.2) = true := by decide +kernel
theorem mm_ck42_17 : (((mm_tabs.getD 279 []).drop 85).take 5).all (fun q => mm_okl 279 q.1 q.2) = true := by decide +kernel
