theorem mm_ck42_18 : (((mm_tabs.getD 279 []).drop 90).take 5).all (fun q => mm_okl 279 q.1 q.2) = true := by decide +kernel
theorem mm_ck42_19 : (((mm_tabs.getD 279 []).drop 95).take 5).all (fun q => mm_okl 279 q.1 q.2) = true := by decide +kernel
theorem mm_ck42_20 : (((mm_tabs.getD 279 []).drop 100).take 5).all (fun q => mm_okl 279 q.1 q.2) = true := by decide +kernel
theorem mm_ck42_21 : (((mm_tabs.getD 279 []).drop 105).take 5).all (fun q => mm_okl 279 q.1 q.2) = true := by decide +kernel
theorem mm_ck42_22 : (((mm_tabs.getD 279 []).drop 110).take 5).all (fun q => mm_okl 279 q.1 q.2) = true := by decide +kernel
