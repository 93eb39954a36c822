theorem mm_ck42_6 : (((mm_tabs.getD 279 []).drop 30).take 5).all (fun q => mm_okl 279 q.1 q.2) = true := by decide +kernel
theorem mm_ck42_7 : (((mm_tabs.getD 279 []).drop 35).take 5).all (fun q => mm_okl 279 q.1 q.2) = true := by decide +kernel
theorem mm_ck42_8 : (((mm_tabs.getD 279 []).drop 40).take 5).all (fun q => mm_okl 279 q.1 q.2) = true := by decide +kernel
theorem mm_ck42_9 : (((mm_tabs.getD 279 []).drop 45).take 5).all (fun q => mm_okl 279 q.1 q.2) = true := by decide +kernel
theorem mm_ck42_10 : (((mm_tabs.getD 279 []).drop 50).take 5).all (fun q => mm_okl 279 q.1 q.2) = true := by decide +kernel
theorem mm_ck42_11 : (((mm_tabs.getD 279 []).drop 55).take 5).all (fun q => mm_okl 279 q.1 q.2) = true := by decide +kernel
