theorem mm_ck42_0 : (((mm_tabs.getD 279 []).drop 0).take 5).all (fun q => mm_okl 279 q.1 q.2) = true := by decide +kernel
theorem mm_ck42_1 : (((mm_tabs.getD 279 []).drop 5).take 5).all (fun q => mm_okl 279 q.1 q.2) = true := by decide +kernel
theorem mm_ck42_2 : (((mm_tabs.getD 279 []).drop 10).take 5).all (fun q => mm_okl 279 q.1 q.2) = true := by decide +kernel
theorem mm_ck42_3 : (((mm_tabs.getD 279 []).drop 15).take 5).all (fun q => mm_okl 279 q.1 q.2) = true := by decide +kernel
theorem mm_ck42_4 : (((mm_tabs.getD 279 []).drop 20).take 5).all (fun q => mm_okl 279 q.1 q.2) = true := by decide +kernel
theorem mm_ck42_5 : (((mm_tabs.getD 279 []).drop 25).take 5).all (fun q => mm_okl 279 q.1 q.2) = true := by decide +kernel
