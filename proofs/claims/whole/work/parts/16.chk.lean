theorem bk_test : (bkc_4.zip bmc_4).all (fun q => q.1.all (fun z => bchkD q.2.2.1 z.1 z.2 && bchkX bcjs q.2.1.cls q.2.1.name z.1 z.2 && bchkC bmeth bmjs q.2.1.cls z.2)) = true := by decide +kernel
