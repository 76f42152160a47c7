/-! the faults of the texts: by the kernel -/
theorem fk12 : cRes (exT 3000 109 9 [.inr (.inr (Int64.ofInt 3475143355248947258)), .inr (.inl 0), .inr (.inr (Int64.ofInt 3242034)), .inr (.inl 0), .inr (.inl 8), .inr (.inl 0)] [] (hqD Dz)) (-1) = true := by decide +kernel
theorem fk13 : cRes (exT 3000 109 9 [.inr (.inr (Int64.ofInt 893006386)), .inr (.inl 0), .inr (.inr 0), .inr (.inl 0), .inr (.inl 8), .inr (.inl 0)] [] (hqD Dz)) 3 = true := by decide +kernel
theorem fk14 : cRes (exT 3000 109 9 [.inr (.inr (Int64.ofInt 120)), .inr (.inl 0), .inr (.inr 0), .inr (.inl 0), .inr (.inl 8), .inr (.inl 0)] [] (hqD Dz)) 0 = true := by decide +kernel
theorem fk15 : cRes (exT 3000 109 9 [.inr (.inr (Int64.ofInt 58524071114294)), .inr (.inl 0), .inr (.inr 0), .inr (.inl 0), .inr (.inl 8), .inr (.inl 0)] [] (hqD Dz)) 5 = true := by decide +kernel
theorem fk16 : cRes (exT 3000 109 9 [.inr (.inr (Int64.ofInt 3547202048798501937)), .inr (.inl 0), .inr (.inr 0), .inr (.inl 0), .inr (.inl 8), .inr (.inl 0)] [] (hqD Dz)) 6 = true := by decide +kernel
