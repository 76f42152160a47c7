/-! the faults of the texts: by the kernel -/
theorem fk0 : cRes (exT 3000 109 9 [.inr (.inr 0), .inr (.inl 0), .inr (.inr 0), .inr (.inl 0), .inr (.inl 8), .inr (.inl 0)] [] (hqD Dz)) 0 = true := by decide +kernel
theorem fk1 : cRes (exT 3000 109 9 [.inr (.inr (Int64.ofInt 53)), .inr (.inl 0), .inr (.inr 0), .inr (.inl 0), .inr (.inl 8), .inr (.inl 0)] [] (hqD Dz)) 1 = true := by decide +kernel
theorem fk2 : cRes (exT 3000 109 9 [.inr (.inr (Int64.ofInt 13626)), .inr (.inl 0), .inr (.inr 0), .inr (.inl 0), .inr (.inl 8), .inr (.inl 0)] [] (hqD Dz)) 2 = true := by decide +kernel
theorem fk3 : cRes (exT 3000 109 9 [.inr (.inr (Int64.ofInt 228609718321)), .inr (.inl 0), .inr (.inr 0), .inr (.inl 0), .inr (.inl 8), .inr (.inl 0)] [] (hqD Dz)) 2 = true := by decide +kernel
theorem fk4 : cRes (exT 3000 109 9 [.inr (.inr (Int64.ofInt 228609652784)), .inr (.inl 0), .inr (.inr 0), .inr (.inl 0), .inr (.inl 8), .inr (.inl 0)] [] (hqD Dz)) 4 = true := by decide +kernel
theorem fk5 : cRes (exT 3000 109 9 [.inr (.inr (Int64.ofInt 228609652791)), .inr (.inl 0), .inr (.inr 0), .inr (.inl 0), .inr (.inl 8), .inr (.inl 0)] [] (hqD Dz)) 4 = true := by decide +kernel
