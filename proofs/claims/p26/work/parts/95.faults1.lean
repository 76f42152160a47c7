/-! the faults of the texts: by the kernel -/
theorem fk6 : cRes (exT 3000 109 9 [.inr (.inr (Int64.ofInt 228609652790)), .inr (.inl 0), .inr (.inr 0), .inr (.inl 0), .inr (.inl 8), .inr (.inl 0)] [] (hqD Dz)) (-1) = true := by decide +kernel
theorem fk7 : cRes (exT 3000 109 9 [.inr (.inr (Int64.ofInt 53005167720497)), .inr (.inl 0), .inr (.inr 0), .inr (.inl 0), .inr (.inl 8), .inr (.inl 0)] [] (hqD Dz)) 1 = true := by decide +kernel
theorem fk8 : cRes (exT 3000 109 9 [.inr (.inr (Int64.ofInt 3544952156018323576)), .inr (.inl 0), .inr (.inr (Int64.ofInt 49)), .inr (.inl 0), .inr (.inl 8), .inr (.inl 0)] [] (hqD Dz)) 4 = true := by decide +kernel
theorem fk9 : cRes (exT 3000 109 9 [.inr (.inr (Int64.ofInt 4123389851786573873)), .inr (.inl 0), .inr (.inr 0), .inr (.inl 0), .inr (.inl 8), .inr (.inl 0)] [] (hqD Dz)) (-1) = true := by decide +kernel
theorem fk10 : cRes (exT 3000 109 9 [.inr (.inr (Int64.ofInt 58524071114284)), .inr (.inl 0), .inr (.inr 0), .inr (.inl 0), .inr (.inl 8), .inr (.inl 0)] [] (hqD Dz)) 6 = true := by decide +kernel
theorem fk11 : cRes (exT 3000 109 9 [.inr (.inr (Int64.ofInt 58524071114299)), .inr (.inl 0), .inr (.inr 0), .inr (.inl 0), .inr (.inl 8), .inr (.inl 0)] [] (hqD Dz)) 5 = true := by decide +kernel
