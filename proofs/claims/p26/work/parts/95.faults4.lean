/-! the last of the texts: by the kernel -/
theorem fk_last : cRes (exT 3000 110 350 [.inr (.inl 8), .inr (.inl 0)] [] (hqD dt7)) 1 = true := by decide +kernel
