theorem nk26 : (dinF 3001 0 (rowL nr6)).1 = 152 := by decide +kernel
theorem nk33 : chk (o141 (rowL nr7) 200) 25 nr8 = true := by decide +kernel
