/-! the long ones, in pieces -/
def np26_16 : List Int := [52, 36, 12, 80, 2, 2, 0, 2, -5, 0, 1, -5, 0, 0, 0, 0, -5, 0, 0, 0, 0, 2, 50, 21, 0, 0, -5, 0, 0, 0, 0, -5, 0, 0, 0, 0, -5, 0, 0, 0, 0, 0, 0, 0, 12, 0, 12, 1, 0, 0, 0, 0, 0, 0, 0, 0, 0, 0, 0, 0, 0, 0, 0, 0, 0, 0, 0, 0, 0, 0, 0, 0, 0, 0, 0, 0, 0, 0, 0, 0, 1, 3, 2, 12, 0, 0, 0, 0, 0, 0, 0, 0, 0, 0, 0, 0, 0, 0, 0, 0, 0, 0, 0, 0, 0, 0, 0, 0, 0, 0, 0]
theorem np26_a16 : agr (itF 0 16 (rowL nr6)) np26_16 = true := by decide +kernel
theorem np26_d16 : (dinF 16 0 (rowL nr6)).1 = -5 := by decide +kernel
def np26_32 : List Int := [68, 36, 12, 80, 2, 2, 0, 2, -5, 0, 0, -5, 0, 0, 0, 0, -5, 0, 0, 0, 0, 2, 50, 29, 0, 0, -5, 0, 0, 0, 0, -5, 0, 0, 0, 0, -5, 0, 0, 0, 0, 0, 0, 0, 12, 0, 12, 1, 0, 0, 0, 0, 0, 0, 0, 0, 0, 0, 0, 0, 0, 0, 0, 0, 0, 0, 0, 0, 0, 0, 0, 0, 0, 0, 0, 0, 0, 0, 0, 0, 1, 3, 2, 12, 0, 0, 0, 0, 0, 0, 0, 0, 0, 0, 0, 0, 0, 0, 0, 0, 0, 0, 0, 0, 0, 0, 0, 0, 0, 0, 0]
theorem np26_a32 : agr (itF 0 16 (rowL np26_16)) np26_32 = true := by decide +kernel
theorem np26_d32 : (dinF 16 16 (rowL np26_16)).1 = -5 := by decide +kernel
def np26_48 : List Int := [84, 36, 12, 80, 2, 2, 0, 2, -5, 0, 0, -5, 0, 0, 0, 0, -5, 0, 0, 0, 0, 2, 50, 29, 0, 0, -5, 0, 0, 0, 0, -5, 0, 0, 0, 0, -5, 0, 0, 0, 0, 0, 0, 0, 12, 0, 12, 1, 0, 0, 0, 0, 0, 0, 0, 0, 0, 0, 0, 0, 0, 0, 0, 0, 0, 0, 0, 0, 0, 0, 0, 0, 0, 0, 0, 0, 0, 0, 0, 0, 1, 3, 2, 12, 0, 0, 0, 0, 0, 0, 0, 0, 0, 0, 0, 0, 0, 0, 0, 0, 0, 0, 0, 0, 0, 0, 0, 0, 0, 0, 0]
theorem np26_a48 : agr (itF 0 16 (rowL np26_32)) np26_48 = true := by decide +kernel
theorem np26_d48 : (dinF 16 32 (rowL np26_32)).1 = -5 := by decide +kernel
def np26_64 : List Int := [100, 36, 12, 80, 2, 2, 0, 2, -5, 0, 1, -5, 0, 0, 0, 0, -5, 0, 0, 0, 0, 2, 50, 50, 0, 0, -5, 0, 0, 0, 0, -5, 0, 0, 0, 0, -5, 0, 0, 0, 0, 0, 0, 0, 12, 0, 12, 1, 0, 0, 0, 0, 0, 0, 0, 0, 0, 0, 0, 0, 0, 0, 0, 0, 0, 0, 0, 0, 0, 0, 0, 0, 0, 0, 0, 0, 0, 0, 0, 0, 1, 3, 2, 12, 0, 0, 0, 0, 0, 0, 0, 0, 0, 0, 0, 0, 0, 0, 0, 0, 0, 0, 0, 0, 0, 0, 0, 0, 0, 0, 0]
theorem np26_a64 : agr (itF 0 16 (rowL np26_48)) np26_64 = true := by decide +kernel
theorem np26_d64 : (dinF 16 48 (rowL np26_48)).1 = -5 := by decide +kernel
def np26_80 : List Int := [116, 36, 12, 80, 2, 2, 0, 2, -5, 0, 0, -5, 0, 0, 0, 0, -5, 0, 0, 0, 0, 2, 50, 58, 0, 0, -5, 0, 0, 0, 0, -5, 0, 0, 0, 0, -5, 0, 0, 0, 0, 0, 0, 0, 12, 0, 12, 1, 0, 0, 0, 0, 0, 0, 0, 0, 0, 0, 0, 0, 0, 0, 0, 0, 0, 0, 0, 0, 0, 0, 0, 0, 0, 0, 0, 0, 0, 0, 0, 0, 1, 3, 2, 12, 0, 0, 0, 0, 0, 0, 0, 0, 0, 0, 0, 0, 0, 0, 0, 0, 0, 0, 0, 0, 0, 0, 0, 0, 0, 0, 0]
theorem np26_a80 : agr (itF 0 16 (rowL np26_64)) np26_80 = true := by decide +kernel
theorem np26_d80 : (dinF 16 64 (rowL np26_64)).1 = -5 := by decide +kernel
def np26_96 : List Int := [132, 36, 12, 80, 2, 2, 0, 2, -5, 0, 0, -5, 0, 0, 0, 0, -5, 0, 0, 0, 0, 2, 50, 58, 0, 0, -5, 0, 0, 0, 0, -5, 0, 0, 0, 0, -5, 0, 0, 0, 0, 0, 0, 0, 12, 0, 12, 1, 0, 0, 0, 0, 0, 0, 0, 0, 0, 0, 0, 0, 0, 0, 0, 0, 0, 0, 0, 0, 0, 0, 0, 0, 0, 0, 0, 0, 0, 0, 0, 0, 1, 3, 2, 12, 0, 0, 0, 0, 0, 0, 0, 0, 0, 0, 0, 0, 0, 0, 0, 0, 0, 0, 0, 0, 0, 0, 0, 0, 0, 0, 0]
theorem np26_a96 : agr (itF 0 16 (rowL np26_80)) np26_96 = true := by decide +kernel
theorem np26_d96 : (dinF 16 80 (rowL np26_80)).1 = -5 := by decide +kernel
def np26_112 : List Int := [148, 36, 12, 80, 2, 2, 0, 2, -5, 0, 1, -5, 0, 0, 0, 0, -5, 0, 0, 0, 0, 2, 50, 79, 0, 0, -5, 0, 0, 0, 0, -5, 0, 0, 0, 0, -5, 0, 0, 0, 0, 0, 0, 0, 12, 0, 12, 1, 0, 0, 0, 0, 0, 0, 0, 0, 0, 0, 0, 0, 0, 0, 0, 0, 0, 0, 0, 0, 0, 0, 0, 0, 0, 0, 0, 0, 0, 0, 0, 0, 1, 3, 2, 12, 0, 0, 0, 0, 0, 0, 0, 0, 0, 0, 0, 0, 0, 0, 0, 0, 0, 0, 0, 0, 0, 0, 0, 0, 0, 0, 0]
theorem np26_a112 : agr (itF 0 16 (rowL np26_96)) np26_112 = true := by decide +kernel
theorem np26_d112 : (dinF 16 96 (rowL np26_96)).1 = -5 := by decide +kernel
def np26_128 : List Int := [164, 36, 12, 80, 2, 2, 0, 2, -5, 0, 0, -5, 0, 0, 0, 0, -5, 0, 0, 0, 0, 2, 50, 87, 1, 7, -5, 0, 0, 0, 0, -5, 0, 0, 0, 0, -5, 0, 0, 0, 0, 0, 0, 0, 12, 0, 12, 2, 0, 0, 0, 0, 0, 0, 0, 0, 0, 0, 0, 0, 0, 0, 0, 0, 0, 0, 0, 0, 0, 0, 0, 0, 0, 0, 0, 0, 0, 0, 0, 0, 2, 3, 2, 12, 1, 2, 150, 0, 0, 0, 0, 0, 0, 0, 0, 0, 0, 0, 0, 0, 0, 0, 0, 0, 0, 0, 0, 0, 0, 0, 0]
theorem np26_a128 : agr (itF 0 16 (rowL np26_112)) np26_128 = true := by decide +kernel
theorem np26_d128 : (dinF 16 112 (rowL np26_112)).1 = -5 := by decide +kernel
def np26_144 : List Int := [180, 36, 12, 80, 2, 2, 0, 2, -5, 0, 0, -5, 0, 0, 0, 0, -5, 0, 0, 0, 0, 2, 50, 87, 1, 7, -5, 0, 0, 0, 0, -5, 0, 0, 0, 0, -5, 0, 0, 0, 0, 0, 0, 0, 12, 0, 12, 2, 0, 0, 0, 0, 0, 0, 0, 0, 0, 0, 0, 0, 0, 0, 0, 0, 0, 0, 0, 0, 0, 0, 0, 0, 0, 0, 0, 0, 0, 0, 0, 0, 2, 3, 2, 12, 1, 2, 150, 0, 0, 0, 0, 0, 0, 0, 0, 0, 0, 0, 0, 0, 0, 0, 0, 0, 0, 0, 0, 0, 0, 0, 0]
theorem np26_a144 : agr (itF 0 16 (rowL np26_128)) np26_144 = true := by decide +kernel
theorem np26_d144 : (dinF 16 128 (rowL np26_128)).1 = -5 := by decide +kernel
theorem nk26 (h : Sok (rowL nr6)) : (dinF 3001 0 (rowL nr6)).1 = 152 := by
  have R0 : Rt (rowL nr6) := ⟨h.1, h.2.1, HB_rowL h.1 (by decide +kernel), by decide +kernel, by decide +kernel⟩
  obtain ⟨e1, R1⟩ := Rt_it R0 (by decide) np26_a16 (by decide +kernel)
  obtain ⟨e2, R2⟩ := Rt_it R1 (by decide) np26_a32 (by decide +kernel)
  obtain ⟨e3, R3⟩ := Rt_it R2 (by decide) np26_a48 (by decide +kernel)
  obtain ⟨e4, R4⟩ := Rt_it R3 (by decide) np26_a64 (by decide +kernel)
  obtain ⟨e5, R5⟩ := Rt_it R4 (by decide) np26_a80 (by decide +kernel)
  obtain ⟨e6, R6⟩ := Rt_it R5 (by decide) np26_a96 (by decide +kernel)
  obtain ⟨e7, R7⟩ := Rt_it R6 (by decide) np26_a112 (by decide +kernel)
  obtain ⟨e8, R8⟩ := Rt_it R7 (by decide) np26_a128 (by decide +kernel)
  obtain ⟨e9, R9⟩ := Rt_it R8 (by decide) np26_a144 (by decide +kernel)
  rw [show (3001 : Nat) = 16 + 2985 from rfl, din_add 16 0 _ (by decide) np26_d16, e1, show (0 : Int) + ((16 : Nat) : Int) = 16 from rfl]
  rw [show (2985 : Nat) = 16 + 2969 from rfl, din_add 16 16 _ (by decide) np26_d32, e2, show (16 : Int) + ((16 : Nat) : Int) = 32 from rfl]
  rw [show (2969 : Nat) = 16 + 2953 from rfl, din_add 16 32 _ (by decide) np26_d48, e3, show (32 : Int) + ((16 : Nat) : Int) = 48 from rfl]
  rw [show (2953 : Nat) = 16 + 2937 from rfl, din_add 16 48 _ (by decide) np26_d64, e4, show (48 : Int) + ((16 : Nat) : Int) = 64 from rfl]
  rw [show (2937 : Nat) = 16 + 2921 from rfl, din_add 16 64 _ (by decide) np26_d80, e5, show (64 : Int) + ((16 : Nat) : Int) = 80 from rfl]
  rw [show (2921 : Nat) = 16 + 2905 from rfl, din_add 16 80 _ (by decide) np26_d96, e6, show (80 : Int) + ((16 : Nat) : Int) = 96 from rfl]
  rw [show (2905 : Nat) = 16 + 2889 from rfl, din_add 16 96 _ (by decide) np26_d112, e7, show (96 : Int) + ((16 : Nat) : Int) = 112 from rfl]
  rw [show (2889 : Nat) = 16 + 2873 from rfl, din_add 16 112 _ (by decide) np26_d128, e8, show (112 : Int) + ((16 : Nat) : Int) = 128 from rfl]
  rw [show (2873 : Nat) = 16 + 2857 from rfl, din_add 16 128 _ (by decide) np26_d144, e9, show (128 : Int) + ((16 : Nat) : Int) = 144 from rfl]
  decide +kernel
def np33_16 : List Int := [53, 36, 12, 80, 2, 2, 0, 2, -5, 0, 1, -5, 0, 0, 0, 0, -5, 0, 0, 0, 0, 2, 50, 22, 0, 0, -5, 0, 0, 0, 0, -5, 0, 0, 0, 0, -5, 0, 0, 0, 0, 0, 0, 0, 12, 0, 12, 1, 0, 0, 0, 0, 0, 0, 0, 0, 0, 0, 0, 0, 0, 0, 0, 0, 0, 0, 0, 0, 0, 0, 0, 0, 0, 0, 0, 0, 0, 0, 0, 0, 1, 3, 2, 12, 0, 0, 0, 0, 0, 0, 0, 0, 0, 0, 0, 0, 0, 0, 0, 0, 0, 0, 0, 0, 0, 0, 0, 0, 0, 0, 0]
theorem np33_a16 : agr (itF 1 16 (rowL nr7)) np33_16 = true := by decide +kernel
theorem np33_d16 : drkF 16 (rowL nr7) = 0 := by decide +kernel
def np33_32 : List Int := [69, 36, 12, 80, 2, 2, 0, 2, -5, 0, 0, -5, 0, 0, 0, 0, -5, 0, 0, 0, 0, 2, 50, 29, 0, 0, -5, 0, 0, 0, 0, -5, 0, 0, 0, 0, -5, 0, 0, 0, 0, 0, 0, 0, 12, 0, 12, 1, 0, 0, 0, 0, 0, 0, 0, 0, 0, 0, 0, 0, 0, 0, 0, 0, 0, 0, 0, 0, 0, 0, 0, 0, 0, 0, 0, 0, 0, 0, 0, 0, 1, 3, 2, 12, 0, 0, 0, 0, 0, 0, 0, 0, 0, 0, 0, 0, 0, 0, 0, 0, 0, 0, 0, 0, 0, 0, 0, 0, 0, 0, 0]
theorem np33_a32 : agr (itF 1 16 (rowL np33_16)) np33_32 = true := by decide +kernel
theorem np33_d32 : drkF 16 (rowL np33_16) = 0 := by decide +kernel
def np33_48 : List Int := [85, 36, 12, 80, 2, 2, 0, 2, -5, 0, 1, -5, 0, 0, 0, 0, -5, 0, 0, 0, 0, 2, 50, 35, 0, 0, -5, 0, 0, 0, 0, -5, 0, 0, 0, 0, -5, 0, 0, 0, 0, 0, 0, 0, 12, 0, 12, 1, 0, 0, 0, 0, 0, 0, 0, 0, 0, 0, 0, 0, 0, 0, 0, 0, 0, 0, 0, 0, 0, 0, 0, 0, 0, 0, 0, 0, 0, 0, 0, 0, 1, 3, 2, 12, 0, 0, 0, 0, 0, 0, 0, 0, 0, 0, 0, 0, 0, 0, 0, 0, 0, 0, 0, 0, 0, 0, 0, 0, 0, 0, 0]
theorem np33_a48 : agr (itF 1 16 (rowL np33_32)) np33_48 = true := by decide +kernel
theorem np33_d48 : drkF 16 (rowL np33_32) = 0 := by decide +kernel
def np33_64 : List Int := [101, 36, 12, 80, 2, 2, 0, 2, -5, 0, 1, -5, 0, 0, 0, 0, -5, 0, 0, 0, 0, 2, 50, 51, 0, 0, -5, 0, 0, 0, 0, -5, 0, 0, 0, 0, -5, 0, 0, 0, 0, 0, 0, 0, 12, 0, 12, 1, 0, 0, 0, 0, 0, 0, 0, 0, 0, 0, 0, 0, 0, 0, 0, 0, 0, 0, 0, 0, 0, 0, 0, 0, 0, 0, 0, 0, 0, 0, 0, 0, 1, 3, 2, 12, 0, 0, 0, 0, 0, 0, 0, 0, 0, 0, 0, 0, 0, 0, 0, 0, 0, 0, 0, 0, 0, 0, 0, 0, 0, 0, 0]
theorem np33_a64 : agr (itF 1 16 (rowL np33_48)) np33_64 = true := by decide +kernel
theorem np33_d64 : drkF 16 (rowL np33_48) = 0 := by decide +kernel
def np33_80 : List Int := [117, 36, 12, 80, 2, 2, 0, 2, -5, 0, 0, -5, 0, 0, 0, 0, -5, 0, 0, 0, 0, 2, 50, 58, 0, 0, -5, 0, 0, 0, 0, -5, 0, 0, 0, 0, -5, 0, 0, 0, 0, 0, 0, 0, 12, 0, 12, 1, 0, 0, 0, 0, 0, 0, 0, 0, 0, 0, 0, 0, 0, 0, 0, 0, 0, 0, 0, 0, 0, 0, 0, 0, 0, 0, 0, 0, 0, 0, 0, 0, 1, 3, 2, 12, 0, 0, 0, 0, 0, 0, 0, 0, 0, 0, 0, 0, 0, 0, 0, 0, 0, 0, 0, 0, 0, 0, 0, 0, 0, 0, 0]
theorem np33_a80 : agr (itF 1 16 (rowL np33_64)) np33_80 = true := by decide +kernel
theorem np33_d80 : drkF 16 (rowL np33_64) = 0 := by decide +kernel
def np33_96 : List Int := [133, 36, 12, 80, 2, 2, 0, 2, -5, 0, 1, -5, 0, 0, 0, 0, -5, 0, 0, 0, 0, 2, 50, 64, 0, 0, -5, 0, 0, 0, 0, -5, 0, 0, 0, 0, -5, 0, 0, 0, 0, 0, 0, 0, 12, 0, 12, 1, 0, 0, 0, 0, 0, 0, 0, 0, 0, 0, 0, 0, 0, 0, 0, 0, 0, 0, 0, 0, 0, 0, 0, 0, 0, 0, 0, 0, 0, 0, 0, 0, 1, 3, 2, 12, 0, 0, 0, 0, 0, 0, 0, 0, 0, 0, 0, 0, 0, 0, 0, 0, 0, 0, 0, 0, 0, 0, 0, 0, 0, 0, 0]
theorem np33_a96 : agr (itF 1 16 (rowL np33_80)) np33_96 = true := by decide +kernel
theorem np33_d96 : drkF 16 (rowL np33_80) = 0 := by decide +kernel
def np33_112 : List Int := [149, 36, 12, 80, 2, 2, 0, 2, -5, 0, 1, -5, 0, 0, 0, 0, -5, 0, 0, 0, 0, 2, 50, 80, 0, 0, -5, 0, 0, 0, 0, -5, 0, 0, 0, 0, -5, 0, 0, 0, 0, 0, 0, 0, 12, 0, 12, 1, 0, 0, 0, 0, 0, 0, 0, 0, 0, 0, 0, 0, 0, 0, 0, 0, 0, 0, 0, 0, 0, 0, 0, 0, 0, 0, 0, 0, 0, 0, 0, 0, 1, 3, 2, 12, 0, 0, 0, 0, 0, 0, 0, 0, 0, 0, 0, 0, 0, 0, 0, 0, 0, 0, 0, 0, 0, 0, 0, 0, 0, 0, 0]
theorem np33_a112 : agr (itF 1 16 (rowL np33_96)) np33_112 = true := by decide +kernel
theorem np33_d112 : drkF 16 (rowL np33_96) = 0 := by decide +kernel
def np33_128 : List Int := [165, 36, 12, 80, 2, 2, 0, 2, -5, 0, 0, -5, 0, 0, 0, 0, -5, 0, 0, 0, 0, 2, 50, 87, 1, 7, -5, 0, 0, 0, 0, -5, 0, 0, 0, 0, -5, 0, 0, 0, 0, 0, 0, 0, 12, 0, 12, 2, 0, 0, 0, 0, 0, 0, 0, 0, 0, 0, 0, 0, 0, 0, 0, 0, 0, 0, 0, 0, 0, 0, 0, 0, 0, 0, 0, 0, 0, 0, 0, 0, 2, 3, 2, 12, 1, 2, 150, 0, 0, 0, 0, 0, 0, 0, 0, 0, 0, 0, 0, 0, 0, 0, 0, 0, 0, 0, 0, 0, 0, 0, 0]
theorem np33_a128 : agr (itF 1 16 (rowL np33_112)) np33_128 = true := by decide +kernel
theorem np33_d128 : drkF 16 (rowL np33_112) = 0 := by decide +kernel
def np33_144 : List Int := [181, 36, 12, 80, 2, 2, 0, 2, -5, 0, 1, -5, 0, 0, 0, 0, -5, 0, 0, 0, 0, 2, 50, 93, 1, 8, -5, 0, 0, 0, 0, -5, 0, 0, 0, 0, -5, 0, 0, 0, 0, 0, 0, 0, 12, 0, 12, 2, 0, 0, 0, 0, 0, 0, 0, 0, 0, 0, 0, 0, 0, 0, 0, 0, 0, 0, 0, 0, 0, 0, 0, 0, 0, 0, 0, 0, 0, 0, 0, 0, 2, 3, 2, 12, 1, 2, 150, 0, 0, 0, 0, 0, 0, 0, 0, 0, 0, 0, 0, 0, 0, 0, 0, 0, 0, 0, 0, 0, 0, 0, 0]
theorem np33_a144 : agr (itF 1 16 (rowL np33_128)) np33_144 = true := by decide +kernel
theorem np33_d144 : drkF 16 (rowL np33_128) = 0 := by decide +kernel
def np33_160 : List Int := [197, 36, 12, 80, 2, 2, 0, 2, -5, 0, 0, -5, 0, 0, 0, 0, -5, 0, 0, 0, 0, 2, 50, 100, 1, 15, -5, 0, 0, 0, 0, -5, 0, 0, 0, 0, -5, 0, 0, 0, 0, 0, 0, 0, 21, 9, 12, 3, 0, 0, 0, 0, 0, 0, 0, 0, 0, 0, 0, 0, 0, 0, 0, 0, 0, 0, 0, 0, 0, 0, 0, 0, 0, 0, 0, 0, 0, 0, 0, 0, 3, 3, 2, 12, 1, 2, 150, 0, 2, 187, 0, 0, 0, 0, 0, 0, 0, 0, 0, 0, 0, 0, 0, 0, 0, 0, 0, 0, 0, 0, 0]
theorem np33_a160 : agr (itF 1 16 (rowL np33_144)) np33_160 = true := by decide +kernel
theorem np33_d160 : drkF 16 (rowL np33_144) = 9 := by decide +kernel
def np33_176 : List Int := [213, 36, 12, 80, 2, 2, 0, 2, -5, 0, 0, -5, 0, 0, 0, 0, -5, 0, 0, 0, 0, 2, 50, 100, 1, 15, -5, 0, 0, 0, 0, -5, 0, 0, 0, 0, -5, 0, 0, 0, 0, 0, 0, 0, 28, 16, 16, 3, 0, 0, 0, 0, 0, 0, 0, 0, 0, 0, 0, 0, 0, 0, 0, 0, 0, 0, 0, 0, 0, 0, 0, 0, 0, 0, 0, 0, 0, 0, 0, 0, 3, 3, 2, 12, 1, 2, 150, 0, 2, 187, 0, 0, 0, 0, 0, 0, 0, 0, 0, 0, 0, 0, 0, 0, 0, 0, 0, 0, 0, 0, 0]
theorem np33_a176 : agr (itF 1 16 (rowL np33_160)) np33_176 = true := by decide +kernel
theorem np33_d176 : drkF 16 (rowL np33_160) = 7 := by decide +kernel
def np33_192 : List Int := [229, 36, 12, 80, 2, 2, 0, 2, -5, 0, 0, -5, 0, 0, 0, 0, -5, 0, 0, 0, 0, 2, 50, 100, 1, 15, -5, 0, 0, 0, 0, -5, 0, 0, 0, 0, -5, 0, 0, 0, 0, 0, 0, 0, 29, 17, 17, 3, 0, 0, 0, 0, 0, 0, 0, 0, 0, 0, 0, 0, 0, 0, 0, 0, 0, 0, 0, 0, 0, 0, 0, 0, 0, 0, 0, 0, 0, 0, 0, 0, 3, 3, 2, 12, 1, 2, 150, 0, 2, 187, 0, 0, 0, 0, 0, 0, 0, 0, 0, 0, 0, 0, 0, 0, 0, 0, 0, 0, 0, 0, 0]
theorem np33_a192 : agr (itF 1 16 (rowL np33_176)) np33_192 = true := by decide +kernel
theorem np33_d192 : drkF 16 (rowL np33_176) = 1 := by decide +kernel
theorem np33_a200 : agr (itF 1 8 (rowL np33_192)) nr8 = true := by decide +kernel
theorem np33_d200 : drkF 8 (rowL np33_192) = 8 := by decide +kernel
theorem nk33 (h : Sok (rowL nr7)) : chk (o141 (rowL nr7) 200) 25 nr8 = true := by
  have R0 : Rt (rowL nr7) := ⟨h.1, h.2.1, HB_rowL h.1 (by decide +kernel), by decide +kernel, by decide +kernel⟩
  obtain ⟨e1, R1⟩ := Rt_it R0 (by decide) np33_a16 (by decide +kernel)
  obtain ⟨e2, R2⟩ := Rt_it R1 (by decide) np33_a32 (by decide +kernel)
  obtain ⟨e3, R3⟩ := Rt_it R2 (by decide) np33_a48 (by decide +kernel)
  obtain ⟨e4, R4⟩ := Rt_it R3 (by decide) np33_a64 (by decide +kernel)
  obtain ⟨e5, R5⟩ := Rt_it R4 (by decide) np33_a80 (by decide +kernel)
  obtain ⟨e6, R6⟩ := Rt_it R5 (by decide) np33_a96 (by decide +kernel)
  obtain ⟨e7, R7⟩ := Rt_it R6 (by decide) np33_a112 (by decide +kernel)
  obtain ⟨e8, R8⟩ := Rt_it R7 (by decide) np33_a128 (by decide +kernel)
  obtain ⟨e9, R9⟩ := Rt_it R8 (by decide) np33_a144 (by decide +kernel)
  obtain ⟨e10, R10⟩ := Rt_it R9 (by decide) np33_a160 (by decide +kernel)
  obtain ⟨e11, R11⟩ := Rt_it R10 (by decide) np33_a176 (by decide +kernel)
  obtain ⟨e12, R12⟩ := Rt_it R11 (by decide) np33_a192 (by decide +kernel)
  obtain ⟨e13, R13⟩ := Rt_it R12 (by decide) np33_a200 (by decide +kernel)
  have E : itF 1 200 (rowL nr7) = rowL nr8 := by
    rw [show (200 : Nat) = 16 + 184 from rfl, it_add, e1]
    rw [show (184 : Nat) = 16 + 168 from rfl, it_add, e2]
    rw [show (168 : Nat) = 16 + 152 from rfl, it_add, e3]
    rw [show (152 : Nat) = 16 + 136 from rfl, it_add, e4]
    rw [show (136 : Nat) = 16 + 120 from rfl, it_add, e5]
    rw [show (120 : Nat) = 16 + 104 from rfl, it_add, e6]
    rw [show (104 : Nat) = 16 + 88 from rfl, it_add, e7]
    rw [show (88 : Nat) = 16 + 72 from rfl, it_add, e8]
    rw [show (72 : Nat) = 16 + 56 from rfl, it_add, e9]
    rw [show (56 : Nat) = 16 + 40 from rfl, it_add, e10]
    rw [show (40 : Nat) = 16 + 24 from rfl, it_add, e11]
    rw [show (24 : Nat) = 16 + 8 from rfl, it_add, e12]
    exact e13
  have K : drkF 200 (rowL nr7) = 25 := by
    rw [show (200 : Nat) = 16 + 184 from rfl, drk_add, e1, np33_d16]
    rw [show (184 : Nat) = 16 + 168 from rfl, drk_add, e2, np33_d32]
    rw [show (168 : Nat) = 16 + 152 from rfl, drk_add, e3, np33_d48]
    rw [show (152 : Nat) = 16 + 136 from rfl, drk_add, e4, np33_d64]
    rw [show (136 : Nat) = 16 + 120 from rfl, drk_add, e5, np33_d80]
    rw [show (120 : Nat) = 16 + 104 from rfl, drk_add, e6, np33_d96]
    rw [show (104 : Nat) = 16 + 88 from rfl, drk_add, e7, np33_d112]
    rw [show (88 : Nat) = 16 + 72 from rfl, drk_add, e8, np33_d128]
    rw [show (72 : Nat) = 16 + 56 from rfl, drk_add, e9, np33_d144]
    rw [show (56 : Nat) = 16 + 40 from rfl, drk_add, e10, np33_d160]
    rw [show (40 : Nat) = 16 + 24 from rfl, drk_add, e11, np33_d176]
    rw [show (24 : Nat) = 16 + 8 from rfl, drk_add, e12, np33_d192]
    rw [np33_d200]
    rfl
  have O : o141 (rowL nr7) 200 = (drkF 200 (rowL nr7), some (itF 1 200 (rowL nr7))) := by
    unfold o141
    rw [if_pos (by decide), if_neg (by decide +kernel)]
    rfl
  rw [O, E, K]
  decide +kernel
