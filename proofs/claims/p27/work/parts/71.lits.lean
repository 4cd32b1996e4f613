theorem li_44 : (44 : Int32).toInt = 44 := by decide +kernel
theorem li_55 : (55 : Int32).toInt = 55 := by decide +kernel
theorem li_174 : (174 : Int32).toInt = 174 := by decide +kernel
theorem li_255 : (255 : Int32).toInt = 255 := by decide +kernel
theorem li_546 : (546 : Int32).toInt = 546 := by decide +kernel
theorem li_720 : (720 : Int32).toInt = 720 := by decide +kernel

theorem ixl_0 : ix 0 = 0 := rfl
theorem ixl_1 : ix 1 = 1 := rfl
theorem ixl_2 : ix 2 = 2 := rfl
theorem ixl_3 : ix 3 = 3 := rfl
theorem ixl_4 : ix 4 = 4 := rfl
theorem ixl_5 : ix 5 = 5 := rfl
theorem ixl_6 : ix 6 = 6 := rfl
theorem ixl_7 : ix 7 = 7 := rfl
theorem ixl_8 : ix 8 = 8 := rfl
theorem ixl_9 : ix 9 = 9 := rfl
theorem ixl_10 : ix 10 = 10 := rfl
theorem tm_2 {x : Int32} (h1 : -1073741823 ≤ x.toInt) (h2 : x.toInt ≤ 1073741823) : ((2 : Int32) * x).toInt = 2 * x.toInt := by
  rw [Int32.toInt_mul, show (2 : Int32).toInt = 2 by decide +kernel]
  exact Int.bmod_eq_of_le (by omega) (by omega)
theorem tm_3 {x : Int32} (h1 : -715827882 ≤ x.toInt) (h2 : x.toInt ≤ 715827882) : ((3 : Int32) * x).toInt = 3 * x.toInt := by
  rw [Int32.toInt_mul, show (3 : Int32).toInt = 3 by decide +kernel]
  exact Int.bmod_eq_of_le (by omega) (by omega)
theorem tm_10 {x : Int32} (h1 : -214748364 ≤ x.toInt) (h2 : x.toInt ≤ 214748364) : ((10 : Int32) * x).toInt = 10 * x.toInt := by
  rw [Int32.toInt_mul, show (10 : Int32).toInt = 10 by decide +kernel]
  exact Int.bmod_eq_of_le (by omega) (by omega)
theorem tm_14 {x : Int32} (h1 : -153391689 ≤ x.toInt) (h2 : x.toInt ≤ 153391689) : ((14 : Int32) * x).toInt = 14 * x.toInt := by
  rw [Int32.toInt_mul, show (14 : Int32).toInt = 14 by decide +kernel]
  exact Int.bmod_eq_of_le (by omega) (by omega)
theorem tm_680 {x : Int32} (h1 : -3158064 ≤ x.toInt) (h2 : x.toInt ≤ 3158064) : ((680 : Int32) * x).toInt = 680 * x.toInt := by
  rw [Int32.toInt_mul, show (680 : Int32).toInt = 680 by decide +kernel]
  exact Int.bmod_eq_of_le (by omega) (by omega)
