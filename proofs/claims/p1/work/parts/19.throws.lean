def zNm : List String := ["java/lang/RuntimeException", "java/lang/Exception"]
theorem zNm_fit : ∀ q ∈ zNm, Bundle.fit q = true := by decide +kernel
theorem ini_e1 : Cond.initialized "java/lang/IllegalArgumentException" ∈ zTb := zt1 11 (by decide +kernel) rfl
theorem ini_e2 : Cond.initialized "java/lang/IllegalStateException" ∈ zTb := zt1 16 (by decide +kernel) rfl
theorem ini_e3 : Cond.initialized "java/lang/IndexOutOfBoundsException" ∈ zTb := zt1 22 (by decide +kernel) rfl
theorem ini_e4 : Cond.initialized "java/lang/ArithmeticException" ∈ zTb := zt1 20 (by decide +kernel) rfl
theorem ini_e5 : Cond.initialized "java/lang/UnsupportedOperationException" ∈ zTb := zt1 19 (by decide +kernel) rfl
theorem at_S_89a : ∀ w ∈ vx_atS "SoleArrays" 89 "java/lang/IllegalArgumentException" zNm, w ∈ lw_tbl := by decide +kernel
theorem at_S_89b : ∀ w ∈ vx_atS "SoleArrays" 89 "java/lang/IllegalArgumentException" zNm, zOk w = true := by decide +kernel
theorem at_S_89 : ∀ w ∈ vx_atS "SoleArrays" 89 "java/lang/IllegalArgumentException" zNm, w ∈ zTb := fun w h => List.mem_filter.mpr ⟨at_S_89a w h, at_S_89b w h⟩
theorem cl_S_85 : Cond.classLink "SoleArrays" 85 "java/lang/IllegalArgumentException" ∈ zTb := zt3 182 (by decide +kernel) rfl
theorem at_T_19a : ∀ w ∈ vx_atS "SoleArrays$Fault" 19 "java/lang/IllegalArgumentException" zNm, w ∈ lw_tbl := by decide +kernel
theorem at_T_19b : ∀ w ∈ vx_atS "SoleArrays$Fault" 19 "java/lang/IllegalArgumentException" zNm, zOk w = true := by decide +kernel
theorem at_T_19 : ∀ w ∈ vx_atS "SoleArrays$Fault" 19 "java/lang/IllegalArgumentException" zNm, w ∈ zTb := fun w h => List.mem_filter.mpr ⟨at_T_19a w h, at_T_19b w h⟩
theorem cl_T_15 : Cond.classLink "SoleArrays$Fault" 15 "java/lang/IllegalArgumentException" ∈ zTb := zt2 70 (by decide +kernel) rfl
theorem at_T_26a : ∀ w ∈ vx_atS "SoleArrays$Fault" 26 "java/lang/IllegalStateException" zNm, w ∈ lw_tbl := by decide +kernel
theorem at_T_26b : ∀ w ∈ vx_atS "SoleArrays$Fault" 26 "java/lang/IllegalStateException" zNm, zOk w = true := by decide +kernel
theorem at_T_26 : ∀ w ∈ vx_atS "SoleArrays$Fault" 26 "java/lang/IllegalStateException" zNm, w ∈ zTb := fun w h => List.mem_filter.mpr ⟨at_T_26a w h, at_T_26b w h⟩
theorem cl_T_22 : Cond.classLink "SoleArrays$Fault" 22 "java/lang/IllegalStateException" ∈ zTb := zt3 88 (by decide +kernel) rfl
theorem at_O_41a : ∀ w ∈ vx_atS "SoleArrays$Store" 41 "java/lang/IllegalStateException" zNm, w ∈ lw_tbl := by decide +kernel
theorem at_O_41b : ∀ w ∈ vx_atS "SoleArrays$Store" 41 "java/lang/IllegalStateException" zNm, zOk w = true := by decide +kernel
theorem at_O_41 : ∀ w ∈ vx_atS "SoleArrays$Store" 41 "java/lang/IllegalStateException" zNm, w ∈ zTb := fun w h => List.mem_filter.mpr ⟨at_O_41a w h, at_O_41b w h⟩
theorem cl_O_37 : Cond.classLink "SoleArrays$Store" 37 "java/lang/IllegalStateException" ∈ zTb := zt4 1 (by decide +kernel) rfl
theorem at_O_50a : ∀ w ∈ vx_atS "SoleArrays$Store" 50 "java/lang/UnsupportedOperationException" zNm, w ∈ lw_tbl := by decide +kernel
theorem at_O_50b : ∀ w ∈ vx_atS "SoleArrays$Store" 50 "java/lang/UnsupportedOperationException" zNm, zOk w = true := by decide +kernel
theorem at_O_50 : ∀ w ∈ vx_atS "SoleArrays$Store" 50 "java/lang/UnsupportedOperationException" zNm, w ∈ zTb := fun w h => List.mem_filter.mpr ⟨at_O_50a w h, at_O_50b w h⟩
theorem cl_O_46 : Cond.classLink "SoleArrays$Store" 46 "java/lang/UnsupportedOperationException" ∈ zTb := zt4 5 (by decide +kernel) rfl
theorem at_O_91a : ∀ w ∈ vx_atS "SoleArrays$Store" 91 "java/lang/IndexOutOfBoundsException" zNm, w ∈ lw_tbl := by decide +kernel
theorem at_O_91b : ∀ w ∈ vx_atS "SoleArrays$Store" 91 "java/lang/IndexOutOfBoundsException" zNm, zOk w = true := by decide +kernel
theorem at_O_91 : ∀ w ∈ vx_atS "SoleArrays$Store" 91 "java/lang/IndexOutOfBoundsException" zNm, w ∈ zTb := fun w h => List.mem_filter.mpr ⟨at_O_91a w h, at_O_91b w h⟩
theorem cl_O_87 : Cond.classLink "SoleArrays$Store" 87 "java/lang/IndexOutOfBoundsException" ∈ zTb := zt1 190 (by decide +kernel) rfl
theorem at_U_57a : ∀ w ∈ vx_atS "SoleArrays$Runner" 57 "java/lang/UnsupportedOperationException" zNm, w ∈ lw_tbl := by decide +kernel
theorem at_U_57b : ∀ w ∈ vx_atS "SoleArrays$Runner" 57 "java/lang/UnsupportedOperationException" zNm, zOk w = true := by decide +kernel
theorem at_U_57 : ∀ w ∈ vx_atS "SoleArrays$Runner" 57 "java/lang/UnsupportedOperationException" zNm, w ∈ zTb := fun w h => List.mem_filter.mpr ⟨at_U_57a w h, at_U_57b w h⟩
theorem cl_U_53 : Cond.classLink "SoleArrays$Runner" 53 "java/lang/UnsupportedOperationException" ∈ zTb := zt3 197 (by decide +kernel) rfl
theorem at_U_135a : ∀ w ∈ vx_atS "SoleArrays$Runner" 135 "java/lang/ArithmeticException" zNm, w ∈ lw_tbl := by decide +kernel
theorem at_U_135b : ∀ w ∈ vx_atS "SoleArrays$Runner" 135 "java/lang/ArithmeticException" zNm, zOk w = true := by decide +kernel
theorem at_U_135 : ∀ w ∈ vx_atS "SoleArrays$Runner" 135 "java/lang/ArithmeticException" zNm, w ∈ zTb := fun w h => List.mem_filter.mpr ⟨at_U_135a w h, at_U_135b w h⟩
theorem cl_U_131 : Cond.classLink "SoleArrays$Runner" 131 "java/lang/ArithmeticException" ∈ zTb := zt3 221 (by decide +kernel) rfl
