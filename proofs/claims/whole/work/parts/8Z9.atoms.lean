/-! WORDS ABOUT THE THROW -/
def xIOB : String := "java/lang/IndexOutOfBoundsException"
def xNms : List String := ["java/lang/RuntimeException", "java/lang/Exception"]
def xR1 : Cond := .isRef (.static Bundle.tN "UNASSIGNED_STACK" Bundle.steD)
def xR2 : Cond := .isRef (.static Bundle.tN "SUPPRESSED_SENTINEL" Bundle.listD)
theorem own_in : ∀ a ∈ Bundle.ownAtoms "LevelFlow" 184 xIOB xNms, (a ∈ lw_tbl ∧ goodWord a = true) ∨ a = xR1 ∨ a = xR2 ∨ a = .castable xIOB xIOB := by decide +kernel
theorem mem_Ts {w : Cond} (h : w ∈ lw_tbl) (h2 : goodWord w = true) : w ∈ xmTs := List.mem_filter.mpr ⟨h, h2⟩
def yO : MethodName := ⟨"LevelFlowLaw", "outputAt", "(LLevelFlow;I[J)I"⟩
def yI : MethodName := ⟨"LevelFlowLaw", "inputAt", "(LLevelFlow;IZ[J)I"⟩
theorem w_codeO : Cond.codeWith yO method_3_code 4 (some .int) [(0, 9, 12, 13)] ∈ xmTs := mem_Ts (by decide +kernel) (by decide +kernel)
theorem w_codeI : Cond.codeWith yI method_4_code 5 (some .int) [(0, 10, 13, 13)] ∈ xmTs := mem_Ts (by decide +kernel) (by decide +kernel)
theorem w_new1 : Cond.classLink "LevelFlow" 180 xIOB ∈ xmTs := mem_Ts (by decide +kernel) (by decide +kernel)
theorem w_new2 : Cond.instantiable xIOB 6 ∈ xmTs := mem_Ts (by decide +kernel) (by decide +kernel)
theorem w_new3 : Cond.initialized xIOB ∈ xmTs := mem_Ts (by decide +kernel) (by decide +kernel)
theorem w_cast : Cond.castable xIOB xIOB ∈ lw_tbl := by decide +kernel
theorem w_cl13 : Cond.classLink "LevelFlowLaw" 13 xIOB ∈ xmTs := mem_Ts (by decide +kernel) (by decide +kernel)
theorem w_lnkO : Cond.methodLink "LevelFlowLaw" 60 yO ∈ xmTs := mem_Ts (by decide +kernel) (by decide +kernel)
theorem w_lnkI : Cond.methodLink "LevelFlowLaw" 69 yI ∈ xmTs := mem_Ts (by decide +kernel) (by decide +kernel)
theorem w_stO : Cond.static yO ∈ xmTs := mem_Ts (by decide +kernel) (by decide +kernel)
theorem w_stI : Cond.static yI ∈ xmTs := mem_Ts (by decide +kernel) (by decide +kernel)
theorem w_iniL : Cond.initialized "LevelFlowLaw" ∈ xmTs := mem_Ts (by decide +kernel) (by decide +kernel)
theorem w_lnk7 : Cond.methodLink "LevelFlowLaw" 7 (xmY 145) ∈ xmTs := mem_Ts (by decide +kernel) (by decide +kernel)
theorem w_lnk15 : Cond.methodLink "LevelFlowLaw" 15 (xmY 147) ∈ xmTs := mem_Ts (by decide +kernel) (by decide +kernel)
