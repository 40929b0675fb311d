theorem wq_89 : Cond.initialized "java/lang/System" ∈ gtb := List.mem_filter.mpr ⟨List.mem_of_getElem? (i := 89) (by decide +kernel), rfl⟩
theorem wq_121 : Cond.methodLink "ForgeScheduler$Forge" 45 ⟨"java/lang/System", "arraycopy", "(Ljava/lang/Object;ILjava/lang/Object;II)V"⟩ ∈ gtb := List.mem_filter.mpr ⟨List.mem_of_getElem? (i := 121) (by decide +kernel), rfl⟩
theorem wq_122 : Cond.static ⟨"java/lang/System", "arraycopy", "(Ljava/lang/Object;ILjava/lang/Object;II)V"⟩ ∈ gtb := List.mem_filter.mpr ⟨List.mem_of_getElem? (i := 122) (by decide +kernel), rfl⟩
theorem wq_123 : Cond.native ⟨"java/lang/System", "arraycopy", "(Ljava/lang/Object;ILjava/lang/Object;II)V"⟩ ∈ gtb := List.mem_filter.mpr ⟨List.mem_of_getElem? (i := 123) (by decide +kernel), rfl⟩
theorem wq_124 : Cond.fieldLink "ForgeScheduler$Forge" 51 "ForgeScheduler$Forge" "irons" "I" ∈ gtb := List.mem_filter.mpr ⟨List.mem_of_getElem? (i := 124) (by decide +kernel), rfl⟩
theorem wq_130 : Cond.fieldLink "ForgeScheduler$Forge" 55 "ForgeScheduler$Forge" "places" "I" ∈ gtb := List.mem_filter.mpr ⟨List.mem_of_getElem? (i := 130) (by decide +kernel), rfl⟩
theorem wq_134 : Cond.fieldLink "ForgeScheduler$Forge" 9 "ForgeScheduler$Forge" "names" "[I" ∈ gtb := List.mem_filter.mpr ⟨List.mem_of_getElem? (i := 134) (by decide +kernel), rfl⟩
theorem wq_135 : Cond.fieldLink "ForgeScheduler$Forge" 15 "ForgeScheduler$Forge" "masses" "[I" ∈ gtb := List.mem_filter.mpr ⟨List.mem_of_getElem? (i := 135) (by decide +kernel), rfl⟩
theorem wq_138 : Cond.fieldLink "ForgeScheduler$Forge" 18 "ForgeScheduler$Forge" "coolings" "[I" ∈ gtb := List.mem_filter.mpr ⟨List.mem_of_getElem? (i := 138) (by decide +kernel), rfl⟩
theorem wq_141 : Cond.fieldLink "ForgeScheduler$Forge" 21 "ForgeScheduler$Forge" "steps" "[I" ∈ gtb := List.mem_filter.mpr ⟨List.mem_of_getElem? (i := 141) (by decide +kernel), rfl⟩
theorem wq_145 : Cond.fieldLink "ForgeScheduler$Forge" 24 "ForgeScheduler$Forge" "heatsOfSteps" "[I" ∈ gtb := List.mem_filter.mpr ⟨List.mem_of_getElem? (i := 145) (by decide +kernel), rfl⟩
theorem wq_147 : Cond.fieldLink "ForgeScheduler$Forge" 27 "ForgeScheduler$Forge" "minutesOfSteps" "[I" ∈ gtb := List.mem_filter.mpr ⟨List.mem_of_getElem? (i := 147) (by decide +kernel), rfl⟩
theorem wq_149 : Cond.fieldLink "ForgeScheduler$Forge" 30 "ForgeScheduler$Forge" "rates" "[I" ∈ gtb := List.mem_filter.mpr ⟨List.mem_of_getElem? (i := 149) (by decide +kernel), rfl⟩
theorem wq_152 : Cond.fieldLink "ForgeScheduler$Forge" 33 "ForgeScheduler$Forge" "limits" "[I" ∈ gtb := List.mem_filter.mpr ⟨List.mem_of_getElem? (i := 152) (by decide +kernel), rfl⟩
theorem wq_155 : Cond.fieldLink "ForgeScheduler$Forge" 36 "ForgeScheduler$Forge" "settings" "[I" ∈ gtb := List.mem_filter.mpr ⟨List.mem_of_getElem? (i := 155) (by decide +kernel), rfl⟩
theorem wq_160 : Cond.fieldLink "ForgeScheduler$Forge" 39 "ForgeScheduler$Forge" "order" "[I" ∈ gtb := List.mem_filter.mpr ⟨List.mem_of_getElem? (i := 160) (by decide +kernel), rfl⟩
theorem wc_max : Cond.code Lib.Math.max.name Lib.Math.max.code 2 (some .int) ∈ gtb := by decide +kernel
theorem wc_min : Cond.code Lib.Math.min.name Lib.Math.min.code 2 (some .int) ∈ gtb := by decide +kernel
