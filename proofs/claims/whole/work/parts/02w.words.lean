theorem inGX0 : ∀ w ∈ wsX00, w ∈ gtb := by decide +kernel
theorem inGX1 : ∀ w ∈ wsX10, w ∈ gtb := by decide +kernel
theorem inGX2 : ∀ w ∈ wsX20, w ∈ gtb := by decide +kernel
theorem inGX3 : ∀ w ∈ wsX30, w ∈ gtb := by decide +kernel
theorem inGX4 : ∀ w ∈ wsX40, w ∈ gtb := by decide +kernel
theorem inGX5 : ∀ w ∈ wsX50, w ∈ gtb := by decide +kernel
theorem inGX6 : ∀ w ∈ wsX60, w ∈ gtb := by decide +kernel
theorem inGX7 : ∀ w ∈ wsX70, w ∈ gtb := by decide +kernel
theorem wq_0 : Cond.selects "ForgeScheduler$Reader" ⟨"ForgeScheduler$Reader", "beginText", "(I)V"⟩ ⟨"ForgeScheduler$Reader", "beginText", "(I)V"⟩ ∈ gtb := List.mem_filter.mpr ⟨List.mem_of_getElem? (i := 0) (by decide +kernel), rfl⟩
theorem wq_1 : Cond.selects "ForgeScheduler$Reader" ⟨"ForgeScheduler$Reader", "nextToken", "()V"⟩ ⟨"ForgeScheduler$Reader", "nextToken", "()V"⟩ ∈ gtb := List.mem_filter.mpr ⟨List.mem_of_getElem? (i := 1) (by decide +kernel), rfl⟩
theorem wq_2 : Cond.selects "ForgeScheduler$Reader" ⟨"ForgeScheduler$Reader", "takeWord", "()V"⟩ ⟨"ForgeScheduler$Reader", "takeWord", "()V"⟩ ∈ gtb := List.mem_filter.mpr ⟨List.mem_of_getElem? (i := 2) (by decide +kernel), rfl⟩
theorem wq_3 : Cond.selects "ForgeScheduler$Reader" ⟨"ForgeScheduler$Reader", "takeNumber", "()V"⟩ ⟨"ForgeScheduler$Reader", "takeNumber", "()V"⟩ ∈ gtb := List.mem_filter.mpr ⟨List.mem_of_getElem? (i := 3) (by decide +kernel), rfl⟩
theorem wq_4 : Cond.selects "ForgeScheduler$Reader" ⟨"ForgeScheduler$Reader", "readStatement", "()Z"⟩ ⟨"ForgeScheduler$Reader", "readStatement", "()Z"⟩ ∈ gtb := List.mem_filter.mpr ⟨List.mem_of_getElem? (i := 4) (by decide +kernel), rfl⟩
theorem wq_5 : Cond.selects "ForgeScheduler$Reader" ⟨"ForgeScheduler$Reader", "fail", "(I)Z"⟩ ⟨"ForgeScheduler$Reader", "fail", "(I)Z"⟩ ∈ gtb := List.mem_filter.mpr ⟨List.mem_of_getElem? (i := 5) (by decide +kernel), rfl⟩
theorem wq_6 : Cond.selects "ForgeScheduler$Reader" ⟨"ForgeScheduler$Reader", "readIron", "()Z"⟩ ⟨"ForgeScheduler$Reader", "readIron", "()Z"⟩ ∈ gtb := List.mem_filter.mpr ⟨List.mem_of_getElem? (i := 6) (by decide +kernel), rfl⟩
theorem wq_7 : Cond.selects "ForgeScheduler$Reader" ⟨"ForgeScheduler$Reader", "readName", "()Z"⟩ ⟨"ForgeScheduler$Reader", "readName", "()Z"⟩ ∈ gtb := List.mem_filter.mpr ⟨List.mem_of_getElem? (i := 7) (by decide +kernel), rfl⟩
theorem wq_8 : Cond.selects "ForgeScheduler$Reader" ⟨"ForgeScheduler$Reader", "readNumber", "(II)Z"⟩ ⟨"ForgeScheduler$Reader", "readNumber", "(II)Z"⟩ ∈ gtb := List.mem_filter.mpr ⟨List.mem_of_getElem? (i := 8) (by decide +kernel), rfl⟩
theorem wq_9 : Cond.selects "ForgeScheduler$Reader" ⟨"ForgeScheduler$Reader", "readStep", "()Z"⟩ ⟨"ForgeScheduler$Reader", "readStep", "()Z"⟩ ∈ gtb := List.mem_filter.mpr ⟨List.mem_of_getElem? (i := 9) (by decide +kernel), rfl⟩
theorem wq_10 : Cond.selects "ForgeScheduler$Reader" ⟨"ForgeScheduler$Reader", "readPlace", "()Z"⟩ ⟨"ForgeScheduler$Reader", "readPlace", "()Z"⟩ ∈ gtb := List.mem_filter.mpr ⟨List.mem_of_getElem? (i := 10) (by decide +kernel), rfl⟩
theorem wq_11 : Cond.selects "ForgeScheduler$Reader" ⟨"ForgeScheduler$Reader", "readSetting", "()Z"⟩ ⟨"ForgeScheduler$Reader", "readSetting", "()Z"⟩ ∈ gtb := List.mem_filter.mpr ⟨List.mem_of_getElem? (i := 11) (by decide +kernel), rfl⟩
theorem wq_12 : Cond.selects "ForgeScheduler$Reader" ⟨"ForgeScheduler$Reader", "readSemicolon", "()Z"⟩ ⟨"ForgeScheduler$Reader", "readSemicolon", "()Z"⟩ ∈ gtb := List.mem_filter.mpr ⟨List.mem_of_getElem? (i := 12) (by decide +kernel), rfl⟩
theorem wq_13 : Cond.selects "ForgeScheduler" ⟨"ForgeScheduler", "forgetResults", "()V"⟩ ⟨"ForgeScheduler", "forgetResults", "()V"⟩ ∈ gtb := List.mem_filter.mpr ⟨List.mem_of_getElem? (i := 13) (by decide +kernel), rfl⟩
theorem wq_14 : Cond.selects "ForgeScheduler" ⟨"ForgeScheduler", "presentLog", "()LForgeScheduler$Log;"⟩ ⟨"ForgeScheduler", "presentLog", "()LForgeScheduler$Log;"⟩ ∈ gtb := List.mem_filter.mpr ⟨List.mem_of_getElem? (i := 14) (by decide +kernel), rfl⟩
theorem wq_15 : Cond.selects "ForgeScheduler$Run" ⟨"ForgeScheduler$Run", "beginIron", "(I)V"⟩ ⟨"ForgeScheduler$Run", "beginIron", "(I)V"⟩ ∈ gtb := List.mem_filter.mpr ⟨List.mem_of_getElem? (i := 15) (by decide +kernel), rfl⟩
theorem wq_16 : Cond.selects "ForgeScheduler$Run" ⟨"ForgeScheduler$Run", "isFinished", "(I)Z"⟩ ⟨"ForgeScheduler$Run", "isFinished", "(I)Z"⟩ ∈ gtb := List.mem_filter.mpr ⟨List.mem_of_getElem? (i := 16) (by decide +kernel), rfl⟩
theorem wq_17 : Cond.selects "ForgeScheduler$Run" ⟨"ForgeScheduler$Run", "beginStep", "(I)V"⟩ ⟨"ForgeScheduler$Run", "beginStep", "(I)V"⟩ ∈ gtb := List.mem_filter.mpr ⟨List.mem_of_getElem? (i := 17) (by decide +kernel), rfl⟩
theorem wq_18 : Cond.selects "ForgeScheduler$Log" ⟨"ForgeScheduler$Log", "writeState", "(I)V"⟩ ⟨"ForgeScheduler$Log", "writeState", "(I)V"⟩ ∈ gtb := List.mem_filter.mpr ⟨List.mem_of_getElem? (i := 18) (by decide +kernel), rfl⟩
theorem wq_19 : Cond.selects "ForgeScheduler$Run" ⟨"ForgeScheduler$Run", "putOnRack", "(II)V"⟩ ⟨"ForgeScheduler$Run", "putOnRack", "(II)V"⟩ ∈ gtb := List.mem_filter.mpr ⟨List.mem_of_getElem? (i := 19) (by decide +kernel), rfl⟩
theorem wq_20 : Cond.selects "ForgeScheduler$Run" ⟨"ForgeScheduler$Run", "chooseReady", "()I"⟩ ⟨"ForgeScheduler$Run", "chooseReady", "()I"⟩ ∈ gtb := List.mem_filter.mpr ⟨List.mem_of_getElem? (i := 20) (by decide +kernel), rfl⟩
theorem wq_21 : Cond.selects "ForgeScheduler$Run" ⟨"ForgeScheduler$Run", "isReady", "(I)Z"⟩ ⟨"ForgeScheduler$Run", "isReady", "(I)Z"⟩ ∈ gtb := List.mem_filter.mpr ⟨List.mem_of_getElem? (i := 21) (by decide +kernel), rfl⟩
theorem wq_22 : Cond.selects "ForgeScheduler$Run" ⟨"ForgeScheduler$Run", "goesBefore", "(II)Z"⟩ ⟨"ForgeScheduler$Run", "goesBefore", "(II)Z"⟩ ∈ gtb := List.mem_filter.mpr ⟨List.mem_of_getElem? (i := 22) (by decide +kernel), rfl⟩
theorem wq_23 : Cond.selects "ForgeScheduler$Run" ⟨"ForgeScheduler$Run", "isInFire", "(I)Z"⟩ ⟨"ForgeScheduler$Run", "isInFire", "(I)Z"⟩ ∈ gtb := List.mem_filter.mpr ⟨List.mem_of_getElem? (i := 23) (by decide +kernel), rfl⟩
theorem wq_24 : Cond.selects "ForgeScheduler$Run" ⟨"ForgeScheduler$Run", "firstWaiting", "()I"⟩ ⟨"ForgeScheduler$Run", "firstWaiting", "()I"⟩ ∈ gtb := List.mem_filter.mpr ⟨List.mem_of_getElem? (i := 24) (by decide +kernel), rfl⟩
theorem wq_25 : Cond.selects "ForgeScheduler$Log" ⟨"ForgeScheduler$Log", "writeSpots", "(I)V"⟩ ⟨"ForgeScheduler$Log", "writeSpots", "(I)V"⟩ ∈ gtb := List.mem_filter.mpr ⟨List.mem_of_getElem? (i := 25) (by decide +kernel), rfl⟩
theorem wq_26 : Cond.selects "ForgeScheduler$Run" ⟨"ForgeScheduler$Run", "warmed", "(II)I"⟩ ⟨"ForgeScheduler$Run", "warmed", "(II)I"⟩ ∈ gtb := List.mem_filter.mpr ⟨List.mem_of_getElem? (i := 26) (by decide +kernel), rfl⟩
theorem wq_27 : Cond.selects "ForgeScheduler$Run" ⟨"ForgeScheduler$Run", "cooled", "(I)I"⟩ ⟨"ForgeScheduler$Run", "cooled", "(I)I"⟩ ∈ gtb := List.mem_filter.mpr ⟨List.mem_of_getElem? (i := 27) (by decide +kernel), rfl⟩
theorem wq_28 : Cond.selects "ForgeScheduler$Run" ⟨"ForgeScheduler$Run", "work", "(II)V"⟩ ⟨"ForgeScheduler$Run", "work", "(II)V"⟩ ∈ gtb := List.mem_filter.mpr ⟨List.mem_of_getElem? (i := 28) (by decide +kernel), rfl⟩
theorem wq_29 : Cond.selects "ForgeScheduler" ⟨"ForgeScheduler", "presentBest", "()LForgeScheduler$BestOrder;"⟩ ⟨"ForgeScheduler", "presentBest", "()LForgeScheduler$BestOrder;"⟩ ∈ gtb := List.mem_filter.mpr ⟨List.mem_of_getElem? (i := 29) (by decide +kernel), rfl⟩
theorem wq_30 : Cond.selects "ForgeScheduler$BestOrder" ⟨"ForgeScheduler$BestOrder", "take", "(LForgeScheduler$Forge;I)V"⟩ ⟨"ForgeScheduler$BestOrder", "take", "(LForgeScheduler$Forge;I)V"⟩ ∈ gtb := List.mem_filter.mpr ⟨List.mem_of_getElem? (i := 30) (by decide +kernel), rfl⟩
theorem wq_31 : Cond.selects "ForgeScheduler$BestOrder" ⟨"ForgeScheduler$BestOrder", "advance", "(LForgeScheduler$Forge;)Z"⟩ ⟨"ForgeScheduler$BestOrder", "advance", "(LForgeScheduler$Forge;)Z"⟩ ∈ gtb := List.mem_filter.mpr ⟨List.mem_of_getElem? (i := 31) (by decide +kernel), rfl⟩
theorem wq_32 : Cond.selects "ForgeScheduler" ⟨"ForgeScheduler", "finishWithSetting", "(II)I"⟩ ⟨"ForgeScheduler", "finishWithSetting", "(II)I"⟩ ∈ gtb := List.mem_filter.mpr ⟨List.mem_of_getElem? (i := 32) (by decide +kernel), rfl⟩
theorem wq_33 : Cond.selects "ForgeScheduler" ⟨"ForgeScheduler", "bestValue", "(II)I"⟩ ⟨"ForgeScheduler", "bestValue", "(II)I"⟩ ∈ gtb := List.mem_filter.mpr ⟨List.mem_of_getElem? (i := 33) (by decide +kernel), rfl⟩
theorem wq_35 : Cond.selects "ForgeScheduler" ⟨"ForgeScheduler", "isIron", "(I)Z"⟩ ⟨"ForgeScheduler", "isIron", "(I)Z"⟩ ∈ gtb := List.mem_filter.mpr ⟨List.mem_of_getElem? (i := 35) (by decide +kernel), rfl⟩
theorem wq_36 : Cond.selects "ForgeScheduler" ⟨"ForgeScheduler", "isPlace", "(I)Z"⟩ ⟨"ForgeScheduler", "isPlace", "(I)Z"⟩ ∈ gtb := List.mem_filter.mpr ⟨List.mem_of_getElem? (i := 36) (by decide +kernel), rfl⟩
theorem wq_37 : Cond.selects "ForgeScheduler$Log" ⟨"ForgeScheduler$Log", "anvilsUsed", "(I)I"⟩ ⟨"ForgeScheduler$Log", "anvilsUsed", "(I)I"⟩ ∈ gtb := List.mem_filter.mpr ⟨List.mem_of_getElem? (i := 37) (by decide +kernel), rfl⟩
theorem wq_38 : Cond.selects "ForgeScheduler" ⟨"ForgeScheduler", "finishOfOthers", "(I)I"⟩ ⟨"ForgeScheduler", "finishOfOthers", "(I)I"⟩ ∈ gtb := List.mem_filter.mpr ⟨List.mem_of_getElem? (i := 38) (by decide +kernel), rfl⟩
theorem wq_39 : Cond.selects "ForgeScheduler" ⟨"ForgeScheduler", "requireIron", "(I)V"⟩ ⟨"ForgeScheduler", "requireIron", "(I)V"⟩ ∈ gtb := List.mem_filter.mpr ⟨List.mem_of_getElem? (i := 39) (by decide +kernel), rfl⟩
theorem wq_41 : Cond.selects "ForgeScheduler" ⟨"ForgeScheduler", "requireStep", "(II)V"⟩ ⟨"ForgeScheduler", "requireStep", "(II)V"⟩ ∈ gtb := List.mem_filter.mpr ⟨List.mem_of_getElem? (i := 41) (by decide +kernel), rfl⟩
theorem wq_42 : Cond.selects "ForgeScheduler" ⟨"ForgeScheduler", "requirePlace", "(I)V"⟩ ⟨"ForgeScheduler", "requirePlace", "(I)V"⟩ ∈ gtb := List.mem_filter.mpr ⟨List.mem_of_getElem? (i := 42) (by decide +kernel), rfl⟩
theorem wq_43 : Cond.selects "ForgeScheduler" ⟨"ForgeScheduler", "requireAnvil", "(I)V"⟩ ⟨"ForgeScheduler", "requireAnvil", "(I)V"⟩ ∈ gtb := List.mem_filter.mpr ⟨List.mem_of_getElem? (i := 43) (by decide +kernel), rfl⟩
theorem wq_44 : Cond.selects "ForgeSchedulerModel" ⟨"ForgeSchedulerModel", "newForge", "()V"⟩ ⟨"ForgeSchedulerModel", "newForge", "()V"⟩ ∈ gtb := List.mem_filter.mpr ⟨List.mem_of_getElem? (i := 44) (by decide +kernel), rfl⟩
theorem wq_45 : Cond.selects "ForgeSchedulerModel" ⟨"ForgeSchedulerModel", "takes", "()V"⟩ ⟨"ForgeSchedulerModel", "takes", "()V"⟩ ∈ gtb := List.mem_filter.mpr ⟨List.mem_of_getElem? (i := 45) (by decide +kernel), rfl⟩
theorem wq_46 : Cond.selects "ForgeSchedulerModel" ⟨"ForgeSchedulerModel", "next", "()V"⟩ ⟨"ForgeSchedulerModel", "next", "()V"⟩ ∈ gtb := List.mem_filter.mpr ⟨List.mem_of_getElem? (i := 46) (by decide +kernel), rfl⟩
theorem wq_47 : Cond.selects "ForgeSchedulerModel" ⟨"ForgeSchedulerModel", "here", "()I"⟩ ⟨"ForgeSchedulerModel", "here", "()I"⟩ ∈ gtb := List.mem_filter.mpr ⟨List.mem_of_getElem? (i := 47) (by decide +kernel), rfl⟩
theorem wq_48 : Cond.selects "ForgeSchedulerModel" ⟨"ForgeSchedulerModel", "wordHere", "()I"⟩ ⟨"ForgeSchedulerModel", "wordHere", "()I"⟩ ∈ gtb := List.mem_filter.mpr ⟨List.mem_of_getElem? (i := 48) (by decide +kernel), rfl⟩
theorem wq_49 : Cond.selects "ForgeSchedulerModel" ⟨"ForgeSchedulerModel", "readStatement", "()V"⟩ ⟨"ForgeSchedulerModel", "readStatement", "()V"⟩ ∈ gtb := List.mem_filter.mpr ⟨List.mem_of_getElem? (i := 49) (by decide +kernel), rfl⟩
theorem wq_50 : Cond.selects "ForgeSchedulerModel" ⟨"ForgeSchedulerModel", "readIron", "()V"⟩ ⟨"ForgeSchedulerModel", "readIron", "()V"⟩ ∈ gtb := List.mem_filter.mpr ⟨List.mem_of_getElem? (i := 50) (by decide +kernel), rfl⟩
theorem wq_51 : Cond.selects "ForgeSchedulerModel" ⟨"ForgeSchedulerModel", "failsIf", "(ZI)V"⟩ ⟨"ForgeSchedulerModel", "failsIf", "(ZI)V"⟩ ∈ gtb := List.mem_filter.mpr ⟨List.mem_of_getElem? (i := 51) (by decide +kernel), rfl⟩
theorem wq_52 : Cond.selects "ForgeSchedulerModel" ⟨"ForgeSchedulerModel", "goOn", "()V"⟩ ⟨"ForgeSchedulerModel", "goOn", "()V"⟩ ∈ gtb := List.mem_filter.mpr ⟨List.mem_of_getElem? (i := 52) (by decide +kernel), rfl⟩
theorem wq_53 : Cond.selects "ForgeSchedulerModel" ⟨"ForgeSchedulerModel", "seesName", "()V"⟩ ⟨"ForgeSchedulerModel", "seesName", "()V"⟩ ∈ gtb := List.mem_filter.mpr ⟨List.mem_of_getElem? (i := 53) (by decide +kernel), rfl⟩
theorem wq_54 : Cond.selects "ForgeSchedulerModel" ⟨"ForgeSchedulerModel", "integer", "(II)I"⟩ ⟨"ForgeSchedulerModel", "integer", "(II)I"⟩ ∈ gtb := List.mem_filter.mpr ⟨List.mem_of_getElem? (i := 54) (by decide +kernel), rfl⟩
theorem wq_55 : Cond.selects "ForgeSchedulerModel" ⟨"ForgeSchedulerModel", "readStep", "()V"⟩ ⟨"ForgeSchedulerModel", "readStep", "()V"⟩ ∈ gtb := List.mem_filter.mpr ⟨List.mem_of_getElem? (i := 55) (by decide +kernel), rfl⟩
theorem wq_56 : Cond.selects "ForgeSchedulerModel" ⟨"ForgeSchedulerModel", "readPlace", "()V"⟩ ⟨"ForgeSchedulerModel", "readPlace", "()V"⟩ ∈ gtb := List.mem_filter.mpr ⟨List.mem_of_getElem? (i := 56) (by decide +kernel), rfl⟩
theorem wq_57 : Cond.selects "ForgeSchedulerModel" ⟨"ForgeSchedulerModel", "readSet", "()V"⟩ ⟨"ForgeSchedulerModel", "readSet", "()V"⟩ ∈ gtb := List.mem_filter.mpr ⟨List.mem_of_getElem? (i := 57) (by decide +kernel), rfl⟩
theorem wq_58 : Cond.selects "ForgeSchedulerModel" ⟨"ForgeSchedulerModel", "isIron", "(I)Z"⟩ ⟨"ForgeSchedulerModel", "isIron", "(I)Z"⟩ ∈ gtb := List.mem_filter.mpr ⟨List.mem_of_getElem? (i := 58) (by decide +kernel), rfl⟩
theorem wq_59 : Cond.selects "ForgeSchedulerModel" ⟨"ForgeSchedulerModel", "checks", "(Z)Z"⟩ ⟨"ForgeSchedulerModel", "checks", "(Z)Z"⟩ ∈ gtb := List.mem_filter.mpr ⟨List.mem_of_getElem? (i := 59) (by decide +kernel), rfl⟩
theorem wq_60 : Cond.selects "ForgeSchedulerModel" ⟨"ForgeSchedulerModel", "isStep", "(II)Z"⟩ ⟨"ForgeSchedulerModel", "isStep", "(II)Z"⟩ ∈ gtb := List.mem_filter.mpr ⟨List.mem_of_getElem? (i := 60) (by decide +kernel), rfl⟩
theorem wq_61 : Cond.selects "ForgeSchedulerModel" ⟨"ForgeSchedulerModel", "isPlace", "(I)Z"⟩ ⟨"ForgeSchedulerModel", "isPlace", "(I)Z"⟩ ∈ gtb := List.mem_filter.mpr ⟨List.mem_of_getElem? (i := 61) (by decide +kernel), rfl⟩
theorem wq_62 : Cond.selects "ForgeSchedulerModel" ⟨"ForgeSchedulerModel", "orders", "()V"⟩ ⟨"ForgeSchedulerModel", "orders", "()V"⟩ ∈ gtb := List.mem_filter.mpr ⟨List.mem_of_getElem? (i := 62) (by decide +kernel), rfl⟩
theorem wq_63 : Cond.selects "ForgeSchedulerModel" ⟨"ForgeSchedulerModel", "ends", "()I"⟩ ⟨"ForgeSchedulerModel", "ends", "()I"⟩ ∈ gtb := List.mem_filter.mpr ⟨List.mem_of_getElem? (i := 63) (by decide +kernel), rfl⟩
theorem wq_64 : Cond.selects "ForgeSchedulerModel" ⟨"ForgeSchedulerModel", "begins", "()V"⟩ ⟨"ForgeSchedulerModel", "begins", "()V"⟩ ∈ gtb := List.mem_filter.mpr ⟨List.mem_of_getElem? (i := 64) (by decide +kernel), rfl⟩
theorem wq_65 : Cond.selects "ForgeSchedulerModel" ⟨"ForgeSchedulerModel", "lastOf", "()I"⟩ ⟨"ForgeSchedulerModel", "lastOf", "()I"⟩ ∈ gtb := List.mem_filter.mpr ⟨List.mem_of_getElem? (i := 65) (by decide +kernel), rfl⟩
theorem wq_66 : Cond.selects "ForgeSchedulerModel" ⟨"ForgeSchedulerModel", "moves", "()V"⟩ ⟨"ForgeSchedulerModel", "moves", "()V"⟩ ∈ gtb := List.mem_filter.mpr ⟨List.mem_of_getElem? (i := 66) (by decide +kernel), rfl⟩
theorem wq_67 : Cond.selects "ForgeSchedulerModel" ⟨"ForgeSchedulerModel", "isDone", "(I)Z"⟩ ⟨"ForgeSchedulerModel", "isDone", "(I)Z"⟩ ∈ gtb := List.mem_filter.mpr ⟨List.mem_of_getElem? (i := 67) (by decide +kernel), rfl⟩
theorem wq_68 : Cond.selects "ForgeSchedulerModel" ⟨"ForgeSchedulerModel", "needs", "(I)I"⟩ ⟨"ForgeSchedulerModel", "needs", "(I)I"⟩ ∈ gtb := List.mem_filter.mpr ⟨List.mem_of_getElem? (i := 68) (by decide +kernel), rfl⟩
theorem wq_69 : Cond.selects "ForgeSchedulerModel" ⟨"ForgeSchedulerModel", "isTaken", "(I)Z"⟩ ⟨"ForgeSchedulerModel", "isTaken", "(I)Z"⟩ ∈ gtb := List.mem_filter.mpr ⟨List.mem_of_getElem? (i := 69) (by decide +kernel), rfl⟩
theorem wq_70 : Cond.selects "ForgeSchedulerModel" ⟨"ForgeSchedulerModel", "readyOne", "()I"⟩ ⟨"ForgeSchedulerModel", "readyOne", "()I"⟩ ∈ gtb := List.mem_filter.mpr ⟨List.mem_of_getElem? (i := 70) (by decide +kernel), rfl⟩
theorem wq_71 : Cond.selects "ForgeSchedulerModel" ⟨"ForgeSchedulerModel", "isReady", "(I)Z"⟩ ⟨"ForgeSchedulerModel", "isReady", "(I)Z"⟩ ∈ gtb := List.mem_filter.mpr ⟨List.mem_of_getElem? (i := 71) (by decide +kernel), rfl⟩
theorem wq_72 : Cond.selects "ForgeSchedulerModel" ⟨"ForgeSchedulerModel", "rank", "(I)I"⟩ ⟨"ForgeSchedulerModel", "rank", "(I)I"⟩ ∈ gtb := List.mem_filter.mpr ⟨List.mem_of_getElem? (i := 72) (by decide +kernel), rfl⟩
theorem wq_73 : Cond.selects "ForgeSchedulerModel" ⟨"ForgeSchedulerModel", "left", "(I)I"⟩ ⟨"ForgeSchedulerModel", "left", "(I)I"⟩ ∈ gtb := List.mem_filter.mpr ⟨List.mem_of_getElem? (i := 73) (by decide +kernel), rfl⟩
theorem wq_74 : Cond.selects "ForgeSchedulerModel" ⟨"ForgeSchedulerModel", "waitingOne", "()I"⟩ ⟨"ForgeSchedulerModel", "waitingOne", "()I"⟩ ∈ gtb := List.mem_filter.mpr ⟨List.mem_of_getElem? (i := 74) (by decide +kernel), rfl⟩
theorem wq_75 : Cond.selects "ForgeSchedulerModel" ⟨"ForgeSchedulerModel", "works", "(II)V"⟩ ⟨"ForgeSchedulerModel", "works", "(II)V"⟩ ∈ gtb := List.mem_filter.mpr ⟨List.mem_of_getElem? (i := 75) (by decide +kernel), rfl⟩
theorem wq_76 : Cond.selects "ForgeSchedulerModel" ⟨"ForgeSchedulerModel", "runs", "()V"⟩ ⟨"ForgeSchedulerModel", "runs", "()V"⟩ ∈ gtb := List.mem_filter.mpr ⟨List.mem_of_getElem? (i := 76) (by decide +kernel), rfl⟩
theorem wq_77 : Cond.selects "ForgeSchedulerModel" ⟨"ForgeSchedulerModel", "minutesAt", "(III)I"⟩ ⟨"ForgeSchedulerModel", "minutesAt", "(III)I"⟩ ∈ gtb := List.mem_filter.mpr ⟨List.mem_of_getElem? (i := 77) (by decide +kernel), rfl⟩
theorem wq_78 : Cond.selects "ForgeSchedulerModel" ⟨"ForgeSchedulerModel", "isOpen", "(II)Z"⟩ ⟨"ForgeSchedulerModel", "isOpen", "(II)Z"⟩ ∈ gtb := List.mem_filter.mpr ⟨List.mem_of_getElem? (i := 78) (by decide +kernel), rfl⟩
theorem wq_79 : Cond.selects "ForgeSchedulerModel" ⟨"ForgeSchedulerModel", "ironIn", "(II)I"⟩ ⟨"ForgeSchedulerModel", "ironIn", "(II)I"⟩ ∈ gtb := List.mem_filter.mpr ⟨List.mem_of_getElem? (i := 79) (by decide +kernel), rfl⟩
theorem wq_80 : Cond.selects "ForgeSchedulerModel" ⟨"ForgeSchedulerModel", "tries", "()V"⟩ ⟨"ForgeSchedulerModel", "tries", "()V"⟩ ∈ gtb := List.mem_filter.mpr ⟨List.mem_of_getElem? (i := 80) (by decide +kernel), rfl⟩
theorem wq_81 : Cond.selects "ForgeSchedulerModel" ⟨"ForgeSchedulerModel", "nextOrder", "()Z"⟩ ⟨"ForgeSchedulerModel", "nextOrder", "()Z"⟩ ∈ gtb := List.mem_filter.mpr ⟨List.mem_of_getElem? (i := 81) (by decide +kernel), rfl⟩
theorem wq_82 : Cond.selects "ForgeSchedulerModel" ⟨"ForgeSchedulerModel", "swaps", "(II)V"⟩ ⟨"ForgeSchedulerModel", "swaps", "(II)V"⟩ ∈ gtb := List.mem_filter.mpr ⟨List.mem_of_getElem? (i := 82) (by decide +kernel), rfl⟩
theorem wq_83 : Cond.selects "ForgeSchedulerModel" ⟨"ForgeSchedulerModel", "endsWith", "(I)I"⟩ ⟨"ForgeSchedulerModel", "endsWith", "(I)I"⟩ ∈ gtb := List.mem_filter.mpr ⟨List.mem_of_getElem? (i := 83) (by decide +kernel), rfl⟩
theorem wq_84 : Cond.selects "ForgeSchedulerModel" ⟨"ForgeSchedulerModel", "endsIf", "(II)I"⟩ ⟨"ForgeSchedulerModel", "endsIf", "(II)I"⟩ ∈ gtb := List.mem_filter.mpr ⟨List.mem_of_getElem? (i := 84) (by decide +kernel), rfl⟩
theorem wq_85 : Cond.selects "ForgeSchedulerModel" ⟨"ForgeSchedulerModel", "keeps", "()V"⟩ ⟨"ForgeSchedulerModel", "keeps", "()V"⟩ ∈ gtb := List.mem_filter.mpr ⟨List.mem_of_getElem? (i := 85) (by decide +kernel), rfl⟩
theorem wq_87 : Cond.initialized "ForgeScheduler" ∈ gtb := List.mem_filter.mpr ⟨List.mem_of_getElem? (i := 87) (by decide +kernel), rfl⟩
theorem wq_88 : Cond.initialized "ForgeScheduler$Forge" ∈ gtb := List.mem_filter.mpr ⟨List.mem_of_getElem? (i := 88) (by decide +kernel), rfl⟩
theorem wq_89 : Cond.initialized "java/lang/System" ∈ gtb := List.mem_filter.mpr ⟨List.mem_of_getElem? (i := 89) (by decide +kernel), rfl⟩
theorem wq_90 : Cond.initialized "ForgeScheduler$Changes" ∈ gtb := List.mem_filter.mpr ⟨List.mem_of_getElem? (i := 90) (by decide +kernel), rfl⟩
theorem wq_91 : Cond.initialized "ForgeScheduler$Reader" ∈ gtb := List.mem_filter.mpr ⟨List.mem_of_getElem? (i := 91) (by decide +kernel), rfl⟩
theorem wq_92 : Cond.initialized "ForgeScheduler$Log" ∈ gtb := List.mem_filter.mpr ⟨List.mem_of_getElem? (i := 92) (by decide +kernel), rfl⟩
theorem wq_93 : Cond.initialized "ForgeScheduler$Run" ∈ gtb := List.mem_filter.mpr ⟨List.mem_of_getElem? (i := 93) (by decide +kernel), rfl⟩
theorem wq_94 : Cond.initialized "ForgeScheduler$BestOrder" ∈ gtb := List.mem_filter.mpr ⟨List.mem_of_getElem? (i := 94) (by decide +kernel), rfl⟩
theorem wq_95 : Cond.initialized "ForgeSchedulerModel" ∈ gtb := List.mem_filter.mpr ⟨List.mem_of_getElem? (i := 95) (by decide +kernel), rfl⟩
theorem wq_96 : Cond.initialized "java/lang/Math" ∈ gtb := List.mem_filter.mpr ⟨List.mem_of_getElem? (i := 96) (by decide +kernel), rfl⟩
theorem wq_104 : Cond.initialized "java/lang/IndexOutOfBoundsException" ∈ gtb := List.mem_filter.mpr ⟨List.mem_of_getElem? (i := 104) (by decide +kernel), rfl⟩
theorem wq_121 : Cond.methodLink "ForgeScheduler$Forge" 45 ⟨"java/lang/System", "arraycopy", "(Ljava/lang/Object;ILjava/lang/Object;II)V"⟩ ∈ gtb := List.mem_filter.mpr ⟨List.mem_of_getElem? (i := 121) (by decide +kernel), rfl⟩
theorem wq_122 : Cond.static ⟨"java/lang/System", "arraycopy", "(Ljava/lang/Object;ILjava/lang/Object;II)V"⟩ ∈ gtb := List.mem_filter.mpr ⟨List.mem_of_getElem? (i := 122) (by decide +kernel), rfl⟩
theorem wq_123 : Cond.native ⟨"java/lang/System", "arraycopy", "(Ljava/lang/Object;ILjava/lang/Object;II)V"⟩ ∈ gtb := List.mem_filter.mpr ⟨List.mem_of_getElem? (i := 123) (by decide +kernel), rfl⟩
theorem wq_124 : Cond.fieldLink "ForgeScheduler$Forge" 51 "ForgeScheduler$Forge" "irons" "I" ∈ gtb := List.mem_filter.mpr ⟨List.mem_of_getElem? (i := 124) (by decide +kernel), rfl⟩
theorem wq_125 : Cond.fieldLink "ForgeScheduler$Log" 57 "ForgeScheduler$Forge" "irons" "I" ∈ gtb := List.mem_filter.mpr ⟨List.mem_of_getElem? (i := 125) (by decide +kernel), rfl⟩
theorem wq_126 : Cond.fieldLink "ForgeScheduler$Run" 73 "ForgeScheduler$Forge" "irons" "I" ∈ gtb := List.mem_filter.mpr ⟨List.mem_of_getElem? (i := 126) (by decide +kernel), rfl⟩
theorem wq_127 : Cond.fieldLink "ForgeScheduler$BestOrder" 48 "ForgeScheduler$Forge" "irons" "I" ∈ gtb := List.mem_filter.mpr ⟨List.mem_of_getElem? (i := 127) (by decide +kernel), rfl⟩
theorem wq_128 : Cond.fieldLink "ForgeScheduler" 98 "ForgeScheduler$Forge" "irons" "I" ∈ gtb := List.mem_filter.mpr ⟨List.mem_of_getElem? (i := 128) (by decide +kernel), rfl⟩
theorem wq_129 : Cond.fieldLink "ForgeScheduler$Reader" 87 "ForgeScheduler$Forge" "irons" "I" ∈ gtb := List.mem_filter.mpr ⟨List.mem_of_getElem? (i := 129) (by decide +kernel), rfl⟩
theorem wq_130 : Cond.fieldLink "ForgeScheduler$Forge" 55 "ForgeScheduler$Forge" "places" "I" ∈ gtb := List.mem_filter.mpr ⟨List.mem_of_getElem? (i := 130) (by decide +kernel), rfl⟩
theorem wq_131 : Cond.fieldLink "ForgeScheduler" 101 "ForgeScheduler$Forge" "places" "I" ∈ gtb := List.mem_filter.mpr ⟨List.mem_of_getElem? (i := 131) (by decide +kernel), rfl⟩
theorem wq_132 : Cond.fieldLink "ForgeScheduler$Reader" 112 "ForgeScheduler$Forge" "places" "I" ∈ gtb := List.mem_filter.mpr ⟨List.mem_of_getElem? (i := 132) (by decide +kernel), rfl⟩
theorem wq_133 : Cond.fieldLink "ForgeScheduler$Run" 121 "ForgeScheduler$Forge" "places" "I" ∈ gtb := List.mem_filter.mpr ⟨List.mem_of_getElem? (i := 133) (by decide +kernel), rfl⟩
theorem wq_134 : Cond.fieldLink "ForgeScheduler$Forge" 9 "ForgeScheduler$Forge" "names" "[I" ∈ gtb := List.mem_filter.mpr ⟨List.mem_of_getElem? (i := 134) (by decide +kernel), rfl⟩
theorem wq_135 : Cond.fieldLink "ForgeScheduler$Forge" 15 "ForgeScheduler$Forge" "masses" "[I" ∈ gtb := List.mem_filter.mpr ⟨List.mem_of_getElem? (i := 135) (by decide +kernel), rfl⟩
theorem wq_136 : Cond.fieldLink "ForgeScheduler" 113 "ForgeScheduler$Forge" "masses" "[I" ∈ gtb := List.mem_filter.mpr ⟨List.mem_of_getElem? (i := 136) (by decide +kernel), rfl⟩
theorem wq_137 : Cond.fieldLink "ForgeScheduler$Run" 148 "ForgeScheduler$Forge" "masses" "[I" ∈ gtb := List.mem_filter.mpr ⟨List.mem_of_getElem? (i := 137) (by decide +kernel), rfl⟩
theorem wq_138 : Cond.fieldLink "ForgeScheduler$Forge" 18 "ForgeScheduler$Forge" "coolings" "[I" ∈ gtb := List.mem_filter.mpr ⟨List.mem_of_getElem? (i := 138) (by decide +kernel), rfl⟩
theorem wq_139 : Cond.fieldLink "ForgeScheduler" 117 "ForgeScheduler$Forge" "coolings" "[I" ∈ gtb := List.mem_filter.mpr ⟨List.mem_of_getElem? (i := 139) (by decide +kernel), rfl⟩
theorem wq_140 : Cond.fieldLink "ForgeScheduler$Run" 137 "ForgeScheduler$Forge" "coolings" "[I" ∈ gtb := List.mem_filter.mpr ⟨List.mem_of_getElem? (i := 140) (by decide +kernel), rfl⟩
theorem wq_141 : Cond.fieldLink "ForgeScheduler$Forge" 21 "ForgeScheduler$Forge" "steps" "[I" ∈ gtb := List.mem_filter.mpr ⟨List.mem_of_getElem? (i := 141) (by decide +kernel), rfl⟩
theorem wq_142 : Cond.fieldLink "ForgeScheduler$Reader" 105 "ForgeScheduler$Forge" "steps" "[I" ∈ gtb := List.mem_filter.mpr ⟨List.mem_of_getElem? (i := 142) (by decide +kernel), rfl⟩
theorem wq_143 : Cond.fieldLink "ForgeScheduler" 120 "ForgeScheduler$Forge" "steps" "[I" ∈ gtb := List.mem_filter.mpr ⟨List.mem_of_getElem? (i := 143) (by decide +kernel), rfl⟩
theorem wq_144 : Cond.fieldLink "ForgeScheduler$Log" 90 "ForgeScheduler$Forge" "steps" "[I" ∈ gtb := List.mem_filter.mpr ⟨List.mem_of_getElem? (i := 144) (by decide +kernel), rfl⟩
theorem wq_145 : Cond.fieldLink "ForgeScheduler$Forge" 24 "ForgeScheduler$Forge" "heatsOfSteps" "[I" ∈ gtb := List.mem_filter.mpr ⟨List.mem_of_getElem? (i := 145) (by decide +kernel), rfl⟩
theorem wq_146 : Cond.fieldLink "ForgeScheduler$Run" 95 "ForgeScheduler$Forge" "heatsOfSteps" "[I" ∈ gtb := List.mem_filter.mpr ⟨List.mem_of_getElem? (i := 146) (by decide +kernel), rfl⟩
theorem wq_147 : Cond.fieldLink "ForgeScheduler$Forge" 27 "ForgeScheduler$Forge" "minutesOfSteps" "[I" ∈ gtb := List.mem_filter.mpr ⟨List.mem_of_getElem? (i := 147) (by decide +kernel), rfl⟩
theorem wq_148 : Cond.fieldLink "ForgeScheduler$Run" 92 "ForgeScheduler$Forge" "minutesOfSteps" "[I" ∈ gtb := List.mem_filter.mpr ⟨List.mem_of_getElem? (i := 148) (by decide +kernel), rfl⟩
theorem wq_149 : Cond.fieldLink "ForgeScheduler$Forge" 30 "ForgeScheduler$Forge" "rates" "[I" ∈ gtb := List.mem_filter.mpr ⟨List.mem_of_getElem? (i := 149) (by decide +kernel), rfl⟩
theorem wq_150 : Cond.fieldLink "ForgeScheduler" 137 "ForgeScheduler$Forge" "rates" "[I" ∈ gtb := List.mem_filter.mpr ⟨List.mem_of_getElem? (i := 150) (by decide +kernel), rfl⟩
theorem wq_151 : Cond.fieldLink "ForgeScheduler$Run" 151 "ForgeScheduler$Forge" "rates" "[I" ∈ gtb := List.mem_filter.mpr ⟨List.mem_of_getElem? (i := 151) (by decide +kernel), rfl⟩
theorem wq_152 : Cond.fieldLink "ForgeScheduler$Forge" 33 "ForgeScheduler$Forge" "limits" "[I" ∈ gtb := List.mem_filter.mpr ⟨List.mem_of_getElem? (i := 152) (by decide +kernel), rfl⟩
theorem wq_153 : Cond.fieldLink "ForgeScheduler" 140 "ForgeScheduler$Forge" "limits" "[I" ∈ gtb := List.mem_filter.mpr ⟨List.mem_of_getElem? (i := 153) (by decide +kernel), rfl⟩
theorem wq_154 : Cond.fieldLink "ForgeScheduler$Run" 145 "ForgeScheduler$Forge" "limits" "[I" ∈ gtb := List.mem_filter.mpr ⟨List.mem_of_getElem? (i := 154) (by decide +kernel), rfl⟩
theorem wq_155 : Cond.fieldLink "ForgeScheduler$Forge" 36 "ForgeScheduler$Forge" "settings" "[I" ∈ gtb := List.mem_filter.mpr ⟨List.mem_of_getElem? (i := 155) (by decide +kernel), rfl⟩
theorem wq_156 : Cond.fieldLink "ForgeScheduler$Run" 98 "ForgeScheduler$Forge" "settings" "[I" ∈ gtb := List.mem_filter.mpr ⟨List.mem_of_getElem? (i := 156) (by decide +kernel), rfl⟩
theorem wq_157 : Cond.fieldLink "ForgeScheduler$Reader" 128 "ForgeScheduler$Forge" "settings" "[I" ∈ gtb := List.mem_filter.mpr ⟨List.mem_of_getElem? (i := 157) (by decide +kernel), rfl⟩
theorem wq_158 : Cond.fieldLink "ForgeScheduler$Log" 98 "ForgeScheduler$Forge" "settings" "[I" ∈ gtb := List.mem_filter.mpr ⟨List.mem_of_getElem? (i := 158) (by decide +kernel), rfl⟩
theorem wq_159 : Cond.fieldLink "ForgeScheduler" 147 "ForgeScheduler$Forge" "settings" "[I" ∈ gtb := List.mem_filter.mpr ⟨List.mem_of_getElem? (i := 159) (by decide +kernel), rfl⟩
theorem wq_160 : Cond.fieldLink "ForgeScheduler$Forge" 39 "ForgeScheduler$Forge" "order" "[I" ∈ gtb := List.mem_filter.mpr ⟨List.mem_of_getElem? (i := 160) (by decide +kernel), rfl⟩
theorem wq_161 : Cond.fieldLink "ForgeScheduler$BestOrder" 41 "ForgeScheduler$Forge" "order" "[I" ∈ gtb := List.mem_filter.mpr ⟨List.mem_of_getElem? (i := 161) (by decide +kernel), rfl⟩
theorem wq_162 : Cond.fieldLink "ForgeScheduler$Run" 111 "ForgeScheduler$Forge" "order" "[I" ∈ gtb := List.mem_filter.mpr ⟨List.mem_of_getElem? (i := 162) (by decide +kernel), rfl⟩
theorem wq_163 : Cond.fieldLink "ForgeScheduler" 150 "ForgeScheduler$Forge" "order" "[I" ∈ gtb := List.mem_filter.mpr ⟨List.mem_of_getElem? (i := 163) (by decide +kernel), rfl⟩
theorem wq_200 : Cond.fieldLink "ForgeScheduler$Changes" 26 "ForgeScheduler$Changes" "count" "I" ∈ gtb := List.mem_filter.mpr ⟨List.mem_of_getElem? (i := 200) (by decide +kernel), rfl⟩
theorem wq_201 : Cond.fieldLink "ForgeScheduler" 104 "ForgeScheduler$Changes" "count" "I" ∈ gtb := List.mem_filter.mpr ⟨List.mem_of_getElem? (i := 201) (by decide +kernel), rfl⟩
theorem wq_217 : Cond.fieldLink "ForgeScheduler$Reader" 9 "ForgeScheduler$Reader" "bytes" "[B" ∈ gtb := List.mem_filter.mpr ⟨List.mem_of_getElem? (i := 217) (by decide +kernel), rfl⟩
theorem wq_218 : Cond.fieldLink "ForgeScheduler$Reader" 18 "ForgeScheduler$Reader" "draft" "LForgeScheduler$Forge;" ∈ gtb := List.mem_filter.mpr ⟨List.mem_of_getElem? (i := 218) (by decide +kernel), rfl⟩
theorem wq_219 : Cond.fieldLink "ForgeScheduler" 83 "ForgeScheduler$Reader" "draft" "LForgeScheduler$Forge;" ∈ gtb := List.mem_filter.mpr ⟨List.mem_of_getElem? (i := 219) (by decide +kernel), rfl⟩
theorem wq_220 : Cond.fieldLink "ForgeScheduler$Reader" 22 "ForgeScheduler$Reader" "given" "[Z" ∈ gtb := List.mem_filter.mpr ⟨List.mem_of_getElem? (i := 220) (by decide +kernel), rfl⟩
theorem wq_221 : Cond.fieldLink "ForgeScheduler$Reader" 30 "ForgeScheduler$Reader" "size" "I" ∈ gtb := List.mem_filter.mpr ⟨List.mem_of_getElem? (i := 221) (by decide +kernel), rfl⟩
theorem wq_222 : Cond.fieldLink "ForgeScheduler" 71 "ForgeScheduler$Reader" "size" "I" ∈ gtb := List.mem_filter.mpr ⟨List.mem_of_getElem? (i := 222) (by decide +kernel), rfl⟩
theorem wq_223 : Cond.fieldLink "ForgeScheduler$Reader" 26 "ForgeScheduler$Reader" "errorAt" "I" ∈ gtb := List.mem_filter.mpr ⟨List.mem_of_getElem? (i := 223) (by decide +kernel), rfl⟩
theorem wq_224 : Cond.fieldLink "ForgeScheduler" 95 "ForgeScheduler$Reader" "errorAt" "I" ∈ gtb := List.mem_filter.mpr ⟨List.mem_of_getElem? (i := 224) (by decide +kernel), rfl⟩
theorem wq_225 : Cond.fieldLink "ForgeScheduler$Reader" 50 "ForgeScheduler$Reader" "errorCode" "I" ∈ gtb := List.mem_filter.mpr ⟨List.mem_of_getElem? (i := 225) (by decide +kernel), rfl⟩
theorem wq_226 : Cond.fieldLink "ForgeScheduler$Reader" 59 "ForgeScheduler$Reader" "end" "I" ∈ gtb := List.mem_filter.mpr ⟨List.mem_of_getElem? (i := 226) (by decide +kernel), rfl⟩
theorem wq_227 : Cond.fieldLink "ForgeScheduler$Reader" 62 "ForgeScheduler$Reader" "position" "I" ∈ gtb := List.mem_filter.mpr ⟨List.mem_of_getElem? (i := 227) (by decide +kernel), rfl⟩
theorem wq_228 : Cond.fieldLink "ForgeScheduler$Reader" 138 "ForgeScheduler$Reader" "tokenAt" "I" ∈ gtb := List.mem_filter.mpr ⟨List.mem_of_getElem? (i := 228) (by decide +kernel), rfl⟩
theorem wq_229 : Cond.fieldLink "ForgeScheduler$Reader" 40 "ForgeScheduler$Reader" "tokenKind" "I" ∈ gtb := List.mem_filter.mpr ⟨List.mem_of_getElem? (i := 229) (by decide +kernel), rfl⟩
theorem wq_230 : Cond.fieldLink "ForgeScheduler$Reader" 72 "ForgeScheduler$Reader" "tokenValue" "I" ∈ gtb := List.mem_filter.mpr ⟨List.mem_of_getElem? (i := 230) (by decide +kernel), rfl⟩
theorem wq_268 : Cond.fieldLink "ForgeScheduler$Run" 45 "ForgeScheduler$Run" "forge" "LForgeScheduler$Forge;" ∈ gtb := List.mem_filter.mpr ⟨List.mem_of_getElem? (i := 268) (by decide +kernel), rfl⟩
theorem wq_269 : Cond.fieldLink "ForgeScheduler$Run" 9 "ForgeScheduler$Run" "heat" "[I" ∈ gtb := List.mem_filter.mpr ⟨List.mem_of_getElem? (i := 269) (by decide +kernel), rfl⟩
theorem wq_270 : Cond.fieldLink "ForgeScheduler$Log" 63 "ForgeScheduler$Run" "heat" "[I" ∈ gtb := List.mem_filter.mpr ⟨List.mem_of_getElem? (i := 270) (by decide +kernel), rfl⟩
theorem wq_271 : Cond.fieldLink "ForgeScheduler$Run" 15 "ForgeScheduler$Run" "spot" "[I" ∈ gtb := List.mem_filter.mpr ⟨List.mem_of_getElem? (i := 271) (by decide +kernel), rfl⟩
theorem wq_272 : Cond.fieldLink "ForgeScheduler$Log" 69 "ForgeScheduler$Run" "spot" "[I" ∈ gtb := List.mem_filter.mpr ⟨List.mem_of_getElem? (i := 272) (by decide +kernel), rfl⟩
theorem wq_273 : Cond.fieldLink "ForgeScheduler$Run" 18 "ForgeScheduler$Run" "stepsDone" "[I" ∈ gtb := List.mem_filter.mpr ⟨List.mem_of_getElem? (i := 273) (by decide +kernel), rfl⟩
theorem wq_274 : Cond.fieldLink "ForgeScheduler$Log" 66 "ForgeScheduler$Run" "stepsDone" "[I" ∈ gtb := List.mem_filter.mpr ⟨List.mem_of_getElem? (i := 274) (by decide +kernel), rfl⟩
theorem wq_275 : Cond.fieldLink "ForgeScheduler$Run" 21 "ForgeScheduler$Run" "stepLeft" "[I" ∈ gtb := List.mem_filter.mpr ⟨List.mem_of_getElem? (i := 275) (by decide +kernel), rfl⟩
theorem wq_276 : Cond.fieldLink "ForgeScheduler$Run" 24 "ForgeScheduler$Run" "heatNeeded" "[I" ∈ gtb := List.mem_filter.mpr ⟨List.mem_of_getElem? (i := 276) (by decide +kernel), rfl⟩
theorem wq_277 : Cond.fieldLink "ForgeScheduler$Run" 27 "ForgeScheduler$Run" "workLeft" "[I" ∈ gtb := List.mem_filter.mpr ⟨List.mem_of_getElem? (i := 277) (by decide +kernel), rfl⟩
theorem wq_278 : Cond.fieldLink "ForgeScheduler$Run" 30 "ForgeScheduler$Run" "finishedAt" "[I" ∈ gtb := List.mem_filter.mpr ⟨List.mem_of_getElem? (i := 278) (by decide +kernel), rfl⟩
theorem wq_279 : Cond.fieldLink "ForgeScheduler" 167 "ForgeScheduler$Run" "finishedAt" "[I" ∈ gtb := List.mem_filter.mpr ⟨List.mem_of_getElem? (i := 279) (by decide +kernel), rfl⟩
theorem wq_280 : Cond.fieldLink "ForgeScheduler$Run" 33 "ForgeScheduler$Run" "stopsByCold" "[I" ∈ gtb := List.mem_filter.mpr ⟨List.mem_of_getElem? (i := 280) (by decide +kernel), rfl⟩
theorem wq_281 : Cond.fieldLink "ForgeScheduler" 182 "ForgeScheduler$Run" "stopsByCold" "[I" ∈ gtb := List.mem_filter.mpr ⟨List.mem_of_getElem? (i := 281) (by decide +kernel), rfl⟩
theorem wq_282 : Cond.fieldLink "ForgeScheduler$Run" 36 "ForgeScheduler$Run" "timesHeated" "[I" ∈ gtb := List.mem_filter.mpr ⟨List.mem_of_getElem? (i := 282) (by decide +kernel), rfl⟩
theorem wq_283 : Cond.fieldLink "ForgeScheduler" 185 "ForgeScheduler$Run" "timesHeated" "[I" ∈ gtb := List.mem_filter.mpr ⟨List.mem_of_getElem? (i := 283) (by decide +kernel), rfl⟩
theorem wq_284 : Cond.fieldLink "ForgeScheduler$Run" 39 "ForgeScheduler$Run" "onAnvil" "[I" ∈ gtb := List.mem_filter.mpr ⟨List.mem_of_getElem? (i := 284) (by decide +kernel), rfl⟩
theorem wq_285 : Cond.fieldLink "ForgeScheduler$Run" 42 "ForgeScheduler$Run" "inPlace" "[I" ∈ gtb := List.mem_filter.mpr ⟨List.mem_of_getElem? (i := 285) (by decide +kernel), rfl⟩
theorem wq_286 : Cond.fieldLink "ForgeScheduler$Run" 52 "ForgeScheduler$Run" "unfinished" "I" ∈ gtb := List.mem_filter.mpr ⟨List.mem_of_getElem? (i := 286) (by decide +kernel), rfl⟩
theorem wq_314 : Cond.fieldLink "ForgeScheduler$Log" 21 "ForgeScheduler$Log" "forge" "LForgeScheduler$Forge;" ∈ gtb := List.mem_filter.mpr ⟨List.mem_of_getElem? (i := 314) (by decide +kernel), rfl⟩
theorem wq_315 : Cond.fieldLink "ForgeScheduler$Log" 30 "ForgeScheduler$Log" "run" "LForgeScheduler$Run;" ∈ gtb := List.mem_filter.mpr ⟨List.mem_of_getElem? (i := 315) (by decide +kernel), rfl⟩
theorem wq_316 : Cond.fieldLink "ForgeScheduler" 160 "ForgeScheduler$Log" "run" "LForgeScheduler$Run;" ∈ gtb := List.mem_filter.mpr ⟨List.mem_of_getElem? (i := 316) (by decide +kernel), rfl⟩
theorem wq_317 : Cond.fieldLink "ForgeScheduler$Log" 9 "ForgeScheduler$Log" "heats" "[I" ∈ gtb := List.mem_filter.mpr ⟨List.mem_of_getElem? (i := 317) (by decide +kernel), rfl⟩
theorem wq_318 : Cond.fieldLink "ForgeScheduler$Log" 15 "ForgeScheduler$Log" "steps" "[I" ∈ gtb := List.mem_filter.mpr ⟨List.mem_of_getElem? (i := 318) (by decide +kernel), rfl⟩
theorem wq_319 : Cond.fieldLink "ForgeScheduler$Log" 18 "ForgeScheduler$Log" "spots" "[I" ∈ gtb := List.mem_filter.mpr ⟨List.mem_of_getElem? (i := 319) (by decide +kernel), rfl⟩
theorem wq_337 : Cond.fieldLink "ForgeScheduler$BestOrder" 9 "ForgeScheduler$BestOrder" "order" "[I" ∈ gtb := List.mem_filter.mpr ⟨List.mem_of_getElem? (i := 337) (by decide +kernel), rfl⟩
theorem wq_338 : Cond.fieldLink "ForgeScheduler" 210 "ForgeScheduler$BestOrder" "order" "[I" ∈ gtb := List.mem_filter.mpr ⟨List.mem_of_getElem? (i := 338) (by decide +kernel), rfl⟩
theorem wq_339 : Cond.fieldLink "ForgeScheduler$BestOrder" 15 "ForgeScheduler$BestOrder" "earliest" "I" ∈ gtb := List.mem_filter.mpr ⟨List.mem_of_getElem? (i := 339) (by decide +kernel), rfl⟩
theorem wq_340 : Cond.fieldLink "ForgeScheduler" 207 "ForgeScheduler$BestOrder" "earliest" "I" ∈ gtb := List.mem_filter.mpr ⟨List.mem_of_getElem? (i := 340) (by decide +kernel), rfl⟩
theorem wq_341 : Cond.fieldLink "ForgeScheduler$BestOrder" 19 "ForgeScheduler$BestOrder" "ties" "I" ∈ gtb := List.mem_filter.mpr ⟨List.mem_of_getElem? (i := 341) (by decide +kernel), rfl⟩
theorem wq_342 : Cond.fieldLink "ForgeScheduler" 211 "ForgeScheduler$BestOrder" "ties" "I" ∈ gtb := List.mem_filter.mpr ⟨List.mem_of_getElem? (i := 342) (by decide +kernel), rfl⟩
theorem wq_352 : Cond.fieldLink "ForgeScheduler" 10 "ForgeScheduler" "forge" "LForgeScheduler$Forge;" ∈ gtb := List.mem_filter.mpr ⟨List.mem_of_getElem? (i := 352) (by decide +kernel), rfl⟩
theorem wq_353 : Cond.fieldLink "ForgeScheduler" 19 "ForgeScheduler" "changes" "LForgeScheduler$Changes;" ∈ gtb := List.mem_filter.mpr ⟨List.mem_of_getElem? (i := 353) (by decide +kernel), rfl⟩
theorem wq_354 : Cond.fieldLink "ForgeScheduler" 26 "ForgeScheduler" "reader" "LForgeScheduler$Reader;" ∈ gtb := List.mem_filter.mpr ⟨List.mem_of_getElem? (i := 354) (by decide +kernel), rfl⟩
theorem wq_355 : Cond.fieldLink "ForgeScheduler" 35 "ForgeScheduler" "log" "LForgeScheduler$Log;" ∈ gtb := List.mem_filter.mpr ⟨List.mem_of_getElem? (i := 355) (by decide +kernel), rfl⟩
theorem wq_356 : Cond.fieldLink "ForgeScheduler" 42 "ForgeScheduler" "best" "LForgeScheduler$BestOrder;" ∈ gtb := List.mem_filter.mpr ⟨List.mem_of_getElem? (i := 356) (by decide +kernel), rfl⟩
theorem wq_357 : Cond.fieldLink "ForgeScheduler" 46 "ForgeScheduler" "trial" "LForgeScheduler$Forge;" ∈ gtb := List.mem_filter.mpr ⟨List.mem_of_getElem? (i := 357) (by decide +kernel), rfl⟩
theorem wq_358 : Cond.fieldLink "ForgeScheduler" 52 "ForgeScheduler" "trialRun" "LForgeScheduler$Run;" ∈ gtb := List.mem_filter.mpr ⟨List.mem_of_getElem? (i := 358) (by decide +kernel), rfl⟩
theorem wq_359 : Cond.fieldLink "ForgeScheduler" 56 "ForgeScheduler" "logIsCurrent" "Z" ∈ gtb := List.mem_filter.mpr ⟨List.mem_of_getElem? (i := 359) (by decide +kernel), rfl⟩
theorem wq_360 : Cond.fieldLink "ForgeScheduler" 60 "ForgeScheduler" "bestIsCurrent" "Z" ∈ gtb := List.mem_filter.mpr ⟨List.mem_of_getElem? (i := 360) (by decide +kernel), rfl⟩
theorem wq_384 : Cond.methodLink "ForgeScheduler" 63 ⟨"ForgeScheduler$Reader", "hasRoom", "()Z"⟩ ∈ gtb := List.mem_filter.mpr ⟨List.mem_of_getElem? (i := 384) (by decide +kernel), rfl⟩
theorem wq_385 : Cond.instanceMethod ⟨"ForgeScheduler$Reader", "hasRoom", "()Z"⟩ ∈ gtb := List.mem_filter.mpr ⟨List.mem_of_getElem? (i := 385) (by decide +kernel), rfl⟩
theorem wq_386 : Cond.selects "ForgeScheduler$Reader" ⟨"ForgeScheduler$Reader", "hasRoom", "()Z"⟩ ⟨"ForgeScheduler$Reader", "hasRoom", "()Z"⟩ ∈ gtb := List.mem_filter.mpr ⟨List.mem_of_getElem? (i := 386) (by decide +kernel), rfl⟩
theorem wq_387 : Cond.code ⟨"ForgeScheduler$Reader", "hasRoom", "()Z"⟩ prog_6_method_2_code 1 (some .boolean) ∈ gtb := List.mem_filter.mpr ⟨List.mem_of_getElem? (i := 387) (by decide +kernel), rfl⟩
theorem wq_388 : Cond.methodLink "ForgeScheduler" 67 ⟨"ForgeScheduler$Reader", "append", "(I)V"⟩ ∈ gtb := List.mem_filter.mpr ⟨List.mem_of_getElem? (i := 388) (by decide +kernel), rfl⟩
theorem wq_389 : Cond.instanceMethod ⟨"ForgeScheduler$Reader", "append", "(I)V"⟩ ∈ gtb := List.mem_filter.mpr ⟨List.mem_of_getElem? (i := 389) (by decide +kernel), rfl⟩
theorem wq_390 : Cond.selects "ForgeScheduler$Reader" ⟨"ForgeScheduler$Reader", "append", "(I)V"⟩ ⟨"ForgeScheduler$Reader", "append", "(I)V"⟩ ∈ gtb := List.mem_filter.mpr ⟨List.mem_of_getElem? (i := 390) (by decide +kernel), rfl⟩
theorem wq_391 : Cond.code ⟨"ForgeScheduler$Reader", "append", "(I)V"⟩ prog_6_method_3_code 3 none ∈ gtb := List.mem_filter.mpr ⟨List.mem_of_getElem? (i := 391) (by decide +kernel), rfl⟩
theorem wq_396 : Cond.methodLink "ForgeScheduler" 75 ⟨"ForgeScheduler", "isWithin", "(III)Z"⟩ ∈ gtb := List.mem_filter.mpr ⟨List.mem_of_getElem? (i := 396) (by decide +kernel), rfl⟩
theorem wq_397 : Cond.static ⟨"ForgeScheduler", "isWithin", "(III)Z"⟩ ∈ gtb := List.mem_filter.mpr ⟨List.mem_of_getElem? (i := 397) (by decide +kernel), rfl⟩
theorem wq_398 : Cond.code ⟨"ForgeScheduler", "isWithin", "(III)Z"⟩ prog_1_method_59_code 3 (some .boolean) ∈ gtb := List.mem_filter.mpr ⟨List.mem_of_getElem? (i := 398) (by decide +kernel), rfl⟩
theorem wq_399 : Cond.methodLink "ForgeScheduler" 79 ⟨"ForgeScheduler$Reader", "readText", "(I)I"⟩ ∈ gtb := List.mem_filter.mpr ⟨List.mem_of_getElem? (i := 399) (by decide +kernel), rfl⟩
theorem wq_400 : Cond.instanceMethod ⟨"ForgeScheduler$Reader", "readText", "(I)I"⟩ ∈ gtb := List.mem_filter.mpr ⟨List.mem_of_getElem? (i := 400) (by decide +kernel), rfl⟩
theorem wq_401 : Cond.selects "ForgeScheduler$Reader" ⟨"ForgeScheduler$Reader", "readText", "(I)I"⟩ ⟨"ForgeScheduler$Reader", "readText", "(I)I"⟩ ∈ gtb := List.mem_filter.mpr ⟨List.mem_of_getElem? (i := 401) (by decide +kernel), rfl⟩
theorem wq_402 : Cond.code ⟨"ForgeScheduler$Reader", "readText", "(I)I"⟩ prog_6_method_4_code 3 (some .int) ∈ gtb := List.mem_filter.mpr ⟨List.mem_of_getElem? (i := 402) (by decide +kernel), rfl⟩
theorem wq_403 : Cond.methodLink "ForgeScheduler$Reader" 33 ⟨"ForgeScheduler$Reader", "beginText", "(I)V"⟩ ∈ gtb := List.mem_filter.mpr ⟨List.mem_of_getElem? (i := 403) (by decide +kernel), rfl⟩
theorem wq_405 : Cond.instanceMethod ⟨"ForgeScheduler$Reader", "beginText", "(I)V"⟩ ∈ gtb := List.mem_filter.mpr ⟨List.mem_of_getElem? (i := 405) (by decide +kernel), rfl⟩
theorem wq_406 : Cond.code ⟨"ForgeScheduler$Reader", "beginText", "(I)V"⟩ prog_6_method_5_code 3 none ∈ gtb := List.mem_filter.mpr ⟨List.mem_of_getElem? (i := 406) (by decide +kernel), rfl⟩
theorem wq_407 : Cond.methodLink "ForgeScheduler$Reader" 53 ⟨"java/lang/Math", "min", "(II)I"⟩ ∈ gtb := List.mem_filter.mpr ⟨List.mem_of_getElem? (i := 407) (by decide +kernel), rfl⟩
theorem wq_408 : Cond.static ⟨"java/lang/Math", "min", "(II)I"⟩ ∈ gtb := List.mem_filter.mpr ⟨List.mem_of_getElem? (i := 408) (by decide +kernel), rfl⟩
theorem wq_410 : Cond.methodLink "ForgeScheduler$Reader" 65 ⟨"ForgeScheduler$Forge", "clear", "()V"⟩ ∈ gtb := List.mem_filter.mpr ⟨List.mem_of_getElem? (i := 410) (by decide +kernel), rfl⟩
theorem wq_411 : Cond.instanceMethod ⟨"ForgeScheduler$Forge", "clear", "()V"⟩ ∈ gtb := List.mem_filter.mpr ⟨List.mem_of_getElem? (i := 411) (by decide +kernel), rfl⟩
theorem wq_412 : Cond.selects "ForgeScheduler$Forge" ⟨"ForgeScheduler$Forge", "clear", "()V"⟩ ⟨"ForgeScheduler$Forge", "clear", "()V"⟩ ∈ gtb := List.mem_filter.mpr ⟨List.mem_of_getElem? (i := 412) (by decide +kernel), rfl⟩
theorem wq_413 : Cond.code ⟨"ForgeScheduler$Forge", "clear", "()V"⟩ prog_4_method_2_code 1 none ∈ gtb := List.mem_filter.mpr ⟨List.mem_of_getElem? (i := 413) (by decide +kernel), rfl⟩
theorem wq_414 : Cond.methodLink "ForgeScheduler$Reader" 37 ⟨"ForgeScheduler$Reader", "nextToken", "()V"⟩ ∈ gtb := List.mem_filter.mpr ⟨List.mem_of_getElem? (i := 414) (by decide +kernel), rfl⟩
theorem wq_416 : Cond.instanceMethod ⟨"ForgeScheduler$Reader", "nextToken", "()V"⟩ ∈ gtb := List.mem_filter.mpr ⟨List.mem_of_getElem? (i := 416) (by decide +kernel), rfl⟩
theorem wq_417 : Cond.code ⟨"ForgeScheduler$Reader", "nextToken", "()V"⟩ prog_6_method_17_code 1 none ∈ gtb := List.mem_filter.mpr ⟨List.mem_of_getElem? (i := 417) (by decide +kernel), rfl⟩
theorem wq_419 : Cond.methodLink "ForgeScheduler$Reader" 145 ⟨"ForgeScheduler$Reader", "takeWord", "()V"⟩ ∈ gtb := List.mem_filter.mpr ⟨List.mem_of_getElem? (i := 419) (by decide +kernel), rfl⟩
theorem wq_421 : Cond.instanceMethod ⟨"ForgeScheduler$Reader", "takeWord", "()V"⟩ ∈ gtb := List.mem_filter.mpr ⟨List.mem_of_getElem? (i := 421) (by decide +kernel), rfl⟩
theorem wq_422 : Cond.code ⟨"ForgeScheduler$Reader", "takeWord", "()V"⟩ prog_6_method_18_code 3 none ∈ gtb := List.mem_filter.mpr ⟨List.mem_of_getElem? (i := 422) (by decide +kernel), rfl⟩
theorem wq_423 : Cond.methodLink "ForgeScheduler$Reader" 148 ⟨"ForgeScheduler$Reader", "takeNumber", "()V"⟩ ∈ gtb := List.mem_filter.mpr ⟨List.mem_of_getElem? (i := 423) (by decide +kernel), rfl⟩
theorem wq_425 : Cond.instanceMethod ⟨"ForgeScheduler$Reader", "takeNumber", "()V"⟩ ∈ gtb := List.mem_filter.mpr ⟨List.mem_of_getElem? (i := 425) (by decide +kernel), rfl⟩
theorem wq_426 : Cond.code ⟨"ForgeScheduler$Reader", "takeNumber", "()V"⟩ prog_6_method_19_code 2 none ∈ gtb := List.mem_filter.mpr ⟨List.mem_of_getElem? (i := 426) (by decide +kernel), rfl⟩
theorem wq_427 : Cond.constant "ForgeScheduler$Reader" 151 100000 ∈ gtb := List.mem_filter.mpr ⟨List.mem_of_getElem? (i := 427) (by decide +kernel), rfl⟩
theorem wq_428 : Cond.methodLink "ForgeScheduler$Reader" 43 ⟨"ForgeScheduler$Reader", "readStatement", "()Z"⟩ ∈ gtb := List.mem_filter.mpr ⟨List.mem_of_getElem? (i := 428) (by decide +kernel), rfl⟩
theorem wq_430 : Cond.instanceMethod ⟨"ForgeScheduler$Reader", "readStatement", "()Z"⟩ ∈ gtb := List.mem_filter.mpr ⟨List.mem_of_getElem? (i := 430) (by decide +kernel), rfl⟩
theorem wq_431 : Cond.code ⟨"ForgeScheduler$Reader", "readStatement", "()Z"⟩ prog_6_method_6_code 1 (some .boolean) ∈ gtb := List.mem_filter.mpr ⟨List.mem_of_getElem? (i := 431) (by decide +kernel), rfl⟩
theorem wq_432 : Cond.methodLink "ForgeScheduler$Reader" 68 ⟨"ForgeScheduler$Reader", "fail", "(I)Z"⟩ ∈ gtb := List.mem_filter.mpr ⟨List.mem_of_getElem? (i := 432) (by decide +kernel), rfl⟩
theorem wq_434 : Cond.instanceMethod ⟨"ForgeScheduler$Reader", "fail", "(I)Z"⟩ ∈ gtb := List.mem_filter.mpr ⟨List.mem_of_getElem? (i := 434) (by decide +kernel), rfl⟩
theorem wq_435 : Cond.code ⟨"ForgeScheduler$Reader", "fail", "(I)Z"⟩ prog_6_method_14_code 2 (some .boolean) ∈ gtb := List.mem_filter.mpr ⟨List.mem_of_getElem? (i := 435) (by decide +kernel), rfl⟩
theorem wq_436 : Cond.methodLink "ForgeScheduler$Reader" 75 ⟨"ForgeScheduler$Reader", "readIron", "()Z"⟩ ∈ gtb := List.mem_filter.mpr ⟨List.mem_of_getElem? (i := 436) (by decide +kernel), rfl⟩
theorem wq_438 : Cond.instanceMethod ⟨"ForgeScheduler$Reader", "readIron", "()Z"⟩ ∈ gtb := List.mem_filter.mpr ⟨List.mem_of_getElem? (i := 438) (by decide +kernel), rfl⟩
theorem wq_439 : Cond.code ⟨"ForgeScheduler$Reader", "readIron", "()Z"⟩ prog_6_method_7_code 3 (some .boolean) ∈ gtb := List.mem_filter.mpr ⟨List.mem_of_getElem? (i := 439) (by decide +kernel), rfl⟩
theorem wq_440 : Cond.methodLink "ForgeScheduler$Reader" 90 ⟨"ForgeScheduler$Reader", "readName", "()Z"⟩ ∈ gtb := List.mem_filter.mpr ⟨List.mem_of_getElem? (i := 440) (by decide +kernel), rfl⟩
theorem wq_442 : Cond.instanceMethod ⟨"ForgeScheduler$Reader", "readName", "()Z"⟩ ∈ gtb := List.mem_filter.mpr ⟨List.mem_of_getElem? (i := 442) (by decide +kernel), rfl⟩
theorem wq_443 : Cond.code ⟨"ForgeScheduler$Reader", "readName", "()Z"⟩ prog_6_method_11_code 2 (some .boolean) ∈ gtb := List.mem_filter.mpr ⟨List.mem_of_getElem? (i := 443) (by decide +kernel), rfl⟩
theorem wq_444 : Cond.methodLink "ForgeScheduler$Reader" 131 ⟨"ForgeScheduler$Reader", "isReserved", "(I)Z"⟩ ∈ gtb := List.mem_filter.mpr ⟨List.mem_of_getElem? (i := 444) (by decide +kernel), rfl⟩
theorem wq_445 : Cond.static ⟨"ForgeScheduler$Reader", "isReserved", "(I)Z"⟩ ∈ gtb := List.mem_filter.mpr ⟨List.mem_of_getElem? (i := 445) (by decide +kernel), rfl⟩
theorem wq_446 : Cond.code ⟨"ForgeScheduler$Reader", "isReserved", "(I)Z"⟩ prog_6_method_15_code 1 (some .boolean) ∈ gtb := List.mem_filter.mpr ⟨List.mem_of_getElem? (i := 446) (by decide +kernel), rfl⟩
theorem wq_447 : Cond.constant "ForgeScheduler$Reader" 141 321370112 ∈ gtb := List.mem_filter.mpr ⟨List.mem_of_getElem? (i := 447) (by decide +kernel), rfl⟩
theorem wq_448 : Cond.constant "ForgeScheduler$Reader" 142 658685952 ∈ gtb := List.mem_filter.mpr ⟨List.mem_of_getElem? (i := 448) (by decide +kernel), rfl⟩
theorem wq_449 : Cond.constant "ForgeScheduler$Reader" 143 549489824 ∈ gtb := List.mem_filter.mpr ⟨List.mem_of_getElem? (i := 449) (by decide +kernel), rfl⟩
theorem wq_450 : Cond.constant "ForgeScheduler$Reader" 144 643432448 ∈ gtb := List.mem_filter.mpr ⟨List.mem_of_getElem? (i := 450) (by decide +kernel), rfl⟩
theorem wq_451 : Cond.methodLink "ForgeScheduler$Reader" 119 ⟨"ForgeScheduler$Reader", "settingOfWord", "(I)I"⟩ ∈ gtb := List.mem_filter.mpr ⟨List.mem_of_getElem? (i := 451) (by decide +kernel), rfl⟩
theorem wq_452 : Cond.static ⟨"ForgeScheduler$Reader", "settingOfWord", "(I)I"⟩ ∈ gtb := List.mem_filter.mpr ⟨List.mem_of_getElem? (i := 452) (by decide +kernel), rfl⟩
theorem wq_453 : Cond.code ⟨"ForgeScheduler$Reader", "settingOfWord", "(I)I"⟩ prog_6_method_16_code 1 (some .int) ∈ gtb := List.mem_filter.mpr ⟨List.mem_of_getElem? (i := 453) (by decide +kernel), rfl⟩
theorem wq_454 : Cond.methodLink "ForgeScheduler$Reader" 93 ⟨"ForgeScheduler$Forge", "findName", "(I)I"⟩ ∈ gtb := List.mem_filter.mpr ⟨List.mem_of_getElem? (i := 454) (by decide +kernel), rfl⟩
theorem wq_455 : Cond.instanceMethod ⟨"ForgeScheduler$Forge", "findName", "(I)I"⟩ ∈ gtb := List.mem_filter.mpr ⟨List.mem_of_getElem? (i := 455) (by decide +kernel), rfl⟩
theorem wq_456 : Cond.selects "ForgeScheduler$Forge" ⟨"ForgeScheduler$Forge", "findName", "(I)I"⟩ ⟨"ForgeScheduler$Forge", "findName", "(I)I"⟩ ∈ gtb := List.mem_filter.mpr ⟨List.mem_of_getElem? (i := 456) (by decide +kernel), rfl⟩
theorem wq_457 : Cond.code ⟨"ForgeScheduler$Forge", "findName", "(I)I"⟩ prog_4_method_7_code 3 (some .int) ∈ gtb := List.mem_filter.mpr ⟨List.mem_of_getElem? (i := 457) (by decide +kernel), rfl⟩
theorem wq_458 : Cond.methodLink "ForgeScheduler$Reader" 97 ⟨"ForgeScheduler$Reader", "readNumber", "(II)Z"⟩ ∈ gtb := List.mem_filter.mpr ⟨List.mem_of_getElem? (i := 458) (by decide +kernel), rfl⟩
theorem wq_460 : Cond.instanceMethod ⟨"ForgeScheduler$Reader", "readNumber", "(II)Z"⟩ ∈ gtb := List.mem_filter.mpr ⟨List.mem_of_getElem? (i := 460) (by decide +kernel), rfl⟩
theorem wq_461 : Cond.code ⟨"ForgeScheduler$Reader", "readNumber", "(II)Z"⟩ prog_6_method_12_code 3 (some .boolean) ∈ gtb := List.mem_filter.mpr ⟨List.mem_of_getElem? (i := 461) (by decide +kernel), rfl⟩
theorem wq_462 : Cond.methodLink "ForgeScheduler$Reader" 101 ⟨"ForgeScheduler$Forge", "appendIron", "(III)V"⟩ ∈ gtb := List.mem_filter.mpr ⟨List.mem_of_getElem? (i := 462) (by decide +kernel), rfl⟩
theorem wq_463 : Cond.instanceMethod ⟨"ForgeScheduler$Forge", "appendIron", "(III)V"⟩ ∈ gtb := List.mem_filter.mpr ⟨List.mem_of_getElem? (i := 463) (by decide +kernel), rfl⟩
theorem wq_464 : Cond.selects "ForgeScheduler$Forge" ⟨"ForgeScheduler$Forge", "appendIron", "(III)V"⟩ ⟨"ForgeScheduler$Forge", "appendIron", "(III)V"⟩ ∈ gtb := List.mem_filter.mpr ⟨List.mem_of_getElem? (i := 464) (by decide +kernel), rfl⟩
theorem wq_465 : Cond.code ⟨"ForgeScheduler$Forge", "appendIron", "(III)V"⟩ prog_4_method_11_code 4 none ∈ gtb := List.mem_filter.mpr ⟨List.mem_of_getElem? (i := 465) (by decide +kernel), rfl⟩
theorem wq_466 : Cond.methodLink "ForgeScheduler$Reader" 78 ⟨"ForgeScheduler$Reader", "readStep", "()Z"⟩ ∈ gtb := List.mem_filter.mpr ⟨List.mem_of_getElem? (i := 466) (by decide +kernel), rfl⟩
theorem wq_468 : Cond.instanceMethod ⟨"ForgeScheduler$Reader", "readStep", "()Z"⟩ ∈ gtb := List.mem_filter.mpr ⟨List.mem_of_getElem? (i := 468) (by decide +kernel), rfl⟩
theorem wq_469 : Cond.code ⟨"ForgeScheduler$Reader", "readStep", "()Z"⟩ prog_6_method_8_code 3 (some .boolean) ∈ gtb := List.mem_filter.mpr ⟨List.mem_of_getElem? (i := 469) (by decide +kernel), rfl⟩
theorem wq_470 : Cond.methodLink "ForgeScheduler$Reader" 109 ⟨"ForgeScheduler$Forge", "appendStep", "(III)V"⟩ ∈ gtb := List.mem_filter.mpr ⟨List.mem_of_getElem? (i := 470) (by decide +kernel), rfl⟩
theorem wq_471 : Cond.instanceMethod ⟨"ForgeScheduler$Forge", "appendStep", "(III)V"⟩ ∈ gtb := List.mem_filter.mpr ⟨List.mem_of_getElem? (i := 471) (by decide +kernel), rfl⟩
theorem wq_472 : Cond.selects "ForgeScheduler$Forge" ⟨"ForgeScheduler$Forge", "appendStep", "(III)V"⟩ ⟨"ForgeScheduler$Forge", "appendStep", "(III)V"⟩ ∈ gtb := List.mem_filter.mpr ⟨List.mem_of_getElem? (i := 472) (by decide +kernel), rfl⟩
theorem wq_473 : Cond.code ⟨"ForgeScheduler$Forge", "appendStep", "(III)V"⟩ prog_4_method_12_code 5 none ∈ gtb := List.mem_filter.mpr ⟨List.mem_of_getElem? (i := 473) (by decide +kernel), rfl⟩
theorem wq_474 : Cond.methodLink "ForgeScheduler$Reader" 81 ⟨"ForgeScheduler$Reader", "readPlace", "()Z"⟩ ∈ gtb := List.mem_filter.mpr ⟨List.mem_of_getElem? (i := 474) (by decide +kernel), rfl⟩
theorem wq_476 : Cond.instanceMethod ⟨"ForgeScheduler$Reader", "readPlace", "()Z"⟩ ∈ gtb := List.mem_filter.mpr ⟨List.mem_of_getElem? (i := 476) (by decide +kernel), rfl⟩
theorem wq_477 : Cond.code ⟨"ForgeScheduler$Reader", "readPlace", "()Z"⟩ prog_6_method_9_code 2 (some .boolean) ∈ gtb := List.mem_filter.mpr ⟨List.mem_of_getElem? (i := 477) (by decide +kernel), rfl⟩
theorem wq_478 : Cond.methodLink "ForgeScheduler$Reader" 115 ⟨"ForgeScheduler$Forge", "appendPlace", "(II)V"⟩ ∈ gtb := List.mem_filter.mpr ⟨List.mem_of_getElem? (i := 478) (by decide +kernel), rfl⟩
theorem wq_479 : Cond.instanceMethod ⟨"ForgeScheduler$Forge", "appendPlace", "(II)V"⟩ ∈ gtb := List.mem_filter.mpr ⟨List.mem_of_getElem? (i := 479) (by decide +kernel), rfl⟩
theorem wq_480 : Cond.selects "ForgeScheduler$Forge" ⟨"ForgeScheduler$Forge", "appendPlace", "(II)V"⟩ ⟨"ForgeScheduler$Forge", "appendPlace", "(II)V"⟩ ∈ gtb := List.mem_filter.mpr ⟨List.mem_of_getElem? (i := 480) (by decide +kernel), rfl⟩
theorem wq_481 : Cond.code ⟨"ForgeScheduler$Forge", "appendPlace", "(II)V"⟩ prog_4_method_13_code 3 none ∈ gtb := List.mem_filter.mpr ⟨List.mem_of_getElem? (i := 481) (by decide +kernel), rfl⟩
theorem wq_482 : Cond.methodLink "ForgeScheduler$Reader" 84 ⟨"ForgeScheduler$Reader", "readSetting", "()Z"⟩ ∈ gtb := List.mem_filter.mpr ⟨List.mem_of_getElem? (i := 482) (by decide +kernel), rfl⟩
theorem wq_484 : Cond.instanceMethod ⟨"ForgeScheduler$Reader", "readSetting", "()Z"⟩ ∈ gtb := List.mem_filter.mpr ⟨List.mem_of_getElem? (i := 484) (by decide +kernel), rfl⟩
theorem wq_485 : Cond.code ⟨"ForgeScheduler$Reader", "readSetting", "()Z"⟩ prog_6_method_10_code 2 (some .boolean) ∈ gtb := List.mem_filter.mpr ⟨List.mem_of_getElem? (i := 485) (by decide +kernel), rfl⟩
theorem wq_490 : Cond.methodLink "ForgeScheduler$Reader" 47 ⟨"ForgeScheduler$Reader", "readSemicolon", "()Z"⟩ ∈ gtb := List.mem_filter.mpr ⟨List.mem_of_getElem? (i := 490) (by decide +kernel), rfl⟩
theorem wq_492 : Cond.instanceMethod ⟨"ForgeScheduler$Reader", "readSemicolon", "()Z"⟩ ∈ gtb := List.mem_filter.mpr ⟨List.mem_of_getElem? (i := 492) (by decide +kernel), rfl⟩
theorem wq_493 : Cond.code ⟨"ForgeScheduler$Reader", "readSemicolon", "()Z"⟩ prog_6_method_13_code 1 (some .boolean) ∈ gtb := List.mem_filter.mpr ⟨List.mem_of_getElem? (i := 493) (by decide +kernel), rfl⟩
theorem wq_494 : Cond.methodLink "ForgeScheduler" 86 ⟨"ForgeScheduler$Forge", "copyFrom", "(LForgeScheduler$Forge;)V"⟩ ∈ gtb := List.mem_filter.mpr ⟨List.mem_of_getElem? (i := 494) (by decide +kernel), rfl⟩
theorem wq_495 : Cond.instanceMethod ⟨"ForgeScheduler$Forge", "copyFrom", "(LForgeScheduler$Forge;)V"⟩ ∈ gtb := List.mem_filter.mpr ⟨List.mem_of_getElem? (i := 495) (by decide +kernel), rfl⟩
theorem wq_496 : Cond.selects "ForgeScheduler$Forge" ⟨"ForgeScheduler$Forge", "copyFrom", "(LForgeScheduler$Forge;)V"⟩ ⟨"ForgeScheduler$Forge", "copyFrom", "(LForgeScheduler$Forge;)V"⟩ ∈ gtb := List.mem_filter.mpr ⟨List.mem_of_getElem? (i := 496) (by decide +kernel), rfl⟩
theorem wq_497 : Cond.code ⟨"ForgeScheduler$Forge", "copyFrom", "(LForgeScheduler$Forge;)V"⟩ prog_4_method_3_code 2 none ∈ gtb := List.mem_filter.mpr ⟨List.mem_of_getElem? (i := 497) (by decide +kernel), rfl⟩
theorem wq_498 : Cond.methodLink "ForgeScheduler" 89 ⟨"ForgeScheduler$Changes", "forget", "()V"⟩ ∈ gtb := List.mem_filter.mpr ⟨List.mem_of_getElem? (i := 498) (by decide +kernel), rfl⟩
theorem wq_499 : Cond.instanceMethod ⟨"ForgeScheduler$Changes", "forget", "()V"⟩ ∈ gtb := List.mem_filter.mpr ⟨List.mem_of_getElem? (i := 499) (by decide +kernel), rfl⟩
theorem wq_500 : Cond.selects "ForgeScheduler$Changes" ⟨"ForgeScheduler$Changes", "forget", "()V"⟩ ⟨"ForgeScheduler$Changes", "forget", "()V"⟩ ∈ gtb := List.mem_filter.mpr ⟨List.mem_of_getElem? (i := 500) (by decide +kernel), rfl⟩
theorem wq_501 : Cond.code ⟨"ForgeScheduler$Changes", "forget", "()V"⟩ prog_3_method_4_code 1 none ∈ gtb := List.mem_filter.mpr ⟨List.mem_of_getElem? (i := 501) (by decide +kernel), rfl⟩
theorem wq_502 : Cond.methodLink "ForgeScheduler" 92 ⟨"ForgeScheduler", "forgetResults", "()V"⟩ ∈ gtb := List.mem_filter.mpr ⟨List.mem_of_getElem? (i := 502) (by decide +kernel), rfl⟩
theorem wq_504 : Cond.instanceMethod ⟨"ForgeScheduler", "forgetResults", "()V"⟩ ∈ gtb := List.mem_filter.mpr ⟨List.mem_of_getElem? (i := 504) (by decide +kernel), rfl⟩
theorem wq_505 : Cond.code ⟨"ForgeScheduler", "forgetResults", "()V"⟩ prog_1_method_70_code 1 none ∈ gtb := List.mem_filter.mpr ⟨List.mem_of_getElem? (i := 505) (by decide +kernel), rfl⟩
theorem wq_526 : Cond.methodLink "ForgeScheduler" 107 ⟨"ForgeScheduler$Forge", "findName", "(I)I"⟩ ∈ gtb := List.mem_filter.mpr ⟨List.mem_of_getElem? (i := 526) (by decide +kernel), rfl⟩
theorem wq_531 : Cond.methodLink "ForgeScheduler" 143 ⟨"ForgeScheduler", "isSetting", "(I)Z"⟩ ∈ gtb := List.mem_filter.mpr ⟨List.mem_of_getElem? (i := 531) (by decide +kernel), rfl⟩
theorem wq_532 : Cond.static ⟨"ForgeScheduler", "isSetting", "(I)Z"⟩ ∈ gtb := List.mem_filter.mpr ⟨List.mem_of_getElem? (i := 532) (by decide +kernel), rfl⟩
theorem wq_533 : Cond.code ⟨"ForgeScheduler", "isSetting", "(I)Z"⟩ prog_1_method_61_code 1 (some .boolean) ∈ gtb := List.mem_filter.mpr ⟨List.mem_of_getElem? (i := 533) (by decide +kernel), rfl⟩
theorem wq_535 : Cond.instanceMethod ⟨"ForgeScheduler", "finish", "()I"⟩ ∈ gtb := List.mem_filter.mpr ⟨List.mem_of_getElem? (i := 535) (by decide +kernel), rfl⟩
theorem wq_536 : Cond.selects "ForgeScheduler" ⟨"ForgeScheduler", "finish", "()I"⟩ ⟨"ForgeScheduler", "finish", "()I"⟩ ∈ gtb := List.mem_filter.mpr ⟨List.mem_of_getElem? (i := 536) (by decide +kernel), rfl⟩
theorem wq_537 : Cond.code ⟨"ForgeScheduler", "finish", "()I"⟩ prog_1_method_19_code 1 (some .int) ∈ gtb := List.mem_filter.mpr ⟨List.mem_of_getElem? (i := 537) (by decide +kernel), rfl⟩
theorem wq_538 : Cond.methodLink "ForgeScheduler" 156 ⟨"ForgeScheduler", "presentLog", "()LForgeScheduler$Log;"⟩ ∈ gtb := List.mem_filter.mpr ⟨List.mem_of_getElem? (i := 538) (by decide +kernel), rfl⟩
theorem wq_540 : Cond.instanceMethod ⟨"ForgeScheduler", "presentLog", "()LForgeScheduler$Log;"⟩ ∈ gtb := List.mem_filter.mpr ⟨List.mem_of_getElem? (i := 540) (by decide +kernel), rfl⟩
theorem wq_541 : Cond.code ⟨"ForgeScheduler", "presentLog", "()LForgeScheduler$Log;"⟩ prog_1_method_71_code 1 (some (.object "ForgeScheduler$Log")) ∈ gtb := List.mem_filter.mpr ⟨List.mem_of_getElem? (i := 541) (by decide +kernel), rfl⟩
theorem wq_542 : Cond.methodLink "ForgeScheduler" 299 ⟨"ForgeScheduler$Log", "write", "()V"⟩ ∈ gtb := List.mem_filter.mpr ⟨List.mem_of_getElem? (i := 542) (by decide +kernel), rfl⟩
theorem wq_543 : Cond.instanceMethod ⟨"ForgeScheduler$Log", "write", "()V"⟩ ∈ gtb := List.mem_filter.mpr ⟨List.mem_of_getElem? (i := 543) (by decide +kernel), rfl⟩
theorem wq_544 : Cond.selects "ForgeScheduler$Log" ⟨"ForgeScheduler$Log", "write", "()V"⟩ ⟨"ForgeScheduler$Log", "write", "()V"⟩ ∈ gtb := List.mem_filter.mpr ⟨List.mem_of_getElem? (i := 544) (by decide +kernel), rfl⟩
theorem wq_545 : Cond.code ⟨"ForgeScheduler$Log", "write", "()V"⟩ prog_5_method_2_code 2 none ∈ gtb := List.mem_filter.mpr ⟨List.mem_of_getElem? (i := 545) (by decide +kernel), rfl⟩
theorem wq_546 : Cond.methodLink "ForgeScheduler$Log" 34 ⟨"ForgeScheduler$Run", "begin", "()V"⟩ ∈ gtb := List.mem_filter.mpr ⟨List.mem_of_getElem? (i := 546) (by decide +kernel), rfl⟩
theorem wq_547 : Cond.instanceMethod ⟨"ForgeScheduler$Run", "begin", "()V"⟩ ∈ gtb := List.mem_filter.mpr ⟨List.mem_of_getElem? (i := 547) (by decide +kernel), rfl⟩
theorem wq_548 : Cond.selects "ForgeScheduler$Run" ⟨"ForgeScheduler$Run", "begin", "()V"⟩ ⟨"ForgeScheduler$Run", "begin", "()V"⟩ ∈ gtb := List.mem_filter.mpr ⟨List.mem_of_getElem? (i := 548) (by decide +kernel), rfl⟩
theorem wq_549 : Cond.code ⟨"ForgeScheduler$Run", "begin", "()V"⟩ prog_7_method_3_code 2 none ∈ gtb := List.mem_filter.mpr ⟨List.mem_of_getElem? (i := 549) (by decide +kernel), rfl⟩
theorem wq_550 : Cond.methodLink "ForgeScheduler$Run" 78 ⟨"ForgeScheduler$Run", "beginIron", "(I)V"⟩ ∈ gtb := List.mem_filter.mpr ⟨List.mem_of_getElem? (i := 550) (by decide +kernel), rfl⟩
theorem wq_552 : Cond.instanceMethod ⟨"ForgeScheduler$Run", "beginIron", "(I)V"⟩ ∈ gtb := List.mem_filter.mpr ⟨List.mem_of_getElem? (i := 552) (by decide +kernel), rfl⟩
theorem wq_553 : Cond.code ⟨"ForgeScheduler$Run", "beginIron", "(I)V"⟩ prog_7_method_4_code 2 none ∈ gtb := List.mem_filter.mpr ⟨List.mem_of_getElem? (i := 553) (by decide +kernel), rfl⟩
theorem wq_554 : Cond.methodLink "ForgeScheduler$Run" 82 ⟨"ForgeScheduler$Forge", "minutesOfWork", "(I)I"⟩ ∈ gtb := List.mem_filter.mpr ⟨List.mem_of_getElem? (i := 554) (by decide +kernel), rfl⟩
theorem wq_555 : Cond.instanceMethod ⟨"ForgeScheduler$Forge", "minutesOfWork", "(I)I"⟩ ∈ gtb := List.mem_filter.mpr ⟨List.mem_of_getElem? (i := 555) (by decide +kernel), rfl⟩
theorem wq_556 : Cond.selects "ForgeScheduler$Forge" ⟨"ForgeScheduler$Forge", "minutesOfWork", "(I)I"⟩ ⟨"ForgeScheduler$Forge", "minutesOfWork", "(I)I"⟩ ∈ gtb := List.mem_filter.mpr ⟨List.mem_of_getElem? (i := 556) (by decide +kernel), rfl⟩
theorem wq_557 : Cond.code ⟨"ForgeScheduler$Forge", "minutesOfWork", "(I)I"⟩ prog_4_method_6_code 4 (some .int) ∈ gtb := List.mem_filter.mpr ⟨List.mem_of_getElem? (i := 557) (by decide +kernel), rfl⟩
theorem wq_558 : Cond.methodLink "ForgeScheduler$Run" 86 ⟨"ForgeScheduler$Run", "isFinished", "(I)Z"⟩ ∈ gtb := List.mem_filter.mpr ⟨List.mem_of_getElem? (i := 558) (by decide +kernel), rfl⟩
theorem wq_560 : Cond.instanceMethod ⟨"ForgeScheduler$Run", "isFinished", "(I)Z"⟩ ∈ gtb := List.mem_filter.mpr ⟨List.mem_of_getElem? (i := 560) (by decide +kernel), rfl⟩
theorem wq_561 : Cond.code ⟨"ForgeScheduler$Run", "isFinished", "(I)Z"⟩ prog_7_method_14_code 2 (some .boolean) ∈ gtb := List.mem_filter.mpr ⟨List.mem_of_getElem? (i := 561) (by decide +kernel), rfl⟩
theorem wq_562 : Cond.methodLink "ForgeScheduler$Run" 89 ⟨"ForgeScheduler$Run", "beginStep", "(I)V"⟩ ∈ gtb := List.mem_filter.mpr ⟨List.mem_of_getElem? (i := 562) (by decide +kernel), rfl⟩
theorem wq_564 : Cond.instanceMethod ⟨"ForgeScheduler$Run", "beginStep", "(I)V"⟩ ∈ gtb := List.mem_filter.mpr ⟨List.mem_of_getElem? (i := 564) (by decide +kernel), rfl⟩
theorem wq_565 : Cond.code ⟨"ForgeScheduler$Run", "beginStep", "(I)V"⟩ prog_7_method_5_code 3 none ∈ gtb := List.mem_filter.mpr ⟨List.mem_of_getElem? (i := 565) (by decide +kernel), rfl⟩
theorem wq_566 : Cond.methodLink "ForgeScheduler$Log" 37 ⟨"ForgeScheduler$Log", "writeState", "(I)V"⟩ ∈ gtb := List.mem_filter.mpr ⟨List.mem_of_getElem? (i := 566) (by decide +kernel), rfl⟩
theorem wq_568 : Cond.instanceMethod ⟨"ForgeScheduler$Log", "writeState", "(I)V"⟩ ∈ gtb := List.mem_filter.mpr ⟨List.mem_of_getElem? (i := 568) (by decide +kernel), rfl⟩
theorem wq_569 : Cond.code ⟨"ForgeScheduler$Log", "writeState", "(I)V"⟩ prog_5_method_3_code 3 none ∈ gtb := List.mem_filter.mpr ⟨List.mem_of_getElem? (i := 569) (by decide +kernel), rfl⟩
theorem wq_570 : Cond.methodLink "ForgeScheduler$Log" 41 ⟨"ForgeScheduler$Run", "clearAnvils", "()V"⟩ ∈ gtb := List.mem_filter.mpr ⟨List.mem_of_getElem? (i := 570) (by decide +kernel), rfl⟩
theorem wq_571 : Cond.instanceMethod ⟨"ForgeScheduler$Run", "clearAnvils", "()V"⟩ ∈ gtb := List.mem_filter.mpr ⟨List.mem_of_getElem? (i := 571) (by decide +kernel), rfl⟩
theorem wq_572 : Cond.selects "ForgeScheduler$Run" ⟨"ForgeScheduler$Run", "clearAnvils", "()V"⟩ ⟨"ForgeScheduler$Run", "clearAnvils", "()V"⟩ ∈ gtb := List.mem_filter.mpr ⟨List.mem_of_getElem? (i := 572) (by decide +kernel), rfl⟩
theorem wq_573 : Cond.code ⟨"ForgeScheduler$Run", "clearAnvils", "()V"⟩ prog_7_method_6_code 3 none ∈ gtb := List.mem_filter.mpr ⟨List.mem_of_getElem? (i := 573) (by decide +kernel), rfl⟩
theorem wq_574 : Cond.methodLink "ForgeScheduler$Run" 101 ⟨"ForgeScheduler$Run", "putOnRack", "(II)V"⟩ ∈ gtb := List.mem_filter.mpr ⟨List.mem_of_getElem? (i := 574) (by decide +kernel), rfl⟩
theorem wq_576 : Cond.instanceMethod ⟨"ForgeScheduler$Run", "putOnRack", "(II)V"⟩ ∈ gtb := List.mem_filter.mpr ⟨List.mem_of_getElem? (i := 576) (by decide +kernel), rfl⟩
theorem wq_577 : Cond.code ⟨"ForgeScheduler$Run", "putOnRack", "(II)V"⟩ prog_7_method_7_code 3 none ∈ gtb := List.mem_filter.mpr ⟨List.mem_of_getElem? (i := 577) (by decide +kernel), rfl⟩
theorem wq_578 : Cond.methodLink "ForgeScheduler$Log" 44 ⟨"ForgeScheduler$Run", "fillAnvils", "()V"⟩ ∈ gtb := List.mem_filter.mpr ⟨List.mem_of_getElem? (i := 578) (by decide +kernel), rfl⟩
theorem wq_579 : Cond.instanceMethod ⟨"ForgeScheduler$Run", "fillAnvils", "()V"⟩ ∈ gtb := List.mem_filter.mpr ⟨List.mem_of_getElem? (i := 579) (by decide +kernel), rfl⟩
theorem wq_580 : Cond.selects "ForgeScheduler$Run" ⟨"ForgeScheduler$Run", "fillAnvils", "()V"⟩ ⟨"ForgeScheduler$Run", "fillAnvils", "()V"⟩ ∈ gtb := List.mem_filter.mpr ⟨List.mem_of_getElem? (i := 580) (by decide +kernel), rfl⟩
theorem wq_581 : Cond.code ⟨"ForgeScheduler$Run", "fillAnvils", "()V"⟩ prog_7_method_8_code 3 none ∈ gtb := List.mem_filter.mpr ⟨List.mem_of_getElem? (i := 581) (by decide +kernel), rfl⟩
theorem wq_582 : Cond.methodLink "ForgeScheduler$Run" 105 ⟨"ForgeScheduler$Run", "chooseReady", "()I"⟩ ∈ gtb := List.mem_filter.mpr ⟨List.mem_of_getElem? (i := 582) (by decide +kernel), rfl⟩
theorem wq_584 : Cond.instanceMethod ⟨"ForgeScheduler$Run", "chooseReady", "()I"⟩ ∈ gtb := List.mem_filter.mpr ⟨List.mem_of_getElem? (i := 584) (by decide +kernel), rfl⟩
theorem wq_585 : Cond.code ⟨"ForgeScheduler$Run", "chooseReady", "()I"⟩ prog_7_method_9_code 4 (some .int) ∈ gtb := List.mem_filter.mpr ⟨List.mem_of_getElem? (i := 585) (by decide +kernel), rfl⟩
theorem wq_586 : Cond.methodLink "ForgeScheduler$Run" 114 ⟨"ForgeScheduler$Run", "isReady", "(I)Z"⟩ ∈ gtb := List.mem_filter.mpr ⟨List.mem_of_getElem? (i := 586) (by decide +kernel), rfl⟩
theorem wq_588 : Cond.instanceMethod ⟨"ForgeScheduler$Run", "isReady", "(I)Z"⟩ ∈ gtb := List.mem_filter.mpr ⟨List.mem_of_getElem? (i := 588) (by decide +kernel), rfl⟩
theorem wq_589 : Cond.code ⟨"ForgeScheduler$Run", "isReady", "(I)Z"⟩ prog_7_method_13_code 2 (some .boolean) ∈ gtb := List.mem_filter.mpr ⟨List.mem_of_getElem? (i := 589) (by decide +kernel), rfl⟩
theorem wq_590 : Cond.methodLink "ForgeScheduler$Run" 117 ⟨"ForgeScheduler$Run", "goesBefore", "(II)Z"⟩ ∈ gtb := List.mem_filter.mpr ⟨List.mem_of_getElem? (i := 590) (by decide +kernel), rfl⟩
theorem wq_592 : Cond.instanceMethod ⟨"ForgeScheduler$Run", "goesBefore", "(II)Z"⟩ ∈ gtb := List.mem_filter.mpr ⟨List.mem_of_getElem? (i := 592) (by decide +kernel), rfl⟩
theorem wq_593 : Cond.code ⟨"ForgeScheduler$Run", "goesBefore", "(II)Z"⟩ prog_7_method_10_code 3 (some .boolean) ∈ gtb := List.mem_filter.mpr ⟨List.mem_of_getElem? (i := 593) (by decide +kernel), rfl⟩
theorem wq_594 : Cond.methodLink "ForgeScheduler$Run" 108 ⟨"ForgeScheduler$Run", "isInFire", "(I)Z"⟩ ∈ gtb := List.mem_filter.mpr ⟨List.mem_of_getElem? (i := 594) (by decide +kernel), rfl⟩
theorem wq_596 : Cond.instanceMethod ⟨"ForgeScheduler$Run", "isInFire", "(I)Z"⟩ ∈ gtb := List.mem_filter.mpr ⟨List.mem_of_getElem? (i := 596) (by decide +kernel), rfl⟩
theorem wq_597 : Cond.code ⟨"ForgeScheduler$Run", "isInFire", "(I)Z"⟩ prog_7_method_15_code 2 (some .boolean) ∈ gtb := List.mem_filter.mpr ⟨List.mem_of_getElem? (i := 597) (by decide +kernel), rfl⟩
theorem wq_598 : Cond.methodLink "ForgeScheduler$Log" 47 ⟨"ForgeScheduler$Run", "fillPlaces", "()V"⟩ ∈ gtb := List.mem_filter.mpr ⟨List.mem_of_getElem? (i := 598) (by decide +kernel), rfl⟩
theorem wq_599 : Cond.instanceMethod ⟨"ForgeScheduler$Run", "fillPlaces", "()V"⟩ ∈ gtb := List.mem_filter.mpr ⟨List.mem_of_getElem? (i := 599) (by decide +kernel), rfl⟩
theorem wq_600 : Cond.selects "ForgeScheduler$Run" ⟨"ForgeScheduler$Run", "fillPlaces", "()V"⟩ ⟨"ForgeScheduler$Run", "fillPlaces", "()V"⟩ ∈ gtb := List.mem_filter.mpr ⟨List.mem_of_getElem? (i := 600) (by decide +kernel), rfl⟩
theorem wq_601 : Cond.code ⟨"ForgeScheduler$Run", "fillPlaces", "()V"⟩ prog_7_method_11_code 3 none ∈ gtb := List.mem_filter.mpr ⟨List.mem_of_getElem? (i := 601) (by decide +kernel), rfl⟩
theorem wq_602 : Cond.methodLink "ForgeScheduler$Run" 124 ⟨"ForgeScheduler$Run", "firstWaiting", "()I"⟩ ∈ gtb := List.mem_filter.mpr ⟨List.mem_of_getElem? (i := 602) (by decide +kernel), rfl⟩
theorem wq_604 : Cond.instanceMethod ⟨"ForgeScheduler$Run", "firstWaiting", "()I"⟩ ∈ gtb := List.mem_filter.mpr ⟨List.mem_of_getElem? (i := 604) (by decide +kernel), rfl⟩
theorem wq_605 : Cond.code ⟨"ForgeScheduler$Run", "firstWaiting", "()I"⟩ prog_7_method_12_code 3 (some .int) ∈ gtb := List.mem_filter.mpr ⟨List.mem_of_getElem? (i := 605) (by decide +kernel), rfl⟩
theorem wq_606 : Cond.methodLink "ForgeScheduler$Log" 50 ⟨"ForgeScheduler$Log", "writeSpots", "(I)V"⟩ ∈ gtb := List.mem_filter.mpr ⟨List.mem_of_getElem? (i := 606) (by decide +kernel), rfl⟩
theorem wq_608 : Cond.instanceMethod ⟨"ForgeScheduler$Log", "writeSpots", "(I)V"⟩ ∈ gtb := List.mem_filter.mpr ⟨List.mem_of_getElem? (i := 608) (by decide +kernel), rfl⟩
theorem wq_609 : Cond.code ⟨"ForgeScheduler$Log", "writeSpots", "(I)V"⟩ prog_5_method_4_code 3 none ∈ gtb := List.mem_filter.mpr ⟨List.mem_of_getElem? (i := 609) (by decide +kernel), rfl⟩
theorem wq_610 : Cond.methodLink "ForgeScheduler$Log" 53 ⟨"ForgeScheduler$Run", "pass", "(I)Z"⟩ ∈ gtb := List.mem_filter.mpr ⟨List.mem_of_getElem? (i := 610) (by decide +kernel), rfl⟩
theorem wq_611 : Cond.instanceMethod ⟨"ForgeScheduler$Run", "pass", "(I)Z"⟩ ∈ gtb := List.mem_filter.mpr ⟨List.mem_of_getElem? (i := 611) (by decide +kernel), rfl⟩
theorem wq_612 : Cond.selects "ForgeScheduler$Run" ⟨"ForgeScheduler$Run", "pass", "(I)Z"⟩ ⟨"ForgeScheduler$Run", "pass", "(I)Z"⟩ ∈ gtb := List.mem_filter.mpr ⟨List.mem_of_getElem? (i := 612) (by decide +kernel), rfl⟩
theorem wq_613 : Cond.code ⟨"ForgeScheduler$Run", "pass", "(I)Z"⟩ prog_7_method_16_code 5 (some .boolean) ∈ gtb := List.mem_filter.mpr ⟨List.mem_of_getElem? (i := 613) (by decide +kernel), rfl⟩
theorem wq_614 : Cond.methodLink "ForgeScheduler$Run" 127 ⟨"ForgeScheduler$Run", "warmed", "(II)I"⟩ ∈ gtb := List.mem_filter.mpr ⟨List.mem_of_getElem? (i := 614) (by decide +kernel), rfl⟩
theorem wq_616 : Cond.instanceMethod ⟨"ForgeScheduler$Run", "warmed", "(II)I"⟩ ∈ gtb := List.mem_filter.mpr ⟨List.mem_of_getElem? (i := 616) (by decide +kernel), rfl⟩
theorem wq_617 : Cond.code ⟨"ForgeScheduler$Run", "warmed", "(II)I"⟩ prog_7_method_18_code 5 (some .int) ∈ gtb := List.mem_filter.mpr ⟨List.mem_of_getElem? (i := 617) (by decide +kernel), rfl⟩
theorem wq_618 : Cond.methodLink "ForgeScheduler$Run" 154 ⟨"java/lang/Math", "min", "(II)I"⟩ ∈ gtb := List.mem_filter.mpr ⟨List.mem_of_getElem? (i := 618) (by decide +kernel), rfl⟩
theorem wq_619 : Cond.methodLink "ForgeScheduler$Run" 131 ⟨"ForgeScheduler$Run", "cooled", "(I)I"⟩ ∈ gtb := List.mem_filter.mpr ⟨List.mem_of_getElem? (i := 619) (by decide +kernel), rfl⟩
theorem wq_621 : Cond.instanceMethod ⟨"ForgeScheduler$Run", "cooled", "(I)I"⟩ ∈ gtb := List.mem_filter.mpr ⟨List.mem_of_getElem? (i := 621) (by decide +kernel), rfl⟩
theorem wq_622 : Cond.code ⟨"ForgeScheduler$Run", "cooled", "(I)I"⟩ prog_7_method_17_code 2 (some .int) ∈ gtb := List.mem_filter.mpr ⟨List.mem_of_getElem? (i := 622) (by decide +kernel), rfl⟩
theorem wq_623 : Cond.methodLink "ForgeScheduler$Run" 140 ⟨"java/lang/Math", "max", "(II)I"⟩ ∈ gtb := List.mem_filter.mpr ⟨List.mem_of_getElem? (i := 623) (by decide +kernel), rfl⟩
theorem wq_624 : Cond.static ⟨"java/lang/Math", "max", "(II)I"⟩ ∈ gtb := List.mem_filter.mpr ⟨List.mem_of_getElem? (i := 624) (by decide +kernel), rfl⟩
theorem wq_626 : Cond.methodLink "ForgeScheduler$Run" 134 ⟨"ForgeScheduler$Run", "work", "(II)V"⟩ ∈ gtb := List.mem_filter.mpr ⟨List.mem_of_getElem? (i := 626) (by decide +kernel), rfl⟩
theorem wq_628 : Cond.instanceMethod ⟨"ForgeScheduler$Run", "work", "(II)V"⟩ ∈ gtb := List.mem_filter.mpr ⟨List.mem_of_getElem? (i := 628) (by decide +kernel), rfl⟩
theorem wq_629 : Cond.code ⟨"ForgeScheduler$Run", "work", "(II)V"⟩ prog_7_method_19_code 3 none ∈ gtb := List.mem_filter.mpr ⟨List.mem_of_getElem? (i := 629) (by decide +kernel), rfl⟩
theorem wq_630 : Cond.methodLink "ForgeScheduler" 163 ⟨"ForgeScheduler$Run", "endMinute", "()I"⟩ ∈ gtb := List.mem_filter.mpr ⟨List.mem_of_getElem? (i := 630) (by decide +kernel), rfl⟩
theorem wq_631 : Cond.instanceMethod ⟨"ForgeScheduler$Run", "endMinute", "()I"⟩ ∈ gtb := List.mem_filter.mpr ⟨List.mem_of_getElem? (i := 631) (by decide +kernel), rfl⟩
theorem wq_632 : Cond.selects "ForgeScheduler$Run" ⟨"ForgeScheduler$Run", "endMinute", "()I"⟩ ⟨"ForgeScheduler$Run", "endMinute", "()I"⟩ ∈ gtb := List.mem_filter.mpr ⟨List.mem_of_getElem? (i := 632) (by decide +kernel), rfl⟩
theorem wq_633 : Cond.code ⟨"ForgeScheduler$Run", "endMinute", "()I"⟩ prog_7_method_20_code 2 (some .int) ∈ gtb := List.mem_filter.mpr ⟨List.mem_of_getElem? (i := 633) (by decide +kernel), rfl⟩
theorem wq_634 : Cond.methodLink "ForgeScheduler$Run" 157 ⟨"ForgeScheduler$Run", "lastFinished", "()I"⟩ ∈ gtb := List.mem_filter.mpr ⟨List.mem_of_getElem? (i := 634) (by decide +kernel), rfl⟩
theorem wq_635 : Cond.instanceMethod ⟨"ForgeScheduler$Run", "lastFinished", "()I"⟩ ∈ gtb := List.mem_filter.mpr ⟨List.mem_of_getElem? (i := 635) (by decide +kernel), rfl⟩
theorem wq_636 : Cond.selects "ForgeScheduler$Run" ⟨"ForgeScheduler$Run", "lastFinished", "()I"⟩ ⟨"ForgeScheduler$Run", "lastFinished", "()I"⟩ ∈ gtb := List.mem_filter.mpr ⟨List.mem_of_getElem? (i := 636) (by decide +kernel), rfl⟩
theorem wq_637 : Cond.code ⟨"ForgeScheduler$Run", "lastFinished", "()I"⟩ prog_7_method_21_code 3 (some .int) ∈ gtb := List.mem_filter.mpr ⟨List.mem_of_getElem? (i := 637) (by decide +kernel), rfl⟩
theorem wq_642 : Cond.methodLink "ForgeScheduler" 200 ⟨"ForgeScheduler$Run", "lastFinished", "()I"⟩ ∈ gtb := List.mem_filter.mpr ⟨List.mem_of_getElem? (i := 642) (by decide +kernel), rfl⟩
theorem wq_647 : Cond.methodLink "ForgeScheduler" 203 ⟨"ForgeScheduler", "presentBest", "()LForgeScheduler$BestOrder;"⟩ ∈ gtb := List.mem_filter.mpr ⟨List.mem_of_getElem? (i := 647) (by decide +kernel), rfl⟩
theorem wq_649 : Cond.instanceMethod ⟨"ForgeScheduler", "presentBest", "()LForgeScheduler$BestOrder;"⟩ ∈ gtb := List.mem_filter.mpr ⟨List.mem_of_getElem? (i := 649) (by decide +kernel), rfl⟩
theorem wq_650 : Cond.code ⟨"ForgeScheduler", "presentBest", "()LForgeScheduler$BestOrder;"⟩ prog_1_method_72_code 1 (some (.object "ForgeScheduler$BestOrder")) ∈ gtb := List.mem_filter.mpr ⟨List.mem_of_getElem? (i := 650) (by decide +kernel), rfl⟩
theorem wq_651 : Cond.methodLink "ForgeScheduler" 302 ⟨"ForgeScheduler$BestOrder", "search", "(LForgeScheduler$Forge;LForgeScheduler$Run;)V"⟩ ∈ gtb := List.mem_filter.mpr ⟨List.mem_of_getElem? (i := 651) (by decide +kernel), rfl⟩
theorem wq_652 : Cond.instanceMethod ⟨"ForgeScheduler$BestOrder", "search", "(LForgeScheduler$Forge;LForgeScheduler$Run;)V"⟩ ∈ gtb := List.mem_filter.mpr ⟨List.mem_of_getElem? (i := 652) (by decide +kernel), rfl⟩
theorem wq_653 : Cond.selects "ForgeScheduler$BestOrder" ⟨"ForgeScheduler$BestOrder", "search", "(LForgeScheduler$Forge;LForgeScheduler$Run;)V"⟩ ⟨"ForgeScheduler$BestOrder", "search", "(LForgeScheduler$Forge;LForgeScheduler$Run;)V"⟩ ∈ gtb := List.mem_filter.mpr ⟨List.mem_of_getElem? (i := 653) (by decide +kernel), rfl⟩
theorem wq_654 : Cond.code ⟨"ForgeScheduler$BestOrder", "search", "(LForgeScheduler$Forge;LForgeScheduler$Run;)V"⟩ prog_2_method_2_code 6 none ∈ gtb := List.mem_filter.mpr ⟨List.mem_of_getElem? (i := 654) (by decide +kernel), rfl⟩
theorem wq_655 : Cond.methodLink "ForgeScheduler$BestOrder" 22 ⟨"ForgeScheduler$Forge", "orderByIndex", "()V"⟩ ∈ gtb := List.mem_filter.mpr ⟨List.mem_of_getElem? (i := 655) (by decide +kernel), rfl⟩
theorem wq_656 : Cond.instanceMethod ⟨"ForgeScheduler$Forge", "orderByIndex", "()V"⟩ ∈ gtb := List.mem_filter.mpr ⟨List.mem_of_getElem? (i := 656) (by decide +kernel), rfl⟩
theorem wq_657 : Cond.selects "ForgeScheduler$Forge" ⟨"ForgeScheduler$Forge", "orderByIndex", "()V"⟩ ⟨"ForgeScheduler$Forge", "orderByIndex", "()V"⟩ ∈ gtb := List.mem_filter.mpr ⟨List.mem_of_getElem? (i := 657) (by decide +kernel), rfl⟩
theorem wq_658 : Cond.code ⟨"ForgeScheduler$Forge", "orderByIndex", "()V"⟩ prog_4_method_9_code 2 none ∈ gtb := List.mem_filter.mpr ⟨List.mem_of_getElem? (i := 658) (by decide +kernel), rfl⟩
theorem wq_659 : Cond.methodLink "ForgeScheduler$BestOrder" 27 ⟨"ForgeScheduler$Run", "endWithin", "(I)I"⟩ ∈ gtb := List.mem_filter.mpr ⟨List.mem_of_getElem? (i := 659) (by decide +kernel), rfl⟩
theorem wq_660 : Cond.instanceMethod ⟨"ForgeScheduler$Run", "endWithin", "(I)I"⟩ ∈ gtb := List.mem_filter.mpr ⟨List.mem_of_getElem? (i := 660) (by decide +kernel), rfl⟩
theorem wq_661 : Cond.selects "ForgeScheduler$Run" ⟨"ForgeScheduler$Run", "endWithin", "(I)I"⟩ ⟨"ForgeScheduler$Run", "endWithin", "(I)I"⟩ ∈ gtb := List.mem_filter.mpr ⟨List.mem_of_getElem? (i := 661) (by decide +kernel), rfl⟩
theorem wq_662 : Cond.code ⟨"ForgeScheduler$Run", "endWithin", "(I)I"⟩ prog_7_method_2_code 4 (some .int) ∈ gtb := List.mem_filter.mpr ⟨List.mem_of_getElem? (i := 662) (by decide +kernel), rfl⟩
theorem wq_663 : Cond.methodLink "ForgeScheduler$Run" 49 ⟨"ForgeScheduler$Run", "begin", "()V"⟩ ∈ gtb := List.mem_filter.mpr ⟨List.mem_of_getElem? (i := 663) (by decide +kernel), rfl⟩
theorem wq_664 : Cond.methodLink "ForgeScheduler$Run" 56 ⟨"ForgeScheduler$Run", "clearAnvils", "()V"⟩ ∈ gtb := List.mem_filter.mpr ⟨List.mem_of_getElem? (i := 664) (by decide +kernel), rfl⟩
theorem wq_665 : Cond.methodLink "ForgeScheduler$Run" 59 ⟨"ForgeScheduler$Run", "fillAnvils", "()V"⟩ ∈ gtb := List.mem_filter.mpr ⟨List.mem_of_getElem? (i := 665) (by decide +kernel), rfl⟩
theorem wq_666 : Cond.methodLink "ForgeScheduler$Run" 62 ⟨"ForgeScheduler$Run", "fillPlaces", "()V"⟩ ∈ gtb := List.mem_filter.mpr ⟨List.mem_of_getElem? (i := 666) (by decide +kernel), rfl⟩
theorem wq_667 : Cond.methodLink "ForgeScheduler$Run" 65 ⟨"ForgeScheduler$Run", "pass", "(I)Z"⟩ ∈ gtb := List.mem_filter.mpr ⟨List.mem_of_getElem? (i := 667) (by decide +kernel), rfl⟩
theorem wq_668 : Cond.methodLink "ForgeScheduler$Run" 69 ⟨"ForgeScheduler$Run", "endMinute", "()I"⟩ ∈ gtb := List.mem_filter.mpr ⟨List.mem_of_getElem? (i := 668) (by decide +kernel), rfl⟩
theorem wq_669 : Cond.methodLink "ForgeScheduler$BestOrder" 33 ⟨"ForgeScheduler$BestOrder", "take", "(LForgeScheduler$Forge;I)V"⟩ ∈ gtb := List.mem_filter.mpr ⟨List.mem_of_getElem? (i := 669) (by decide +kernel), rfl⟩
theorem wq_671 : Cond.instanceMethod ⟨"ForgeScheduler$BestOrder", "take", "(LForgeScheduler$Forge;I)V"⟩ ∈ gtb := List.mem_filter.mpr ⟨List.mem_of_getElem? (i := 671) (by decide +kernel), rfl⟩
theorem wq_672 : Cond.code ⟨"ForgeScheduler$BestOrder", "take", "(LForgeScheduler$Forge;I)V"⟩ prog_2_method_3_code 3 none ∈ gtb := List.mem_filter.mpr ⟨List.mem_of_getElem? (i := 672) (by decide +kernel), rfl⟩
theorem wq_673 : Cond.methodLink "ForgeScheduler$BestOrder" 42 ⟨"java/lang/System", "arraycopy", "(Ljava/lang/Object;ILjava/lang/Object;II)V"⟩ ∈ gtb := List.mem_filter.mpr ⟨List.mem_of_getElem? (i := 673) (by decide +kernel), rfl⟩
theorem wq_674 : Cond.methodLink "ForgeScheduler$BestOrder" 37 ⟨"ForgeScheduler$BestOrder", "advance", "(LForgeScheduler$Forge;)Z"⟩ ∈ gtb := List.mem_filter.mpr ⟨List.mem_of_getElem? (i := 674) (by decide +kernel), rfl⟩
theorem wq_676 : Cond.instanceMethod ⟨"ForgeScheduler$BestOrder", "advance", "(LForgeScheduler$Forge;)Z"⟩ ∈ gtb := List.mem_filter.mpr ⟨List.mem_of_getElem? (i := 676) (by decide +kernel), rfl⟩
theorem wq_677 : Cond.code ⟨"ForgeScheduler$BestOrder", "advance", "(LForgeScheduler$Forge;)Z"⟩ prog_2_method_4_code 7 (some .boolean) ∈ gtb := List.mem_filter.mpr ⟨List.mem_of_getElem? (i := 677) (by decide +kernel), rfl⟩
theorem wq_678 : Cond.methodLink "ForgeScheduler$BestOrder" 51 ⟨"ForgeScheduler$Forge", "exchange", "(II)V"⟩ ∈ gtb := List.mem_filter.mpr ⟨List.mem_of_getElem? (i := 678) (by decide +kernel), rfl⟩
theorem wq_679 : Cond.instanceMethod ⟨"ForgeScheduler$Forge", "exchange", "(II)V"⟩ ∈ gtb := List.mem_filter.mpr ⟨List.mem_of_getElem? (i := 679) (by decide +kernel), rfl⟩
theorem wq_680 : Cond.selects "ForgeScheduler$Forge" ⟨"ForgeScheduler$Forge", "exchange", "(II)V"⟩ ⟨"ForgeScheduler$Forge", "exchange", "(II)V"⟩ ∈ gtb := List.mem_filter.mpr ⟨List.mem_of_getElem? (i := 680) (by decide +kernel), rfl⟩
theorem wq_681 : Cond.code ⟨"ForgeScheduler$Forge", "exchange", "(II)V"⟩ prog_4_method_10_code 4 none ∈ gtb := List.mem_filter.mpr ⟨List.mem_of_getElem? (i := 681) (by decide +kernel), rfl⟩
theorem wq_690 : Cond.methodLink "ForgeScheduler" 220 ⟨"ForgeScheduler", "finishWithSetting", "(II)I"⟩ ∈ gtb := List.mem_filter.mpr ⟨List.mem_of_getElem? (i := 690) (by decide +kernel), rfl⟩
theorem wq_692 : Cond.instanceMethod ⟨"ForgeScheduler", "finishWithSetting", "(II)I"⟩ ∈ gtb := List.mem_filter.mpr ⟨List.mem_of_getElem? (i := 692) (by decide +kernel), rfl⟩
theorem wq_693 : Cond.code ⟨"ForgeScheduler", "finishWithSetting", "(II)I"⟩ prog_1_method_73_code 3 (some .int) ∈ gtb := List.mem_filter.mpr ⟨List.mem_of_getElem? (i := 693) (by decide +kernel), rfl⟩
theorem wq_694 : Cond.methodLink "ForgeScheduler" 232 ⟨"ForgeScheduler", "isSettingValue", "(II)Z"⟩ ∈ gtb := List.mem_filter.mpr ⟨List.mem_of_getElem? (i := 694) (by decide +kernel), rfl⟩
theorem wq_695 : Cond.static ⟨"ForgeScheduler", "isSettingValue", "(II)Z"⟩ ∈ gtb := List.mem_filter.mpr ⟨List.mem_of_getElem? (i := 695) (by decide +kernel), rfl⟩
theorem wq_696 : Cond.code ⟨"ForgeScheduler", "isSettingValue", "(II)Z"⟩ prog_1_method_62_code 2 (some .boolean) ∈ gtb := List.mem_filter.mpr ⟨List.mem_of_getElem? (i := 696) (by decide +kernel), rfl⟩
theorem wq_697 : Cond.fieldLink "ForgeScheduler" 277 "ForgeScheduler" "LEAST_SETTING" "[I" ∈ gtb := List.mem_filter.mpr ⟨List.mem_of_getElem? (i := 697) (by decide +kernel), rfl⟩
theorem wq_698 : Cond.fieldLink "ForgeScheduler" 280 "ForgeScheduler" "MOST_SETTING" "[I" ∈ gtb := List.mem_filter.mpr ⟨List.mem_of_getElem? (i := 698) (by decide +kernel), rfl⟩
theorem wq_699 : Cond.methodLink "ForgeScheduler" 217 ⟨"ForgeScheduler$Run", "endWithin", "(I)I"⟩ ∈ gtb := List.mem_filter.mpr ⟨List.mem_of_getElem? (i := 699) (by decide +kernel), rfl⟩
theorem wq_704 : Cond.methodLink "ForgeScheduler" 223 ⟨"ForgeScheduler", "bestValue", "(II)I"⟩ ∈ gtb := List.mem_filter.mpr ⟨List.mem_of_getElem? (i := 704) (by decide +kernel), rfl⟩
theorem wq_706 : Cond.instanceMethod ⟨"ForgeScheduler", "bestValue", "(II)I"⟩ ∈ gtb := List.mem_filter.mpr ⟨List.mem_of_getElem? (i := 706) (by decide +kernel), rfl⟩
theorem wq_707 : Cond.code ⟨"ForgeScheduler", "bestValue", "(II)I"⟩ prog_1_method_74_code 7 (some .int) ∈ gtb := List.mem_filter.mpr ⟨List.mem_of_getElem? (i := 707) (by decide +kernel), rfl⟩
theorem wq_708 : Cond.methodLink "ForgeScheduler" 306 ⟨"java/lang/Math", "min", "(II)I"⟩ ∈ gtb := List.mem_filter.mpr ⟨List.mem_of_getElem? (i := 708) (by decide +kernel), rfl⟩
theorem wq_732 : Cond.methodLink "ForgeScheduler" 239 ⟨"ForgeScheduler", "isIron", "(I)Z"⟩ ∈ gtb := List.mem_filter.mpr ⟨List.mem_of_getElem? (i := 732) (by decide +kernel), rfl⟩
theorem wq_734 : Cond.instanceMethod ⟨"ForgeScheduler", "isIron", "(I)Z"⟩ ∈ gtb := List.mem_filter.mpr ⟨List.mem_of_getElem? (i := 734) (by decide +kernel), rfl⟩
theorem wq_735 : Cond.code ⟨"ForgeScheduler", "isIron", "(I)Z"⟩ prog_1_method_63_code 2 (some .boolean) ∈ gtb := List.mem_filter.mpr ⟨List.mem_of_getElem? (i := 735) (by decide +kernel), rfl⟩
theorem wq_736 : Cond.methodLink "ForgeScheduler" 214 ⟨"ForgeScheduler$Forge", "exchange", "(II)V"⟩ ∈ gtb := List.mem_filter.mpr ⟨List.mem_of_getElem? (i := 736) (by decide +kernel), rfl⟩
theorem wq_746 : Cond.methodLink "ForgeScheduler" 248 ⟨"ForgeScheduler", "isPlace", "(I)Z"⟩ ∈ gtb := List.mem_filter.mpr ⟨List.mem_of_getElem? (i := 746) (by decide +kernel), rfl⟩
theorem wq_748 : Cond.instanceMethod ⟨"ForgeScheduler", "isPlace", "(I)Z"⟩ ∈ gtb := List.mem_filter.mpr ⟨List.mem_of_getElem? (i := 748) (by decide +kernel), rfl⟩
theorem wq_749 : Cond.code ⟨"ForgeScheduler", "isPlace", "(I)Z"⟩ prog_1_method_64_code 2 (some .boolean) ∈ gtb := List.mem_filter.mpr ⟨List.mem_of_getElem? (i := 749) (by decide +kernel), rfl⟩
theorem wq_771 : Cond.methodLink "ForgeScheduler" 268 ⟨"ForgeScheduler$Log", "finishedAfter", "(I)I"⟩ ∈ gtb := List.mem_filter.mpr ⟨List.mem_of_getElem? (i := 771) (by decide +kernel), rfl⟩
theorem wq_772 : Cond.instanceMethod ⟨"ForgeScheduler$Log", "finishedAfter", "(I)I"⟩ ∈ gtb := List.mem_filter.mpr ⟨List.mem_of_getElem? (i := 772) (by decide +kernel), rfl⟩
theorem wq_773 : Cond.selects "ForgeScheduler$Log" ⟨"ForgeScheduler$Log", "finishedAfter", "(I)I"⟩ ⟨"ForgeScheduler$Log", "finishedAfter", "(I)I"⟩ ∈ gtb := List.mem_filter.mpr ⟨List.mem_of_getElem? (i := 773) (by decide +kernel), rfl⟩
theorem wq_774 : Cond.code ⟨"ForgeScheduler$Log", "finishedAfter", "(I)I"⟩ prog_5_method_14_code 4 (some .int) ∈ gtb := List.mem_filter.mpr ⟨List.mem_of_getElem? (i := 774) (by decide +kernel), rfl⟩
theorem wq_775 : Cond.methodLink "ForgeScheduler$Log" 84 ⟨"ForgeScheduler$Log", "stepsOf", "(II)I"⟩ ∈ gtb := List.mem_filter.mpr ⟨List.mem_of_getElem? (i := 775) (by decide +kernel), rfl⟩
theorem wq_776 : Cond.instanceMethod ⟨"ForgeScheduler$Log", "stepsOf", "(II)I"⟩ ∈ gtb := List.mem_filter.mpr ⟨List.mem_of_getElem? (i := 776) (by decide +kernel), rfl⟩
theorem wq_777 : Cond.selects "ForgeScheduler$Log" ⟨"ForgeScheduler$Log", "stepsOf", "(II)I"⟩ ⟨"ForgeScheduler$Log", "stepsOf", "(II)I"⟩ ∈ gtb := List.mem_filter.mpr ⟨List.mem_of_getElem? (i := 777) (by decide +kernel), rfl⟩
theorem wq_778 : Cond.code ⟨"ForgeScheduler$Log", "stepsOf", "(II)I"⟩ prog_5_method_6_code 3 (some .int) ∈ gtb := List.mem_filter.mpr ⟨List.mem_of_getElem? (i := 778) (by decide +kernel), rfl⟩
theorem wq_783 : Cond.methodLink "ForgeScheduler" 271 ⟨"ForgeScheduler$Log", "minutesIdle", "()I"⟩ ∈ gtb := List.mem_filter.mpr ⟨List.mem_of_getElem? (i := 783) (by decide +kernel), rfl⟩
theorem wq_784 : Cond.instanceMethod ⟨"ForgeScheduler$Log", "minutesIdle", "()I"⟩ ∈ gtb := List.mem_filter.mpr ⟨List.mem_of_getElem? (i := 784) (by decide +kernel), rfl⟩
theorem wq_785 : Cond.selects "ForgeScheduler$Log" ⟨"ForgeScheduler$Log", "minutesIdle", "()I"⟩ ⟨"ForgeScheduler$Log", "minutesIdle", "()I"⟩ ∈ gtb := List.mem_filter.mpr ⟨List.mem_of_getElem? (i := 785) (by decide +kernel), rfl⟩
theorem wq_786 : Cond.code ⟨"ForgeScheduler$Log", "minutesIdle", "()I"⟩ prog_5_method_15_code 3 (some .int) ∈ gtb := List.mem_filter.mpr ⟨List.mem_of_getElem? (i := 786) (by decide +kernel), rfl⟩
theorem wq_787 : Cond.methodLink "ForgeScheduler$Log" 91 ⟨"ForgeScheduler$Log", "finishedAfter", "(I)I"⟩ ∈ gtb := List.mem_filter.mpr ⟨List.mem_of_getElem? (i := 787) (by decide +kernel), rfl⟩
theorem wq_788 : Cond.methodLink "ForgeScheduler$Log" 95 ⟨"ForgeScheduler$Log", "anvilsUsed", "(I)I"⟩ ∈ gtb := List.mem_filter.mpr ⟨List.mem_of_getElem? (i := 788) (by decide +kernel), rfl⟩
theorem wq_790 : Cond.instanceMethod ⟨"ForgeScheduler$Log", "anvilsUsed", "(I)I"⟩ ∈ gtb := List.mem_filter.mpr ⟨List.mem_of_getElem? (i := 790) (by decide +kernel), rfl⟩
theorem wq_791 : Cond.code ⟨"ForgeScheduler$Log", "anvilsUsed", "(I)I"⟩ prog_5_method_16_code 4 (some .int) ∈ gtb := List.mem_filter.mpr ⟨List.mem_of_getElem? (i := 791) (by decide +kernel), rfl⟩
theorem wq_792 : Cond.methodLink "ForgeScheduler$Log" 81 ⟨"ForgeScheduler$Log", "spotOf", "(II)I"⟩ ∈ gtb := List.mem_filter.mpr ⟨List.mem_of_getElem? (i := 792) (by decide +kernel), rfl⟩
theorem wq_793 : Cond.instanceMethod ⟨"ForgeScheduler$Log", "spotOf", "(II)I"⟩ ∈ gtb := List.mem_filter.mpr ⟨List.mem_of_getElem? (i := 793) (by decide +kernel), rfl⟩
theorem wq_794 : Cond.selects "ForgeScheduler$Log" ⟨"ForgeScheduler$Log", "spotOf", "(II)I"⟩ ⟨"ForgeScheduler$Log", "spotOf", "(II)I"⟩ ∈ gtb := List.mem_filter.mpr ⟨List.mem_of_getElem? (i := 794) (by decide +kernel), rfl⟩
theorem wq_795 : Cond.code ⟨"ForgeScheduler$Log", "spotOf", "(II)I"⟩ prog_5_method_7_code 3 (some .int) ∈ gtb := List.mem_filter.mpr ⟨List.mem_of_getElem? (i := 795) (by decide +kernel), rfl⟩
theorem wq_808 : Cond.methodLink "ForgeScheduler" 274 ⟨"ForgeScheduler", "finish", "()I"⟩ ∈ gtb := List.mem_filter.mpr ⟨List.mem_of_getElem? (i := 808) (by decide +kernel), rfl⟩
theorem wq_809 : Cond.methodLink "ForgeScheduler" 229 ⟨"ForgeScheduler", "finishOfOthers", "(I)I"⟩ ∈ gtb := List.mem_filter.mpr ⟨List.mem_of_getElem? (i := 809) (by decide +kernel), rfl⟩
theorem wq_811 : Cond.instanceMethod ⟨"ForgeScheduler", "finishOfOthers", "(I)I"⟩ ∈ gtb := List.mem_filter.mpr ⟨List.mem_of_getElem? (i := 811) (by decide +kernel), rfl⟩
theorem wq_812 : Cond.code ⟨"ForgeScheduler", "finishOfOthers", "(I)I"⟩ prog_1_method_75_code 2 (some .int) ∈ gtb := List.mem_filter.mpr ⟨List.mem_of_getElem? (i := 812) (by decide +kernel), rfl⟩
theorem wq_821 : Cond.methodLink "ForgeScheduler" 110 ⟨"ForgeScheduler", "requireIron", "(I)V"⟩ ∈ gtb := List.mem_filter.mpr ⟨List.mem_of_getElem? (i := 821) (by decide +kernel), rfl⟩
theorem wq_823 : Cond.instanceMethod ⟨"ForgeScheduler", "requireIron", "(I)V"⟩ ∈ gtb := List.mem_filter.mpr ⟨List.mem_of_getElem? (i := 823) (by decide +kernel), rfl⟩
theorem wq_824 : Cond.code ⟨"ForgeScheduler", "requireIron", "(I)V"⟩ prog_1_method_65_code 2 none ∈ gtb := List.mem_filter.mpr ⟨List.mem_of_getElem? (i := 824) (by decide +kernel), rfl⟩
theorem wq_825 : Cond.classLink "ForgeScheduler" 283 "java/lang/IndexOutOfBoundsException" ∈ gtb := List.mem_filter.mpr ⟨List.mem_of_getElem? (i := 825) (by decide +kernel), rfl⟩
theorem wq_911 : Cond.methodLink "ForgeScheduler" 123 ⟨"ForgeScheduler", "requireStep", "(II)V"⟩ ∈ gtb := List.mem_filter.mpr ⟨List.mem_of_getElem? (i := 911) (by decide +kernel), rfl⟩
theorem wq_913 : Cond.instanceMethod ⟨"ForgeScheduler", "requireStep", "(II)V"⟩ ∈ gtb := List.mem_filter.mpr ⟨List.mem_of_getElem? (i := 913) (by decide +kernel), rfl⟩
theorem wq_914 : Cond.code ⟨"ForgeScheduler", "requireStep", "(II)V"⟩ prog_1_method_66_code 3 none ∈ gtb := List.mem_filter.mpr ⟨List.mem_of_getElem? (i := 914) (by decide +kernel), rfl⟩
theorem wq_916 : Cond.methodLink "ForgeScheduler" 127 ⟨"ForgeScheduler$Forge", "heatOfStep", "(II)I"⟩ ∈ gtb := List.mem_filter.mpr ⟨List.mem_of_getElem? (i := 916) (by decide +kernel), rfl⟩
theorem wq_917 : Cond.instanceMethod ⟨"ForgeScheduler$Forge", "heatOfStep", "(II)I"⟩ ∈ gtb := List.mem_filter.mpr ⟨List.mem_of_getElem? (i := 917) (by decide +kernel), rfl⟩
theorem wq_918 : Cond.selects "ForgeScheduler$Forge" ⟨"ForgeScheduler$Forge", "heatOfStep", "(II)I"⟩ ⟨"ForgeScheduler$Forge", "heatOfStep", "(II)I"⟩ ∈ gtb := List.mem_filter.mpr ⟨List.mem_of_getElem? (i := 918) (by decide +kernel), rfl⟩
theorem wq_919 : Cond.code ⟨"ForgeScheduler$Forge", "heatOfStep", "(II)I"⟩ prog_4_method_4_code 3 (some .int) ∈ gtb := List.mem_filter.mpr ⟨List.mem_of_getElem? (i := 919) (by decide +kernel), rfl⟩
theorem wq_927 : Cond.methodLink "ForgeScheduler" 131 ⟨"ForgeScheduler$Forge", "minutesOfStep", "(II)I"⟩ ∈ gtb := List.mem_filter.mpr ⟨List.mem_of_getElem? (i := 927) (by decide +kernel), rfl⟩
theorem wq_928 : Cond.instanceMethod ⟨"ForgeScheduler$Forge", "minutesOfStep", "(II)I"⟩ ∈ gtb := List.mem_filter.mpr ⟨List.mem_of_getElem? (i := 928) (by decide +kernel), rfl⟩
theorem wq_929 : Cond.selects "ForgeScheduler$Forge" ⟨"ForgeScheduler$Forge", "minutesOfStep", "(II)I"⟩ ⟨"ForgeScheduler$Forge", "minutesOfStep", "(II)I"⟩ ∈ gtb := List.mem_filter.mpr ⟨List.mem_of_getElem? (i := 929) (by decide +kernel), rfl⟩
theorem wq_930 : Cond.code ⟨"ForgeScheduler$Forge", "minutesOfStep", "(II)I"⟩ prog_4_method_5_code 3 (some .int) ∈ gtb := List.mem_filter.mpr ⟨List.mem_of_getElem? (i := 930) (by decide +kernel), rfl⟩
theorem wq_938 : Cond.methodLink "ForgeScheduler" 134 ⟨"ForgeScheduler", "requirePlace", "(I)V"⟩ ∈ gtb := List.mem_filter.mpr ⟨List.mem_of_getElem? (i := 938) (by decide +kernel), rfl⟩
theorem wq_940 : Cond.instanceMethod ⟨"ForgeScheduler", "requirePlace", "(I)V"⟩ ∈ gtb := List.mem_filter.mpr ⟨List.mem_of_getElem? (i := 940) (by decide +kernel), rfl⟩
theorem wq_941 : Cond.code ⟨"ForgeScheduler", "requirePlace", "(I)V"⟩ prog_1_method_67_code 2 none ∈ gtb := List.mem_filter.mpr ⟨List.mem_of_getElem? (i := 941) (by decide +kernel), rfl⟩
theorem wq_964 : Cond.methodLink "ForgeScheduler" 153 ⟨"ForgeScheduler$Forge", "findPosition", "(I)I"⟩ ∈ gtb := List.mem_filter.mpr ⟨List.mem_of_getElem? (i := 964) (by decide +kernel), rfl⟩
theorem wq_965 : Cond.instanceMethod ⟨"ForgeScheduler$Forge", "findPosition", "(I)I"⟩ ∈ gtb := List.mem_filter.mpr ⟨List.mem_of_getElem? (i := 965) (by decide +kernel), rfl⟩
theorem wq_966 : Cond.selects "ForgeScheduler$Forge" ⟨"ForgeScheduler$Forge", "findPosition", "(I)I"⟩ ⟨"ForgeScheduler$Forge", "findPosition", "(I)I"⟩ ∈ gtb := List.mem_filter.mpr ⟨List.mem_of_getElem? (i := 966) (by decide +kernel), rfl⟩
theorem wq_967 : Cond.code ⟨"ForgeScheduler$Forge", "findPosition", "(I)I"⟩ prog_4_method_8_code 3 (some .int) ∈ gtb := List.mem_filter.mpr ⟨List.mem_of_getElem? (i := 967) (by decide +kernel), rfl⟩
theorem wq_982 : Cond.methodLink "ForgeScheduler" 170 ⟨"ForgeScheduler$Log", "heatOf", "(II)I"⟩ ∈ gtb := List.mem_filter.mpr ⟨List.mem_of_getElem? (i := 982) (by decide +kernel), rfl⟩
theorem wq_983 : Cond.instanceMethod ⟨"ForgeScheduler$Log", "heatOf", "(II)I"⟩ ∈ gtb := List.mem_filter.mpr ⟨List.mem_of_getElem? (i := 983) (by decide +kernel), rfl⟩
theorem wq_984 : Cond.selects "ForgeScheduler$Log" ⟨"ForgeScheduler$Log", "heatOf", "(II)I"⟩ ⟨"ForgeScheduler$Log", "heatOf", "(II)I"⟩ ∈ gtb := List.mem_filter.mpr ⟨List.mem_of_getElem? (i := 984) (by decide +kernel), rfl⟩
theorem wq_985 : Cond.code ⟨"ForgeScheduler$Log", "heatOf", "(II)I"⟩ prog_5_method_5_code 3 (some .int) ∈ gtb := List.mem_filter.mpr ⟨List.mem_of_getElem? (i := 985) (by decide +kernel), rfl⟩
theorem wq_993 : Cond.methodLink "ForgeScheduler" 173 ⟨"ForgeScheduler", "isMinute", "(I)Z"⟩ ∈ gtb := List.mem_filter.mpr ⟨List.mem_of_getElem? (i := 993) (by decide +kernel), rfl⟩
theorem wq_994 : Cond.static ⟨"ForgeScheduler", "isMinute", "(I)Z"⟩ ∈ gtb := List.mem_filter.mpr ⟨List.mem_of_getElem? (i := 994) (by decide +kernel), rfl⟩
theorem wq_995 : Cond.code ⟨"ForgeScheduler", "isMinute", "(I)Z"⟩ prog_1_method_60_code 1 (some .boolean) ∈ gtb := List.mem_filter.mpr ⟨List.mem_of_getElem? (i := 995) (by decide +kernel), rfl⟩
theorem wq_996 : Cond.methodLink "ForgeScheduler" 176 ⟨"ForgeScheduler$Log", "spotOf", "(II)I"⟩ ∈ gtb := List.mem_filter.mpr ⟨List.mem_of_getElem? (i := 996) (by decide +kernel), rfl⟩
theorem wq_1004 : Cond.methodLink "ForgeScheduler" 179 ⟨"ForgeScheduler$Log", "stepsOf", "(II)I"⟩ ∈ gtb := List.mem_filter.mpr ⟨List.mem_of_getElem? (i := 1004) (by decide +kernel), rfl⟩
theorem wq_1026 : Cond.methodLink "ForgeScheduler" 188 ⟨"ForgeScheduler$Log", "minutesInFire", "(I)I"⟩ ∈ gtb := List.mem_filter.mpr ⟨List.mem_of_getElem? (i := 1026) (by decide +kernel), rfl⟩
theorem wq_1027 : Cond.instanceMethod ⟨"ForgeScheduler$Log", "minutesInFire", "(I)I"⟩ ∈ gtb := List.mem_filter.mpr ⟨List.mem_of_getElem? (i := 1027) (by decide +kernel), rfl⟩
theorem wq_1028 : Cond.selects "ForgeScheduler$Log" ⟨"ForgeScheduler$Log", "minutesInFire", "(I)I"⟩ ⟨"ForgeScheduler$Log", "minutesInFire", "(I)I"⟩ ∈ gtb := List.mem_filter.mpr ⟨List.mem_of_getElem? (i := 1028) (by decide +kernel), rfl⟩
theorem wq_1029 : Cond.code ⟨"ForgeScheduler$Log", "minutesInFire", "(I)I"⟩ prog_5_method_9_code 5 (some .int) ∈ gtb := List.mem_filter.mpr ⟨List.mem_of_getElem? (i := 1029) (by decide +kernel), rfl⟩
theorem wq_1037 : Cond.methodLink "ForgeScheduler" 191 ⟨"ForgeScheduler", "requireAnvil", "(I)V"⟩ ∈ gtb := List.mem_filter.mpr ⟨List.mem_of_getElem? (i := 1037) (by decide +kernel), rfl⟩
theorem wq_1039 : Cond.instanceMethod ⟨"ForgeScheduler", "requireAnvil", "(I)V"⟩ ∈ gtb := List.mem_filter.mpr ⟨List.mem_of_getElem? (i := 1039) (by decide +kernel), rfl⟩
theorem wq_1040 : Cond.code ⟨"ForgeScheduler", "requireAnvil", "(I)V"⟩ prog_1_method_68_code 2 none ∈ gtb := List.mem_filter.mpr ⟨List.mem_of_getElem? (i := 1040) (by decide +kernel), rfl⟩
theorem wq_1042 : Cond.methodLink "ForgeScheduler" 194 ⟨"ForgeScheduler$Log", "minutesUsed", "(I)I"⟩ ∈ gtb := List.mem_filter.mpr ⟨List.mem_of_getElem? (i := 1042) (by decide +kernel), rfl⟩
theorem wq_1043 : Cond.instanceMethod ⟨"ForgeScheduler$Log", "minutesUsed", "(I)I"⟩ ∈ gtb := List.mem_filter.mpr ⟨List.mem_of_getElem? (i := 1043) (by decide +kernel), rfl⟩
theorem wq_1044 : Cond.selects "ForgeScheduler$Log" ⟨"ForgeScheduler$Log", "minutesUsed", "(I)I"⟩ ⟨"ForgeScheduler$Log", "minutesUsed", "(I)I"⟩ ∈ gtb := List.mem_filter.mpr ⟨List.mem_of_getElem? (i := 1044) (by decide +kernel), rfl⟩
theorem wq_1045 : Cond.code ⟨"ForgeScheduler$Log", "minutesUsed", "(I)I"⟩ prog_5_method_12_code 4 (some .int) ∈ gtb := List.mem_filter.mpr ⟨List.mem_of_getElem? (i := 1045) (by decide +kernel), rfl⟩
theorem wq_1046 : Cond.methodLink "ForgeScheduler$Log" 87 ⟨"ForgeScheduler$Log", "ironOnSpot", "(II)I"⟩ ∈ gtb := List.mem_filter.mpr ⟨List.mem_of_getElem? (i := 1046) (by decide +kernel), rfl⟩
theorem wq_1047 : Cond.instanceMethod ⟨"ForgeScheduler$Log", "ironOnSpot", "(II)I"⟩ ∈ gtb := List.mem_filter.mpr ⟨List.mem_of_getElem? (i := 1047) (by decide +kernel), rfl⟩
theorem wq_1048 : Cond.selects "ForgeScheduler$Log" ⟨"ForgeScheduler$Log", "ironOnSpot", "(II)I"⟩ ⟨"ForgeScheduler$Log", "ironOnSpot", "(II)I"⟩ ∈ gtb := List.mem_filter.mpr ⟨List.mem_of_getElem? (i := 1048) (by decide +kernel), rfl⟩
theorem wq_1049 : Cond.code ⟨"ForgeScheduler$Log", "ironOnSpot", "(II)I"⟩ prog_5_method_13_code 4 (some .int) ∈ gtb := List.mem_filter.mpr ⟨List.mem_of_getElem? (i := 1049) (by decide +kernel), rfl⟩
theorem wq_1064 : Cond.methodLink "ForgeScheduler" 197 ⟨"ForgeScheduler$Log", "greatestHeat", "(I)I"⟩ ∈ gtb := List.mem_filter.mpr ⟨List.mem_of_getElem? (i := 1064) (by decide +kernel), rfl⟩
theorem wq_1065 : Cond.instanceMethod ⟨"ForgeScheduler$Log", "greatestHeat", "(I)I"⟩ ∈ gtb := List.mem_filter.mpr ⟨List.mem_of_getElem? (i := 1065) (by decide +kernel), rfl⟩
theorem wq_1066 : Cond.selects "ForgeScheduler$Log" ⟨"ForgeScheduler$Log", "greatestHeat", "(I)I"⟩ ⟨"ForgeScheduler$Log", "greatestHeat", "(I)I"⟩ ∈ gtb := List.mem_filter.mpr ⟨List.mem_of_getElem? (i := 1066) (by decide +kernel), rfl⟩
theorem wq_1067 : Cond.code ⟨"ForgeScheduler$Log", "greatestHeat", "(I)I"⟩ prog_5_method_8_code 4 (some .int) ∈ gtb := List.mem_filter.mpr ⟨List.mem_of_getElem? (i := 1067) (by decide +kernel), rfl⟩
theorem wq_1068 : Cond.methodLink "ForgeScheduler$Log" 72 ⟨"ForgeScheduler$Log", "heatOf", "(II)I"⟩ ∈ gtb := List.mem_filter.mpr ⟨List.mem_of_getElem? (i := 1068) (by decide +kernel), rfl⟩
theorem wq_1069 : Cond.methodLink "ForgeScheduler$Log" 76 ⟨"java/lang/Math", "max", "(II)I"⟩ ∈ gtb := List.mem_filter.mpr ⟨List.mem_of_getElem? (i := 1069) (by decide +kernel), rfl⟩
theorem wq_1091 : Cond.methodLink "ForgeScheduler" 226 ⟨"ForgeScheduler$Forge", "dropPlace", "(I)V"⟩ ∈ gtb := List.mem_filter.mpr ⟨List.mem_of_getElem? (i := 1091) (by decide +kernel), rfl⟩
theorem wq_1092 : Cond.instanceMethod ⟨"ForgeScheduler$Forge", "dropPlace", "(I)V"⟩ ∈ gtb := List.mem_filter.mpr ⟨List.mem_of_getElem? (i := 1092) (by decide +kernel), rfl⟩
theorem wq_1093 : Cond.selects "ForgeScheduler$Forge" ⟨"ForgeScheduler$Forge", "dropPlace", "(I)V"⟩ ⟨"ForgeScheduler$Forge", "dropPlace", "(I)V"⟩ ∈ gtb := List.mem_filter.mpr ⟨List.mem_of_getElem? (i := 1093) (by decide +kernel), rfl⟩
theorem wq_1094 : Cond.code ⟨"ForgeScheduler$Forge", "dropPlace", "(I)V"⟩ prog_4_method_14_code 3 none ∈ gtb := List.mem_filter.mpr ⟨List.mem_of_getElem? (i := 1094) (by decide +kernel), rfl⟩
theorem wq_1116 : Cond.methodLink "ForgeScheduler" 259 ⟨"ForgeScheduler$Log", "minutesOnRack", "(II)I"⟩ ∈ gtb := List.mem_filter.mpr ⟨List.mem_of_getElem? (i := 1116) (by decide +kernel), rfl⟩
theorem wq_1117 : Cond.instanceMethod ⟨"ForgeScheduler$Log", "minutesOnRack", "(II)I"⟩ ∈ gtb := List.mem_filter.mpr ⟨List.mem_of_getElem? (i := 1117) (by decide +kernel), rfl⟩
theorem wq_1118 : Cond.selects "ForgeScheduler$Log" ⟨"ForgeScheduler$Log", "minutesOnRack", "(II)I"⟩ ⟨"ForgeScheduler$Log", "minutesOnRack", "(II)I"⟩ ∈ gtb := List.mem_filter.mpr ⟨List.mem_of_getElem? (i := 1118) (by decide +kernel), rfl⟩
theorem wq_1119 : Cond.code ⟨"ForgeScheduler$Log", "minutesOnRack", "(II)I"⟩ prog_5_method_10_code 5 (some .int) ∈ gtb := List.mem_filter.mpr ⟨List.mem_of_getElem? (i := 1119) (by decide +kernel), rfl⟩
theorem wq_1127 : Cond.methodLink "ForgeScheduler" 262 ⟨"ForgeScheduler$Log", "firstOnAnvil", "(I)I"⟩ ∈ gtb := List.mem_filter.mpr ⟨List.mem_of_getElem? (i := 1127) (by decide +kernel), rfl⟩
theorem wq_1128 : Cond.instanceMethod ⟨"ForgeScheduler$Log", "firstOnAnvil", "(I)I"⟩ ∈ gtb := List.mem_filter.mpr ⟨List.mem_of_getElem? (i := 1128) (by decide +kernel), rfl⟩
theorem wq_1129 : Cond.selects "ForgeScheduler$Log" ⟨"ForgeScheduler$Log", "firstOnAnvil", "(I)I"⟩ ⟨"ForgeScheduler$Log", "firstOnAnvil", "(I)I"⟩ ∈ gtb := List.mem_filter.mpr ⟨List.mem_of_getElem? (i := 1129) (by decide +kernel), rfl⟩
theorem wq_1130 : Cond.code ⟨"ForgeScheduler$Log", "firstOnAnvil", "(I)I"⟩ prog_5_method_11_code 3 (some .int) ∈ gtb := List.mem_filter.mpr ⟨List.mem_of_getElem? (i := 1130) (by decide +kernel), rfl⟩
theorem wq_1138 : Cond.methodLink "ForgeScheduler" 265 ⟨"ForgeScheduler$Log", "ironOnSpot", "(II)I"⟩ ∈ gtb := List.mem_filter.mpr ⟨List.mem_of_getElem? (i := 1138) (by decide +kernel), rfl⟩
theorem wq_1166 : Cond.methodLink "ForgeSchedulerModel" 77 ⟨"ForgeSchedulerModel", "newForge", "()V"⟩ ∈ gtb := List.mem_filter.mpr ⟨List.mem_of_getElem? (i := 1166) (by decide +kernel), rfl⟩
theorem wq_1168 : Cond.instanceMethod ⟨"ForgeSchedulerModel", "newForge", "()V"⟩ ∈ gtb := List.mem_filter.mpr ⟨List.mem_of_getElem? (i := 1168) (by decide +kernel), rfl⟩
theorem wq_1169 : Cond.code ⟨"ForgeSchedulerModel", "newForge", "()V"⟩ prog_9_method_4_code 2 none ∈ gtb := List.mem_filter.mpr ⟨List.mem_of_getElem? (i := 1169) (by decide +kernel), rfl⟩
theorem wq_1170 : Cond.methodLink "ForgeSchedulerModel" 80 ⟨"ForgeSchedulerModel", "takes", "()V"⟩ ∈ gtb := List.mem_filter.mpr ⟨List.mem_of_getElem? (i := 1170) (by decide +kernel), rfl⟩
theorem wq_1172 : Cond.instanceMethod ⟨"ForgeSchedulerModel", "takes", "()V"⟩ ∈ gtb := List.mem_filter.mpr ⟨List.mem_of_getElem? (i := 1172) (by decide +kernel), rfl⟩
theorem wq_1173 : Cond.code ⟨"ForgeSchedulerModel", "takes", "()V"⟩ prog_9_method_5_code 2 none ∈ gtb := List.mem_filter.mpr ⟨List.mem_of_getElem? (i := 1173) (by decide +kernel), rfl⟩
theorem wq_1174 : Cond.fieldLink "ForgeSchedulerModel" 83 "ForgeSchedulerModel" "thrown" "I" ∈ gtb := List.mem_filter.mpr ⟨List.mem_of_getElem? (i := 1174) (by decide +kernel), rfl⟩
theorem wq_1175 : Cond.fieldLink "ForgeSchedulerModel" 7 "ForgeSchedulerModel" "bytes" "[I" ∈ gtb := List.mem_filter.mpr ⟨List.mem_of_getElem? (i := 1175) (by decide +kernel), rfl⟩
theorem wq_1176 : Cond.fieldLink "ForgeSchedulerModel" 86 "ForgeSchedulerModel" "byteCount" "I" ∈ gtb := List.mem_filter.mpr ⟨List.mem_of_getElem? (i := 1176) (by decide +kernel), rfl⟩
theorem wq_1177 : Cond.fieldLink "ForgeSchedulerModel" 13 "ForgeSchedulerModel" "told" "[I" ∈ gtb := List.mem_filter.mpr ⟨List.mem_of_getElem? (i := 1177) (by decide +kernel), rfl⟩
theorem wq_1178 : Cond.fieldLink "ForgeSchedulerModel" 16 "ForgeSchedulerModel" "read" "[I" ∈ gtb := List.mem_filter.mpr ⟨List.mem_of_getElem? (i := 1178) (by decide +kernel), rfl⟩
theorem wq_1179 : Cond.fieldLink "ForgeSchedulerModel" 19 "ForgeSchedulerModel" "now" "[I" ∈ gtb := List.mem_filter.mpr ⟨List.mem_of_getElem? (i := 1179) (by decide +kernel), rfl⟩
theorem wq_1180 : Cond.fieldLink "ForgeSchedulerModel" 22 "ForgeSchedulerModel" "readNow" "[I" ∈ gtb := List.mem_filter.mpr ⟨List.mem_of_getElem? (i := 1180) (by decide +kernel), rfl⟩
theorem wq_1181 : Cond.fieldLink "ForgeSchedulerModel" 25 "ForgeSchedulerModel" "past" "[I" ∈ gtb := List.mem_filter.mpr ⟨List.mem_of_getElem? (i := 1181) (by decide +kernel), rfl⟩
theorem wq_1182 : Cond.fieldLink "ForgeSchedulerModel" 95 "ForgeSchedulerModel" "kept" "I" ∈ gtb := List.mem_filter.mpr ⟨List.mem_of_getElem? (i := 1182) (by decide +kernel), rfl⟩
theorem wq_1183 : Cond.fieldLink "ForgeSchedulerModel" 108 "ForgeSchedulerModel" "size" "I" ∈ gtb := List.mem_filter.mpr ⟨List.mem_of_getElem? (i := 1183) (by decide +kernel), rfl⟩
theorem wq_1184 : Cond.fieldLink "ForgeSchedulerModel" 105 "ForgeSchedulerModel" "at" "I" ∈ gtb := List.mem_filter.mpr ⟨List.mem_of_getElem? (i := 1184) (by decide +kernel), rfl⟩
theorem wq_1185 : Cond.fieldLink "ForgeSchedulerModel" 115 "ForgeSchedulerModel" "place" "I" ∈ gtb := List.mem_filter.mpr ⟨List.mem_of_getElem? (i := 1185) (by decide +kernel), rfl⟩
theorem wq_1186 : Cond.fieldLink "ForgeSchedulerModel" 118 "ForgeSchedulerModel" "token" "I" ∈ gtb := List.mem_filter.mpr ⟨List.mem_of_getElem? (i := 1186) (by decide +kernel), rfl⟩
theorem wq_1187 : Cond.fieldLink "ForgeSchedulerModel" 128 "ForgeSchedulerModel" "value" "I" ∈ gtb := List.mem_filter.mpr ⟨List.mem_of_getElem? (i := 1187) (by decide +kernel), rfl⟩
theorem wq_1188 : Cond.fieldLink "ForgeSchedulerModel" 162 "ForgeSchedulerModel" "name" "I" ∈ gtb := List.mem_filter.mpr ⟨List.mem_of_getElem? (i := 1188) (by decide +kernel), rfl⟩
theorem wq_1189 : Cond.fieldLink "ForgeSchedulerModel" 146 "ForgeSchedulerModel" "error" "I" ∈ gtb := List.mem_filter.mpr ⟨List.mem_of_getElem? (i := 1189) (by decide +kernel), rfl⟩
theorem wq_1190 : Cond.fieldLink "ForgeSchedulerModel" 149 "ForgeSchedulerModel" "errorPlace" "I" ∈ gtb := List.mem_filter.mpr ⟨List.mem_of_getElem? (i := 1190) (by decide +kernel), rfl⟩
theorem wq_1191 : Cond.fieldLink "ForgeSchedulerModel" 28 "ForgeSchedulerModel" "lastError" "I" ∈ gtb := List.mem_filter.mpr ⟨List.mem_of_getElem? (i := 1191) (by decide +kernel), rfl⟩
theorem wq_1192 : Cond.fieldLink "ForgeSchedulerModel" 92 "ForgeSchedulerModel" "statements" "I" ∈ gtb := List.mem_filter.mpr ⟨List.mem_of_getElem? (i := 1192) (by decide +kernel), rfl⟩
theorem wq_1193 : Cond.fieldLink "ForgeSchedulerModel" 89 "ForgeSchedulerModel" "settingsGiven" "I" ∈ gtb := List.mem_filter.mpr ⟨List.mem_of_getElem? (i := 1193) (by decide +kernel), rfl⟩
theorem wq_1194 : Cond.fieldLink "ForgeSchedulerModel" 32 "ForgeSchedulerModel" "by" "[I" ∈ gtb := List.mem_filter.mpr ⟨List.mem_of_getElem? (i := 1194) (by decide +kernel), rfl⟩
theorem wq_1195 : Cond.fieldLink "ForgeSchedulerModel" 228 "ForgeSchedulerModel" "byMany" "I" ∈ gtb := List.mem_filter.mpr ⟨List.mem_of_getElem? (i := 1195) (by decide +kernel), rfl⟩
theorem wq_1196 : Cond.fieldLink "ForgeSchedulerModel" 225 "ForgeSchedulerModel" "margin" "I" ∈ gtb := List.mem_filter.mpr ⟨List.mem_of_getElem? (i := 1196) (by decide +kernel), rfl⟩
theorem wq_1197 : Cond.fieldLink "ForgeSchedulerModel" 246 "ForgeSchedulerModel" "without" "I" ∈ gtb := List.mem_filter.mpr ⟨List.mem_of_getElem? (i := 1197) (by decide +kernel), rfl⟩
theorem wq_1198 : Cond.fieldLink "ForgeSchedulerModel" 35 "ForgeSchedulerModel" "heat" "[I" ∈ gtb := List.mem_filter.mpr ⟨List.mem_of_getElem? (i := 1198) (by decide +kernel), rfl⟩
theorem wq_1199 : Cond.fieldLink "ForgeSchedulerModel" 38 "ForgeSchedulerModel" "where" "[I" ∈ gtb := List.mem_filter.mpr ⟨List.mem_of_getElem? (i := 1199) (by decide +kernel), rfl⟩
theorem wq_1200 : Cond.fieldLink "ForgeSchedulerModel" 41 "ForgeSchedulerModel" "done" "[I" ∈ gtb := List.mem_filter.mpr ⟨List.mem_of_getElem? (i := 1200) (by decide +kernel), rfl⟩
theorem wq_1201 : Cond.fieldLink "ForgeSchedulerModel" 44 "ForgeSchedulerModel" "worked" "[I" ∈ gtb := List.mem_filter.mpr ⟨List.mem_of_getElem? (i := 1201) (by decide +kernel), rfl⟩
theorem wq_1202 : Cond.fieldLink "ForgeSchedulerModel" 47 "ForgeSchedulerModel" "finished" "[I" ∈ gtb := List.mem_filter.mpr ⟨List.mem_of_getElem? (i := 1202) (by decide +kernel), rfl⟩
theorem wq_1203 : Cond.fieldLink "ForgeSchedulerModel" 50 "ForgeSchedulerModel" "stops" "[I" ∈ gtb := List.mem_filter.mpr ⟨List.mem_of_getElem? (i := 1203) (by decide +kernel), rfl⟩
theorem wq_1204 : Cond.fieldLink "ForgeSchedulerModel" 53 "ForgeSchedulerModel" "heated" "[I" ∈ gtb := List.mem_filter.mpr ⟨List.mem_of_getElem? (i := 1204) (by decide +kernel), rfl⟩
theorem wq_1205 : Cond.fieldLink "ForgeSchedulerModel" 56 "ForgeSchedulerModel" "heatRow" "[I" ∈ gtb := List.mem_filter.mpr ⟨List.mem_of_getElem? (i := 1205) (by decide +kernel), rfl⟩
theorem wq_1206 : Cond.fieldLink "ForgeSchedulerModel" 59 "ForgeSchedulerModel" "whereRow" "[I" ∈ gtb := List.mem_filter.mpr ⟨List.mem_of_getElem? (i := 1206) (by decide +kernel), rfl⟩
theorem wq_1207 : Cond.fieldLink "ForgeSchedulerModel" 62 "ForgeSchedulerModel" "doneRow" "[I" ∈ gtb := List.mem_filter.mpr ⟨List.mem_of_getElem? (i := 1207) (by decide +kernel), rfl⟩
theorem wq_1208 : Cond.fieldLink "ForgeSchedulerModel" 65 "ForgeSchedulerModel" "finishRow" "[I" ∈ gtb := List.mem_filter.mpr ⟨List.mem_of_getElem? (i := 1208) (by decide +kernel), rfl⟩
theorem wq_1209 : Cond.fieldLink "ForgeSchedulerModel" 68 "ForgeSchedulerModel" "stopRow" "[I" ∈ gtb := List.mem_filter.mpr ⟨List.mem_of_getElem? (i := 1209) (by decide +kernel), rfl⟩
theorem wq_1210 : Cond.fieldLink "ForgeSchedulerModel" 71 "ForgeSchedulerModel" "heatedRow" "[I" ∈ gtb := List.mem_filter.mpr ⟨List.mem_of_getElem? (i := 1210) (by decide +kernel), rfl⟩
theorem wq_1211 : Cond.fieldLink "ForgeSchedulerModel" 98 "ForgeSchedulerModel" "isRun" "Z" ∈ gtb := List.mem_filter.mpr ⟨List.mem_of_getElem? (i := 1211) (by decide +kernel), rfl⟩
theorem wq_1212 : Cond.fieldLink "ForgeSchedulerModel" 102 "ForgeSchedulerModel" "isTried" "Z" ∈ gtb := List.mem_filter.mpr ⟨List.mem_of_getElem? (i := 1212) (by decide +kernel), rfl⟩
theorem wq_1213 : Cond.fieldLink "ForgeSchedulerModel" 74 "ForgeSchedulerModel" "bestBy" "[I" ∈ gtb := List.mem_filter.mpr ⟨List.mem_of_getElem? (i := 1213) (by decide +kernel), rfl⟩
theorem wq_1214 : Cond.fieldLink "ForgeSchedulerModel" 295 "ForgeSchedulerModel" "bestEnd" "I" ∈ gtb := List.mem_filter.mpr ⟨List.mem_of_getElem? (i := 1214) (by decide +kernel), rfl⟩
theorem wq_1215 : Cond.fieldLink "ForgeSchedulerModel" 298 "ForgeSchedulerModel" "bestMany" "I" ∈ gtb := List.mem_filter.mpr ⟨List.mem_of_getElem? (i := 1215) (by decide +kernel), rfl⟩
theorem wq_1313 : Cond.methodLink "ForgeSchedulerModel" 152 ⟨"ForgeSchedulerModel", "next", "()V"⟩ ∈ gtb := List.mem_filter.mpr ⟨List.mem_of_getElem? (i := 1313) (by decide +kernel), rfl⟩
theorem wq_1315 : Cond.instanceMethod ⟨"ForgeSchedulerModel", "next", "()V"⟩ ∈ gtb := List.mem_filter.mpr ⟨List.mem_of_getElem? (i := 1315) (by decide +kernel), rfl⟩
theorem wq_1316 : Cond.code ⟨"ForgeSchedulerModel", "next", "()V"⟩ prog_9_method_9_code 2 none ∈ gtb := List.mem_filter.mpr ⟨List.mem_of_getElem? (i := 1316) (by decide +kernel), rfl⟩
theorem wq_1317 : Cond.methodLink "ForgeSchedulerModel" 111 ⟨"ForgeSchedulerModel", "here", "()I"⟩ ∈ gtb := List.mem_filter.mpr ⟨List.mem_of_getElem? (i := 1317) (by decide +kernel), rfl⟩
theorem wq_1319 : Cond.instanceMethod ⟨"ForgeSchedulerModel", "here", "()I"⟩ ∈ gtb := List.mem_filter.mpr ⟨List.mem_of_getElem? (i := 1319) (by decide +kernel), rfl⟩
theorem wq_1320 : Cond.code ⟨"ForgeSchedulerModel", "here", "()I"⟩ prog_9_method_6_code 1 (some .int) ∈ gtb := List.mem_filter.mpr ⟨List.mem_of_getElem? (i := 1320) (by decide +kernel), rfl⟩
theorem wq_1321 : Cond.methodLink "ForgeSchedulerModel" 121 ⟨"ForgeSchedulerModel", "isSmall", "(I)Z"⟩ ∈ gtb := List.mem_filter.mpr ⟨List.mem_of_getElem? (i := 1321) (by decide +kernel), rfl⟩
theorem wq_1322 : Cond.static ⟨"ForgeSchedulerModel", "isSmall", "(I)Z"⟩ ∈ gtb := List.mem_filter.mpr ⟨List.mem_of_getElem? (i := 1322) (by decide +kernel), rfl⟩
theorem wq_1323 : Cond.code ⟨"ForgeSchedulerModel", "isSmall", "(I)Z"⟩ prog_9_method_7_code 1 (some .boolean) ∈ gtb := List.mem_filter.mpr ⟨List.mem_of_getElem? (i := 1323) (by decide +kernel), rfl⟩
theorem wq_1324 : Cond.methodLink "ForgeSchedulerModel" 125 ⟨"ForgeSchedulerModel", "wordHere", "()I"⟩ ∈ gtb := List.mem_filter.mpr ⟨List.mem_of_getElem? (i := 1324) (by decide +kernel), rfl⟩
theorem wq_1326 : Cond.instanceMethod ⟨"ForgeSchedulerModel", "wordHere", "()I"⟩ ∈ gtb := List.mem_filter.mpr ⟨List.mem_of_getElem? (i := 1326) (by decide +kernel), rfl⟩
theorem wq_1327 : Cond.code ⟨"ForgeSchedulerModel", "wordHere", "()I"⟩ prog_9_method_10_code 4 (some .int) ∈ gtb := List.mem_filter.mpr ⟨List.mem_of_getElem? (i := 1327) (by decide +kernel), rfl⟩
theorem wq_1329 : Cond.methodLink "ForgeSchedulerModel" 137 ⟨"java/lang/String", "length", "()I"⟩ ∈ gtb := List.mem_filter.mpr ⟨List.mem_of_getElem? (i := 1329) (by decide +kernel), rfl⟩
theorem wq_1339 : Cond.methodLink "ForgeSchedulerModel" 142 ⟨"java/lang/String", "charAt", "(I)C"⟩ ∈ gtb := List.mem_filter.mpr ⟨List.mem_of_getElem? (i := 1339) (by decide +kernel), rfl⟩
theorem wq_1377 : Cond.methodLink "ForgeSchedulerModel" 131 ⟨"ForgeSchedulerModel", "isDigit", "(I)Z"⟩ ∈ gtb := List.mem_filter.mpr ⟨List.mem_of_getElem? (i := 1377) (by decide +kernel), rfl⟩
theorem wq_1378 : Cond.static ⟨"ForgeSchedulerModel", "isDigit", "(I)Z"⟩ ∈ gtb := List.mem_filter.mpr ⟨List.mem_of_getElem? (i := 1378) (by decide +kernel), rfl⟩
theorem wq_1379 : Cond.code ⟨"ForgeSchedulerModel", "isDigit", "(I)Z"⟩ prog_9_method_8_code 1 (some .boolean) ∈ gtb := List.mem_filter.mpr ⟨List.mem_of_getElem? (i := 1379) (by decide +kernel), rfl⟩
theorem wq_1380 : Cond.constant "ForgeSchedulerModel" 134 100000 ∈ gtb := List.mem_filter.mpr ⟨List.mem_of_getElem? (i := 1380) (by decide +kernel), rfl⟩
theorem wq_1381 : Cond.methodLink "ForgeSchedulerModel" 199 ⟨"ForgeSchedulerModel", "readStatement", "()V"⟩ ∈ gtb := List.mem_filter.mpr ⟨List.mem_of_getElem? (i := 1381) (by decide +kernel), rfl⟩
theorem wq_1383 : Cond.instanceMethod ⟨"ForgeSchedulerModel", "readStatement", "()V"⟩ ∈ gtb := List.mem_filter.mpr ⟨List.mem_of_getElem? (i := 1383) (by decide +kernel), rfl⟩
theorem wq_1384 : Cond.code ⟨"ForgeSchedulerModel", "readStatement", "()V"⟩ prog_9_method_21_code 2 none ∈ gtb := List.mem_filter.mpr ⟨List.mem_of_getElem? (i := 1384) (by decide +kernel), rfl⟩
theorem wq_1385 : Cond.methodLink "ForgeSchedulerModel" 187 ⟨"ForgeSchedulerModel", "readIron", "()V"⟩ ∈ gtb := List.mem_filter.mpr ⟨List.mem_of_getElem? (i := 1385) (by decide +kernel), rfl⟩
theorem wq_1387 : Cond.instanceMethod ⟨"ForgeSchedulerModel", "readIron", "()V"⟩ ∈ gtb := List.mem_filter.mpr ⟨List.mem_of_getElem? (i := 1387) (by decide +kernel), rfl⟩
theorem wq_1388 : Cond.code ⟨"ForgeSchedulerModel", "readIron", "()V"⟩ prog_9_method_16_code 4 none ∈ gtb := List.mem_filter.mpr ⟨List.mem_of_getElem? (i := 1388) (by decide +kernel), rfl⟩
theorem wq_1389 : Cond.methodLink "ForgeSchedulerModel" 155 ⟨"ForgeSchedulerModel", "failsIf", "(ZI)V"⟩ ∈ gtb := List.mem_filter.mpr ⟨List.mem_of_getElem? (i := 1389) (by decide +kernel), rfl⟩
theorem wq_1391 : Cond.instanceMethod ⟨"ForgeSchedulerModel", "failsIf", "(ZI)V"⟩ ∈ gtb := List.mem_filter.mpr ⟨List.mem_of_getElem? (i := 1391) (by decide +kernel), rfl⟩
theorem wq_1392 : Cond.code ⟨"ForgeSchedulerModel", "failsIf", "(ZI)V"⟩ prog_9_method_11_code 3 none ∈ gtb := List.mem_filter.mpr ⟨List.mem_of_getElem? (i := 1392) (by decide +kernel), rfl⟩
theorem wq_1393 : Cond.methodLink "ForgeSchedulerModel" 159 ⟨"ForgeSchedulerModel", "goOn", "()V"⟩ ∈ gtb := List.mem_filter.mpr ⟨List.mem_of_getElem? (i := 1393) (by decide +kernel), rfl⟩
theorem wq_1395 : Cond.instanceMethod ⟨"ForgeSchedulerModel", "goOn", "()V"⟩ ∈ gtb := List.mem_filter.mpr ⟨List.mem_of_getElem? (i := 1395) (by decide +kernel), rfl⟩
theorem wq_1396 : Cond.code ⟨"ForgeSchedulerModel", "goOn", "()V"⟩ prog_9_method_12_code 1 none ∈ gtb := List.mem_filter.mpr ⟨List.mem_of_getElem? (i := 1396) (by decide +kernel), rfl⟩
theorem wq_1397 : Cond.methodLink "ForgeSchedulerModel" 165 ⟨"ForgeSchedulerModel", "seesName", "()V"⟩ ∈ gtb := List.mem_filter.mpr ⟨List.mem_of_getElem? (i := 1397) (by decide +kernel), rfl⟩
theorem wq_1399 : Cond.instanceMethod ⟨"ForgeSchedulerModel", "seesName", "()V"⟩ ∈ gtb := List.mem_filter.mpr ⟨List.mem_of_getElem? (i := 1399) (by decide +kernel), rfl⟩
theorem wq_1400 : Cond.code ⟨"ForgeSchedulerModel", "seesName", "()V"⟩ prog_9_method_14_code 2 none ∈ gtb := List.mem_filter.mpr ⟨List.mem_of_getElem? (i := 1400) (by decide +kernel), rfl⟩
theorem wq_1401 : Cond.methodLink "ForgeSchedulerModel" 168 ⟨"ForgeSchedulerModel", "found", "([II)I"⟩ ∈ gtb := List.mem_filter.mpr ⟨List.mem_of_getElem? (i := 1401) (by decide +kernel), rfl⟩
theorem wq_1402 : Cond.static ⟨"ForgeSchedulerModel", "found", "([II)I"⟩ ∈ gtb := List.mem_filter.mpr ⟨List.mem_of_getElem? (i := 1402) (by decide +kernel), rfl⟩
theorem wq_1403 : Cond.code ⟨"ForgeSchedulerModel", "found", "([II)I"⟩ prog_9_method_15_code 3 (some .int) ∈ gtb := List.mem_filter.mpr ⟨List.mem_of_getElem? (i := 1403) (by decide +kernel), rfl⟩
theorem wq_1404 : Cond.methodLink "ForgeSchedulerModel" 172 ⟨"ForgeSchedulerModel", "integer", "(II)I"⟩ ∈ gtb := List.mem_filter.mpr ⟨List.mem_of_getElem? (i := 1404) (by decide +kernel), rfl⟩
theorem wq_1406 : Cond.instanceMethod ⟨"ForgeSchedulerModel", "integer", "(II)I"⟩ ∈ gtb := List.mem_filter.mpr ⟨List.mem_of_getElem? (i := 1406) (by decide +kernel), rfl⟩
theorem wq_1407 : Cond.code ⟨"ForgeSchedulerModel", "integer", "(II)I"⟩ prog_9_method_13_code 4 (some .int) ∈ gtb := List.mem_filter.mpr ⟨List.mem_of_getElem? (i := 1407) (by decide +kernel), rfl⟩
theorem wq_1408 : Cond.methodLink "ForgeSchedulerModel" 190 ⟨"ForgeSchedulerModel", "readStep", "()V"⟩ ∈ gtb := List.mem_filter.mpr ⟨List.mem_of_getElem? (i := 1408) (by decide +kernel), rfl⟩
theorem wq_1410 : Cond.instanceMethod ⟨"ForgeSchedulerModel", "readStep", "()V"⟩ ∈ gtb := List.mem_filter.mpr ⟨List.mem_of_getElem? (i := 1410) (by decide +kernel), rfl⟩
theorem wq_1411 : Cond.code ⟨"ForgeSchedulerModel", "readStep", "()V"⟩ prog_9_method_17_code 4 none ∈ gtb := List.mem_filter.mpr ⟨List.mem_of_getElem? (i := 1411) (by decide +kernel), rfl⟩
theorem wq_1412 : Cond.methodLink "ForgeSchedulerModel" 176 ⟨"ForgeSchedulerModel", "adds", "([IIII)V"⟩ ∈ gtb := List.mem_filter.mpr ⟨List.mem_of_getElem? (i := 1412) (by decide +kernel), rfl⟩
theorem wq_1413 : Cond.static ⟨"ForgeSchedulerModel", "adds", "([IIII)V"⟩ ∈ gtb := List.mem_filter.mpr ⟨List.mem_of_getElem? (i := 1413) (by decide +kernel), rfl⟩
theorem wq_1414 : Cond.code ⟨"ForgeSchedulerModel", "adds", "([IIII)V"⟩ prog_9_method_18_code 4 none ∈ gtb := List.mem_filter.mpr ⟨List.mem_of_getElem? (i := 1414) (by decide +kernel), rfl⟩
theorem wq_1415 : Cond.methodLink "ForgeSchedulerModel" 193 ⟨"ForgeSchedulerModel", "readPlace", "()V"⟩ ∈ gtb := List.mem_filter.mpr ⟨List.mem_of_getElem? (i := 1415) (by decide +kernel), rfl⟩
theorem wq_1417 : Cond.instanceMethod ⟨"ForgeSchedulerModel", "readPlace", "()V"⟩ ∈ gtb := List.mem_filter.mpr ⟨List.mem_of_getElem? (i := 1417) (by decide +kernel), rfl⟩
theorem wq_1418 : Cond.code ⟨"ForgeSchedulerModel", "readPlace", "()V"⟩ prog_9_method_19_code 3 none ∈ gtb := List.mem_filter.mpr ⟨List.mem_of_getElem? (i := 1418) (by decide +kernel), rfl⟩
theorem wq_1419 : Cond.methodLink "ForgeSchedulerModel" 196 ⟨"ForgeSchedulerModel", "readSet", "()V"⟩ ∈ gtb := List.mem_filter.mpr ⟨List.mem_of_getElem? (i := 1419) (by decide +kernel), rfl⟩
theorem wq_1421 : Cond.instanceMethod ⟨"ForgeSchedulerModel", "readSet", "()V"⟩ ∈ gtb := List.mem_filter.mpr ⟨List.mem_of_getElem? (i := 1421) (by decide +kernel), rfl⟩
theorem wq_1422 : Cond.code ⟨"ForgeSchedulerModel", "readSet", "()V"⟩ prog_9_method_20_code 3 none ∈ gtb := List.mem_filter.mpr ⟨List.mem_of_getElem? (i := 1422) (by decide +kernel), rfl⟩
theorem wq_1423 : Cond.methodLink "ForgeSchedulerModel" 180 ⟨"ForgeSchedulerModel", "leastOf", "(I)I"⟩ ∈ gtb := List.mem_filter.mpr ⟨List.mem_of_getElem? (i := 1423) (by decide +kernel), rfl⟩
theorem wq_1424 : Cond.static ⟨"ForgeSchedulerModel", "leastOf", "(I)I"⟩ ∈ gtb := List.mem_filter.mpr ⟨List.mem_of_getElem? (i := 1424) (by decide +kernel), rfl⟩
theorem wq_1425 : Cond.code ⟨"ForgeSchedulerModel", "leastOf", "(I)I"⟩ prog_9_method_40_code 1 (some .int) ∈ gtb := List.mem_filter.mpr ⟨List.mem_of_getElem? (i := 1425) (by decide +kernel), rfl⟩
theorem wq_1426 : Cond.methodLink "ForgeSchedulerModel" 184 ⟨"ForgeSchedulerModel", "mostOf", "(I)I"⟩ ∈ gtb := List.mem_filter.mpr ⟨List.mem_of_getElem? (i := 1426) (by decide +kernel), rfl⟩
theorem wq_1427 : Cond.static ⟨"ForgeSchedulerModel", "mostOf", "(I)I"⟩ ∈ gtb := List.mem_filter.mpr ⟨List.mem_of_getElem? (i := 1427) (by decide +kernel), rfl⟩
theorem wq_1428 : Cond.code ⟨"ForgeSchedulerModel", "mostOf", "(I)I"⟩ prog_9_method_41_code 1 (some .int) ∈ gtb := List.mem_filter.mpr ⟨List.mem_of_getElem? (i := 1428) (by decide +kernel), rfl⟩
theorem wq_1453 : Cond.methodLink "ForgeSchedulerModel" 202 ⟨"ForgeSchedulerModel", "isIron", "(I)Z"⟩ ∈ gtb := List.mem_filter.mpr ⟨List.mem_of_getElem? (i := 1453) (by decide +kernel), rfl⟩
theorem wq_1455 : Cond.instanceMethod ⟨"ForgeSchedulerModel", "isIron", "(I)Z"⟩ ∈ gtb := List.mem_filter.mpr ⟨List.mem_of_getElem? (i := 1455) (by decide +kernel), rfl⟩
theorem wq_1456 : Cond.code ⟨"ForgeSchedulerModel", "isIron", "(I)Z"⟩ prog_9_method_24_code 2 (some .boolean) ∈ gtb := List.mem_filter.mpr ⟨List.mem_of_getElem? (i := 1456) (by decide +kernel), rfl⟩
theorem wq_1457 : Cond.methodLink "ForgeSchedulerModel" 205 ⟨"ForgeSchedulerModel", "checks", "(Z)Z"⟩ ∈ gtb := List.mem_filter.mpr ⟨List.mem_of_getElem? (i := 1457) (by decide +kernel), rfl⟩
theorem wq_1459 : Cond.instanceMethod ⟨"ForgeSchedulerModel", "checks", "(Z)Z"⟩ ∈ gtb := List.mem_filter.mpr ⟨List.mem_of_getElem? (i := 1459) (by decide +kernel), rfl⟩
theorem wq_1460 : Cond.code ⟨"ForgeSchedulerModel", "checks", "(Z)Z"⟩ prog_9_method_27_code 2 (some .boolean) ∈ gtb := List.mem_filter.mpr ⟨List.mem_of_getElem? (i := 1460) (by decide +kernel), rfl⟩
theorem wq_1473 : Cond.methodLink "ForgeSchedulerModel" 209 ⟨"ForgeSchedulerModel", "isStep", "(II)Z"⟩ ∈ gtb := List.mem_filter.mpr ⟨List.mem_of_getElem? (i := 1473) (by decide +kernel), rfl⟩
theorem wq_1475 : Cond.instanceMethod ⟨"ForgeSchedulerModel", "isStep", "(II)Z"⟩ ∈ gtb := List.mem_filter.mpr ⟨List.mem_of_getElem? (i := 1475) (by decide +kernel), rfl⟩
theorem wq_1476 : Cond.code ⟨"ForgeSchedulerModel", "isStep", "(II)Z"⟩ prog_9_method_26_code 3 (some .boolean) ∈ gtb := List.mem_filter.mpr ⟨List.mem_of_getElem? (i := 1476) (by decide +kernel), rfl⟩
theorem wq_1485 : Cond.methodLink "ForgeSchedulerModel" 213 ⟨"ForgeSchedulerModel", "isPlace", "(I)Z"⟩ ∈ gtb := List.mem_filter.mpr ⟨List.mem_of_getElem? (i := 1485) (by decide +kernel), rfl⟩
theorem wq_1487 : Cond.instanceMethod ⟨"ForgeSchedulerModel", "isPlace", "(I)Z"⟩ ∈ gtb := List.mem_filter.mpr ⟨List.mem_of_getElem? (i := 1487) (by decide +kernel), rfl⟩
theorem wq_1488 : Cond.code ⟨"ForgeSchedulerModel", "isPlace", "(I)Z"⟩ prog_9_method_25_code 2 (some .boolean) ∈ gtb := List.mem_filter.mpr ⟨List.mem_of_getElem? (i := 1488) (by decide +kernel), rfl⟩
theorem wq_1497 : Cond.methodLink "ForgeSchedulerModel" 216 ⟨"ForgeSchedulerModel", "isSetting", "(I)Z"⟩ ∈ gtb := List.mem_filter.mpr ⟨List.mem_of_getElem? (i := 1497) (by decide +kernel), rfl⟩
theorem wq_1498 : Cond.static ⟨"ForgeSchedulerModel", "isSetting", "(I)Z"⟩ ∈ gtb := List.mem_filter.mpr ⟨List.mem_of_getElem? (i := 1498) (by decide +kernel), rfl⟩
theorem wq_1499 : Cond.code ⟨"ForgeSchedulerModel", "isSetting", "(I)Z"⟩ prog_9_method_39_code 1 (some .boolean) ∈ gtb := List.mem_filter.mpr ⟨List.mem_of_getElem? (i := 1499) (by decide +kernel), rfl⟩
theorem wq_1512 : Cond.methodLink "ForgeSchedulerModel" 273 ⟨"ForgeSchedulerModel", "orders", "()V"⟩ ∈ gtb := List.mem_filter.mpr ⟨List.mem_of_getElem? (i := 1512) (by decide +kernel), rfl⟩
theorem wq_1514 : Cond.instanceMethod ⟨"ForgeSchedulerModel", "orders", "()V"⟩ ∈ gtb := List.mem_filter.mpr ⟨List.mem_of_getElem? (i := 1514) (by decide +kernel), rfl⟩
theorem wq_1515 : Cond.code ⟨"ForgeSchedulerModel", "orders", "()V"⟩ prog_9_method_58_code 2 none ∈ gtb := List.mem_filter.mpr ⟨List.mem_of_getElem? (i := 1515) (by decide +kernel), rfl⟩
theorem wq_1516 : Cond.methodLink "ForgeSchedulerModel" 276 ⟨"ForgeSchedulerModel", "ends", "()I"⟩ ∈ gtb := List.mem_filter.mpr ⟨List.mem_of_getElem? (i := 1516) (by decide +kernel), rfl⟩
theorem wq_1518 : Cond.instanceMethod ⟨"ForgeSchedulerModel", "ends", "()I"⟩ ∈ gtb := List.mem_filter.mpr ⟨List.mem_of_getElem? (i := 1518) (by decide +kernel), rfl⟩
theorem wq_1519 : Cond.code ⟨"ForgeSchedulerModel", "ends", "()I"⟩ prog_9_method_57_code 3 (some .int) ∈ gtb := List.mem_filter.mpr ⟨List.mem_of_getElem? (i := 1519) (by decide +kernel), rfl⟩
theorem wq_1520 : Cond.methodLink "ForgeSchedulerModel" 260 ⟨"ForgeSchedulerModel", "begins", "()V"⟩ ∈ gtb := List.mem_filter.mpr ⟨List.mem_of_getElem? (i := 1520) (by decide +kernel), rfl⟩
theorem wq_1522 : Cond.instanceMethod ⟨"ForgeSchedulerModel", "begins", "()V"⟩ ∈ gtb := List.mem_filter.mpr ⟨List.mem_of_getElem? (i := 1522) (by decide +kernel), rfl⟩
theorem wq_1523 : Cond.code ⟨"ForgeSchedulerModel", "begins", "()V"⟩ prog_9_method_53_code 2 none ∈ gtb := List.mem_filter.mpr ⟨List.mem_of_getElem? (i := 1523) (by decide +kernel), rfl⟩
theorem wq_1524 : Cond.methodLink "ForgeSchedulerModel" 263 ⟨"ForgeSchedulerModel", "lastOf", "()I"⟩ ∈ gtb := List.mem_filter.mpr ⟨List.mem_of_getElem? (i := 1524) (by decide +kernel), rfl⟩
theorem wq_1526 : Cond.instanceMethod ⟨"ForgeSchedulerModel", "lastOf", "()I"⟩ ∈ gtb := List.mem_filter.mpr ⟨List.mem_of_getElem? (i := 1526) (by decide +kernel), rfl⟩
theorem wq_1527 : Cond.code ⟨"ForgeSchedulerModel", "lastOf", "()I"⟩ prog_9_method_56_code 3 (some .int) ∈ gtb := List.mem_filter.mpr ⟨List.mem_of_getElem? (i := 1527) (by decide +kernel), rfl⟩
theorem wq_1528 : Cond.methodLink "ForgeSchedulerModel" 257 ⟨"java/lang/Math", "max", "(II)I"⟩ ∈ gtb := List.mem_filter.mpr ⟨List.mem_of_getElem? (i := 1528) (by decide +kernel), rfl⟩
theorem wq_1529 : Cond.methodLink "ForgeSchedulerModel" 266 ⟨"ForgeSchedulerModel", "moves", "()V"⟩ ∈ gtb := List.mem_filter.mpr ⟨List.mem_of_getElem? (i := 1529) (by decide +kernel), rfl⟩
theorem wq_1531 : Cond.instanceMethod ⟨"ForgeSchedulerModel", "moves", "()V"⟩ ∈ gtb := List.mem_filter.mpr ⟨List.mem_of_getElem? (i := 1531) (by decide +kernel), rfl⟩
theorem wq_1532 : Cond.code ⟨"ForgeSchedulerModel", "moves", "()V"⟩ prog_9_method_54_code 3 none ∈ gtb := List.mem_filter.mpr ⟨List.mem_of_getElem? (i := 1532) (by decide +kernel), rfl⟩
theorem wq_1533 : Cond.methodLink "ForgeSchedulerModel" 219 ⟨"ForgeSchedulerModel", "isDone", "(I)Z"⟩ ∈ gtb := List.mem_filter.mpr ⟨List.mem_of_getElem? (i := 1533) (by decide +kernel), rfl⟩
theorem wq_1535 : Cond.instanceMethod ⟨"ForgeSchedulerModel", "isDone", "(I)Z"⟩ ∈ gtb := List.mem_filter.mpr ⟨List.mem_of_getElem? (i := 1535) (by decide +kernel), rfl⟩
theorem wq_1536 : Cond.code ⟨"ForgeSchedulerModel", "isDone", "(I)Z"⟩ prog_9_method_45_code 2 (some .boolean) ∈ gtb := List.mem_filter.mpr ⟨List.mem_of_getElem? (i := 1536) (by decide +kernel), rfl⟩
theorem wq_1537 : Cond.methodLink "ForgeSchedulerModel" 222 ⟨"ForgeSchedulerModel", "needs", "(I)I"⟩ ∈ gtb := List.mem_filter.mpr ⟨List.mem_of_getElem? (i := 1537) (by decide +kernel), rfl⟩
theorem wq_1539 : Cond.instanceMethod ⟨"ForgeSchedulerModel", "needs", "(I)I"⟩ ∈ gtb := List.mem_filter.mpr ⟨List.mem_of_getElem? (i := 1539) (by decide +kernel), rfl⟩
theorem wq_1540 : Cond.code ⟨"ForgeSchedulerModel", "needs", "(I)I"⟩ prog_9_method_46_code 2 (some .int) ∈ gtb := List.mem_filter.mpr ⟨List.mem_of_getElem? (i := 1540) (by decide +kernel), rfl⟩
theorem wq_1541 : Cond.methodLink "ForgeSchedulerModel" 240 ⟨"ForgeSchedulerModel", "isTaken", "(I)Z"⟩ ∈ gtb := List.mem_filter.mpr ⟨List.mem_of_getElem? (i := 1541) (by decide +kernel), rfl⟩
theorem wq_1543 : Cond.instanceMethod ⟨"ForgeSchedulerModel", "isTaken", "(I)Z"⟩ ∈ gtb := List.mem_filter.mpr ⟨List.mem_of_getElem? (i := 1543) (by decide +kernel), rfl⟩
theorem wq_1544 : Cond.code ⟨"ForgeSchedulerModel", "isTaken", "(I)Z"⟩ prog_9_method_49_code 4 (some .boolean) ∈ gtb := List.mem_filter.mpr ⟨List.mem_of_getElem? (i := 1544) (by decide +kernel), rfl⟩
theorem wq_1545 : Cond.methodLink "ForgeSchedulerModel" 243 ⟨"ForgeSchedulerModel", "readyOne", "()I"⟩ ∈ gtb := List.mem_filter.mpr ⟨List.mem_of_getElem? (i := 1545) (by decide +kernel), rfl⟩
theorem wq_1547 : Cond.instanceMethod ⟨"ForgeSchedulerModel", "readyOne", "()I"⟩ ∈ gtb := List.mem_filter.mpr ⟨List.mem_of_getElem? (i := 1547) (by decide +kernel), rfl⟩
theorem wq_1548 : Cond.code ⟨"ForgeSchedulerModel", "readyOne", "()I"⟩ prog_9_method_51_code 4 (some .int) ∈ gtb := List.mem_filter.mpr ⟨List.mem_of_getElem? (i := 1548) (by decide +kernel), rfl⟩
theorem wq_1549 : Cond.methodLink "ForgeSchedulerModel" 234 ⟨"ForgeSchedulerModel", "isReady", "(I)Z"⟩ ∈ gtb := List.mem_filter.mpr ⟨List.mem_of_getElem? (i := 1549) (by decide +kernel), rfl⟩
theorem wq_1551 : Cond.instanceMethod ⟨"ForgeSchedulerModel", "isReady", "(I)Z"⟩ ∈ gtb := List.mem_filter.mpr ⟨List.mem_of_getElem? (i := 1551) (by decide +kernel), rfl⟩
theorem wq_1552 : Cond.code ⟨"ForgeSchedulerModel", "isReady", "(I)Z"⟩ prog_9_method_47_code 2 (some .boolean) ∈ gtb := List.mem_filter.mpr ⟨List.mem_of_getElem? (i := 1552) (by decide +kernel), rfl⟩
theorem wq_1553 : Cond.methodLink "ForgeSchedulerModel" 237 ⟨"ForgeSchedulerModel", "rank", "(I)I"⟩ ∈ gtb := List.mem_filter.mpr ⟨List.mem_of_getElem? (i := 1553) (by decide +kernel), rfl⟩
theorem wq_1555 : Cond.instanceMethod ⟨"ForgeSchedulerModel", "rank", "(I)I"⟩ ∈ gtb := List.mem_filter.mpr ⟨List.mem_of_getElem? (i := 1555) (by decide +kernel), rfl⟩
theorem wq_1556 : Cond.code ⟨"ForgeSchedulerModel", "rank", "(I)I"⟩ prog_9_method_50_code 3 (some .int) ∈ gtb := List.mem_filter.mpr ⟨List.mem_of_getElem? (i := 1556) (by decide +kernel), rfl⟩
theorem wq_1557 : Cond.methodLink "ForgeSchedulerModel" 231 ⟨"ForgeSchedulerModel", "left", "(I)I"⟩ ∈ gtb := List.mem_filter.mpr ⟨List.mem_of_getElem? (i := 1557) (by decide +kernel), rfl⟩
theorem wq_1559 : Cond.instanceMethod ⟨"ForgeSchedulerModel", "left", "(I)I"⟩ ∈ gtb := List.mem_filter.mpr ⟨List.mem_of_getElem? (i := 1559) (by decide +kernel), rfl⟩
theorem wq_1560 : Cond.code ⟨"ForgeSchedulerModel", "left", "(I)I"⟩ prog_9_method_48_code 4 (some .int) ∈ gtb := List.mem_filter.mpr ⟨List.mem_of_getElem? (i := 1560) (by decide +kernel), rfl⟩
theorem wq_1561 : Cond.methodLink "ForgeSchedulerModel" 249 ⟨"ForgeSchedulerModel", "waitingOne", "()I"⟩ ∈ gtb := List.mem_filter.mpr ⟨List.mem_of_getElem? (i := 1561) (by decide +kernel), rfl⟩
theorem wq_1563 : Cond.instanceMethod ⟨"ForgeSchedulerModel", "waitingOne", "()I"⟩ ∈ gtb := List.mem_filter.mpr ⟨List.mem_of_getElem? (i := 1563) (by decide +kernel), rfl⟩
theorem wq_1564 : Cond.code ⟨"ForgeSchedulerModel", "waitingOne", "()I"⟩ prog_9_method_52_code 3 (some .int) ∈ gtb := List.mem_filter.mpr ⟨List.mem_of_getElem? (i := 1564) (by decide +kernel), rfl⟩
theorem wq_1565 : Cond.methodLink "ForgeSchedulerModel" 269 ⟨"ForgeSchedulerModel", "works", "(II)V"⟩ ∈ gtb := List.mem_filter.mpr ⟨List.mem_of_getElem? (i := 1565) (by decide +kernel), rfl⟩
theorem wq_1567 : Cond.instanceMethod ⟨"ForgeSchedulerModel", "works", "(II)V"⟩ ∈ gtb := List.mem_filter.mpr ⟨List.mem_of_getElem? (i := 1567) (by decide +kernel), rfl⟩
theorem wq_1568 : Cond.code ⟨"ForgeSchedulerModel", "works", "(II)V"⟩ prog_9_method_55_code 4 none ∈ gtb := List.mem_filter.mpr ⟨List.mem_of_getElem? (i := 1568) (by decide +kernel), rfl⟩
theorem wq_1569 : Cond.methodLink "ForgeSchedulerModel" 252 ⟨"java/lang/Math", "min", "(II)I"⟩ ∈ gtb := List.mem_filter.mpr ⟨List.mem_of_getElem? (i := 1569) (by decide +kernel), rfl⟩
theorem wq_1574 : Cond.methodLink "ForgeSchedulerModel" 279 ⟨"ForgeSchedulerModel", "runs", "()V"⟩ ∈ gtb := List.mem_filter.mpr ⟨List.mem_of_getElem? (i := 1574) (by decide +kernel), rfl⟩
theorem wq_1576 : Cond.instanceMethod ⟨"ForgeSchedulerModel", "runs", "()V"⟩ ∈ gtb := List.mem_filter.mpr ⟨List.mem_of_getElem? (i := 1576) (by decide +kernel), rfl⟩
theorem wq_1577 : Cond.code ⟨"ForgeSchedulerModel", "runs", "()V"⟩ prog_9_method_59_code 3 none ∈ gtb := List.mem_filter.mpr ⟨List.mem_of_getElem? (i := 1577) (by decide +kernel), rfl⟩
theorem wq_1602 : Cond.methodLink "ForgeSchedulerModel" 282 ⟨"ForgeSchedulerModel", "minutesAt", "(III)I"⟩ ∈ gtb := List.mem_filter.mpr ⟨List.mem_of_getElem? (i := 1602) (by decide +kernel), rfl⟩
theorem wq_1604 : Cond.instanceMethod ⟨"ForgeSchedulerModel", "minutesAt", "(III)I"⟩ ∈ gtb := List.mem_filter.mpr ⟨List.mem_of_getElem? (i := 1604) (by decide +kernel), rfl⟩
theorem wq_1605 : Cond.code ⟨"ForgeSchedulerModel", "minutesAt", "(III)I"⟩ prog_9_method_67_code 8 (some .int) ∈ gtb := List.mem_filter.mpr ⟨List.mem_of_getElem? (i := 1605) (by decide +kernel), rfl⟩
theorem wq_1618 : Cond.methodLink "ForgeSchedulerModel" 286 ⟨"ForgeSchedulerModel", "isOpen", "(II)Z"⟩ ∈ gtb := List.mem_filter.mpr ⟨List.mem_of_getElem? (i := 1618) (by decide +kernel), rfl⟩
theorem wq_1620 : Cond.instanceMethod ⟨"ForgeSchedulerModel", "isOpen", "(II)Z"⟩ ∈ gtb := List.mem_filter.mpr ⟨List.mem_of_getElem? (i := 1620) (by decide +kernel), rfl⟩
theorem wq_1621 : Cond.code ⟨"ForgeSchedulerModel", "isOpen", "(II)Z"⟩ prog_9_method_71_code 3 (some .boolean) ∈ gtb := List.mem_filter.mpr ⟨List.mem_of_getElem? (i := 1621) (by decide +kernel), rfl⟩
theorem wq_1630 : Cond.methodLink "ForgeSchedulerModel" 289 ⟨"ForgeSchedulerModel", "ironIn", "(II)I"⟩ ∈ gtb := List.mem_filter.mpr ⟨List.mem_of_getElem? (i := 1630) (by decide +kernel), rfl⟩
theorem wq_1632 : Cond.instanceMethod ⟨"ForgeSchedulerModel", "ironIn", "(II)I"⟩ ∈ gtb := List.mem_filter.mpr ⟨List.mem_of_getElem? (i := 1632) (by decide +kernel), rfl⟩
theorem wq_1633 : Cond.code ⟨"ForgeSchedulerModel", "ironIn", "(II)I"⟩ prog_9_method_74_code 4 (some .int) ∈ gtb := List.mem_filter.mpr ⟨List.mem_of_getElem? (i := 1633) (by decide +kernel), rfl⟩
theorem wq_1658 : Cond.methodLink "ForgeSchedulerModel" 305 ⟨"ForgeSchedulerModel", "tries", "()V"⟩ ∈ gtb := List.mem_filter.mpr ⟨List.mem_of_getElem? (i := 1658) (by decide +kernel), rfl⟩
theorem wq_1660 : Cond.instanceMethod ⟨"ForgeSchedulerModel", "tries", "()V"⟩ ∈ gtb := List.mem_filter.mpr ⟨List.mem_of_getElem? (i := 1660) (by decide +kernel), rfl⟩
theorem wq_1661 : Cond.code ⟨"ForgeSchedulerModel", "tries", "()V"⟩ prog_9_method_83_code 4 none ∈ gtb := List.mem_filter.mpr ⟨List.mem_of_getElem? (i := 1661) (by decide +kernel), rfl⟩
theorem wq_1662 : Cond.methodLink "ForgeSchedulerModel" 301 ⟨"ForgeSchedulerModel", "nextOrder", "()Z"⟩ ∈ gtb := List.mem_filter.mpr ⟨List.mem_of_getElem? (i := 1662) (by decide +kernel), rfl⟩
theorem wq_1664 : Cond.instanceMethod ⟨"ForgeSchedulerModel", "nextOrder", "()Z"⟩ ∈ gtb := List.mem_filter.mpr ⟨List.mem_of_getElem? (i := 1664) (by decide +kernel), rfl⟩
theorem wq_1665 : Cond.code ⟨"ForgeSchedulerModel", "nextOrder", "()Z"⟩ prog_9_method_81_code 5 (some .boolean) ∈ gtb := List.mem_filter.mpr ⟨List.mem_of_getElem? (i := 1665) (by decide +kernel), rfl⟩
theorem wq_1666 : Cond.methodLink "ForgeSchedulerModel" 292 ⟨"ForgeSchedulerModel", "swaps", "(II)V"⟩ ∈ gtb := List.mem_filter.mpr ⟨List.mem_of_getElem? (i := 1666) (by decide +kernel), rfl⟩
theorem wq_1668 : Cond.instanceMethod ⟨"ForgeSchedulerModel", "swaps", "(II)V"⟩ ∈ gtb := List.mem_filter.mpr ⟨List.mem_of_getElem? (i := 1668) (by decide +kernel), rfl⟩
theorem wq_1669 : Cond.code ⟨"ForgeSchedulerModel", "swaps", "(II)V"⟩ prog_9_method_82_code 4 none ∈ gtb := List.mem_filter.mpr ⟨List.mem_of_getElem? (i := 1669) (by decide +kernel), rfl⟩
theorem wq_1686 : Cond.methodLink "ForgeSchedulerModel" 308 ⟨"ForgeSchedulerModel", "isMargin", "(I)Z"⟩ ∈ gtb := List.mem_filter.mpr ⟨List.mem_of_getElem? (i := 1686) (by decide +kernel), rfl⟩
theorem wq_1687 : Cond.static ⟨"ForgeSchedulerModel", "isMargin", "(I)Z"⟩ ∈ gtb := List.mem_filter.mpr ⟨List.mem_of_getElem? (i := 1687) (by decide +kernel), rfl⟩
theorem wq_1688 : Cond.code ⟨"ForgeSchedulerModel", "isMargin", "(I)Z"⟩ prog_9_method_88_code 1 (some .boolean) ∈ gtb := List.mem_filter.mpr ⟨List.mem_of_getElem? (i := 1688) (by decide +kernel), rfl⟩
theorem wq_1689 : Cond.methodLink "ForgeSchedulerModel" 311 ⟨"ForgeSchedulerModel", "endsWith", "(I)I"⟩ ∈ gtb := List.mem_filter.mpr ⟨List.mem_of_getElem? (i := 1689) (by decide +kernel), rfl⟩
theorem wq_1691 : Cond.instanceMethod ⟨"ForgeSchedulerModel", "endsWith", "(I)I"⟩ ∈ gtb := List.mem_filter.mpr ⟨List.mem_of_getElem? (i := 1691) (by decide +kernel), rfl⟩
theorem wq_1692 : Cond.code ⟨"ForgeSchedulerModel", "endsWith", "(I)I"⟩ prog_9_method_89_code 2 (some .int) ∈ gtb := List.mem_filter.mpr ⟨List.mem_of_getElem? (i := 1692) (by decide +kernel), rfl⟩
theorem wq_1702 : Cond.instanceMethod ⟨"ForgeSchedulerModel", "finishWithoutIron", "(I)I"⟩ ∈ gtb := List.mem_filter.mpr ⟨List.mem_of_getElem? (i := 1702) (by decide +kernel), rfl⟩
theorem wq_1703 : Cond.selects "ForgeSchedulerModel" ⟨"ForgeSchedulerModel", "finishWithoutIron", "(I)I"⟩ ⟨"ForgeSchedulerModel", "finishWithoutIron", "(I)I"⟩ ∈ gtb := List.mem_filter.mpr ⟨List.mem_of_getElem? (i := 1703) (by decide +kernel), rfl⟩
theorem wq_1704 : Cond.code ⟨"ForgeSchedulerModel", "finishWithoutIron", "(I)I"⟩ prog_9_method_93_code 4 (some .int) ∈ gtb := List.mem_filter.mpr ⟨List.mem_of_getElem? (i := 1704) (by decide +kernel), rfl⟩
theorem wq_1713 : Cond.methodLink "ForgeSchedulerModel" 314 ⟨"ForgeSchedulerModel", "endsIf", "(II)I"⟩ ∈ gtb := List.mem_filter.mpr ⟨List.mem_of_getElem? (i := 1713) (by decide +kernel), rfl⟩
theorem wq_1715 : Cond.instanceMethod ⟨"ForgeSchedulerModel", "endsIf", "(II)I"⟩ ∈ gtb := List.mem_filter.mpr ⟨List.mem_of_getElem? (i := 1715) (by decide +kernel), rfl⟩
theorem wq_1716 : Cond.code ⟨"ForgeSchedulerModel", "endsIf", "(II)I"⟩ prog_9_method_95_code 5 (some .int) ∈ gtb := List.mem_filter.mpr ⟨List.mem_of_getElem? (i := 1716) (by decide +kernel), rfl⟩
theorem wq_1733 : Cond.methodLink "ForgeSchedulerModel" 317 ⟨"ForgeSchedulerModel", "finishWithoutIron", "(I)I"⟩ ∈ gtb := List.mem_filter.mpr ⟨List.mem_of_getElem? (i := 1733) (by decide +kernel), rfl⟩
theorem wq_1746 : Cond.methodLink "ForgeSchedulerModel" 320 ⟨"ForgeSchedulerModel", "keeps", "()V"⟩ ∈ gtb := List.mem_filter.mpr ⟨List.mem_of_getElem? (i := 1746) (by decide +kernel), rfl⟩
theorem wq_1748 : Cond.instanceMethod ⟨"ForgeSchedulerModel", "keeps", "()V"⟩ ∈ gtb := List.mem_filter.mpr ⟨List.mem_of_getElem? (i := 1748) (by decide +kernel), rfl⟩
theorem wq_1749 : Cond.code ⟨"ForgeSchedulerModel", "keeps", "()V"⟩ prog_9_method_102_code 2 none ∈ gtb := List.mem_filter.mpr ⟨List.mem_of_getElem? (i := 1749) (by decide +kernel), rfl⟩
theorem wc_max : Cond.code Lib.Math.max.name Lib.Math.max.code 2 (some .int) ∈ gtb := by decide +kernel
theorem wc_min : Cond.code Lib.Math.min.name Lib.Math.min.code 2 (some .int) ∈ gtb := by decide +kernel
theorem wx_at_287 : ∀ w ∈ vx_atS RX6 287 "java/lang/IndexOutOfBoundsException" ["java/lang/RuntimeException", "java/lang/Exception"], w ∈ gtb ∨ w = .castable "java/lang/IndexOutOfBoundsException" "java/lang/IndexOutOfBoundsException" ∨ w = .declares (Bundle.initS "java/lang/RuntimeException") ∨ w = .declares (Bundle.initS "java/lang/Exception") ∨ w = .declares (Bundle.initS Bundle.tN) := by decide +kernel
theorem wx_good_287_283 : ∀ w ∈ Cond.classLink RX6 283 "java/lang/IndexOutOfBoundsException" :: Cond.initialized "java/lang/IndexOutOfBoundsException" :: vx_atS RX6 287 "java/lang/IndexOutOfBoundsException" ["java/lang/RuntimeException", "java/lang/Exception"], vx_ot w = true := by decide +kernel
