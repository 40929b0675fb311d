theorem wh_c_mass : Cond.codeWith ⟨"ForgeSchedulerLaw", "mass", "(LForgeScheduler;I[J)I"⟩ method_3_code 4 (some .int) [(0, 9, 12, 13)] ∈ gtb := List.mem_filter.mpr ⟨List.mem_of_getElem? (i := 815) (by decide +kernel), rfl⟩
theorem wh_c_cooling : Cond.codeWith ⟨"ForgeSchedulerLaw", "cooling", "(LForgeScheduler;I[J)I"⟩ method_4_code 4 (some .int) [(0, 9, 12, 13)] ∈ gtb := List.mem_filter.mpr ⟨List.mem_of_getElem? (i := 892) (by decide +kernel), rfl⟩
theorem wh_c_stepCount : Cond.codeWith ⟨"ForgeSchedulerLaw", "stepCount", "(LForgeScheduler;I[J)I"⟩ method_5_code 4 (some .int) [(0, 9, 12, 13)] ∈ gtb := List.mem_filter.mpr ⟨List.mem_of_getElem? (i := 899) (by decide +kernel), rfl⟩
theorem wh_c_stepHeat : Cond.codeWith ⟨"ForgeSchedulerLaw", "stepHeat", "(LForgeScheduler;II[J)I"⟩ method_6_code 5 (some .int) [(0, 10, 13, 13)] ∈ gtb := List.mem_filter.mpr ⟨List.mem_of_getElem? (i := 906) (by decide +kernel), rfl⟩
theorem wh_c_stepMinutes : Cond.codeWith ⟨"ForgeSchedulerLaw", "stepMinutes", "(LForgeScheduler;II[J)I"⟩ method_7_code 5 (some .int) [(0, 10, 13, 13)] ∈ gtb := List.mem_filter.mpr ⟨List.mem_of_getElem? (i := 922) (by decide +kernel), rfl⟩
theorem wh_c_placeRate : Cond.codeWith ⟨"ForgeSchedulerLaw", "placeRate", "(LForgeScheduler;I[J)I"⟩ method_8_code 4 (some .int) [(0, 9, 12, 13)] ∈ gtb := List.mem_filter.mpr ⟨List.mem_of_getElem? (i := 933) (by decide +kernel), rfl⟩
theorem wh_c_placeLimit : Cond.codeWith ⟨"ForgeSchedulerLaw", "placeLimit", "(LForgeScheduler;I[J)I"⟩ method_9_code 4 (some .int) [(0, 9, 12, 13)] ∈ gtb := List.mem_filter.mpr ⟨List.mem_of_getElem? (i := 945) (by decide +kernel), rfl⟩
theorem wh_c_ironAt : Cond.codeWith ⟨"ForgeSchedulerLaw", "ironAt", "(LForgeScheduler;I[J)I"⟩ method_10_code 4 (some .int) [(0, 9, 12, 13)] ∈ gtb := List.mem_filter.mpr ⟨List.mem_of_getElem? (i := 952) (by decide +kernel), rfl⟩
theorem wh_c_positionOf : Cond.codeWith ⟨"ForgeSchedulerLaw", "positionOf", "(LForgeScheduler;I[J)I"⟩ method_11_code 4 (some .int) [(0, 9, 12, 13)] ∈ gtb := List.mem_filter.mpr ⟨List.mem_of_getElem? (i := 959) (by decide +kernel), rfl⟩
theorem wh_c_finishOf : Cond.codeWith ⟨"ForgeSchedulerLaw", "finishOf", "(LForgeScheduler;I[J)I"⟩ method_12_code 4 (some .int) [(0, 9, 12, 13)] ∈ gtb := List.mem_filter.mpr ⟨List.mem_of_getElem? (i := 970) (by decide +kernel), rfl⟩
theorem wh_c_heatAfter : Cond.codeWith ⟨"ForgeSchedulerLaw", "heatAfter", "(LForgeScheduler;II[J)I"⟩ method_13_code 5 (some .int) [(0, 10, 13, 13)] ∈ gtb := List.mem_filter.mpr ⟨List.mem_of_getElem? (i := 977) (by decide +kernel), rfl⟩
theorem wh_c_whereIn : Cond.codeWith ⟨"ForgeSchedulerLaw", "whereIn", "(LForgeScheduler;II[J)I"⟩ method_14_code 5 (some .int) [(0, 10, 13, 13)] ∈ gtb := List.mem_filter.mpr ⟨List.mem_of_getElem? (i := 988) (by decide +kernel), rfl⟩
theorem wh_c_stepsAfter : Cond.codeWith ⟨"ForgeSchedulerLaw", "stepsAfter", "(LForgeScheduler;II[J)I"⟩ method_15_code 5 (some .int) [(0, 10, 13, 13)] ∈ gtb := List.mem_filter.mpr ⟨List.mem_of_getElem? (i := 999) (by decide +kernel), rfl⟩
theorem wh_c_coldStops : Cond.codeWith ⟨"ForgeSchedulerLaw", "coldStops", "(LForgeScheduler;I[J)I"⟩ method_16_code 4 (some .int) [(0, 9, 12, 13)] ∈ gtb := List.mem_filter.mpr ⟨List.mem_of_getElem? (i := 1007) (by decide +kernel), rfl⟩
theorem wh_c_heats : Cond.codeWith ⟨"ForgeSchedulerLaw", "heats", "(LForgeScheduler;I[J)I"⟩ method_17_code 4 (some .int) [(0, 9, 12, 13)] ∈ gtb := List.mem_filter.mpr ⟨List.mem_of_getElem? (i := 1014) (by decide +kernel), rfl⟩
theorem wh_c_fireMinutes : Cond.codeWith ⟨"ForgeSchedulerLaw", "fireMinutes", "(LForgeScheduler;I[J)I"⟩ method_18_code 4 (some .int) [(0, 9, 12, 13)] ∈ gtb := List.mem_filter.mpr ⟨List.mem_of_getElem? (i := 1021) (by decide +kernel), rfl⟩
theorem wh_c_anvilMinutes : Cond.codeWith ⟨"ForgeSchedulerLaw", "anvilMinutes", "(LForgeScheduler;I[J)I"⟩ method_19_code 4 (some .int) [(0, 9, 12, 13)] ∈ gtb := List.mem_filter.mpr ⟨List.mem_of_getElem? (i := 1032) (by decide +kernel), rfl⟩
theorem wh_c_placeMinutes : Cond.codeWith ⟨"ForgeSchedulerLaw", "placeMinutes", "(LForgeScheduler;I[J)I"⟩ method_20_code 4 (some .int) [(0, 9, 12, 13)] ∈ gtb := List.mem_filter.mpr ⟨List.mem_of_getElem? (i := 1052) (by decide +kernel), rfl⟩
theorem wh_c_hottest : Cond.codeWith ⟨"ForgeSchedulerLaw", "hottest", "(LForgeScheduler;I[J)I"⟩ method_21_code 4 (some .int) [(0, 9, 12, 13)] ∈ gtb := List.mem_filter.mpr ⟨List.mem_of_getElem? (i := 1059) (by decide +kernel), rfl⟩
theorem wh_c_bestIronAt : Cond.codeWith ⟨"ForgeSchedulerLaw", "bestIronAt", "(LForgeScheduler;I[J)I"⟩ method_22_code 4 (some .int) [(0, 9, 12, 13)] ∈ gtb := List.mem_filter.mpr ⟨List.mem_of_getElem? (i := 1072) (by decide +kernel), rfl⟩
theorem wh_c_finishWithSwap : Cond.codeWith ⟨"ForgeSchedulerLaw", "finishWithSwap", "(LForgeScheduler;II[J)I"⟩ method_23_code 5 (some .int) [(0, 10, 13, 13)] ∈ gtb := List.mem_filter.mpr ⟨List.mem_of_getElem? (i := 1079) (by decide +kernel), rfl⟩
theorem wh_c_finishWithoutPlace : Cond.codeWith ⟨"ForgeSchedulerLaw", "finishWithoutPlace", "(LForgeScheduler;I[J)I"⟩ method_24_code 4 (some .int) [(0, 9, 12, 13)] ∈ gtb := List.mem_filter.mpr ⟨List.mem_of_getElem? (i := 1086) (by decide +kernel), rfl⟩
theorem wh_c_finishWithoutIron : Cond.codeWith ⟨"ForgeSchedulerLaw", "finishWithoutIron", "(LForgeScheduler;I[J)I"⟩ method_25_code 4 (some .int) [(0, 9, 12, 13)] ∈ gtb := List.mem_filter.mpr ⟨List.mem_of_getElem? (i := 1097) (by decide +kernel), rfl⟩
theorem wh_c_finishAlone : Cond.codeWith ⟨"ForgeSchedulerLaw", "finishAlone", "(LForgeScheduler;I[J)I"⟩ method_26_code 4 (some .int) [(0, 9, 12, 13)] ∈ gtb := List.mem_filter.mpr ⟨List.mem_of_getElem? (i := 1104) (by decide +kernel), rfl⟩
theorem wh_c_rackMinutes : Cond.codeWith ⟨"ForgeSchedulerLaw", "rackMinutes", "(LForgeScheduler;I[J)I"⟩ method_27_code 4 (some .int) [(0, 9, 12, 13)] ∈ gtb := List.mem_filter.mpr ⟨List.mem_of_getElem? (i := 1111) (by decide +kernel), rfl⟩
theorem wh_c_firstWork : Cond.codeWith ⟨"ForgeSchedulerLaw", "firstWork", "(LForgeScheduler;I[J)I"⟩ method_28_code 4 (some .int) [(0, 9, 12, 13)] ∈ gtb := List.mem_filter.mpr ⟨List.mem_of_getElem? (i := 1122) (by decide +kernel), rfl⟩
theorem wh_c_ironInPlace : Cond.codeWith ⟨"ForgeSchedulerLaw", "ironInPlace", "(LForgeScheduler;II[J)I"⟩ method_29_code 5 (some .int) [(0, 10, 13, 13)] ∈ gtb := List.mem_filter.mpr ⟨List.mem_of_getElem? (i := 1133) (by decide +kernel), rfl⟩
theorem wh_c_ironOnAnvil : Cond.codeWith ⟨"ForgeSchedulerLaw", "ironOnAnvil", "(LForgeScheduler;II[J)I"⟩ method_30_code 5 (some .int) [(0, 10, 13, 13)] ∈ gtb := List.mem_filter.mpr ⟨List.mem_of_getElem? (i := 1141) (by decide +kernel), rfl⟩
theorem wh_c_finishWithRate : Cond.codeWith ⟨"ForgeSchedulerLaw", "finishWithRate", "(LForgeScheduler;II[J)I"⟩ method_31_code 5 (some .int) [(0, 10, 13, 13)] ∈ gtb := List.mem_filter.mpr ⟨List.mem_of_getElem? (i := 1148) (by decide +kernel), rfl⟩
theorem wh_c_leastRate : Cond.codeWith ⟨"ForgeSchedulerLaw", "leastRate", "(LForgeScheduler;I[J)I"⟩ method_32_code 4 (some .int) [(0, 9, 12, 13)] ∈ gtb := List.mem_filter.mpr ⟨List.mem_of_getElem? (i := 1155) (by decide +kernel), rfl⟩
theorem wq_816 : Cond.classLink "ForgeSchedulerLaw" 13 "java/lang/IndexOutOfBoundsException" ∈ gtb := List.mem_filter.mpr ⟨List.mem_of_getElem? (i := 816) (by decide +kernel), rfl⟩
theorem wq_820 : Cond.code ⟨"ForgeScheduler", "mass", "(I)I"⟩ prog_1_method_9_code 2 (some .int) ∈ gtb := List.mem_filter.mpr ⟨List.mem_of_getElem? (i := 820) (by decide +kernel), rfl⟩
theorem wq_817 : Cond.methodLink "ForgeSchedulerLaw" 7 ⟨"ForgeScheduler", "mass", "(I)I"⟩ ∈ gtb := List.mem_filter.mpr ⟨List.mem_of_getElem? (i := 817) (by decide +kernel), rfl⟩
theorem wq_818 : Cond.instanceMethod ⟨"ForgeScheduler", "mass", "(I)I"⟩ ∈ gtb := List.mem_filter.mpr ⟨List.mem_of_getElem? (i := 818) (by decide +kernel), rfl⟩
theorem wq_819 : Cond.selects "ForgeScheduler" ⟨"ForgeScheduler", "mass", "(I)I"⟩ ⟨"ForgeScheduler", "mass", "(I)I"⟩ ∈ gtb := List.mem_filter.mpr ⟨List.mem_of_getElem? (i := 819) (by decide +kernel), rfl⟩
theorem wq_896 : Cond.code ⟨"ForgeScheduler", "cooling", "(I)I"⟩ prog_1_method_10_code 2 (some .int) ∈ gtb := List.mem_filter.mpr ⟨List.mem_of_getElem? (i := 896) (by decide +kernel), rfl⟩
theorem wq_893 : Cond.methodLink "ForgeSchedulerLaw" 15 ⟨"ForgeScheduler", "cooling", "(I)I"⟩ ∈ gtb := List.mem_filter.mpr ⟨List.mem_of_getElem? (i := 893) (by decide +kernel), rfl⟩
theorem wq_894 : Cond.instanceMethod ⟨"ForgeScheduler", "cooling", "(I)I"⟩ ∈ gtb := List.mem_filter.mpr ⟨List.mem_of_getElem? (i := 894) (by decide +kernel), rfl⟩
theorem wq_895 : Cond.selects "ForgeScheduler" ⟨"ForgeScheduler", "cooling", "(I)I"⟩ ⟨"ForgeScheduler", "cooling", "(I)I"⟩ ∈ gtb := List.mem_filter.mpr ⟨List.mem_of_getElem? (i := 895) (by decide +kernel), rfl⟩
theorem wq_903 : Cond.code ⟨"ForgeScheduler", "stepCount", "(I)I"⟩ prog_1_method_11_code 2 (some .int) ∈ gtb := List.mem_filter.mpr ⟨List.mem_of_getElem? (i := 903) (by decide +kernel), rfl⟩
theorem wq_900 : Cond.methodLink "ForgeSchedulerLaw" 18 ⟨"ForgeScheduler", "stepCount", "(I)I"⟩ ∈ gtb := List.mem_filter.mpr ⟨List.mem_of_getElem? (i := 900) (by decide +kernel), rfl⟩
theorem wq_901 : Cond.instanceMethod ⟨"ForgeScheduler", "stepCount", "(I)I"⟩ ∈ gtb := List.mem_filter.mpr ⟨List.mem_of_getElem? (i := 901) (by decide +kernel), rfl⟩
theorem wq_902 : Cond.selects "ForgeScheduler" ⟨"ForgeScheduler", "stepCount", "(I)I"⟩ ⟨"ForgeScheduler", "stepCount", "(I)I"⟩ ∈ gtb := List.mem_filter.mpr ⟨List.mem_of_getElem? (i := 902) (by decide +kernel), rfl⟩
theorem wq_910 : Cond.code ⟨"ForgeScheduler", "stepHeat", "(II)I"⟩ prog_1_method_12_code 3 (some .int) ∈ gtb := List.mem_filter.mpr ⟨List.mem_of_getElem? (i := 910) (by decide +kernel), rfl⟩
theorem wq_907 : Cond.methodLink "ForgeSchedulerLaw" 21 ⟨"ForgeScheduler", "stepHeat", "(II)I"⟩ ∈ gtb := List.mem_filter.mpr ⟨List.mem_of_getElem? (i := 907) (by decide +kernel), rfl⟩
theorem wq_908 : Cond.instanceMethod ⟨"ForgeScheduler", "stepHeat", "(II)I"⟩ ∈ gtb := List.mem_filter.mpr ⟨List.mem_of_getElem? (i := 908) (by decide +kernel), rfl⟩
theorem wq_909 : Cond.selects "ForgeScheduler" ⟨"ForgeScheduler", "stepHeat", "(II)I"⟩ ⟨"ForgeScheduler", "stepHeat", "(II)I"⟩ ∈ gtb := List.mem_filter.mpr ⟨List.mem_of_getElem? (i := 909) (by decide +kernel), rfl⟩
theorem wq_926 : Cond.code ⟨"ForgeScheduler", "stepMinutes", "(II)I"⟩ prog_1_method_13_code 3 (some .int) ∈ gtb := List.mem_filter.mpr ⟨List.mem_of_getElem? (i := 926) (by decide +kernel), rfl⟩
theorem wq_923 : Cond.methodLink "ForgeSchedulerLaw" 25 ⟨"ForgeScheduler", "stepMinutes", "(II)I"⟩ ∈ gtb := List.mem_filter.mpr ⟨List.mem_of_getElem? (i := 923) (by decide +kernel), rfl⟩
theorem wq_924 : Cond.instanceMethod ⟨"ForgeScheduler", "stepMinutes", "(II)I"⟩ ∈ gtb := List.mem_filter.mpr ⟨List.mem_of_getElem? (i := 924) (by decide +kernel), rfl⟩
theorem wq_925 : Cond.selects "ForgeScheduler" ⟨"ForgeScheduler", "stepMinutes", "(II)I"⟩ ⟨"ForgeScheduler", "stepMinutes", "(II)I"⟩ ∈ gtb := List.mem_filter.mpr ⟨List.mem_of_getElem? (i := 925) (by decide +kernel), rfl⟩
theorem wq_937 : Cond.code ⟨"ForgeScheduler", "placeRate", "(I)I"⟩ prog_1_method_14_code 2 (some .int) ∈ gtb := List.mem_filter.mpr ⟨List.mem_of_getElem? (i := 937) (by decide +kernel), rfl⟩
theorem wq_934 : Cond.methodLink "ForgeSchedulerLaw" 28 ⟨"ForgeScheduler", "placeRate", "(I)I"⟩ ∈ gtb := List.mem_filter.mpr ⟨List.mem_of_getElem? (i := 934) (by decide +kernel), rfl⟩
theorem wq_935 : Cond.instanceMethod ⟨"ForgeScheduler", "placeRate", "(I)I"⟩ ∈ gtb := List.mem_filter.mpr ⟨List.mem_of_getElem? (i := 935) (by decide +kernel), rfl⟩
theorem wq_936 : Cond.selects "ForgeScheduler" ⟨"ForgeScheduler", "placeRate", "(I)I"⟩ ⟨"ForgeScheduler", "placeRate", "(I)I"⟩ ∈ gtb := List.mem_filter.mpr ⟨List.mem_of_getElem? (i := 936) (by decide +kernel), rfl⟩
theorem wq_949 : Cond.code ⟨"ForgeScheduler", "placeLimit", "(I)I"⟩ prog_1_method_15_code 2 (some .int) ∈ gtb := List.mem_filter.mpr ⟨List.mem_of_getElem? (i := 949) (by decide +kernel), rfl⟩
theorem wq_946 : Cond.methodLink "ForgeSchedulerLaw" 31 ⟨"ForgeScheduler", "placeLimit", "(I)I"⟩ ∈ gtb := List.mem_filter.mpr ⟨List.mem_of_getElem? (i := 946) (by decide +kernel), rfl⟩
theorem wq_947 : Cond.instanceMethod ⟨"ForgeScheduler", "placeLimit", "(I)I"⟩ ∈ gtb := List.mem_filter.mpr ⟨List.mem_of_getElem? (i := 947) (by decide +kernel), rfl⟩
theorem wq_948 : Cond.selects "ForgeScheduler" ⟨"ForgeScheduler", "placeLimit", "(I)I"⟩ ⟨"ForgeScheduler", "placeLimit", "(I)I"⟩ ∈ gtb := List.mem_filter.mpr ⟨List.mem_of_getElem? (i := 948) (by decide +kernel), rfl⟩
theorem wq_956 : Cond.code ⟨"ForgeScheduler", "ironAt", "(I)I"⟩ prog_1_method_17_code 2 (some .int) ∈ gtb := List.mem_filter.mpr ⟨List.mem_of_getElem? (i := 956) (by decide +kernel), rfl⟩
theorem wq_953 : Cond.methodLink "ForgeSchedulerLaw" 34 ⟨"ForgeScheduler", "ironAt", "(I)I"⟩ ∈ gtb := List.mem_filter.mpr ⟨List.mem_of_getElem? (i := 953) (by decide +kernel), rfl⟩
theorem wq_954 : Cond.instanceMethod ⟨"ForgeScheduler", "ironAt", "(I)I"⟩ ∈ gtb := List.mem_filter.mpr ⟨List.mem_of_getElem? (i := 954) (by decide +kernel), rfl⟩
theorem wq_955 : Cond.selects "ForgeScheduler" ⟨"ForgeScheduler", "ironAt", "(I)I"⟩ ⟨"ForgeScheduler", "ironAt", "(I)I"⟩ ∈ gtb := List.mem_filter.mpr ⟨List.mem_of_getElem? (i := 955) (by decide +kernel), rfl⟩
theorem wq_963 : Cond.code ⟨"ForgeScheduler", "positionOf", "(I)I"⟩ prog_1_method_18_code 2 (some .int) ∈ gtb := List.mem_filter.mpr ⟨List.mem_of_getElem? (i := 963) (by decide +kernel), rfl⟩
theorem wq_960 : Cond.methodLink "ForgeSchedulerLaw" 37 ⟨"ForgeScheduler", "positionOf", "(I)I"⟩ ∈ gtb := List.mem_filter.mpr ⟨List.mem_of_getElem? (i := 960) (by decide +kernel), rfl⟩
theorem wq_961 : Cond.instanceMethod ⟨"ForgeScheduler", "positionOf", "(I)I"⟩ ∈ gtb := List.mem_filter.mpr ⟨List.mem_of_getElem? (i := 961) (by decide +kernel), rfl⟩
theorem wq_962 : Cond.selects "ForgeScheduler" ⟨"ForgeScheduler", "positionOf", "(I)I"⟩ ⟨"ForgeScheduler", "positionOf", "(I)I"⟩ ∈ gtb := List.mem_filter.mpr ⟨List.mem_of_getElem? (i := 962) (by decide +kernel), rfl⟩
theorem wq_974 : Cond.code ⟨"ForgeScheduler", "finishOf", "(I)I"⟩ prog_1_method_20_code 2 (some .int) ∈ gtb := List.mem_filter.mpr ⟨List.mem_of_getElem? (i := 974) (by decide +kernel), rfl⟩
theorem wq_971 : Cond.methodLink "ForgeSchedulerLaw" 40 ⟨"ForgeScheduler", "finishOf", "(I)I"⟩ ∈ gtb := List.mem_filter.mpr ⟨List.mem_of_getElem? (i := 971) (by decide +kernel), rfl⟩
theorem wq_972 : Cond.instanceMethod ⟨"ForgeScheduler", "finishOf", "(I)I"⟩ ∈ gtb := List.mem_filter.mpr ⟨List.mem_of_getElem? (i := 972) (by decide +kernel), rfl⟩
theorem wq_973 : Cond.selects "ForgeScheduler" ⟨"ForgeScheduler", "finishOf", "(I)I"⟩ ⟨"ForgeScheduler", "finishOf", "(I)I"⟩ ∈ gtb := List.mem_filter.mpr ⟨List.mem_of_getElem? (i := 973) (by decide +kernel), rfl⟩
theorem wq_981 : Cond.code ⟨"ForgeScheduler", "heatAfter", "(II)I"⟩ prog_1_method_21_code 3 (some .int) ∈ gtb := List.mem_filter.mpr ⟨List.mem_of_getElem? (i := 981) (by decide +kernel), rfl⟩
theorem wq_978 : Cond.methodLink "ForgeSchedulerLaw" 43 ⟨"ForgeScheduler", "heatAfter", "(II)I"⟩ ∈ gtb := List.mem_filter.mpr ⟨List.mem_of_getElem? (i := 978) (by decide +kernel), rfl⟩
theorem wq_979 : Cond.instanceMethod ⟨"ForgeScheduler", "heatAfter", "(II)I"⟩ ∈ gtb := List.mem_filter.mpr ⟨List.mem_of_getElem? (i := 979) (by decide +kernel), rfl⟩
theorem wq_980 : Cond.selects "ForgeScheduler" ⟨"ForgeScheduler", "heatAfter", "(II)I"⟩ ⟨"ForgeScheduler", "heatAfter", "(II)I"⟩ ∈ gtb := List.mem_filter.mpr ⟨List.mem_of_getElem? (i := 980) (by decide +kernel), rfl⟩
theorem wq_992 : Cond.code ⟨"ForgeScheduler", "whereIn", "(II)I"⟩ prog_1_method_22_code 3 (some .int) ∈ gtb := List.mem_filter.mpr ⟨List.mem_of_getElem? (i := 992) (by decide +kernel), rfl⟩
theorem wq_989 : Cond.methodLink "ForgeSchedulerLaw" 46 ⟨"ForgeScheduler", "whereIn", "(II)I"⟩ ∈ gtb := List.mem_filter.mpr ⟨List.mem_of_getElem? (i := 989) (by decide +kernel), rfl⟩
theorem wq_990 : Cond.instanceMethod ⟨"ForgeScheduler", "whereIn", "(II)I"⟩ ∈ gtb := List.mem_filter.mpr ⟨List.mem_of_getElem? (i := 990) (by decide +kernel), rfl⟩
theorem wq_991 : Cond.selects "ForgeScheduler" ⟨"ForgeScheduler", "whereIn", "(II)I"⟩ ⟨"ForgeScheduler", "whereIn", "(II)I"⟩ ∈ gtb := List.mem_filter.mpr ⟨List.mem_of_getElem? (i := 991) (by decide +kernel), rfl⟩
theorem wq_1003 : Cond.code ⟨"ForgeScheduler", "stepsAfter", "(II)I"⟩ prog_1_method_23_code 3 (some .int) ∈ gtb := List.mem_filter.mpr ⟨List.mem_of_getElem? (i := 1003) (by decide +kernel), rfl⟩
theorem wq_1000 : Cond.methodLink "ForgeSchedulerLaw" 49 ⟨"ForgeScheduler", "stepsAfter", "(II)I"⟩ ∈ gtb := List.mem_filter.mpr ⟨List.mem_of_getElem? (i := 1000) (by decide +kernel), rfl⟩
theorem wq_1001 : Cond.instanceMethod ⟨"ForgeScheduler", "stepsAfter", "(II)I"⟩ ∈ gtb := List.mem_filter.mpr ⟨List.mem_of_getElem? (i := 1001) (by decide +kernel), rfl⟩
theorem wq_1002 : Cond.selects "ForgeScheduler" ⟨"ForgeScheduler", "stepsAfter", "(II)I"⟩ ⟨"ForgeScheduler", "stepsAfter", "(II)I"⟩ ∈ gtb := List.mem_filter.mpr ⟨List.mem_of_getElem? (i := 1002) (by decide +kernel), rfl⟩
theorem wq_1011 : Cond.code ⟨"ForgeScheduler", "coldStops", "(I)I"⟩ prog_1_method_24_code 2 (some .int) ∈ gtb := List.mem_filter.mpr ⟨List.mem_of_getElem? (i := 1011) (by decide +kernel), rfl⟩
theorem wq_1008 : Cond.methodLink "ForgeSchedulerLaw" 52 ⟨"ForgeScheduler", "coldStops", "(I)I"⟩ ∈ gtb := List.mem_filter.mpr ⟨List.mem_of_getElem? (i := 1008) (by decide +kernel), rfl⟩
theorem wq_1009 : Cond.instanceMethod ⟨"ForgeScheduler", "coldStops", "(I)I"⟩ ∈ gtb := List.mem_filter.mpr ⟨List.mem_of_getElem? (i := 1009) (by decide +kernel), rfl⟩
theorem wq_1010 : Cond.selects "ForgeScheduler" ⟨"ForgeScheduler", "coldStops", "(I)I"⟩ ⟨"ForgeScheduler", "coldStops", "(I)I"⟩ ∈ gtb := List.mem_filter.mpr ⟨List.mem_of_getElem? (i := 1010) (by decide +kernel), rfl⟩
theorem wq_1018 : Cond.code ⟨"ForgeScheduler", "heats", "(I)I"⟩ prog_1_method_25_code 2 (some .int) ∈ gtb := List.mem_filter.mpr ⟨List.mem_of_getElem? (i := 1018) (by decide +kernel), rfl⟩
theorem wq_1015 : Cond.methodLink "ForgeSchedulerLaw" 55 ⟨"ForgeScheduler", "heats", "(I)I"⟩ ∈ gtb := List.mem_filter.mpr ⟨List.mem_of_getElem? (i := 1015) (by decide +kernel), rfl⟩
theorem wq_1016 : Cond.instanceMethod ⟨"ForgeScheduler", "heats", "(I)I"⟩ ∈ gtb := List.mem_filter.mpr ⟨List.mem_of_getElem? (i := 1016) (by decide +kernel), rfl⟩
theorem wq_1017 : Cond.selects "ForgeScheduler" ⟨"ForgeScheduler", "heats", "(I)I"⟩ ⟨"ForgeScheduler", "heats", "(I)I"⟩ ∈ gtb := List.mem_filter.mpr ⟨List.mem_of_getElem? (i := 1017) (by decide +kernel), rfl⟩
theorem wq_1025 : Cond.code ⟨"ForgeScheduler", "fireMinutes", "(I)I"⟩ prog_1_method_26_code 2 (some .int) ∈ gtb := List.mem_filter.mpr ⟨List.mem_of_getElem? (i := 1025) (by decide +kernel), rfl⟩
theorem wq_1022 : Cond.methodLink "ForgeSchedulerLaw" 58 ⟨"ForgeScheduler", "fireMinutes", "(I)I"⟩ ∈ gtb := List.mem_filter.mpr ⟨List.mem_of_getElem? (i := 1022) (by decide +kernel), rfl⟩
theorem wq_1023 : Cond.instanceMethod ⟨"ForgeScheduler", "fireMinutes", "(I)I"⟩ ∈ gtb := List.mem_filter.mpr ⟨List.mem_of_getElem? (i := 1023) (by decide +kernel), rfl⟩
theorem wq_1024 : Cond.selects "ForgeScheduler" ⟨"ForgeScheduler", "fireMinutes", "(I)I"⟩ ⟨"ForgeScheduler", "fireMinutes", "(I)I"⟩ ∈ gtb := List.mem_filter.mpr ⟨List.mem_of_getElem? (i := 1024) (by decide +kernel), rfl⟩
theorem wq_1036 : Cond.code ⟨"ForgeScheduler", "anvilMinutes", "(I)I"⟩ prog_1_method_27_code 2 (some .int) ∈ gtb := List.mem_filter.mpr ⟨List.mem_of_getElem? (i := 1036) (by decide +kernel), rfl⟩
theorem wq_1033 : Cond.methodLink "ForgeSchedulerLaw" 61 ⟨"ForgeScheduler", "anvilMinutes", "(I)I"⟩ ∈ gtb := List.mem_filter.mpr ⟨List.mem_of_getElem? (i := 1033) (by decide +kernel), rfl⟩
theorem wq_1034 : Cond.instanceMethod ⟨"ForgeScheduler", "anvilMinutes", "(I)I"⟩ ∈ gtb := List.mem_filter.mpr ⟨List.mem_of_getElem? (i := 1034) (by decide +kernel), rfl⟩
theorem wq_1035 : Cond.selects "ForgeScheduler" ⟨"ForgeScheduler", "anvilMinutes", "(I)I"⟩ ⟨"ForgeScheduler", "anvilMinutes", "(I)I"⟩ ∈ gtb := List.mem_filter.mpr ⟨List.mem_of_getElem? (i := 1035) (by decide +kernel), rfl⟩
theorem wq_1056 : Cond.code ⟨"ForgeScheduler", "placeMinutes", "(I)I"⟩ prog_1_method_28_code 2 (some .int) ∈ gtb := List.mem_filter.mpr ⟨List.mem_of_getElem? (i := 1056) (by decide +kernel), rfl⟩
theorem wq_1053 : Cond.methodLink "ForgeSchedulerLaw" 64 ⟨"ForgeScheduler", "placeMinutes", "(I)I"⟩ ∈ gtb := List.mem_filter.mpr ⟨List.mem_of_getElem? (i := 1053) (by decide +kernel), rfl⟩
theorem wq_1054 : Cond.instanceMethod ⟨"ForgeScheduler", "placeMinutes", "(I)I"⟩ ∈ gtb := List.mem_filter.mpr ⟨List.mem_of_getElem? (i := 1054) (by decide +kernel), rfl⟩
theorem wq_1055 : Cond.selects "ForgeScheduler" ⟨"ForgeScheduler", "placeMinutes", "(I)I"⟩ ⟨"ForgeScheduler", "placeMinutes", "(I)I"⟩ ∈ gtb := List.mem_filter.mpr ⟨List.mem_of_getElem? (i := 1055) (by decide +kernel), rfl⟩
theorem wq_1063 : Cond.code ⟨"ForgeScheduler", "hottest", "(I)I"⟩ prog_1_method_29_code 2 (some .int) ∈ gtb := List.mem_filter.mpr ⟨List.mem_of_getElem? (i := 1063) (by decide +kernel), rfl⟩
theorem wq_1060 : Cond.methodLink "ForgeSchedulerLaw" 67 ⟨"ForgeScheduler", "hottest", "(I)I"⟩ ∈ gtb := List.mem_filter.mpr ⟨List.mem_of_getElem? (i := 1060) (by decide +kernel), rfl⟩
theorem wq_1061 : Cond.instanceMethod ⟨"ForgeScheduler", "hottest", "(I)I"⟩ ∈ gtb := List.mem_filter.mpr ⟨List.mem_of_getElem? (i := 1061) (by decide +kernel), rfl⟩
theorem wq_1062 : Cond.selects "ForgeScheduler" ⟨"ForgeScheduler", "hottest", "(I)I"⟩ ⟨"ForgeScheduler", "hottest", "(I)I"⟩ ∈ gtb := List.mem_filter.mpr ⟨List.mem_of_getElem? (i := 1062) (by decide +kernel), rfl⟩
theorem wq_1076 : Cond.code ⟨"ForgeScheduler", "bestIronAt", "(I)I"⟩ prog_1_method_32_code 3 (some .int) ∈ gtb := List.mem_filter.mpr ⟨List.mem_of_getElem? (i := 1076) (by decide +kernel), rfl⟩
theorem wq_1073 : Cond.methodLink "ForgeSchedulerLaw" 70 ⟨"ForgeScheduler", "bestIronAt", "(I)I"⟩ ∈ gtb := List.mem_filter.mpr ⟨List.mem_of_getElem? (i := 1073) (by decide +kernel), rfl⟩
theorem wq_1074 : Cond.instanceMethod ⟨"ForgeScheduler", "bestIronAt", "(I)I"⟩ ∈ gtb := List.mem_filter.mpr ⟨List.mem_of_getElem? (i := 1074) (by decide +kernel), rfl⟩
theorem wq_1075 : Cond.selects "ForgeScheduler" ⟨"ForgeScheduler", "bestIronAt", "(I)I"⟩ ⟨"ForgeScheduler", "bestIronAt", "(I)I"⟩ ∈ gtb := List.mem_filter.mpr ⟨List.mem_of_getElem? (i := 1075) (by decide +kernel), rfl⟩
theorem wq_1083 : Cond.code ⟨"ForgeScheduler", "finishWithSwap", "(II)I"⟩ prog_1_method_34_code 3 (some .int) ∈ gtb := List.mem_filter.mpr ⟨List.mem_of_getElem? (i := 1083) (by decide +kernel), rfl⟩
theorem wq_1080 : Cond.methodLink "ForgeSchedulerLaw" 73 ⟨"ForgeScheduler", "finishWithSwap", "(II)I"⟩ ∈ gtb := List.mem_filter.mpr ⟨List.mem_of_getElem? (i := 1080) (by decide +kernel), rfl⟩
theorem wq_1081 : Cond.instanceMethod ⟨"ForgeScheduler", "finishWithSwap", "(II)I"⟩ ∈ gtb := List.mem_filter.mpr ⟨List.mem_of_getElem? (i := 1081) (by decide +kernel), rfl⟩
theorem wq_1082 : Cond.selects "ForgeScheduler" ⟨"ForgeScheduler", "finishWithSwap", "(II)I"⟩ ⟨"ForgeScheduler", "finishWithSwap", "(II)I"⟩ ∈ gtb := List.mem_filter.mpr ⟨List.mem_of_getElem? (i := 1082) (by decide +kernel), rfl⟩
theorem wq_1090 : Cond.code ⟨"ForgeScheduler", "finishWithoutPlace", "(I)I"⟩ prog_1_method_37_code 2 (some .int) ∈ gtb := List.mem_filter.mpr ⟨List.mem_of_getElem? (i := 1090) (by decide +kernel), rfl⟩
theorem wq_1087 : Cond.methodLink "ForgeSchedulerLaw" 76 ⟨"ForgeScheduler", "finishWithoutPlace", "(I)I"⟩ ∈ gtb := List.mem_filter.mpr ⟨List.mem_of_getElem? (i := 1087) (by decide +kernel), rfl⟩
theorem wq_1088 : Cond.instanceMethod ⟨"ForgeScheduler", "finishWithoutPlace", "(I)I"⟩ ∈ gtb := List.mem_filter.mpr ⟨List.mem_of_getElem? (i := 1088) (by decide +kernel), rfl⟩
theorem wq_1089 : Cond.selects "ForgeScheduler" ⟨"ForgeScheduler", "finishWithoutPlace", "(I)I"⟩ ⟨"ForgeScheduler", "finishWithoutPlace", "(I)I"⟩ ∈ gtb := List.mem_filter.mpr ⟨List.mem_of_getElem? (i := 1089) (by decide +kernel), rfl⟩
theorem wq_1101 : Cond.code ⟨"ForgeScheduler", "finishWithoutIron", "(I)I"⟩ prog_1_method_38_code 2 (some .int) ∈ gtb := List.mem_filter.mpr ⟨List.mem_of_getElem? (i := 1101) (by decide +kernel), rfl⟩
theorem wq_1098 : Cond.methodLink "ForgeSchedulerLaw" 79 ⟨"ForgeScheduler", "finishWithoutIron", "(I)I"⟩ ∈ gtb := List.mem_filter.mpr ⟨List.mem_of_getElem? (i := 1098) (by decide +kernel), rfl⟩
theorem wq_1099 : Cond.instanceMethod ⟨"ForgeScheduler", "finishWithoutIron", "(I)I"⟩ ∈ gtb := List.mem_filter.mpr ⟨List.mem_of_getElem? (i := 1099) (by decide +kernel), rfl⟩
theorem wq_1100 : Cond.selects "ForgeScheduler" ⟨"ForgeScheduler", "finishWithoutIron", "(I)I"⟩ ⟨"ForgeScheduler", "finishWithoutIron", "(I)I"⟩ ∈ gtb := List.mem_filter.mpr ⟨List.mem_of_getElem? (i := 1100) (by decide +kernel), rfl⟩
theorem wq_1108 : Cond.code ⟨"ForgeScheduler", "finishAlone", "(I)I"⟩ prog_1_method_39_code 3 (some .int) ∈ gtb := List.mem_filter.mpr ⟨List.mem_of_getElem? (i := 1108) (by decide +kernel), rfl⟩
theorem wq_1105 : Cond.methodLink "ForgeSchedulerLaw" 82 ⟨"ForgeScheduler", "finishAlone", "(I)I"⟩ ∈ gtb := List.mem_filter.mpr ⟨List.mem_of_getElem? (i := 1105) (by decide +kernel), rfl⟩
theorem wq_1106 : Cond.instanceMethod ⟨"ForgeScheduler", "finishAlone", "(I)I"⟩ ∈ gtb := List.mem_filter.mpr ⟨List.mem_of_getElem? (i := 1106) (by decide +kernel), rfl⟩
theorem wq_1107 : Cond.selects "ForgeScheduler" ⟨"ForgeScheduler", "finishAlone", "(I)I"⟩ ⟨"ForgeScheduler", "finishAlone", "(I)I"⟩ ∈ gtb := List.mem_filter.mpr ⟨List.mem_of_getElem? (i := 1107) (by decide +kernel), rfl⟩
theorem wq_1115 : Cond.code ⟨"ForgeScheduler", "rackMinutes", "(I)I"⟩ prog_1_method_48_code 2 (some .int) ∈ gtb := List.mem_filter.mpr ⟨List.mem_of_getElem? (i := 1115) (by decide +kernel), rfl⟩
theorem wq_1112 : Cond.methodLink "ForgeSchedulerLaw" 85 ⟨"ForgeScheduler", "rackMinutes", "(I)I"⟩ ∈ gtb := List.mem_filter.mpr ⟨List.mem_of_getElem? (i := 1112) (by decide +kernel), rfl⟩
theorem wq_1113 : Cond.instanceMethod ⟨"ForgeScheduler", "rackMinutes", "(I)I"⟩ ∈ gtb := List.mem_filter.mpr ⟨List.mem_of_getElem? (i := 1113) (by decide +kernel), rfl⟩
theorem wq_1114 : Cond.selects "ForgeScheduler" ⟨"ForgeScheduler", "rackMinutes", "(I)I"⟩ ⟨"ForgeScheduler", "rackMinutes", "(I)I"⟩ ∈ gtb := List.mem_filter.mpr ⟨List.mem_of_getElem? (i := 1114) (by decide +kernel), rfl⟩
theorem wq_1126 : Cond.code ⟨"ForgeScheduler", "firstWork", "(I)I"⟩ prog_1_method_49_code 2 (some .int) ∈ gtb := List.mem_filter.mpr ⟨List.mem_of_getElem? (i := 1126) (by decide +kernel), rfl⟩
theorem wq_1123 : Cond.methodLink "ForgeSchedulerLaw" 88 ⟨"ForgeScheduler", "firstWork", "(I)I"⟩ ∈ gtb := List.mem_filter.mpr ⟨List.mem_of_getElem? (i := 1123) (by decide +kernel), rfl⟩
theorem wq_1124 : Cond.instanceMethod ⟨"ForgeScheduler", "firstWork", "(I)I"⟩ ∈ gtb := List.mem_filter.mpr ⟨List.mem_of_getElem? (i := 1124) (by decide +kernel), rfl⟩
theorem wq_1125 : Cond.selects "ForgeScheduler" ⟨"ForgeScheduler", "firstWork", "(I)I"⟩ ⟨"ForgeScheduler", "firstWork", "(I)I"⟩ ∈ gtb := List.mem_filter.mpr ⟨List.mem_of_getElem? (i := 1125) (by decide +kernel), rfl⟩
theorem wq_1137 : Cond.code ⟨"ForgeScheduler", "ironInPlace", "(II)I"⟩ prog_1_method_50_code 3 (some .int) ∈ gtb := List.mem_filter.mpr ⟨List.mem_of_getElem? (i := 1137) (by decide +kernel), rfl⟩
theorem wq_1134 : Cond.methodLink "ForgeSchedulerLaw" 91 ⟨"ForgeScheduler", "ironInPlace", "(II)I"⟩ ∈ gtb := List.mem_filter.mpr ⟨List.mem_of_getElem? (i := 1134) (by decide +kernel), rfl⟩
theorem wq_1135 : Cond.instanceMethod ⟨"ForgeScheduler", "ironInPlace", "(II)I"⟩ ∈ gtb := List.mem_filter.mpr ⟨List.mem_of_getElem? (i := 1135) (by decide +kernel), rfl⟩
theorem wq_1136 : Cond.selects "ForgeScheduler" ⟨"ForgeScheduler", "ironInPlace", "(II)I"⟩ ⟨"ForgeScheduler", "ironInPlace", "(II)I"⟩ ∈ gtb := List.mem_filter.mpr ⟨List.mem_of_getElem? (i := 1136) (by decide +kernel), rfl⟩
theorem wq_1145 : Cond.code ⟨"ForgeScheduler", "ironOnAnvil", "(II)I"⟩ prog_1_method_51_code 3 (some .int) ∈ gtb := List.mem_filter.mpr ⟨List.mem_of_getElem? (i := 1145) (by decide +kernel), rfl⟩
theorem wq_1142 : Cond.methodLink "ForgeSchedulerLaw" 94 ⟨"ForgeScheduler", "ironOnAnvil", "(II)I"⟩ ∈ gtb := List.mem_filter.mpr ⟨List.mem_of_getElem? (i := 1142) (by decide +kernel), rfl⟩
theorem wq_1143 : Cond.instanceMethod ⟨"ForgeScheduler", "ironOnAnvil", "(II)I"⟩ ∈ gtb := List.mem_filter.mpr ⟨List.mem_of_getElem? (i := 1143) (by decide +kernel), rfl⟩
theorem wq_1144 : Cond.selects "ForgeScheduler" ⟨"ForgeScheduler", "ironOnAnvil", "(II)I"⟩ ⟨"ForgeScheduler", "ironOnAnvil", "(II)I"⟩ ∈ gtb := List.mem_filter.mpr ⟨List.mem_of_getElem? (i := 1144) (by decide +kernel), rfl⟩
theorem wq_1152 : Cond.code ⟨"ForgeScheduler", "finishWithRate", "(II)I"⟩ prog_1_method_56_code 3 (some .int) ∈ gtb := List.mem_filter.mpr ⟨List.mem_of_getElem? (i := 1152) (by decide +kernel), rfl⟩
theorem wq_1149 : Cond.methodLink "ForgeSchedulerLaw" 97 ⟨"ForgeScheduler", "finishWithRate", "(II)I"⟩ ∈ gtb := List.mem_filter.mpr ⟨List.mem_of_getElem? (i := 1149) (by decide +kernel), rfl⟩
theorem wq_1150 : Cond.instanceMethod ⟨"ForgeScheduler", "finishWithRate", "(II)I"⟩ ∈ gtb := List.mem_filter.mpr ⟨List.mem_of_getElem? (i := 1150) (by decide +kernel), rfl⟩
theorem wq_1151 : Cond.selects "ForgeScheduler" ⟨"ForgeScheduler", "finishWithRate", "(II)I"⟩ ⟨"ForgeScheduler", "finishWithRate", "(II)I"⟩ ∈ gtb := List.mem_filter.mpr ⟨List.mem_of_getElem? (i := 1151) (by decide +kernel), rfl⟩
theorem wq_1159 : Cond.code ⟨"ForgeScheduler", "leastRate", "(I)I"⟩ prog_1_method_57_code 4 (some .int) ∈ gtb := List.mem_filter.mpr ⟨List.mem_of_getElem? (i := 1159) (by decide +kernel), rfl⟩
theorem wq_1156 : Cond.methodLink "ForgeSchedulerLaw" 100 ⟨"ForgeScheduler", "leastRate", "(I)I"⟩ ∈ gtb := List.mem_filter.mpr ⟨List.mem_of_getElem? (i := 1156) (by decide +kernel), rfl⟩
theorem wq_1157 : Cond.instanceMethod ⟨"ForgeScheduler", "leastRate", "(I)I"⟩ ∈ gtb := List.mem_filter.mpr ⟨List.mem_of_getElem? (i := 1157) (by decide +kernel), rfl⟩
theorem wq_1158 : Cond.selects "ForgeScheduler" ⟨"ForgeScheduler", "leastRate", "(I)I"⟩ ⟨"ForgeScheduler", "leastRate", "(I)I"⟩ ∈ gtb := List.mem_filter.mpr ⟨List.mem_of_getElem? (i := 1158) (by decide +kernel), rfl⟩
theorem wq_383 : Cond.code ⟨"ForgeScheduler", "feed", "(IIIII)I"⟩ prog_1_method_2_code 6 (some .int) ∈ gtb := List.mem_filter.mpr ⟨List.mem_of_getElem? (i := 383) (by decide +kernel), rfl⟩
theorem wq_380 : Cond.methodLink "ForgeSchedulerLaw" 107 ⟨"ForgeScheduler", "feed", "(IIIII)I"⟩ ∈ gtb := List.mem_filter.mpr ⟨List.mem_of_getElem? (i := 380) (by decide +kernel), rfl⟩
theorem wq_381 : Cond.instanceMethod ⟨"ForgeScheduler", "feed", "(IIIII)I"⟩ ∈ gtb := List.mem_filter.mpr ⟨List.mem_of_getElem? (i := 381) (by decide +kernel), rfl⟩
theorem wq_382 : Cond.selects "ForgeScheduler" ⟨"ForgeScheduler", "feed", "(IIIII)I"⟩ ⟨"ForgeScheduler", "feed", "(IIIII)I"⟩ ∈ gtb := List.mem_filter.mpr ⟨List.mem_of_getElem? (i := 382) (by decide +kernel), rfl⟩
theorem wq_1308 : Cond.code ⟨"ForgeSchedulerModel", "feed", "(IIIII)I"⟩ prog_9_method_3_code 8 (some .int) ∈ gtb := List.mem_filter.mpr ⟨List.mem_of_getElem? (i := 1308) (by decide +kernel), rfl⟩
theorem wq_1305 : Cond.methodLink "ForgeSchedulerLaw" 111 ⟨"ForgeSchedulerModel", "feed", "(IIIII)I"⟩ ∈ gtb := List.mem_filter.mpr ⟨List.mem_of_getElem? (i := 1305) (by decide +kernel), rfl⟩
theorem wq_1306 : Cond.instanceMethod ⟨"ForgeSchedulerModel", "feed", "(IIIII)I"⟩ ∈ gtb := List.mem_filter.mpr ⟨List.mem_of_getElem? (i := 1306) (by decide +kernel), rfl⟩
theorem wq_1307 : Cond.selects "ForgeSchedulerModel" ⟨"ForgeSchedulerModel", "feed", "(IIIII)I"⟩ ⟨"ForgeSchedulerModel", "feed", "(IIIII)I"⟩ ∈ gtb := List.mem_filter.mpr ⟨List.mem_of_getElem? (i := 1307) (by decide +kernel), rfl⟩
theorem wq_395 : Cond.code ⟨"ForgeScheduler", "load", "(I)I"⟩ prog_1_method_3_code 3 (some .int) ∈ gtb := List.mem_filter.mpr ⟨List.mem_of_getElem? (i := 395) (by decide +kernel), rfl⟩
theorem wq_392 : Cond.methodLink "ForgeSchedulerLaw" 112 ⟨"ForgeScheduler", "load", "(I)I"⟩ ∈ gtb := List.mem_filter.mpr ⟨List.mem_of_getElem? (i := 392) (by decide +kernel), rfl⟩
theorem wq_393 : Cond.instanceMethod ⟨"ForgeScheduler", "load", "(I)I"⟩ ∈ gtb := List.mem_filter.mpr ⟨List.mem_of_getElem? (i := 393) (by decide +kernel), rfl⟩
theorem wq_394 : Cond.selects "ForgeScheduler" ⟨"ForgeScheduler", "load", "(I)I"⟩ ⟨"ForgeScheduler", "load", "(I)I"⟩ ∈ gtb := List.mem_filter.mpr ⟨List.mem_of_getElem? (i := 394) (by decide +kernel), rfl⟩
theorem wq_1312 : Cond.code ⟨"ForgeSchedulerModel", "load", "(I)I"⟩ prog_9_method_22_code 2 (some .int) ∈ gtb := List.mem_filter.mpr ⟨List.mem_of_getElem? (i := 1312) (by decide +kernel), rfl⟩
theorem wq_1309 : Cond.methodLink "ForgeSchedulerLaw" 115 ⟨"ForgeSchedulerModel", "load", "(I)I"⟩ ∈ gtb := List.mem_filter.mpr ⟨List.mem_of_getElem? (i := 1309) (by decide +kernel), rfl⟩
theorem wq_1310 : Cond.instanceMethod ⟨"ForgeSchedulerModel", "load", "(I)I"⟩ ∈ gtb := List.mem_filter.mpr ⟨List.mem_of_getElem? (i := 1310) (by decide +kernel), rfl⟩
theorem wq_1311 : Cond.selects "ForgeSchedulerModel" ⟨"ForgeSchedulerModel", "load", "(I)I"⟩ ⟨"ForgeSchedulerModel", "load", "(I)I"⟩ ∈ gtb := List.mem_filter.mpr ⟨List.mem_of_getElem? (i := 1311) (by decide +kernel), rfl⟩
theorem wq_509 : Cond.code ⟨"ForgeScheduler", "errorPosition", "()I"⟩ prog_1_method_4_code 1 (some .int) ∈ gtb := List.mem_filter.mpr ⟨List.mem_of_getElem? (i := 509) (by decide +kernel), rfl⟩
theorem wq_506 : Cond.methodLink "ForgeSchedulerLaw" 116 ⟨"ForgeScheduler", "errorPosition", "()I"⟩ ∈ gtb := List.mem_filter.mpr ⟨List.mem_of_getElem? (i := 506) (by decide +kernel), rfl⟩
theorem wq_507 : Cond.instanceMethod ⟨"ForgeScheduler", "errorPosition", "()I"⟩ ∈ gtb := List.mem_filter.mpr ⟨List.mem_of_getElem? (i := 507) (by decide +kernel), rfl⟩
theorem wq_508 : Cond.selects "ForgeScheduler" ⟨"ForgeScheduler", "errorPosition", "()I"⟩ ⟨"ForgeScheduler", "errorPosition", "()I"⟩ ∈ gtb := List.mem_filter.mpr ⟨List.mem_of_getElem? (i := 508) (by decide +kernel), rfl⟩
theorem wq_1432 : Cond.code ⟨"ForgeSchedulerModel", "errorPosition", "()I"⟩ prog_9_method_23_code 1 (some .int) ∈ gtb := List.mem_filter.mpr ⟨List.mem_of_getElem? (i := 1432) (by decide +kernel), rfl⟩
theorem wq_1429 : Cond.methodLink "ForgeSchedulerLaw" 120 ⟨"ForgeSchedulerModel", "errorPosition", "()I"⟩ ∈ gtb := List.mem_filter.mpr ⟨List.mem_of_getElem? (i := 1429) (by decide +kernel), rfl⟩
theorem wq_1430 : Cond.instanceMethod ⟨"ForgeSchedulerModel", "errorPosition", "()I"⟩ ∈ gtb := List.mem_filter.mpr ⟨List.mem_of_getElem? (i := 1430) (by decide +kernel), rfl⟩
theorem wq_1431 : Cond.selects "ForgeSchedulerModel" ⟨"ForgeSchedulerModel", "errorPosition", "()I"⟩ ⟨"ForgeSchedulerModel", "errorPosition", "()I"⟩ ∈ gtb := List.mem_filter.mpr ⟨List.mem_of_getElem? (i := 1431) (by decide +kernel), rfl⟩
theorem wq_513 : Cond.code ⟨"ForgeScheduler", "ironCount", "()I"⟩ prog_1_method_5_code 1 (some .int) ∈ gtb := List.mem_filter.mpr ⟨List.mem_of_getElem? (i := 513) (by decide +kernel), rfl⟩
theorem wq_510 : Cond.methodLink "ForgeSchedulerLaw" 121 ⟨"ForgeScheduler", "ironCount", "()I"⟩ ∈ gtb := List.mem_filter.mpr ⟨List.mem_of_getElem? (i := 510) (by decide +kernel), rfl⟩
theorem wq_511 : Cond.instanceMethod ⟨"ForgeScheduler", "ironCount", "()I"⟩ ∈ gtb := List.mem_filter.mpr ⟨List.mem_of_getElem? (i := 511) (by decide +kernel), rfl⟩
theorem wq_512 : Cond.selects "ForgeScheduler" ⟨"ForgeScheduler", "ironCount", "()I"⟩ ⟨"ForgeScheduler", "ironCount", "()I"⟩ ∈ gtb := List.mem_filter.mpr ⟨List.mem_of_getElem? (i := 512) (by decide +kernel), rfl⟩
theorem wq_1436 : Cond.code ⟨"ForgeSchedulerModel", "ironCount", "()I"⟩ prog_9_method_28_code 1 (some .int) ∈ gtb := List.mem_filter.mpr ⟨List.mem_of_getElem? (i := 1436) (by decide +kernel), rfl⟩
theorem wq_1433 : Cond.methodLink "ForgeSchedulerLaw" 124 ⟨"ForgeSchedulerModel", "ironCount", "()I"⟩ ∈ gtb := List.mem_filter.mpr ⟨List.mem_of_getElem? (i := 1433) (by decide +kernel), rfl⟩
theorem wq_1434 : Cond.instanceMethod ⟨"ForgeSchedulerModel", "ironCount", "()I"⟩ ∈ gtb := List.mem_filter.mpr ⟨List.mem_of_getElem? (i := 1434) (by decide +kernel), rfl⟩
theorem wq_1435 : Cond.selects "ForgeSchedulerModel" ⟨"ForgeSchedulerModel", "ironCount", "()I"⟩ ⟨"ForgeSchedulerModel", "ironCount", "()I"⟩ ∈ gtb := List.mem_filter.mpr ⟨List.mem_of_getElem? (i := 1435) (by decide +kernel), rfl⟩
theorem wq_517 : Cond.code ⟨"ForgeScheduler", "placeCount", "()I"⟩ prog_1_method_6_code 1 (some .int) ∈ gtb := List.mem_filter.mpr ⟨List.mem_of_getElem? (i := 517) (by decide +kernel), rfl⟩
theorem wq_514 : Cond.methodLink "ForgeSchedulerLaw" 125 ⟨"ForgeScheduler", "placeCount", "()I"⟩ ∈ gtb := List.mem_filter.mpr ⟨List.mem_of_getElem? (i := 514) (by decide +kernel), rfl⟩
theorem wq_515 : Cond.instanceMethod ⟨"ForgeScheduler", "placeCount", "()I"⟩ ∈ gtb := List.mem_filter.mpr ⟨List.mem_of_getElem? (i := 515) (by decide +kernel), rfl⟩
theorem wq_516 : Cond.selects "ForgeScheduler" ⟨"ForgeScheduler", "placeCount", "()I"⟩ ⟨"ForgeScheduler", "placeCount", "()I"⟩ ∈ gtb := List.mem_filter.mpr ⟨List.mem_of_getElem? (i := 516) (by decide +kernel), rfl⟩
theorem wq_1440 : Cond.code ⟨"ForgeSchedulerModel", "placeCount", "()I"⟩ prog_9_method_29_code 1 (some .int) ∈ gtb := List.mem_filter.mpr ⟨List.mem_of_getElem? (i := 1440) (by decide +kernel), rfl⟩
theorem wq_1437 : Cond.methodLink "ForgeSchedulerLaw" 128 ⟨"ForgeSchedulerModel", "placeCount", "()I"⟩ ∈ gtb := List.mem_filter.mpr ⟨List.mem_of_getElem? (i := 1437) (by decide +kernel), rfl⟩
theorem wq_1438 : Cond.instanceMethod ⟨"ForgeSchedulerModel", "placeCount", "()I"⟩ ∈ gtb := List.mem_filter.mpr ⟨List.mem_of_getElem? (i := 1438) (by decide +kernel), rfl⟩
theorem wq_1439 : Cond.selects "ForgeSchedulerModel" ⟨"ForgeSchedulerModel", "placeCount", "()I"⟩ ⟨"ForgeSchedulerModel", "placeCount", "()I"⟩ ∈ gtb := List.mem_filter.mpr ⟨List.mem_of_getElem? (i := 1439) (by decide +kernel), rfl⟩
theorem wq_521 : Cond.code ⟨"ForgeScheduler", "undoCount", "()I"⟩ prog_1_method_7_code 1 (some .int) ∈ gtb := List.mem_filter.mpr ⟨List.mem_of_getElem? (i := 521) (by decide +kernel), rfl⟩
theorem wq_518 : Cond.methodLink "ForgeSchedulerLaw" 129 ⟨"ForgeScheduler", "undoCount", "()I"⟩ ∈ gtb := List.mem_filter.mpr ⟨List.mem_of_getElem? (i := 518) (by decide +kernel), rfl⟩
theorem wq_519 : Cond.instanceMethod ⟨"ForgeScheduler", "undoCount", "()I"⟩ ∈ gtb := List.mem_filter.mpr ⟨List.mem_of_getElem? (i := 519) (by decide +kernel), rfl⟩
theorem wq_520 : Cond.selects "ForgeScheduler" ⟨"ForgeScheduler", "undoCount", "()I"⟩ ⟨"ForgeScheduler", "undoCount", "()I"⟩ ∈ gtb := List.mem_filter.mpr ⟨List.mem_of_getElem? (i := 520) (by decide +kernel), rfl⟩
theorem wq_1444 : Cond.code ⟨"ForgeSchedulerModel", "undoCount", "()I"⟩ prog_9_method_30_code 1 (some .int) ∈ gtb := List.mem_filter.mpr ⟨List.mem_of_getElem? (i := 1444) (by decide +kernel), rfl⟩
theorem wq_1441 : Cond.methodLink "ForgeSchedulerLaw" 132 ⟨"ForgeSchedulerModel", "undoCount", "()I"⟩ ∈ gtb := List.mem_filter.mpr ⟨List.mem_of_getElem? (i := 1441) (by decide +kernel), rfl⟩
theorem wq_1442 : Cond.instanceMethod ⟨"ForgeSchedulerModel", "undoCount", "()I"⟩ ∈ gtb := List.mem_filter.mpr ⟨List.mem_of_getElem? (i := 1442) (by decide +kernel), rfl⟩
theorem wq_1443 : Cond.selects "ForgeSchedulerModel" ⟨"ForgeSchedulerModel", "undoCount", "()I"⟩ ⟨"ForgeSchedulerModel", "undoCount", "()I"⟩ ∈ gtb := List.mem_filter.mpr ⟨List.mem_of_getElem? (i := 1443) (by decide +kernel), rfl⟩
theorem wq_525 : Cond.code ⟨"ForgeScheduler", "ironNamed", "(I)I"⟩ prog_1_method_8_code 2 (some .int) ∈ gtb := List.mem_filter.mpr ⟨List.mem_of_getElem? (i := 525) (by decide +kernel), rfl⟩
theorem wq_522 : Cond.methodLink "ForgeSchedulerLaw" 133 ⟨"ForgeScheduler", "ironNamed", "(I)I"⟩ ∈ gtb := List.mem_filter.mpr ⟨List.mem_of_getElem? (i := 522) (by decide +kernel), rfl⟩
theorem wq_523 : Cond.instanceMethod ⟨"ForgeScheduler", "ironNamed", "(I)I"⟩ ∈ gtb := List.mem_filter.mpr ⟨List.mem_of_getElem? (i := 523) (by decide +kernel), rfl⟩
theorem wq_524 : Cond.selects "ForgeScheduler" ⟨"ForgeScheduler", "ironNamed", "(I)I"⟩ ⟨"ForgeScheduler", "ironNamed", "(I)I"⟩ ∈ gtb := List.mem_filter.mpr ⟨List.mem_of_getElem? (i := 524) (by decide +kernel), rfl⟩
theorem wq_1448 : Cond.code ⟨"ForgeSchedulerModel", "ironNamed", "(I)I"⟩ prog_9_method_31_code 2 (some .int) ∈ gtb := List.mem_filter.mpr ⟨List.mem_of_getElem? (i := 1448) (by decide +kernel), rfl⟩
theorem wq_1445 : Cond.methodLink "ForgeSchedulerLaw" 136 ⟨"ForgeSchedulerModel", "ironNamed", "(I)I"⟩ ∈ gtb := List.mem_filter.mpr ⟨List.mem_of_getElem? (i := 1445) (by decide +kernel), rfl⟩
theorem wq_1446 : Cond.instanceMethod ⟨"ForgeSchedulerModel", "ironNamed", "(I)I"⟩ ∈ gtb := List.mem_filter.mpr ⟨List.mem_of_getElem? (i := 1446) (by decide +kernel), rfl⟩
theorem wq_1447 : Cond.selects "ForgeSchedulerModel" ⟨"ForgeSchedulerModel", "ironNamed", "(I)I"⟩ ⟨"ForgeSchedulerModel", "ironNamed", "(I)I"⟩ ∈ gtb := List.mem_filter.mpr ⟨List.mem_of_getElem? (i := 1447) (by decide +kernel), rfl⟩
theorem wq_813 : Cond.methodLink "ForgeSchedulerLaw" 137 ⟨"ForgeSchedulerLaw", "mass", "(LForgeScheduler;I[J)I"⟩ ∈ gtb := List.mem_filter.mpr ⟨List.mem_of_getElem? (i := 813) (by decide +kernel), rfl⟩
theorem wq_814 : Cond.static ⟨"ForgeSchedulerLaw", "mass", "(LForgeScheduler;I[J)I"⟩ ∈ gtb := List.mem_filter.mpr ⟨List.mem_of_getElem? (i := 814) (by decide +kernel), rfl⟩
theorem wq_86 : Cond.initialized "ForgeSchedulerLaw" ∈ gtb := List.mem_filter.mpr ⟨List.mem_of_getElem? (i := 86) (by decide +kernel), rfl⟩
theorem wq_1452 : Cond.code ⟨"ForgeSchedulerModel", "mass", "(I)I"⟩ prog_9_method_32_code 2 (some .int) ∈ gtb := List.mem_filter.mpr ⟨List.mem_of_getElem? (i := 1452) (by decide +kernel), rfl⟩
theorem wq_1449 : Cond.methodLink "ForgeSchedulerLaw" 142 ⟨"ForgeSchedulerModel", "mass", "(I)I"⟩ ∈ gtb := List.mem_filter.mpr ⟨List.mem_of_getElem? (i := 1449) (by decide +kernel), rfl⟩
theorem wq_1450 : Cond.instanceMethod ⟨"ForgeSchedulerModel", "mass", "(I)I"⟩ ∈ gtb := List.mem_filter.mpr ⟨List.mem_of_getElem? (i := 1450) (by decide +kernel), rfl⟩
theorem wq_1451 : Cond.selects "ForgeSchedulerModel" ⟨"ForgeSchedulerModel", "mass", "(I)I"⟩ ⟨"ForgeSchedulerModel", "mass", "(I)I"⟩ ∈ gtb := List.mem_filter.mpr ⟨List.mem_of_getElem? (i := 1451) (by decide +kernel), rfl⟩
theorem wq_1304 : Cond.code ⟨"ForgeSchedulerModel", "thrown", "()I"⟩ prog_9_method_2_code 1 (some .int) ∈ gtb := List.mem_filter.mpr ⟨List.mem_of_getElem? (i := 1304) (by decide +kernel), rfl⟩
theorem wq_1301 : Cond.methodLink "ForgeSchedulerLaw" 143 ⟨"ForgeSchedulerModel", "thrown", "()I"⟩ ∈ gtb := List.mem_filter.mpr ⟨List.mem_of_getElem? (i := 1301) (by decide +kernel), rfl⟩
theorem wq_1302 : Cond.instanceMethod ⟨"ForgeSchedulerModel", "thrown", "()I"⟩ ∈ gtb := List.mem_filter.mpr ⟨List.mem_of_getElem? (i := 1302) (by decide +kernel), rfl⟩
theorem wq_1303 : Cond.selects "ForgeSchedulerModel" ⟨"ForgeSchedulerModel", "thrown", "()I"⟩ ⟨"ForgeSchedulerModel", "thrown", "()I"⟩ ∈ gtb := List.mem_filter.mpr ⟨List.mem_of_getElem? (i := 1303) (by decide +kernel), rfl⟩
theorem wq_890 : Cond.methodLink "ForgeSchedulerLaw" 146 ⟨"ForgeSchedulerLaw", "cooling", "(LForgeScheduler;I[J)I"⟩ ∈ gtb := List.mem_filter.mpr ⟨List.mem_of_getElem? (i := 890) (by decide +kernel), rfl⟩
theorem wq_891 : Cond.static ⟨"ForgeSchedulerLaw", "cooling", "(LForgeScheduler;I[J)I"⟩ ∈ gtb := List.mem_filter.mpr ⟨List.mem_of_getElem? (i := 891) (by decide +kernel), rfl⟩
theorem wq_1464 : Cond.code ⟨"ForgeSchedulerModel", "cooling", "(I)I"⟩ prog_9_method_33_code 2 (some .int) ∈ gtb := List.mem_filter.mpr ⟨List.mem_of_getElem? (i := 1464) (by decide +kernel), rfl⟩
theorem wq_1461 : Cond.methodLink "ForgeSchedulerLaw" 148 ⟨"ForgeSchedulerModel", "cooling", "(I)I"⟩ ∈ gtb := List.mem_filter.mpr ⟨List.mem_of_getElem? (i := 1461) (by decide +kernel), rfl⟩
theorem wq_1462 : Cond.instanceMethod ⟨"ForgeSchedulerModel", "cooling", "(I)I"⟩ ∈ gtb := List.mem_filter.mpr ⟨List.mem_of_getElem? (i := 1462) (by decide +kernel), rfl⟩
theorem wq_1463 : Cond.selects "ForgeSchedulerModel" ⟨"ForgeSchedulerModel", "cooling", "(I)I"⟩ ⟨"ForgeSchedulerModel", "cooling", "(I)I"⟩ ∈ gtb := List.mem_filter.mpr ⟨List.mem_of_getElem? (i := 1463) (by decide +kernel), rfl⟩
theorem wq_897 : Cond.methodLink "ForgeSchedulerLaw" 149 ⟨"ForgeSchedulerLaw", "stepCount", "(LForgeScheduler;I[J)I"⟩ ∈ gtb := List.mem_filter.mpr ⟨List.mem_of_getElem? (i := 897) (by decide +kernel), rfl⟩
theorem wq_898 : Cond.static ⟨"ForgeSchedulerLaw", "stepCount", "(LForgeScheduler;I[J)I"⟩ ∈ gtb := List.mem_filter.mpr ⟨List.mem_of_getElem? (i := 898) (by decide +kernel), rfl⟩
theorem wq_1468 : Cond.code ⟨"ForgeSchedulerModel", "stepCount", "(I)I"⟩ prog_9_method_34_code 2 (some .int) ∈ gtb := List.mem_filter.mpr ⟨List.mem_of_getElem? (i := 1468) (by decide +kernel), rfl⟩
theorem wq_1465 : Cond.methodLink "ForgeSchedulerLaw" 151 ⟨"ForgeSchedulerModel", "stepCount", "(I)I"⟩ ∈ gtb := List.mem_filter.mpr ⟨List.mem_of_getElem? (i := 1465) (by decide +kernel), rfl⟩
theorem wq_1466 : Cond.instanceMethod ⟨"ForgeSchedulerModel", "stepCount", "(I)I"⟩ ∈ gtb := List.mem_filter.mpr ⟨List.mem_of_getElem? (i := 1466) (by decide +kernel), rfl⟩
theorem wq_1467 : Cond.selects "ForgeSchedulerModel" ⟨"ForgeSchedulerModel", "stepCount", "(I)I"⟩ ⟨"ForgeSchedulerModel", "stepCount", "(I)I"⟩ ∈ gtb := List.mem_filter.mpr ⟨List.mem_of_getElem? (i := 1467) (by decide +kernel), rfl⟩
theorem wq_904 : Cond.methodLink "ForgeSchedulerLaw" 152 ⟨"ForgeSchedulerLaw", "stepHeat", "(LForgeScheduler;II[J)I"⟩ ∈ gtb := List.mem_filter.mpr ⟨List.mem_of_getElem? (i := 904) (by decide +kernel), rfl⟩
theorem wq_905 : Cond.static ⟨"ForgeSchedulerLaw", "stepHeat", "(LForgeScheduler;II[J)I"⟩ ∈ gtb := List.mem_filter.mpr ⟨List.mem_of_getElem? (i := 905) (by decide +kernel), rfl⟩
theorem wq_1472 : Cond.code ⟨"ForgeSchedulerModel", "stepHeat", "(II)I"⟩ prog_9_method_35_code 3 (some .int) ∈ gtb := List.mem_filter.mpr ⟨List.mem_of_getElem? (i := 1472) (by decide +kernel), rfl⟩
theorem wq_1469 : Cond.methodLink "ForgeSchedulerLaw" 155 ⟨"ForgeSchedulerModel", "stepHeat", "(II)I"⟩ ∈ gtb := List.mem_filter.mpr ⟨List.mem_of_getElem? (i := 1469) (by decide +kernel), rfl⟩
theorem wq_1470 : Cond.instanceMethod ⟨"ForgeSchedulerModel", "stepHeat", "(II)I"⟩ ∈ gtb := List.mem_filter.mpr ⟨List.mem_of_getElem? (i := 1470) (by decide +kernel), rfl⟩
theorem wq_1471 : Cond.selects "ForgeSchedulerModel" ⟨"ForgeSchedulerModel", "stepHeat", "(II)I"⟩ ⟨"ForgeSchedulerModel", "stepHeat", "(II)I"⟩ ∈ gtb := List.mem_filter.mpr ⟨List.mem_of_getElem? (i := 1471) (by decide +kernel), rfl⟩
theorem wq_920 : Cond.methodLink "ForgeSchedulerLaw" 156 ⟨"ForgeSchedulerLaw", "stepMinutes", "(LForgeScheduler;II[J)I"⟩ ∈ gtb := List.mem_filter.mpr ⟨List.mem_of_getElem? (i := 920) (by decide +kernel), rfl⟩
theorem wq_921 : Cond.static ⟨"ForgeSchedulerLaw", "stepMinutes", "(LForgeScheduler;II[J)I"⟩ ∈ gtb := List.mem_filter.mpr ⟨List.mem_of_getElem? (i := 921) (by decide +kernel), rfl⟩
theorem wq_1480 : Cond.code ⟨"ForgeSchedulerModel", "stepMinutes", "(II)I"⟩ prog_9_method_36_code 3 (some .int) ∈ gtb := List.mem_filter.mpr ⟨List.mem_of_getElem? (i := 1480) (by decide +kernel), rfl⟩
theorem wq_1477 : Cond.methodLink "ForgeSchedulerLaw" 158 ⟨"ForgeSchedulerModel", "stepMinutes", "(II)I"⟩ ∈ gtb := List.mem_filter.mpr ⟨List.mem_of_getElem? (i := 1477) (by decide +kernel), rfl⟩
theorem wq_1478 : Cond.instanceMethod ⟨"ForgeSchedulerModel", "stepMinutes", "(II)I"⟩ ∈ gtb := List.mem_filter.mpr ⟨List.mem_of_getElem? (i := 1478) (by decide +kernel), rfl⟩
theorem wq_1479 : Cond.selects "ForgeSchedulerModel" ⟨"ForgeSchedulerModel", "stepMinutes", "(II)I"⟩ ⟨"ForgeSchedulerModel", "stepMinutes", "(II)I"⟩ ∈ gtb := List.mem_filter.mpr ⟨List.mem_of_getElem? (i := 1479) (by decide +kernel), rfl⟩
theorem wq_931 : Cond.methodLink "ForgeSchedulerLaw" 159 ⟨"ForgeSchedulerLaw", "placeRate", "(LForgeScheduler;I[J)I"⟩ ∈ gtb := List.mem_filter.mpr ⟨List.mem_of_getElem? (i := 931) (by decide +kernel), rfl⟩
theorem wq_932 : Cond.static ⟨"ForgeSchedulerLaw", "placeRate", "(LForgeScheduler;I[J)I"⟩ ∈ gtb := List.mem_filter.mpr ⟨List.mem_of_getElem? (i := 932) (by decide +kernel), rfl⟩
theorem wq_1484 : Cond.code ⟨"ForgeSchedulerModel", "placeRate", "(I)I"⟩ prog_9_method_37_code 2 (some .int) ∈ gtb := List.mem_filter.mpr ⟨List.mem_of_getElem? (i := 1484) (by decide +kernel), rfl⟩
theorem wq_1481 : Cond.methodLink "ForgeSchedulerLaw" 161 ⟨"ForgeSchedulerModel", "placeRate", "(I)I"⟩ ∈ gtb := List.mem_filter.mpr ⟨List.mem_of_getElem? (i := 1481) (by decide +kernel), rfl⟩
theorem wq_1482 : Cond.instanceMethod ⟨"ForgeSchedulerModel", "placeRate", "(I)I"⟩ ∈ gtb := List.mem_filter.mpr ⟨List.mem_of_getElem? (i := 1482) (by decide +kernel), rfl⟩
theorem wq_1483 : Cond.selects "ForgeSchedulerModel" ⟨"ForgeSchedulerModel", "placeRate", "(I)I"⟩ ⟨"ForgeSchedulerModel", "placeRate", "(I)I"⟩ ∈ gtb := List.mem_filter.mpr ⟨List.mem_of_getElem? (i := 1483) (by decide +kernel), rfl⟩
theorem wq_943 : Cond.methodLink "ForgeSchedulerLaw" 162 ⟨"ForgeSchedulerLaw", "placeLimit", "(LForgeScheduler;I[J)I"⟩ ∈ gtb := List.mem_filter.mpr ⟨List.mem_of_getElem? (i := 943) (by decide +kernel), rfl⟩
theorem wq_944 : Cond.static ⟨"ForgeSchedulerLaw", "placeLimit", "(LForgeScheduler;I[J)I"⟩ ∈ gtb := List.mem_filter.mpr ⟨List.mem_of_getElem? (i := 944) (by decide +kernel), rfl⟩
theorem wq_1492 : Cond.code ⟨"ForgeSchedulerModel", "placeLimit", "(I)I"⟩ prog_9_method_38_code 2 (some .int) ∈ gtb := List.mem_filter.mpr ⟨List.mem_of_getElem? (i := 1492) (by decide +kernel), rfl⟩
theorem wq_1489 : Cond.methodLink "ForgeSchedulerLaw" 164 ⟨"ForgeSchedulerModel", "placeLimit", "(I)I"⟩ ∈ gtb := List.mem_filter.mpr ⟨List.mem_of_getElem? (i := 1489) (by decide +kernel), rfl⟩
theorem wq_1490 : Cond.instanceMethod ⟨"ForgeSchedulerModel", "placeLimit", "(I)I"⟩ ∈ gtb := List.mem_filter.mpr ⟨List.mem_of_getElem? (i := 1490) (by decide +kernel), rfl⟩
theorem wq_1491 : Cond.selects "ForgeSchedulerModel" ⟨"ForgeSchedulerModel", "placeLimit", "(I)I"⟩ ⟨"ForgeSchedulerModel", "placeLimit", "(I)I"⟩ ∈ gtb := List.mem_filter.mpr ⟨List.mem_of_getElem? (i := 1491) (by decide +kernel), rfl⟩
theorem wq_530 : Cond.code ⟨"ForgeScheduler", "getSetting", "(I)I"⟩ prog_1_method_16_code 2 (some .int) ∈ gtb := List.mem_filter.mpr ⟨List.mem_of_getElem? (i := 530) (by decide +kernel), rfl⟩
theorem wq_527 : Cond.methodLink "ForgeSchedulerLaw" 165 ⟨"ForgeScheduler", "getSetting", "(I)I"⟩ ∈ gtb := List.mem_filter.mpr ⟨List.mem_of_getElem? (i := 527) (by decide +kernel), rfl⟩
theorem wq_528 : Cond.instanceMethod ⟨"ForgeScheduler", "getSetting", "(I)I"⟩ ∈ gtb := List.mem_filter.mpr ⟨List.mem_of_getElem? (i := 528) (by decide +kernel), rfl⟩
theorem wq_529 : Cond.selects "ForgeScheduler" ⟨"ForgeScheduler", "getSetting", "(I)I"⟩ ⟨"ForgeScheduler", "getSetting", "(I)I"⟩ ∈ gtb := List.mem_filter.mpr ⟨List.mem_of_getElem? (i := 529) (by decide +kernel), rfl⟩
theorem wq_1496 : Cond.code ⟨"ForgeSchedulerModel", "getSetting", "(I)I"⟩ prog_9_method_42_code 2 (some .int) ∈ gtb := List.mem_filter.mpr ⟨List.mem_of_getElem? (i := 1496) (by decide +kernel), rfl⟩
theorem wq_1493 : Cond.methodLink "ForgeSchedulerLaw" 168 ⟨"ForgeSchedulerModel", "getSetting", "(I)I"⟩ ∈ gtb := List.mem_filter.mpr ⟨List.mem_of_getElem? (i := 1493) (by decide +kernel), rfl⟩
theorem wq_1494 : Cond.instanceMethod ⟨"ForgeSchedulerModel", "getSetting", "(I)I"⟩ ∈ gtb := List.mem_filter.mpr ⟨List.mem_of_getElem? (i := 1494) (by decide +kernel), rfl⟩
theorem wq_1495 : Cond.selects "ForgeSchedulerModel" ⟨"ForgeSchedulerModel", "getSetting", "(I)I"⟩ ⟨"ForgeSchedulerModel", "getSetting", "(I)I"⟩ ∈ gtb := List.mem_filter.mpr ⟨List.mem_of_getElem? (i := 1495) (by decide +kernel), rfl⟩
theorem wq_950 : Cond.methodLink "ForgeSchedulerLaw" 169 ⟨"ForgeSchedulerLaw", "ironAt", "(LForgeScheduler;I[J)I"⟩ ∈ gtb := List.mem_filter.mpr ⟨List.mem_of_getElem? (i := 950) (by decide +kernel), rfl⟩
theorem wq_951 : Cond.static ⟨"ForgeSchedulerLaw", "ironAt", "(LForgeScheduler;I[J)I"⟩ ∈ gtb := List.mem_filter.mpr ⟨List.mem_of_getElem? (i := 951) (by decide +kernel), rfl⟩
theorem wq_1503 : Cond.code ⟨"ForgeSchedulerModel", "ironAt", "(I)I"⟩ prog_9_method_43_code 2 (some .int) ∈ gtb := List.mem_filter.mpr ⟨List.mem_of_getElem? (i := 1503) (by decide +kernel), rfl⟩
theorem wq_1500 : Cond.methodLink "ForgeSchedulerLaw" 171 ⟨"ForgeSchedulerModel", "ironAt", "(I)I"⟩ ∈ gtb := List.mem_filter.mpr ⟨List.mem_of_getElem? (i := 1500) (by decide +kernel), rfl⟩
theorem wq_1501 : Cond.instanceMethod ⟨"ForgeSchedulerModel", "ironAt", "(I)I"⟩ ∈ gtb := List.mem_filter.mpr ⟨List.mem_of_getElem? (i := 1501) (by decide +kernel), rfl⟩
theorem wq_1502 : Cond.selects "ForgeSchedulerModel" ⟨"ForgeSchedulerModel", "ironAt", "(I)I"⟩ ⟨"ForgeSchedulerModel", "ironAt", "(I)I"⟩ ∈ gtb := List.mem_filter.mpr ⟨List.mem_of_getElem? (i := 1502) (by decide +kernel), rfl⟩
theorem wq_957 : Cond.methodLink "ForgeSchedulerLaw" 172 ⟨"ForgeSchedulerLaw", "positionOf", "(LForgeScheduler;I[J)I"⟩ ∈ gtb := List.mem_filter.mpr ⟨List.mem_of_getElem? (i := 957) (by decide +kernel), rfl⟩
theorem wq_958 : Cond.static ⟨"ForgeSchedulerLaw", "positionOf", "(LForgeScheduler;I[J)I"⟩ ∈ gtb := List.mem_filter.mpr ⟨List.mem_of_getElem? (i := 958) (by decide +kernel), rfl⟩
theorem wq_1507 : Cond.code ⟨"ForgeSchedulerModel", "positionOf", "(I)I"⟩ prog_9_method_44_code 3 (some .int) ∈ gtb := List.mem_filter.mpr ⟨List.mem_of_getElem? (i := 1507) (by decide +kernel), rfl⟩
theorem wq_1504 : Cond.methodLink "ForgeSchedulerLaw" 174 ⟨"ForgeSchedulerModel", "positionOf", "(I)I"⟩ ∈ gtb := List.mem_filter.mpr ⟨List.mem_of_getElem? (i := 1504) (by decide +kernel), rfl⟩
theorem wq_1505 : Cond.instanceMethod ⟨"ForgeSchedulerModel", "positionOf", "(I)I"⟩ ∈ gtb := List.mem_filter.mpr ⟨List.mem_of_getElem? (i := 1505) (by decide +kernel), rfl⟩
theorem wq_1506 : Cond.selects "ForgeSchedulerModel" ⟨"ForgeSchedulerModel", "positionOf", "(I)I"⟩ ⟨"ForgeSchedulerModel", "positionOf", "(I)I"⟩ ∈ gtb := List.mem_filter.mpr ⟨List.mem_of_getElem? (i := 1506) (by decide +kernel), rfl⟩
theorem wq_534 : Cond.methodLink "ForgeSchedulerLaw" 175 ⟨"ForgeScheduler", "finish", "()I"⟩ ∈ gtb := List.mem_filter.mpr ⟨List.mem_of_getElem? (i := 534) (by decide +kernel), rfl⟩
theorem wq_1511 : Cond.code ⟨"ForgeSchedulerModel", "finish", "()I"⟩ prog_9_method_60_code 1 (some .int) ∈ gtb := List.mem_filter.mpr ⟨List.mem_of_getElem? (i := 1511) (by decide +kernel), rfl⟩
theorem wq_1508 : Cond.methodLink "ForgeSchedulerLaw" 178 ⟨"ForgeSchedulerModel", "finish", "()I"⟩ ∈ gtb := List.mem_filter.mpr ⟨List.mem_of_getElem? (i := 1508) (by decide +kernel), rfl⟩
theorem wq_1509 : Cond.instanceMethod ⟨"ForgeSchedulerModel", "finish", "()I"⟩ ∈ gtb := List.mem_filter.mpr ⟨List.mem_of_getElem? (i := 1509) (by decide +kernel), rfl⟩
theorem wq_1510 : Cond.selects "ForgeSchedulerModel" ⟨"ForgeSchedulerModel", "finish", "()I"⟩ ⟨"ForgeSchedulerModel", "finish", "()I"⟩ ∈ gtb := List.mem_filter.mpr ⟨List.mem_of_getElem? (i := 1510) (by decide +kernel), rfl⟩
theorem wq_968 : Cond.methodLink "ForgeSchedulerLaw" 179 ⟨"ForgeSchedulerLaw", "finishOf", "(LForgeScheduler;I[J)I"⟩ ∈ gtb := List.mem_filter.mpr ⟨List.mem_of_getElem? (i := 968) (by decide +kernel), rfl⟩
theorem wq_969 : Cond.static ⟨"ForgeSchedulerLaw", "finishOf", "(LForgeScheduler;I[J)I"⟩ ∈ gtb := List.mem_filter.mpr ⟨List.mem_of_getElem? (i := 969) (by decide +kernel), rfl⟩
theorem wq_1573 : Cond.code ⟨"ForgeSchedulerModel", "finishOf", "(I)I"⟩ prog_9_method_61_code 2 (some .int) ∈ gtb := List.mem_filter.mpr ⟨List.mem_of_getElem? (i := 1573) (by decide +kernel), rfl⟩
theorem wq_1570 : Cond.methodLink "ForgeSchedulerLaw" 181 ⟨"ForgeSchedulerModel", "finishOf", "(I)I"⟩ ∈ gtb := List.mem_filter.mpr ⟨List.mem_of_getElem? (i := 1570) (by decide +kernel), rfl⟩
theorem wq_1571 : Cond.instanceMethod ⟨"ForgeSchedulerModel", "finishOf", "(I)I"⟩ ∈ gtb := List.mem_filter.mpr ⟨List.mem_of_getElem? (i := 1571) (by decide +kernel), rfl⟩
theorem wq_1572 : Cond.selects "ForgeSchedulerModel" ⟨"ForgeSchedulerModel", "finishOf", "(I)I"⟩ ⟨"ForgeSchedulerModel", "finishOf", "(I)I"⟩ ∈ gtb := List.mem_filter.mpr ⟨List.mem_of_getElem? (i := 1572) (by decide +kernel), rfl⟩
theorem wq_975 : Cond.methodLink "ForgeSchedulerLaw" 182 ⟨"ForgeSchedulerLaw", "heatAfter", "(LForgeScheduler;II[J)I"⟩ ∈ gtb := List.mem_filter.mpr ⟨List.mem_of_getElem? (i := 975) (by decide +kernel), rfl⟩
theorem wq_976 : Cond.static ⟨"ForgeSchedulerLaw", "heatAfter", "(LForgeScheduler;II[J)I"⟩ ∈ gtb := List.mem_filter.mpr ⟨List.mem_of_getElem? (i := 976) (by decide +kernel), rfl⟩
theorem wq_1581 : Cond.code ⟨"ForgeSchedulerModel", "heatAfter", "(II)I"⟩ prog_9_method_62_code 3 (some .int) ∈ gtb := List.mem_filter.mpr ⟨List.mem_of_getElem? (i := 1581) (by decide +kernel), rfl⟩
theorem wq_1578 : Cond.methodLink "ForgeSchedulerLaw" 184 ⟨"ForgeSchedulerModel", "heatAfter", "(II)I"⟩ ∈ gtb := List.mem_filter.mpr ⟨List.mem_of_getElem? (i := 1578) (by decide +kernel), rfl⟩
theorem wq_1579 : Cond.instanceMethod ⟨"ForgeSchedulerModel", "heatAfter", "(II)I"⟩ ∈ gtb := List.mem_filter.mpr ⟨List.mem_of_getElem? (i := 1579) (by decide +kernel), rfl⟩
theorem wq_1580 : Cond.selects "ForgeSchedulerModel" ⟨"ForgeSchedulerModel", "heatAfter", "(II)I"⟩ ⟨"ForgeSchedulerModel", "heatAfter", "(II)I"⟩ ∈ gtb := List.mem_filter.mpr ⟨List.mem_of_getElem? (i := 1580) (by decide +kernel), rfl⟩
theorem wq_986 : Cond.methodLink "ForgeSchedulerLaw" 185 ⟨"ForgeSchedulerLaw", "whereIn", "(LForgeScheduler;II[J)I"⟩ ∈ gtb := List.mem_filter.mpr ⟨List.mem_of_getElem? (i := 986) (by decide +kernel), rfl⟩
theorem wq_987 : Cond.static ⟨"ForgeSchedulerLaw", "whereIn", "(LForgeScheduler;II[J)I"⟩ ∈ gtb := List.mem_filter.mpr ⟨List.mem_of_getElem? (i := 987) (by decide +kernel), rfl⟩
theorem wq_1585 : Cond.code ⟨"ForgeSchedulerModel", "whereIn", "(II)I"⟩ prog_9_method_63_code 3 (some .int) ∈ gtb := List.mem_filter.mpr ⟨List.mem_of_getElem? (i := 1585) (by decide +kernel), rfl⟩
theorem wq_1582 : Cond.methodLink "ForgeSchedulerLaw" 187 ⟨"ForgeSchedulerModel", "whereIn", "(II)I"⟩ ∈ gtb := List.mem_filter.mpr ⟨List.mem_of_getElem? (i := 1582) (by decide +kernel), rfl⟩
theorem wq_1583 : Cond.instanceMethod ⟨"ForgeSchedulerModel", "whereIn", "(II)I"⟩ ∈ gtb := List.mem_filter.mpr ⟨List.mem_of_getElem? (i := 1583) (by decide +kernel), rfl⟩
theorem wq_1584 : Cond.selects "ForgeSchedulerModel" ⟨"ForgeSchedulerModel", "whereIn", "(II)I"⟩ ⟨"ForgeSchedulerModel", "whereIn", "(II)I"⟩ ∈ gtb := List.mem_filter.mpr ⟨List.mem_of_getElem? (i := 1584) (by decide +kernel), rfl⟩
theorem wq_997 : Cond.methodLink "ForgeSchedulerLaw" 188 ⟨"ForgeSchedulerLaw", "stepsAfter", "(LForgeScheduler;II[J)I"⟩ ∈ gtb := List.mem_filter.mpr ⟨List.mem_of_getElem? (i := 997) (by decide +kernel), rfl⟩
theorem wq_998 : Cond.static ⟨"ForgeSchedulerLaw", "stepsAfter", "(LForgeScheduler;II[J)I"⟩ ∈ gtb := List.mem_filter.mpr ⟨List.mem_of_getElem? (i := 998) (by decide +kernel), rfl⟩
theorem wq_1589 : Cond.code ⟨"ForgeSchedulerModel", "stepsAfter", "(II)I"⟩ prog_9_method_64_code 3 (some .int) ∈ gtb := List.mem_filter.mpr ⟨List.mem_of_getElem? (i := 1589) (by decide +kernel), rfl⟩
theorem wq_1586 : Cond.methodLink "ForgeSchedulerLaw" 190 ⟨"ForgeSchedulerModel", "stepsAfter", "(II)I"⟩ ∈ gtb := List.mem_filter.mpr ⟨List.mem_of_getElem? (i := 1586) (by decide +kernel), rfl⟩
theorem wq_1587 : Cond.instanceMethod ⟨"ForgeSchedulerModel", "stepsAfter", "(II)I"⟩ ∈ gtb := List.mem_filter.mpr ⟨List.mem_of_getElem? (i := 1587) (by decide +kernel), rfl⟩
theorem wq_1588 : Cond.selects "ForgeSchedulerModel" ⟨"ForgeSchedulerModel", "stepsAfter", "(II)I"⟩ ⟨"ForgeSchedulerModel", "stepsAfter", "(II)I"⟩ ∈ gtb := List.mem_filter.mpr ⟨List.mem_of_getElem? (i := 1588) (by decide +kernel), rfl⟩
theorem wq_1005 : Cond.methodLink "ForgeSchedulerLaw" 191 ⟨"ForgeSchedulerLaw", "coldStops", "(LForgeScheduler;I[J)I"⟩ ∈ gtb := List.mem_filter.mpr ⟨List.mem_of_getElem? (i := 1005) (by decide +kernel), rfl⟩
theorem wq_1006 : Cond.static ⟨"ForgeSchedulerLaw", "coldStops", "(LForgeScheduler;I[J)I"⟩ ∈ gtb := List.mem_filter.mpr ⟨List.mem_of_getElem? (i := 1006) (by decide +kernel), rfl⟩
theorem wq_1593 : Cond.code ⟨"ForgeSchedulerModel", "coldStops", "(I)I"⟩ prog_9_method_65_code 2 (some .int) ∈ gtb := List.mem_filter.mpr ⟨List.mem_of_getElem? (i := 1593) (by decide +kernel), rfl⟩
theorem wq_1590 : Cond.methodLink "ForgeSchedulerLaw" 193 ⟨"ForgeSchedulerModel", "coldStops", "(I)I"⟩ ∈ gtb := List.mem_filter.mpr ⟨List.mem_of_getElem? (i := 1590) (by decide +kernel), rfl⟩
theorem wq_1591 : Cond.instanceMethod ⟨"ForgeSchedulerModel", "coldStops", "(I)I"⟩ ∈ gtb := List.mem_filter.mpr ⟨List.mem_of_getElem? (i := 1591) (by decide +kernel), rfl⟩
theorem wq_1592 : Cond.selects "ForgeSchedulerModel" ⟨"ForgeSchedulerModel", "coldStops", "(I)I"⟩ ⟨"ForgeSchedulerModel", "coldStops", "(I)I"⟩ ∈ gtb := List.mem_filter.mpr ⟨List.mem_of_getElem? (i := 1592) (by decide +kernel), rfl⟩
theorem wq_1012 : Cond.methodLink "ForgeSchedulerLaw" 194 ⟨"ForgeSchedulerLaw", "heats", "(LForgeScheduler;I[J)I"⟩ ∈ gtb := List.mem_filter.mpr ⟨List.mem_of_getElem? (i := 1012) (by decide +kernel), rfl⟩
theorem wq_1013 : Cond.static ⟨"ForgeSchedulerLaw", "heats", "(LForgeScheduler;I[J)I"⟩ ∈ gtb := List.mem_filter.mpr ⟨List.mem_of_getElem? (i := 1013) (by decide +kernel), rfl⟩
theorem wq_1597 : Cond.code ⟨"ForgeSchedulerModel", "heats", "(I)I"⟩ prog_9_method_66_code 2 (some .int) ∈ gtb := List.mem_filter.mpr ⟨List.mem_of_getElem? (i := 1597) (by decide +kernel), rfl⟩
theorem wq_1594 : Cond.methodLink "ForgeSchedulerLaw" 196 ⟨"ForgeSchedulerModel", "heats", "(I)I"⟩ ∈ gtb := List.mem_filter.mpr ⟨List.mem_of_getElem? (i := 1594) (by decide +kernel), rfl⟩
theorem wq_1595 : Cond.instanceMethod ⟨"ForgeSchedulerModel", "heats", "(I)I"⟩ ∈ gtb := List.mem_filter.mpr ⟨List.mem_of_getElem? (i := 1595) (by decide +kernel), rfl⟩
theorem wq_1596 : Cond.selects "ForgeSchedulerModel" ⟨"ForgeSchedulerModel", "heats", "(I)I"⟩ ⟨"ForgeSchedulerModel", "heats", "(I)I"⟩ ∈ gtb := List.mem_filter.mpr ⟨List.mem_of_getElem? (i := 1596) (by decide +kernel), rfl⟩
theorem wq_1019 : Cond.methodLink "ForgeSchedulerLaw" 197 ⟨"ForgeSchedulerLaw", "fireMinutes", "(LForgeScheduler;I[J)I"⟩ ∈ gtb := List.mem_filter.mpr ⟨List.mem_of_getElem? (i := 1019) (by decide +kernel), rfl⟩
theorem wq_1020 : Cond.static ⟨"ForgeSchedulerLaw", "fireMinutes", "(LForgeScheduler;I[J)I"⟩ ∈ gtb := List.mem_filter.mpr ⟨List.mem_of_getElem? (i := 1020) (by decide +kernel), rfl⟩
theorem wq_1601 : Cond.code ⟨"ForgeSchedulerModel", "fireMinutes", "(I)I"⟩ prog_9_method_68_code 2 (some .int) ∈ gtb := List.mem_filter.mpr ⟨List.mem_of_getElem? (i := 1601) (by decide +kernel), rfl⟩
theorem wq_1598 : Cond.methodLink "ForgeSchedulerLaw" 199 ⟨"ForgeSchedulerModel", "fireMinutes", "(I)I"⟩ ∈ gtb := List.mem_filter.mpr ⟨List.mem_of_getElem? (i := 1598) (by decide +kernel), rfl⟩
theorem wq_1599 : Cond.instanceMethod ⟨"ForgeSchedulerModel", "fireMinutes", "(I)I"⟩ ∈ gtb := List.mem_filter.mpr ⟨List.mem_of_getElem? (i := 1599) (by decide +kernel), rfl⟩
theorem wq_1600 : Cond.selects "ForgeSchedulerModel" ⟨"ForgeSchedulerModel", "fireMinutes", "(I)I"⟩ ⟨"ForgeSchedulerModel", "fireMinutes", "(I)I"⟩ ∈ gtb := List.mem_filter.mpr ⟨List.mem_of_getElem? (i := 1600) (by decide +kernel), rfl⟩
theorem wq_1030 : Cond.methodLink "ForgeSchedulerLaw" 200 ⟨"ForgeSchedulerLaw", "anvilMinutes", "(LForgeScheduler;I[J)I"⟩ ∈ gtb := List.mem_filter.mpr ⟨List.mem_of_getElem? (i := 1030) (by decide +kernel), rfl⟩
theorem wq_1031 : Cond.static ⟨"ForgeSchedulerLaw", "anvilMinutes", "(LForgeScheduler;I[J)I"⟩ ∈ gtb := List.mem_filter.mpr ⟨List.mem_of_getElem? (i := 1031) (by decide +kernel), rfl⟩
theorem wq_1609 : Cond.code ⟨"ForgeSchedulerModel", "anvilMinutes", "(I)I"⟩ prog_9_method_69_code 2 (some .int) ∈ gtb := List.mem_filter.mpr ⟨List.mem_of_getElem? (i := 1609) (by decide +kernel), rfl⟩
theorem wq_1606 : Cond.methodLink "ForgeSchedulerLaw" 202 ⟨"ForgeSchedulerModel", "anvilMinutes", "(I)I"⟩ ∈ gtb := List.mem_filter.mpr ⟨List.mem_of_getElem? (i := 1606) (by decide +kernel), rfl⟩
theorem wq_1607 : Cond.instanceMethod ⟨"ForgeSchedulerModel", "anvilMinutes", "(I)I"⟩ ∈ gtb := List.mem_filter.mpr ⟨List.mem_of_getElem? (i := 1607) (by decide +kernel), rfl⟩
theorem wq_1608 : Cond.selects "ForgeSchedulerModel" ⟨"ForgeSchedulerModel", "anvilMinutes", "(I)I"⟩ ⟨"ForgeSchedulerModel", "anvilMinutes", "(I)I"⟩ ∈ gtb := List.mem_filter.mpr ⟨List.mem_of_getElem? (i := 1608) (by decide +kernel), rfl⟩
theorem wq_1050 : Cond.methodLink "ForgeSchedulerLaw" 203 ⟨"ForgeSchedulerLaw", "placeMinutes", "(LForgeScheduler;I[J)I"⟩ ∈ gtb := List.mem_filter.mpr ⟨List.mem_of_getElem? (i := 1050) (by decide +kernel), rfl⟩
theorem wq_1051 : Cond.static ⟨"ForgeSchedulerLaw", "placeMinutes", "(LForgeScheduler;I[J)I"⟩ ∈ gtb := List.mem_filter.mpr ⟨List.mem_of_getElem? (i := 1051) (by decide +kernel), rfl⟩
theorem wq_1613 : Cond.code ⟨"ForgeSchedulerModel", "placeMinutes", "(I)I"⟩ prog_9_method_70_code 2 (some .int) ∈ gtb := List.mem_filter.mpr ⟨List.mem_of_getElem? (i := 1613) (by decide +kernel), rfl⟩
theorem wq_1610 : Cond.methodLink "ForgeSchedulerLaw" 205 ⟨"ForgeSchedulerModel", "placeMinutes", "(I)I"⟩ ∈ gtb := List.mem_filter.mpr ⟨List.mem_of_getElem? (i := 1610) (by decide +kernel), rfl⟩
theorem wq_1611 : Cond.instanceMethod ⟨"ForgeSchedulerModel", "placeMinutes", "(I)I"⟩ ∈ gtb := List.mem_filter.mpr ⟨List.mem_of_getElem? (i := 1611) (by decide +kernel), rfl⟩
theorem wq_1612 : Cond.selects "ForgeSchedulerModel" ⟨"ForgeSchedulerModel", "placeMinutes", "(I)I"⟩ ⟨"ForgeSchedulerModel", "placeMinutes", "(I)I"⟩ ∈ gtb := List.mem_filter.mpr ⟨List.mem_of_getElem? (i := 1612) (by decide +kernel), rfl⟩
theorem wq_1057 : Cond.methodLink "ForgeSchedulerLaw" 206 ⟨"ForgeSchedulerLaw", "hottest", "(LForgeScheduler;I[J)I"⟩ ∈ gtb := List.mem_filter.mpr ⟨List.mem_of_getElem? (i := 1057) (by decide +kernel), rfl⟩
theorem wq_1058 : Cond.static ⟨"ForgeSchedulerLaw", "hottest", "(LForgeScheduler;I[J)I"⟩ ∈ gtb := List.mem_filter.mpr ⟨List.mem_of_getElem? (i := 1058) (by decide +kernel), rfl⟩
theorem wq_1649 : Cond.code ⟨"ForgeSchedulerModel", "hottest", "(I)I"⟩ prog_9_method_79_code 4 (some .int) ∈ gtb := List.mem_filter.mpr ⟨List.mem_of_getElem? (i := 1649) (by decide +kernel), rfl⟩
theorem wq_1646 : Cond.methodLink "ForgeSchedulerLaw" 208 ⟨"ForgeSchedulerModel", "hottest", "(I)I"⟩ ∈ gtb := List.mem_filter.mpr ⟨List.mem_of_getElem? (i := 1646) (by decide +kernel), rfl⟩
theorem wq_1647 : Cond.instanceMethod ⟨"ForgeSchedulerModel", "hottest", "(I)I"⟩ ∈ gtb := List.mem_filter.mpr ⟨List.mem_of_getElem? (i := 1647) (by decide +kernel), rfl⟩
theorem wq_1648 : Cond.selects "ForgeSchedulerModel" ⟨"ForgeSchedulerModel", "hottest", "(I)I"⟩ ⟨"ForgeSchedulerModel", "hottest", "(I)I"⟩ ∈ gtb := List.mem_filter.mpr ⟨List.mem_of_getElem? (i := 1648) (by decide +kernel), rfl⟩
theorem wq_641 : Cond.code ⟨"ForgeScheduler", "lastIron", "()I"⟩ prog_1_method_30_code 1 (some .int) ∈ gtb := List.mem_filter.mpr ⟨List.mem_of_getElem? (i := 641) (by decide +kernel), rfl⟩
theorem wq_638 : Cond.methodLink "ForgeSchedulerLaw" 209 ⟨"ForgeScheduler", "lastIron", "()I"⟩ ∈ gtb := List.mem_filter.mpr ⟨List.mem_of_getElem? (i := 638) (by decide +kernel), rfl⟩
theorem wq_639 : Cond.instanceMethod ⟨"ForgeScheduler", "lastIron", "()I"⟩ ∈ gtb := List.mem_filter.mpr ⟨List.mem_of_getElem? (i := 639) (by decide +kernel), rfl⟩
theorem wq_640 : Cond.selects "ForgeScheduler" ⟨"ForgeScheduler", "lastIron", "()I"⟩ ⟨"ForgeScheduler", "lastIron", "()I"⟩ ∈ gtb := List.mem_filter.mpr ⟨List.mem_of_getElem? (i := 640) (by decide +kernel), rfl⟩
theorem wq_1653 : Cond.code ⟨"ForgeSchedulerModel", "lastIron", "()I"⟩ prog_9_method_80_code 3 (some .int) ∈ gtb := List.mem_filter.mpr ⟨List.mem_of_getElem? (i := 1653) (by decide +kernel), rfl⟩
theorem wq_1650 : Cond.methodLink "ForgeSchedulerLaw" 212 ⟨"ForgeSchedulerModel", "lastIron", "()I"⟩ ∈ gtb := List.mem_filter.mpr ⟨List.mem_of_getElem? (i := 1650) (by decide +kernel), rfl⟩
theorem wq_1651 : Cond.instanceMethod ⟨"ForgeSchedulerModel", "lastIron", "()I"⟩ ∈ gtb := List.mem_filter.mpr ⟨List.mem_of_getElem? (i := 1651) (by decide +kernel), rfl⟩
theorem wq_1652 : Cond.selects "ForgeSchedulerModel" ⟨"ForgeSchedulerModel", "lastIron", "()I"⟩ ⟨"ForgeSchedulerModel", "lastIron", "()I"⟩ ∈ gtb := List.mem_filter.mpr ⟨List.mem_of_getElem? (i := 1652) (by decide +kernel), rfl⟩
theorem wq_646 : Cond.code ⟨"ForgeScheduler", "bestFinish", "()I"⟩ prog_1_method_31_code 1 (some .int) ∈ gtb := List.mem_filter.mpr ⟨List.mem_of_getElem? (i := 646) (by decide +kernel), rfl⟩
theorem wq_643 : Cond.methodLink "ForgeSchedulerLaw" 213 ⟨"ForgeScheduler", "bestFinish", "()I"⟩ ∈ gtb := List.mem_filter.mpr ⟨List.mem_of_getElem? (i := 643) (by decide +kernel), rfl⟩
theorem wq_644 : Cond.instanceMethod ⟨"ForgeScheduler", "bestFinish", "()I"⟩ ∈ gtb := List.mem_filter.mpr ⟨List.mem_of_getElem? (i := 644) (by decide +kernel), rfl⟩
theorem wq_645 : Cond.selects "ForgeScheduler" ⟨"ForgeScheduler", "bestFinish", "()I"⟩ ⟨"ForgeScheduler", "bestFinish", "()I"⟩ ∈ gtb := List.mem_filter.mpr ⟨List.mem_of_getElem? (i := 645) (by decide +kernel), rfl⟩
theorem wq_1657 : Cond.code ⟨"ForgeSchedulerModel", "bestFinish", "()I"⟩ prog_9_method_84_code 1 (some .int) ∈ gtb := List.mem_filter.mpr ⟨List.mem_of_getElem? (i := 1657) (by decide +kernel), rfl⟩
theorem wq_1654 : Cond.methodLink "ForgeSchedulerLaw" 216 ⟨"ForgeSchedulerModel", "bestFinish", "()I"⟩ ∈ gtb := List.mem_filter.mpr ⟨List.mem_of_getElem? (i := 1654) (by decide +kernel), rfl⟩
theorem wq_1655 : Cond.instanceMethod ⟨"ForgeSchedulerModel", "bestFinish", "()I"⟩ ∈ gtb := List.mem_filter.mpr ⟨List.mem_of_getElem? (i := 1655) (by decide +kernel), rfl⟩
theorem wq_1656 : Cond.selects "ForgeSchedulerModel" ⟨"ForgeSchedulerModel", "bestFinish", "()I"⟩ ⟨"ForgeSchedulerModel", "bestFinish", "()I"⟩ ∈ gtb := List.mem_filter.mpr ⟨List.mem_of_getElem? (i := 1656) (by decide +kernel), rfl⟩
theorem wq_1070 : Cond.methodLink "ForgeSchedulerLaw" 217 ⟨"ForgeSchedulerLaw", "bestIronAt", "(LForgeScheduler;I[J)I"⟩ ∈ gtb := List.mem_filter.mpr ⟨List.mem_of_getElem? (i := 1070) (by decide +kernel), rfl⟩
theorem wq_1071 : Cond.static ⟨"ForgeSchedulerLaw", "bestIronAt", "(LForgeScheduler;I[J)I"⟩ ∈ gtb := List.mem_filter.mpr ⟨List.mem_of_getElem? (i := 1071) (by decide +kernel), rfl⟩
theorem wq_1673 : Cond.code ⟨"ForgeSchedulerModel", "bestIronAt", "(I)I"⟩ prog_9_method_85_code 2 (some .int) ∈ gtb := List.mem_filter.mpr ⟨List.mem_of_getElem? (i := 1673) (by decide +kernel), rfl⟩
theorem wq_1670 : Cond.methodLink "ForgeSchedulerLaw" 219 ⟨"ForgeSchedulerModel", "bestIronAt", "(I)I"⟩ ∈ gtb := List.mem_filter.mpr ⟨List.mem_of_getElem? (i := 1670) (by decide +kernel), rfl⟩
theorem wq_1671 : Cond.instanceMethod ⟨"ForgeSchedulerModel", "bestIronAt", "(I)I"⟩ ∈ gtb := List.mem_filter.mpr ⟨List.mem_of_getElem? (i := 1671) (by decide +kernel), rfl⟩
theorem wq_1672 : Cond.selects "ForgeSchedulerModel" ⟨"ForgeSchedulerModel", "bestIronAt", "(I)I"⟩ ⟨"ForgeSchedulerModel", "bestIronAt", "(I)I"⟩ ∈ gtb := List.mem_filter.mpr ⟨List.mem_of_getElem? (i := 1672) (by decide +kernel), rfl⟩
theorem wq_685 : Cond.code ⟨"ForgeScheduler", "bestOrders", "()I"⟩ prog_1_method_33_code 1 (some .int) ∈ gtb := List.mem_filter.mpr ⟨List.mem_of_getElem? (i := 685) (by decide +kernel), rfl⟩
theorem wq_682 : Cond.methodLink "ForgeSchedulerLaw" 220 ⟨"ForgeScheduler", "bestOrders", "()I"⟩ ∈ gtb := List.mem_filter.mpr ⟨List.mem_of_getElem? (i := 682) (by decide +kernel), rfl⟩
theorem wq_683 : Cond.instanceMethod ⟨"ForgeScheduler", "bestOrders", "()I"⟩ ∈ gtb := List.mem_filter.mpr ⟨List.mem_of_getElem? (i := 683) (by decide +kernel), rfl⟩
theorem wq_684 : Cond.selects "ForgeScheduler" ⟨"ForgeScheduler", "bestOrders", "()I"⟩ ⟨"ForgeScheduler", "bestOrders", "()I"⟩ ∈ gtb := List.mem_filter.mpr ⟨List.mem_of_getElem? (i := 684) (by decide +kernel), rfl⟩
theorem wq_1677 : Cond.code ⟨"ForgeSchedulerModel", "bestOrders", "()I"⟩ prog_9_method_86_code 1 (some .int) ∈ gtb := List.mem_filter.mpr ⟨List.mem_of_getElem? (i := 1677) (by decide +kernel), rfl⟩
theorem wq_1674 : Cond.methodLink "ForgeSchedulerLaw" 223 ⟨"ForgeSchedulerModel", "bestOrders", "()I"⟩ ∈ gtb := List.mem_filter.mpr ⟨List.mem_of_getElem? (i := 1674) (by decide +kernel), rfl⟩
theorem wq_1675 : Cond.instanceMethod ⟨"ForgeSchedulerModel", "bestOrders", "()I"⟩ ∈ gtb := List.mem_filter.mpr ⟨List.mem_of_getElem? (i := 1675) (by decide +kernel), rfl⟩
theorem wq_1676 : Cond.selects "ForgeSchedulerModel" ⟨"ForgeSchedulerModel", "bestOrders", "()I"⟩ ⟨"ForgeSchedulerModel", "bestOrders", "()I"⟩ ∈ gtb := List.mem_filter.mpr ⟨List.mem_of_getElem? (i := 1676) (by decide +kernel), rfl⟩
theorem wq_1077 : Cond.methodLink "ForgeSchedulerLaw" 224 ⟨"ForgeSchedulerLaw", "finishWithSwap", "(LForgeScheduler;II[J)I"⟩ ∈ gtb := List.mem_filter.mpr ⟨List.mem_of_getElem? (i := 1077) (by decide +kernel), rfl⟩
theorem wq_1078 : Cond.static ⟨"ForgeSchedulerLaw", "finishWithSwap", "(LForgeScheduler;II[J)I"⟩ ∈ gtb := List.mem_filter.mpr ⟨List.mem_of_getElem? (i := 1078) (by decide +kernel), rfl⟩
theorem wq_1681 : Cond.code ⟨"ForgeSchedulerModel", "finishWithSwap", "(II)I"⟩ prog_9_method_87_code 3 (some .int) ∈ gtb := List.mem_filter.mpr ⟨List.mem_of_getElem? (i := 1681) (by decide +kernel), rfl⟩
theorem wq_1678 : Cond.methodLink "ForgeSchedulerLaw" 226 ⟨"ForgeSchedulerModel", "finishWithSwap", "(II)I"⟩ ∈ gtb := List.mem_filter.mpr ⟨List.mem_of_getElem? (i := 1678) (by decide +kernel), rfl⟩
theorem wq_1679 : Cond.instanceMethod ⟨"ForgeSchedulerModel", "finishWithSwap", "(II)I"⟩ ∈ gtb := List.mem_filter.mpr ⟨List.mem_of_getElem? (i := 1679) (by decide +kernel), rfl⟩
theorem wq_1680 : Cond.selects "ForgeSchedulerModel" ⟨"ForgeSchedulerModel", "finishWithSwap", "(II)I"⟩ ⟨"ForgeSchedulerModel", "finishWithSwap", "(II)I"⟩ ∈ gtb := List.mem_filter.mpr ⟨List.mem_of_getElem? (i := 1680) (by decide +kernel), rfl⟩
theorem wq_689 : Cond.code ⟨"ForgeScheduler", "finishWithMargin", "(I)I"⟩ prog_1_method_35_code 2 (some .int) ∈ gtb := List.mem_filter.mpr ⟨List.mem_of_getElem? (i := 689) (by decide +kernel), rfl⟩
theorem wq_686 : Cond.methodLink "ForgeSchedulerLaw" 227 ⟨"ForgeScheduler", "finishWithMargin", "(I)I"⟩ ∈ gtb := List.mem_filter.mpr ⟨List.mem_of_getElem? (i := 686) (by decide +kernel), rfl⟩
theorem wq_687 : Cond.instanceMethod ⟨"ForgeScheduler", "finishWithMargin", "(I)I"⟩ ∈ gtb := List.mem_filter.mpr ⟨List.mem_of_getElem? (i := 687) (by decide +kernel), rfl⟩
theorem wq_688 : Cond.selects "ForgeScheduler" ⟨"ForgeScheduler", "finishWithMargin", "(I)I"⟩ ⟨"ForgeScheduler", "finishWithMargin", "(I)I"⟩ ∈ gtb := List.mem_filter.mpr ⟨List.mem_of_getElem? (i := 688) (by decide +kernel), rfl⟩
theorem wq_1685 : Cond.code ⟨"ForgeSchedulerModel", "finishWithMargin", "(I)I"⟩ prog_9_method_90_code 2 (some .int) ∈ gtb := List.mem_filter.mpr ⟨List.mem_of_getElem? (i := 1685) (by decide +kernel), rfl⟩
theorem wq_1682 : Cond.methodLink "ForgeSchedulerLaw" 230 ⟨"ForgeSchedulerModel", "finishWithMargin", "(I)I"⟩ ∈ gtb := List.mem_filter.mpr ⟨List.mem_of_getElem? (i := 1682) (by decide +kernel), rfl⟩
theorem wq_1683 : Cond.instanceMethod ⟨"ForgeSchedulerModel", "finishWithMargin", "(I)I"⟩ ∈ gtb := List.mem_filter.mpr ⟨List.mem_of_getElem? (i := 1683) (by decide +kernel), rfl⟩
theorem wq_1684 : Cond.selects "ForgeSchedulerModel" ⟨"ForgeSchedulerModel", "finishWithMargin", "(I)I"⟩ ⟨"ForgeSchedulerModel", "finishWithMargin", "(I)I"⟩ ∈ gtb := List.mem_filter.mpr ⟨List.mem_of_getElem? (i := 1684) (by decide +kernel), rfl⟩
theorem wq_703 : Cond.code ⟨"ForgeScheduler", "bestMargin", "()I"⟩ prog_1_method_36_code 1 (some .int) ∈ gtb := List.mem_filter.mpr ⟨List.mem_of_getElem? (i := 703) (by decide +kernel), rfl⟩
theorem wq_700 : Cond.methodLink "ForgeSchedulerLaw" 231 ⟨"ForgeScheduler", "bestMargin", "()I"⟩ ∈ gtb := List.mem_filter.mpr ⟨List.mem_of_getElem? (i := 700) (by decide +kernel), rfl⟩
theorem wq_701 : Cond.instanceMethod ⟨"ForgeScheduler", "bestMargin", "()I"⟩ ∈ gtb := List.mem_filter.mpr ⟨List.mem_of_getElem? (i := 701) (by decide +kernel), rfl⟩
theorem wq_702 : Cond.selects "ForgeScheduler" ⟨"ForgeScheduler", "bestMargin", "()I"⟩ ⟨"ForgeScheduler", "bestMargin", "()I"⟩ ∈ gtb := List.mem_filter.mpr ⟨List.mem_of_getElem? (i := 702) (by decide +kernel), rfl⟩
theorem wq_1696 : Cond.code ⟨"ForgeSchedulerModel", "bestMargin", "()I"⟩ prog_9_method_91_code 5 (some .int) ∈ gtb := List.mem_filter.mpr ⟨List.mem_of_getElem? (i := 1696) (by decide +kernel), rfl⟩
theorem wq_1693 : Cond.methodLink "ForgeSchedulerLaw" 234 ⟨"ForgeSchedulerModel", "bestMargin", "()I"⟩ ∈ gtb := List.mem_filter.mpr ⟨List.mem_of_getElem? (i := 1693) (by decide +kernel), rfl⟩
theorem wq_1694 : Cond.instanceMethod ⟨"ForgeSchedulerModel", "bestMargin", "()I"⟩ ∈ gtb := List.mem_filter.mpr ⟨List.mem_of_getElem? (i := 1694) (by decide +kernel), rfl⟩
theorem wq_1695 : Cond.selects "ForgeSchedulerModel" ⟨"ForgeSchedulerModel", "bestMargin", "()I"⟩ ⟨"ForgeSchedulerModel", "bestMargin", "()I"⟩ ∈ gtb := List.mem_filter.mpr ⟨List.mem_of_getElem? (i := 1695) (by decide +kernel), rfl⟩
theorem wq_1084 : Cond.methodLink "ForgeSchedulerLaw" 235 ⟨"ForgeSchedulerLaw", "finishWithoutPlace", "(LForgeScheduler;I[J)I"⟩ ∈ gtb := List.mem_filter.mpr ⟨List.mem_of_getElem? (i := 1084) (by decide +kernel), rfl⟩
theorem wq_1085 : Cond.static ⟨"ForgeSchedulerLaw", "finishWithoutPlace", "(LForgeScheduler;I[J)I"⟩ ∈ gtb := List.mem_filter.mpr ⟨List.mem_of_getElem? (i := 1085) (by decide +kernel), rfl⟩
theorem wq_1700 : Cond.code ⟨"ForgeSchedulerModel", "finishWithoutPlace", "(I)I"⟩ prog_9_method_92_code 2 (some .int) ∈ gtb := List.mem_filter.mpr ⟨List.mem_of_getElem? (i := 1700) (by decide +kernel), rfl⟩
theorem wq_1697 : Cond.methodLink "ForgeSchedulerLaw" 237 ⟨"ForgeSchedulerModel", "finishWithoutPlace", "(I)I"⟩ ∈ gtb := List.mem_filter.mpr ⟨List.mem_of_getElem? (i := 1697) (by decide +kernel), rfl⟩
theorem wq_1698 : Cond.instanceMethod ⟨"ForgeSchedulerModel", "finishWithoutPlace", "(I)I"⟩ ∈ gtb := List.mem_filter.mpr ⟨List.mem_of_getElem? (i := 1698) (by decide +kernel), rfl⟩
theorem wq_1699 : Cond.selects "ForgeSchedulerModel" ⟨"ForgeSchedulerModel", "finishWithoutPlace", "(I)I"⟩ ⟨"ForgeSchedulerModel", "finishWithoutPlace", "(I)I"⟩ ∈ gtb := List.mem_filter.mpr ⟨List.mem_of_getElem? (i := 1699) (by decide +kernel), rfl⟩
theorem wq_1095 : Cond.methodLink "ForgeSchedulerLaw" 238 ⟨"ForgeSchedulerLaw", "finishWithoutIron", "(LForgeScheduler;I[J)I"⟩ ∈ gtb := List.mem_filter.mpr ⟨List.mem_of_getElem? (i := 1095) (by decide +kernel), rfl⟩
theorem wq_1096 : Cond.static ⟨"ForgeSchedulerLaw", "finishWithoutIron", "(LForgeScheduler;I[J)I"⟩ ∈ gtb := List.mem_filter.mpr ⟨List.mem_of_getElem? (i := 1096) (by decide +kernel), rfl⟩
theorem wq_1701 : Cond.methodLink "ForgeSchedulerLaw" 240 ⟨"ForgeSchedulerModel", "finishWithoutIron", "(I)I"⟩ ∈ gtb := List.mem_filter.mpr ⟨List.mem_of_getElem? (i := 1701) (by decide +kernel), rfl⟩
theorem wq_1102 : Cond.methodLink "ForgeSchedulerLaw" 241 ⟨"ForgeSchedulerLaw", "finishAlone", "(LForgeScheduler;I[J)I"⟩ ∈ gtb := List.mem_filter.mpr ⟨List.mem_of_getElem? (i := 1102) (by decide +kernel), rfl⟩
theorem wq_1103 : Cond.static ⟨"ForgeSchedulerLaw", "finishAlone", "(LForgeScheduler;I[J)I"⟩ ∈ gtb := List.mem_filter.mpr ⟨List.mem_of_getElem? (i := 1103) (by decide +kernel), rfl⟩
theorem wq_1708 : Cond.code ⟨"ForgeSchedulerModel", "finishAlone", "(I)I"⟩ prog_9_method_94_code 2 (some .int) ∈ gtb := List.mem_filter.mpr ⟨List.mem_of_getElem? (i := 1708) (by decide +kernel), rfl⟩
theorem wq_1705 : Cond.methodLink "ForgeSchedulerLaw" 243 ⟨"ForgeSchedulerModel", "finishAlone", "(I)I"⟩ ∈ gtb := List.mem_filter.mpr ⟨List.mem_of_getElem? (i := 1705) (by decide +kernel), rfl⟩
theorem wq_1706 : Cond.instanceMethod ⟨"ForgeSchedulerModel", "finishAlone", "(I)I"⟩ ∈ gtb := List.mem_filter.mpr ⟨List.mem_of_getElem? (i := 1706) (by decide +kernel), rfl⟩
theorem wq_1707 : Cond.selects "ForgeSchedulerModel" ⟨"ForgeSchedulerModel", "finishAlone", "(I)I"⟩ ⟨"ForgeSchedulerModel", "finishAlone", "(I)I"⟩ ∈ gtb := List.mem_filter.mpr ⟨List.mem_of_getElem? (i := 1707) (by decide +kernel), rfl⟩
theorem wq_712 : Cond.code ⟨"ForgeScheduler", "orderCode", "()I"⟩ prog_1_method_40_code 3 (some .int) ∈ gtb := List.mem_filter.mpr ⟨List.mem_of_getElem? (i := 712) (by decide +kernel), rfl⟩
theorem wq_709 : Cond.methodLink "ForgeSchedulerLaw" 244 ⟨"ForgeScheduler", "orderCode", "()I"⟩ ∈ gtb := List.mem_filter.mpr ⟨List.mem_of_getElem? (i := 709) (by decide +kernel), rfl⟩
theorem wq_710 : Cond.instanceMethod ⟨"ForgeScheduler", "orderCode", "()I"⟩ ∈ gtb := List.mem_filter.mpr ⟨List.mem_of_getElem? (i := 710) (by decide +kernel), rfl⟩
theorem wq_711 : Cond.selects "ForgeScheduler" ⟨"ForgeScheduler", "orderCode", "()I"⟩ ⟨"ForgeScheduler", "orderCode", "()I"⟩ ∈ gtb := List.mem_filter.mpr ⟨List.mem_of_getElem? (i := 711) (by decide +kernel), rfl⟩
theorem wq_1737 : Cond.code ⟨"ForgeSchedulerModel", "orderCode", "()I"⟩ prog_9_method_101_code 3 (some .int) ∈ gtb := List.mem_filter.mpr ⟨List.mem_of_getElem? (i := 1737) (by decide +kernel), rfl⟩
theorem wq_1734 : Cond.methodLink "ForgeSchedulerLaw" 247 ⟨"ForgeSchedulerModel", "orderCode", "()I"⟩ ∈ gtb := List.mem_filter.mpr ⟨List.mem_of_getElem? (i := 1734) (by decide +kernel), rfl⟩
theorem wq_1735 : Cond.instanceMethod ⟨"ForgeSchedulerModel", "orderCode", "()I"⟩ ∈ gtb := List.mem_filter.mpr ⟨List.mem_of_getElem? (i := 1735) (by decide +kernel), rfl⟩
theorem wq_1736 : Cond.selects "ForgeSchedulerModel" ⟨"ForgeSchedulerModel", "orderCode", "()I"⟩ ⟨"ForgeSchedulerModel", "orderCode", "()I"⟩ ∈ gtb := List.mem_filter.mpr ⟨List.mem_of_getElem? (i := 1736) (by decide +kernel), rfl⟩
theorem wq_716 : Cond.code ⟨"ForgeScheduler", "setSetting", "(II)I"⟩ prog_1_method_41_code 4 (some .int) ∈ gtb := List.mem_filter.mpr ⟨List.mem_of_getElem? (i := 716) (by decide +kernel), rfl⟩
theorem wq_713 : Cond.methodLink "ForgeSchedulerLaw" 248 ⟨"ForgeScheduler", "setSetting", "(II)I"⟩ ∈ gtb := List.mem_filter.mpr ⟨List.mem_of_getElem? (i := 713) (by decide +kernel), rfl⟩
theorem wq_714 : Cond.instanceMethod ⟨"ForgeScheduler", "setSetting", "(II)I"⟩ ∈ gtb := List.mem_filter.mpr ⟨List.mem_of_getElem? (i := 714) (by decide +kernel), rfl⟩
theorem wq_715 : Cond.selects "ForgeScheduler" ⟨"ForgeScheduler", "setSetting", "(II)I"⟩ ⟨"ForgeScheduler", "setSetting", "(II)I"⟩ ∈ gtb := List.mem_filter.mpr ⟨List.mem_of_getElem? (i := 715) (by decide +kernel), rfl⟩
theorem wq_1745 : Cond.code ⟨"ForgeSchedulerModel", "setSetting", "(II)I"⟩ prog_9_method_104_code 4 (some .int) ∈ gtb := List.mem_filter.mpr ⟨List.mem_of_getElem? (i := 1745) (by decide +kernel), rfl⟩
theorem wq_1742 : Cond.methodLink "ForgeSchedulerLaw" 251 ⟨"ForgeSchedulerModel", "setSetting", "(II)I"⟩ ∈ gtb := List.mem_filter.mpr ⟨List.mem_of_getElem? (i := 1742) (by decide +kernel), rfl⟩
theorem wq_1743 : Cond.instanceMethod ⟨"ForgeSchedulerModel", "setSetting", "(II)I"⟩ ∈ gtb := List.mem_filter.mpr ⟨List.mem_of_getElem? (i := 1743) (by decide +kernel), rfl⟩
theorem wq_1744 : Cond.selects "ForgeSchedulerModel" ⟨"ForgeSchedulerModel", "setSetting", "(II)I"⟩ ⟨"ForgeSchedulerModel", "setSetting", "(II)I"⟩ ∈ gtb := List.mem_filter.mpr ⟨List.mem_of_getElem? (i := 1744) (by decide +kernel), rfl⟩
theorem wq_731 : Cond.code ⟨"ForgeScheduler", "swap", "(II)Z"⟩ prog_1_method_42_code 3 (some .boolean) ∈ gtb := List.mem_filter.mpr ⟨List.mem_of_getElem? (i := 731) (by decide +kernel), rfl⟩
theorem wq_728 : Cond.methodLink "ForgeSchedulerLaw" 252 ⟨"ForgeScheduler", "swap", "(II)Z"⟩ ∈ gtb := List.mem_filter.mpr ⟨List.mem_of_getElem? (i := 728) (by decide +kernel), rfl⟩
theorem wq_729 : Cond.instanceMethod ⟨"ForgeScheduler", "swap", "(II)Z"⟩ ∈ gtb := List.mem_filter.mpr ⟨List.mem_of_getElem? (i := 729) (by decide +kernel), rfl⟩
theorem wq_730 : Cond.selects "ForgeScheduler" ⟨"ForgeScheduler", "swap", "(II)Z"⟩ ⟨"ForgeScheduler", "swap", "(II)Z"⟩ ∈ gtb := List.mem_filter.mpr ⟨List.mem_of_getElem? (i := 730) (by decide +kernel), rfl⟩
theorem wq_1753 : Cond.code ⟨"ForgeSchedulerModel", "swap", "(II)Z"⟩ prog_9_method_105_code 4 (some .boolean) ∈ gtb := List.mem_filter.mpr ⟨List.mem_of_getElem? (i := 1753) (by decide +kernel), rfl⟩
theorem wq_1750 : Cond.methodLink "ForgeSchedulerLaw" 256 ⟨"ForgeSchedulerModel", "swap", "(II)Z"⟩ ∈ gtb := List.mem_filter.mpr ⟨List.mem_of_getElem? (i := 1750) (by decide +kernel), rfl⟩
theorem wq_1751 : Cond.instanceMethod ⟨"ForgeSchedulerModel", "swap", "(II)Z"⟩ ∈ gtb := List.mem_filter.mpr ⟨List.mem_of_getElem? (i := 1751) (by decide +kernel), rfl⟩
theorem wq_1752 : Cond.selects "ForgeSchedulerModel" ⟨"ForgeSchedulerModel", "swap", "(II)Z"⟩ ⟨"ForgeSchedulerModel", "swap", "(II)Z"⟩ ∈ gtb := List.mem_filter.mpr ⟨List.mem_of_getElem? (i := 1752) (by decide +kernel), rfl⟩
theorem wq_740 : Cond.code ⟨"ForgeScheduler", "useBestOrder", "()I"⟩ prog_1_method_43_code 2 (some .int) ∈ gtb := List.mem_filter.mpr ⟨List.mem_of_getElem? (i := 740) (by decide +kernel), rfl⟩
theorem wq_737 : Cond.methodLink "ForgeSchedulerLaw" 257 ⟨"ForgeScheduler", "useBestOrder", "()I"⟩ ∈ gtb := List.mem_filter.mpr ⟨List.mem_of_getElem? (i := 737) (by decide +kernel), rfl⟩
theorem wq_738 : Cond.instanceMethod ⟨"ForgeScheduler", "useBestOrder", "()I"⟩ ∈ gtb := List.mem_filter.mpr ⟨List.mem_of_getElem? (i := 738) (by decide +kernel), rfl⟩
theorem wq_739 : Cond.selects "ForgeScheduler" ⟨"ForgeScheduler", "useBestOrder", "()I"⟩ ⟨"ForgeScheduler", "useBestOrder", "()I"⟩ ∈ gtb := List.mem_filter.mpr ⟨List.mem_of_getElem? (i := 739) (by decide +kernel), rfl⟩
theorem wq_1757 : Cond.code ⟨"ForgeSchedulerModel", "useBestOrder", "()I"⟩ prog_9_method_106_code 2 (some .int) ∈ gtb := List.mem_filter.mpr ⟨List.mem_of_getElem? (i := 1757) (by decide +kernel), rfl⟩
theorem wq_1754 : Cond.methodLink "ForgeSchedulerLaw" 260 ⟨"ForgeSchedulerModel", "useBestOrder", "()I"⟩ ∈ gtb := List.mem_filter.mpr ⟨List.mem_of_getElem? (i := 1754) (by decide +kernel), rfl⟩
theorem wq_1755 : Cond.instanceMethod ⟨"ForgeSchedulerModel", "useBestOrder", "()I"⟩ ∈ gtb := List.mem_filter.mpr ⟨List.mem_of_getElem? (i := 1755) (by decide +kernel), rfl⟩
theorem wq_1756 : Cond.selects "ForgeSchedulerModel" ⟨"ForgeSchedulerModel", "useBestOrder", "()I"⟩ ⟨"ForgeSchedulerModel", "useBestOrder", "()I"⟩ ∈ gtb := List.mem_filter.mpr ⟨List.mem_of_getElem? (i := 1756) (by decide +kernel), rfl⟩
theorem wq_745 : Cond.code ⟨"ForgeScheduler", "setPlace", "(III)Z"⟩ prog_1_method_44_code 4 (some .boolean) ∈ gtb := List.mem_filter.mpr ⟨List.mem_of_getElem? (i := 745) (by decide +kernel), rfl⟩
theorem wq_742 : Cond.methodLink "ForgeSchedulerLaw" 261 ⟨"ForgeScheduler", "setPlace", "(III)Z"⟩ ∈ gtb := List.mem_filter.mpr ⟨List.mem_of_getElem? (i := 742) (by decide +kernel), rfl⟩
theorem wq_743 : Cond.instanceMethod ⟨"ForgeScheduler", "setPlace", "(III)Z"⟩ ∈ gtb := List.mem_filter.mpr ⟨List.mem_of_getElem? (i := 743) (by decide +kernel), rfl⟩
theorem wq_744 : Cond.selects "ForgeScheduler" ⟨"ForgeScheduler", "setPlace", "(III)Z"⟩ ⟨"ForgeScheduler", "setPlace", "(III)Z"⟩ ∈ gtb := List.mem_filter.mpr ⟨List.mem_of_getElem? (i := 744) (by decide +kernel), rfl⟩
theorem wq_1761 : Cond.code ⟨"ForgeSchedulerModel", "setPlace", "(III)Z"⟩ prog_9_method_107_code 4 (some .boolean) ∈ gtb := List.mem_filter.mpr ⟨List.mem_of_getElem? (i := 1761) (by decide +kernel), rfl⟩
theorem wq_1758 : Cond.methodLink "ForgeSchedulerLaw" 265 ⟨"ForgeSchedulerModel", "setPlace", "(III)Z"⟩ ∈ gtb := List.mem_filter.mpr ⟨List.mem_of_getElem? (i := 1758) (by decide +kernel), rfl⟩
theorem wq_1759 : Cond.instanceMethod ⟨"ForgeSchedulerModel", "setPlace", "(III)Z"⟩ ∈ gtb := List.mem_filter.mpr ⟨List.mem_of_getElem? (i := 1759) (by decide +kernel), rfl⟩
theorem wq_1760 : Cond.selects "ForgeSchedulerModel" ⟨"ForgeSchedulerModel", "setPlace", "(III)Z"⟩ ⟨"ForgeSchedulerModel", "setPlace", "(III)Z"⟩ ∈ gtb := List.mem_filter.mpr ⟨List.mem_of_getElem? (i := 1760) (by decide +kernel), rfl⟩
theorem wq_753 : Cond.code ⟨"ForgeScheduler", "addStep", "(III)I"⟩ prog_1_method_45_code 4 (some .int) ∈ gtb := List.mem_filter.mpr ⟨List.mem_of_getElem? (i := 753) (by decide +kernel), rfl⟩
theorem wq_750 : Cond.methodLink "ForgeSchedulerLaw" 266 ⟨"ForgeScheduler", "addStep", "(III)I"⟩ ∈ gtb := List.mem_filter.mpr ⟨List.mem_of_getElem? (i := 750) (by decide +kernel), rfl⟩
theorem wq_751 : Cond.instanceMethod ⟨"ForgeScheduler", "addStep", "(III)I"⟩ ∈ gtb := List.mem_filter.mpr ⟨List.mem_of_getElem? (i := 751) (by decide +kernel), rfl⟩
theorem wq_752 : Cond.selects "ForgeScheduler" ⟨"ForgeScheduler", "addStep", "(III)I"⟩ ⟨"ForgeScheduler", "addStep", "(III)I"⟩ ∈ gtb := List.mem_filter.mpr ⟨List.mem_of_getElem? (i := 752) (by decide +kernel), rfl⟩
theorem wq_1765 : Cond.code ⟨"ForgeSchedulerModel", "addStep", "(III)I"⟩ prog_9_method_108_code 4 (some .int) ∈ gtb := List.mem_filter.mpr ⟨List.mem_of_getElem? (i := 1765) (by decide +kernel), rfl⟩
theorem wq_1762 : Cond.methodLink "ForgeSchedulerLaw" 270 ⟨"ForgeSchedulerModel", "addStep", "(III)I"⟩ ∈ gtb := List.mem_filter.mpr ⟨List.mem_of_getElem? (i := 1762) (by decide +kernel), rfl⟩
theorem wq_1763 : Cond.instanceMethod ⟨"ForgeSchedulerModel", "addStep", "(III)I"⟩ ∈ gtb := List.mem_filter.mpr ⟨List.mem_of_getElem? (i := 1763) (by decide +kernel), rfl⟩
theorem wq_1764 : Cond.selects "ForgeSchedulerModel" ⟨"ForgeSchedulerModel", "addStep", "(III)I"⟩ ⟨"ForgeSchedulerModel", "addStep", "(III)I"⟩ ∈ gtb := List.mem_filter.mpr ⟨List.mem_of_getElem? (i := 1764) (by decide +kernel), rfl⟩
theorem wq_758 : Cond.code ⟨"ForgeScheduler", "removeStep", "(I)I"⟩ prog_1_method_46_code 2 (some .int) ∈ gtb := List.mem_filter.mpr ⟨List.mem_of_getElem? (i := 758) (by decide +kernel), rfl⟩
theorem wq_755 : Cond.methodLink "ForgeSchedulerLaw" 271 ⟨"ForgeScheduler", "removeStep", "(I)I"⟩ ∈ gtb := List.mem_filter.mpr ⟨List.mem_of_getElem? (i := 755) (by decide +kernel), rfl⟩
theorem wq_756 : Cond.instanceMethod ⟨"ForgeScheduler", "removeStep", "(I)I"⟩ ∈ gtb := List.mem_filter.mpr ⟨List.mem_of_getElem? (i := 756) (by decide +kernel), rfl⟩
theorem wq_757 : Cond.selects "ForgeScheduler" ⟨"ForgeScheduler", "removeStep", "(I)I"⟩ ⟨"ForgeScheduler", "removeStep", "(I)I"⟩ ∈ gtb := List.mem_filter.mpr ⟨List.mem_of_getElem? (i := 757) (by decide +kernel), rfl⟩
theorem wq_1769 : Cond.code ⟨"ForgeSchedulerModel", "removeStep", "(I)I"⟩ prog_9_method_109_code 2 (some .int) ∈ gtb := List.mem_filter.mpr ⟨List.mem_of_getElem? (i := 1769) (by decide +kernel), rfl⟩
theorem wq_1766 : Cond.methodLink "ForgeSchedulerLaw" 274 ⟨"ForgeSchedulerModel", "removeStep", "(I)I"⟩ ∈ gtb := List.mem_filter.mpr ⟨List.mem_of_getElem? (i := 1766) (by decide +kernel), rfl⟩
theorem wq_1767 : Cond.instanceMethod ⟨"ForgeSchedulerModel", "removeStep", "(I)I"⟩ ∈ gtb := List.mem_filter.mpr ⟨List.mem_of_getElem? (i := 1767) (by decide +kernel), rfl⟩
theorem wq_1768 : Cond.selects "ForgeSchedulerModel" ⟨"ForgeSchedulerModel", "removeStep", "(I)I"⟩ ⟨"ForgeSchedulerModel", "removeStep", "(I)I"⟩ ∈ gtb := List.mem_filter.mpr ⟨List.mem_of_getElem? (i := 1768) (by decide +kernel), rfl⟩
theorem wq_762 : Cond.code ⟨"ForgeScheduler", "undo", "()I"⟩ prog_1_method_47_code 1 (some .int) ∈ gtb := List.mem_filter.mpr ⟨List.mem_of_getElem? (i := 762) (by decide +kernel), rfl⟩
theorem wq_759 : Cond.methodLink "ForgeSchedulerLaw" 275 ⟨"ForgeScheduler", "undo", "()I"⟩ ∈ gtb := List.mem_filter.mpr ⟨List.mem_of_getElem? (i := 759) (by decide +kernel), rfl⟩
theorem wq_760 : Cond.instanceMethod ⟨"ForgeScheduler", "undo", "()I"⟩ ∈ gtb := List.mem_filter.mpr ⟨List.mem_of_getElem? (i := 760) (by decide +kernel), rfl⟩
theorem wq_761 : Cond.selects "ForgeScheduler" ⟨"ForgeScheduler", "undo", "()I"⟩ ⟨"ForgeScheduler", "undo", "()I"⟩ ∈ gtb := List.mem_filter.mpr ⟨List.mem_of_getElem? (i := 761) (by decide +kernel), rfl⟩
theorem wq_1741 : Cond.code ⟨"ForgeSchedulerModel", "undo", "()I"⟩ prog_9_method_103_code 2 (some .int) ∈ gtb := List.mem_filter.mpr ⟨List.mem_of_getElem? (i := 1741) (by decide +kernel), rfl⟩
theorem wq_1738 : Cond.methodLink "ForgeSchedulerLaw" 278 ⟨"ForgeSchedulerModel", "undo", "()I"⟩ ∈ gtb := List.mem_filter.mpr ⟨List.mem_of_getElem? (i := 1738) (by decide +kernel), rfl⟩
theorem wq_1739 : Cond.instanceMethod ⟨"ForgeSchedulerModel", "undo", "()I"⟩ ∈ gtb := List.mem_filter.mpr ⟨List.mem_of_getElem? (i := 1739) (by decide +kernel), rfl⟩
theorem wq_1740 : Cond.selects "ForgeSchedulerModel" ⟨"ForgeSchedulerModel", "undo", "()I"⟩ ⟨"ForgeSchedulerModel", "undo", "()I"⟩ ∈ gtb := List.mem_filter.mpr ⟨List.mem_of_getElem? (i := 1740) (by decide +kernel), rfl⟩
theorem wq_1109 : Cond.methodLink "ForgeSchedulerLaw" 279 ⟨"ForgeSchedulerLaw", "rackMinutes", "(LForgeScheduler;I[J)I"⟩ ∈ gtb := List.mem_filter.mpr ⟨List.mem_of_getElem? (i := 1109) (by decide +kernel), rfl⟩
theorem wq_1110 : Cond.static ⟨"ForgeSchedulerLaw", "rackMinutes", "(LForgeScheduler;I[J)I"⟩ ∈ gtb := List.mem_filter.mpr ⟨List.mem_of_getElem? (i := 1110) (by decide +kernel), rfl⟩
theorem wq_1617 : Cond.code ⟨"ForgeSchedulerModel", "rackMinutes", "(I)I"⟩ prog_9_method_72_code 4 (some .int) ∈ gtb := List.mem_filter.mpr ⟨List.mem_of_getElem? (i := 1617) (by decide +kernel), rfl⟩
theorem wq_1614 : Cond.methodLink "ForgeSchedulerLaw" 281 ⟨"ForgeSchedulerModel", "rackMinutes", "(I)I"⟩ ∈ gtb := List.mem_filter.mpr ⟨List.mem_of_getElem? (i := 1614) (by decide +kernel), rfl⟩
theorem wq_1615 : Cond.instanceMethod ⟨"ForgeSchedulerModel", "rackMinutes", "(I)I"⟩ ∈ gtb := List.mem_filter.mpr ⟨List.mem_of_getElem? (i := 1615) (by decide +kernel), rfl⟩
theorem wq_1616 : Cond.selects "ForgeSchedulerModel" ⟨"ForgeSchedulerModel", "rackMinutes", "(I)I"⟩ ⟨"ForgeSchedulerModel", "rackMinutes", "(I)I"⟩ ∈ gtb := List.mem_filter.mpr ⟨List.mem_of_getElem? (i := 1616) (by decide +kernel), rfl⟩
theorem wq_1120 : Cond.methodLink "ForgeSchedulerLaw" 282 ⟨"ForgeSchedulerLaw", "firstWork", "(LForgeScheduler;I[J)I"⟩ ∈ gtb := List.mem_filter.mpr ⟨List.mem_of_getElem? (i := 1120) (by decide +kernel), rfl⟩
theorem wq_1121 : Cond.static ⟨"ForgeSchedulerLaw", "firstWork", "(LForgeScheduler;I[J)I"⟩ ∈ gtb := List.mem_filter.mpr ⟨List.mem_of_getElem? (i := 1121) (by decide +kernel), rfl⟩
theorem wq_1625 : Cond.code ⟨"ForgeSchedulerModel", "firstWork", "(I)I"⟩ prog_9_method_73_code 3 (some .int) ∈ gtb := List.mem_filter.mpr ⟨List.mem_of_getElem? (i := 1625) (by decide +kernel), rfl⟩
theorem wq_1622 : Cond.methodLink "ForgeSchedulerLaw" 284 ⟨"ForgeSchedulerModel", "firstWork", "(I)I"⟩ ∈ gtb := List.mem_filter.mpr ⟨List.mem_of_getElem? (i := 1622) (by decide +kernel), rfl⟩
theorem wq_1623 : Cond.instanceMethod ⟨"ForgeSchedulerModel", "firstWork", "(I)I"⟩ ∈ gtb := List.mem_filter.mpr ⟨List.mem_of_getElem? (i := 1623) (by decide +kernel), rfl⟩
theorem wq_1624 : Cond.selects "ForgeSchedulerModel" ⟨"ForgeSchedulerModel", "firstWork", "(I)I"⟩ ⟨"ForgeSchedulerModel", "firstWork", "(I)I"⟩ ∈ gtb := List.mem_filter.mpr ⟨List.mem_of_getElem? (i := 1624) (by decide +kernel), rfl⟩
theorem wq_1131 : Cond.methodLink "ForgeSchedulerLaw" 285 ⟨"ForgeSchedulerLaw", "ironInPlace", "(LForgeScheduler;II[J)I"⟩ ∈ gtb := List.mem_filter.mpr ⟨List.mem_of_getElem? (i := 1131) (by decide +kernel), rfl⟩
theorem wq_1132 : Cond.static ⟨"ForgeSchedulerLaw", "ironInPlace", "(LForgeScheduler;II[J)I"⟩ ∈ gtb := List.mem_filter.mpr ⟨List.mem_of_getElem? (i := 1132) (by decide +kernel), rfl⟩
theorem wq_1629 : Cond.code ⟨"ForgeSchedulerModel", "ironInPlace", "(II)I"⟩ prog_9_method_75_code 3 (some .int) ∈ gtb := List.mem_filter.mpr ⟨List.mem_of_getElem? (i := 1629) (by decide +kernel), rfl⟩
theorem wq_1626 : Cond.methodLink "ForgeSchedulerLaw" 287 ⟨"ForgeSchedulerModel", "ironInPlace", "(II)I"⟩ ∈ gtb := List.mem_filter.mpr ⟨List.mem_of_getElem? (i := 1626) (by decide +kernel), rfl⟩
theorem wq_1627 : Cond.instanceMethod ⟨"ForgeSchedulerModel", "ironInPlace", "(II)I"⟩ ∈ gtb := List.mem_filter.mpr ⟨List.mem_of_getElem? (i := 1627) (by decide +kernel), rfl⟩
theorem wq_1628 : Cond.selects "ForgeSchedulerModel" ⟨"ForgeSchedulerModel", "ironInPlace", "(II)I"⟩ ⟨"ForgeSchedulerModel", "ironInPlace", "(II)I"⟩ ∈ gtb := List.mem_filter.mpr ⟨List.mem_of_getElem? (i := 1628) (by decide +kernel), rfl⟩
theorem wq_1139 : Cond.methodLink "ForgeSchedulerLaw" 288 ⟨"ForgeSchedulerLaw", "ironOnAnvil", "(LForgeScheduler;II[J)I"⟩ ∈ gtb := List.mem_filter.mpr ⟨List.mem_of_getElem? (i := 1139) (by decide +kernel), rfl⟩
theorem wq_1140 : Cond.static ⟨"ForgeSchedulerLaw", "ironOnAnvil", "(LForgeScheduler;II[J)I"⟩ ∈ gtb := List.mem_filter.mpr ⟨List.mem_of_getElem? (i := 1140) (by decide +kernel), rfl⟩
theorem wq_1637 : Cond.code ⟨"ForgeSchedulerModel", "ironOnAnvil", "(II)I"⟩ prog_9_method_76_code 3 (some .int) ∈ gtb := List.mem_filter.mpr ⟨List.mem_of_getElem? (i := 1637) (by decide +kernel), rfl⟩
theorem wq_1634 : Cond.methodLink "ForgeSchedulerLaw" 290 ⟨"ForgeSchedulerModel", "ironOnAnvil", "(II)I"⟩ ∈ gtb := List.mem_filter.mpr ⟨List.mem_of_getElem? (i := 1634) (by decide +kernel), rfl⟩
theorem wq_1635 : Cond.instanceMethod ⟨"ForgeSchedulerModel", "ironOnAnvil", "(II)I"⟩ ∈ gtb := List.mem_filter.mpr ⟨List.mem_of_getElem? (i := 1635) (by decide +kernel), rfl⟩
theorem wq_1636 : Cond.selects "ForgeSchedulerModel" ⟨"ForgeSchedulerModel", "ironOnAnvil", "(II)I"⟩ ⟨"ForgeSchedulerModel", "ironOnAnvil", "(II)I"⟩ ∈ gtb := List.mem_filter.mpr ⟨List.mem_of_getElem? (i := 1636) (by decide +kernel), rfl⟩
theorem wq_770 : Cond.code ⟨"ForgeScheduler", "finishedBy", "(I)I"⟩ prog_1_method_52_code 2 (some .int) ∈ gtb := List.mem_filter.mpr ⟨List.mem_of_getElem? (i := 770) (by decide +kernel), rfl⟩
theorem wq_767 : Cond.methodLink "ForgeSchedulerLaw" 291 ⟨"ForgeScheduler", "finishedBy", "(I)I"⟩ ∈ gtb := List.mem_filter.mpr ⟨List.mem_of_getElem? (i := 767) (by decide +kernel), rfl⟩
theorem wq_768 : Cond.instanceMethod ⟨"ForgeScheduler", "finishedBy", "(I)I"⟩ ∈ gtb := List.mem_filter.mpr ⟨List.mem_of_getElem? (i := 768) (by decide +kernel), rfl⟩
theorem wq_769 : Cond.selects "ForgeScheduler" ⟨"ForgeScheduler", "finishedBy", "(I)I"⟩ ⟨"ForgeScheduler", "finishedBy", "(I)I"⟩ ∈ gtb := List.mem_filter.mpr ⟨List.mem_of_getElem? (i := 769) (by decide +kernel), rfl⟩
theorem wq_1641 : Cond.code ⟨"ForgeSchedulerModel", "finishedBy", "(I)I"⟩ prog_9_method_77_code 4 (some .int) ∈ gtb := List.mem_filter.mpr ⟨List.mem_of_getElem? (i := 1641) (by decide +kernel), rfl⟩
theorem wq_1638 : Cond.methodLink "ForgeSchedulerLaw" 294 ⟨"ForgeSchedulerModel", "finishedBy", "(I)I"⟩ ∈ gtb := List.mem_filter.mpr ⟨List.mem_of_getElem? (i := 1638) (by decide +kernel), rfl⟩
theorem wq_1639 : Cond.instanceMethod ⟨"ForgeSchedulerModel", "finishedBy", "(I)I"⟩ ∈ gtb := List.mem_filter.mpr ⟨List.mem_of_getElem? (i := 1639) (by decide +kernel), rfl⟩
theorem wq_1640 : Cond.selects "ForgeSchedulerModel" ⟨"ForgeSchedulerModel", "finishedBy", "(I)I"⟩ ⟨"ForgeSchedulerModel", "finishedBy", "(I)I"⟩ ∈ gtb := List.mem_filter.mpr ⟨List.mem_of_getElem? (i := 1640) (by decide +kernel), rfl⟩
theorem wq_782 : Cond.code ⟨"ForgeScheduler", "idleMinutes", "()I"⟩ prog_1_method_53_code 1 (some .int) ∈ gtb := List.mem_filter.mpr ⟨List.mem_of_getElem? (i := 782) (by decide +kernel), rfl⟩
theorem wq_779 : Cond.methodLink "ForgeSchedulerLaw" 295 ⟨"ForgeScheduler", "idleMinutes", "()I"⟩ ∈ gtb := List.mem_filter.mpr ⟨List.mem_of_getElem? (i := 779) (by decide +kernel), rfl⟩
theorem wq_780 : Cond.instanceMethod ⟨"ForgeScheduler", "idleMinutes", "()I"⟩ ∈ gtb := List.mem_filter.mpr ⟨List.mem_of_getElem? (i := 780) (by decide +kernel), rfl⟩
theorem wq_781 : Cond.selects "ForgeScheduler" ⟨"ForgeScheduler", "idleMinutes", "()I"⟩ ⟨"ForgeScheduler", "idleMinutes", "()I"⟩ ∈ gtb := List.mem_filter.mpr ⟨List.mem_of_getElem? (i := 781) (by decide +kernel), rfl⟩
theorem wq_1645 : Cond.code ⟨"ForgeSchedulerModel", "idleMinutes", "()I"⟩ prog_9_method_78_code 6 (some .int) ∈ gtb := List.mem_filter.mpr ⟨List.mem_of_getElem? (i := 1645) (by decide +kernel), rfl⟩
theorem wq_1642 : Cond.methodLink "ForgeSchedulerLaw" 298 ⟨"ForgeSchedulerModel", "idleMinutes", "()I"⟩ ∈ gtb := List.mem_filter.mpr ⟨List.mem_of_getElem? (i := 1642) (by decide +kernel), rfl⟩
theorem wq_1643 : Cond.instanceMethod ⟨"ForgeSchedulerModel", "idleMinutes", "()I"⟩ ∈ gtb := List.mem_filter.mpr ⟨List.mem_of_getElem? (i := 1643) (by decide +kernel), rfl⟩
theorem wq_1644 : Cond.selects "ForgeSchedulerModel" ⟨"ForgeSchedulerModel", "idleMinutes", "()I"⟩ ⟨"ForgeSchedulerModel", "idleMinutes", "()I"⟩ ∈ gtb := List.mem_filter.mpr ⟨List.mem_of_getElem? (i := 1644) (by decide +kernel), rfl⟩
theorem wq_799 : Cond.code ⟨"ForgeScheduler", "finishWithAnvils", "(I)I"⟩ prog_1_method_54_code 2 (some .int) ∈ gtb := List.mem_filter.mpr ⟨List.mem_of_getElem? (i := 799) (by decide +kernel), rfl⟩
theorem wq_796 : Cond.methodLink "ForgeSchedulerLaw" 299 ⟨"ForgeScheduler", "finishWithAnvils", "(I)I"⟩ ∈ gtb := List.mem_filter.mpr ⟨List.mem_of_getElem? (i := 796) (by decide +kernel), rfl⟩
theorem wq_797 : Cond.instanceMethod ⟨"ForgeScheduler", "finishWithAnvils", "(I)I"⟩ ∈ gtb := List.mem_filter.mpr ⟨List.mem_of_getElem? (i := 797) (by decide +kernel), rfl⟩
theorem wq_798 : Cond.selects "ForgeScheduler" ⟨"ForgeScheduler", "finishWithAnvils", "(I)I"⟩ ⟨"ForgeScheduler", "finishWithAnvils", "(I)I"⟩ ∈ gtb := List.mem_filter.mpr ⟨List.mem_of_getElem? (i := 798) (by decide +kernel), rfl⟩
theorem wq_1712 : Cond.code ⟨"ForgeSchedulerModel", "finishWithAnvils", "(I)I"⟩ prog_9_method_96_code 2 (some .int) ∈ gtb := List.mem_filter.mpr ⟨List.mem_of_getElem? (i := 1712) (by decide +kernel), rfl⟩
theorem wq_1709 : Cond.methodLink "ForgeSchedulerLaw" 302 ⟨"ForgeSchedulerModel", "finishWithAnvils", "(I)I"⟩ ∈ gtb := List.mem_filter.mpr ⟨List.mem_of_getElem? (i := 1709) (by decide +kernel), rfl⟩
theorem wq_1710 : Cond.instanceMethod ⟨"ForgeSchedulerModel", "finishWithAnvils", "(I)I"⟩ ∈ gtb := List.mem_filter.mpr ⟨List.mem_of_getElem? (i := 1710) (by decide +kernel), rfl⟩
theorem wq_1711 : Cond.selects "ForgeSchedulerModel" ⟨"ForgeSchedulerModel", "finishWithAnvils", "(I)I"⟩ ⟨"ForgeSchedulerModel", "finishWithAnvils", "(I)I"⟩ ∈ gtb := List.mem_filter.mpr ⟨List.mem_of_getElem? (i := 1711) (by decide +kernel), rfl⟩
theorem wq_803 : Cond.code ⟨"ForgeScheduler", "bestRule", "()I"⟩ prog_1_method_55_code 1 (some .int) ∈ gtb := List.mem_filter.mpr ⟨List.mem_of_getElem? (i := 803) (by decide +kernel), rfl⟩
theorem wq_800 : Cond.methodLink "ForgeSchedulerLaw" 303 ⟨"ForgeScheduler", "bestRule", "()I"⟩ ∈ gtb := List.mem_filter.mpr ⟨List.mem_of_getElem? (i := 800) (by decide +kernel), rfl⟩
theorem wq_801 : Cond.instanceMethod ⟨"ForgeScheduler", "bestRule", "()I"⟩ ∈ gtb := List.mem_filter.mpr ⟨List.mem_of_getElem? (i := 801) (by decide +kernel), rfl⟩
theorem wq_802 : Cond.selects "ForgeScheduler" ⟨"ForgeScheduler", "bestRule", "()I"⟩ ⟨"ForgeScheduler", "bestRule", "()I"⟩ ∈ gtb := List.mem_filter.mpr ⟨List.mem_of_getElem? (i := 802) (by decide +kernel), rfl⟩
theorem wq_1720 : Cond.code ⟨"ForgeSchedulerModel", "bestRule", "()I"⟩ prog_9_method_97_code 5 (some .int) ∈ gtb := List.mem_filter.mpr ⟨List.mem_of_getElem? (i := 1720) (by decide +kernel), rfl⟩
theorem wq_1717 : Cond.methodLink "ForgeSchedulerLaw" 306 ⟨"ForgeSchedulerModel", "bestRule", "()I"⟩ ∈ gtb := List.mem_filter.mpr ⟨List.mem_of_getElem? (i := 1717) (by decide +kernel), rfl⟩
theorem wq_1718 : Cond.instanceMethod ⟨"ForgeSchedulerModel", "bestRule", "()I"⟩ ∈ gtb := List.mem_filter.mpr ⟨List.mem_of_getElem? (i := 1718) (by decide +kernel), rfl⟩
theorem wq_1719 : Cond.selects "ForgeSchedulerModel" ⟨"ForgeSchedulerModel", "bestRule", "()I"⟩ ⟨"ForgeSchedulerModel", "bestRule", "()I"⟩ ∈ gtb := List.mem_filter.mpr ⟨List.mem_of_getElem? (i := 1719) (by decide +kernel), rfl⟩
theorem wq_1146 : Cond.methodLink "ForgeSchedulerLaw" 307 ⟨"ForgeSchedulerLaw", "finishWithRate", "(LForgeScheduler;II[J)I"⟩ ∈ gtb := List.mem_filter.mpr ⟨List.mem_of_getElem? (i := 1146) (by decide +kernel), rfl⟩
theorem wq_1147 : Cond.static ⟨"ForgeSchedulerLaw", "finishWithRate", "(LForgeScheduler;II[J)I"⟩ ∈ gtb := List.mem_filter.mpr ⟨List.mem_of_getElem? (i := 1147) (by decide +kernel), rfl⟩
theorem wq_1724 : Cond.code ⟨"ForgeSchedulerModel", "finishWithRate", "(II)I"⟩ prog_9_method_98_code 3 (some .int) ∈ gtb := List.mem_filter.mpr ⟨List.mem_of_getElem? (i := 1724) (by decide +kernel), rfl⟩
theorem wq_1721 : Cond.methodLink "ForgeSchedulerLaw" 309 ⟨"ForgeSchedulerModel", "finishWithRate", "(II)I"⟩ ∈ gtb := List.mem_filter.mpr ⟨List.mem_of_getElem? (i := 1721) (by decide +kernel), rfl⟩
theorem wq_1722 : Cond.instanceMethod ⟨"ForgeSchedulerModel", "finishWithRate", "(II)I"⟩ ∈ gtb := List.mem_filter.mpr ⟨List.mem_of_getElem? (i := 1722) (by decide +kernel), rfl⟩
theorem wq_1723 : Cond.selects "ForgeSchedulerModel" ⟨"ForgeSchedulerModel", "finishWithRate", "(II)I"⟩ ⟨"ForgeSchedulerModel", "finishWithRate", "(II)I"⟩ ∈ gtb := List.mem_filter.mpr ⟨List.mem_of_getElem? (i := 1723) (by decide +kernel), rfl⟩
theorem wq_1153 : Cond.methodLink "ForgeSchedulerLaw" 310 ⟨"ForgeSchedulerLaw", "leastRate", "(LForgeScheduler;I[J)I"⟩ ∈ gtb := List.mem_filter.mpr ⟨List.mem_of_getElem? (i := 1153) (by decide +kernel), rfl⟩
theorem wq_1154 : Cond.static ⟨"ForgeSchedulerLaw", "leastRate", "(LForgeScheduler;I[J)I"⟩ ∈ gtb := List.mem_filter.mpr ⟨List.mem_of_getElem? (i := 1154) (by decide +kernel), rfl⟩
theorem wq_1728 : Cond.code ⟨"ForgeSchedulerModel", "leastRate", "(I)I"⟩ prog_9_method_99_code 5 (some .int) ∈ gtb := List.mem_filter.mpr ⟨List.mem_of_getElem? (i := 1728) (by decide +kernel), rfl⟩
theorem wq_1725 : Cond.methodLink "ForgeSchedulerLaw" 312 ⟨"ForgeSchedulerModel", "leastRate", "(I)I"⟩ ∈ gtb := List.mem_filter.mpr ⟨List.mem_of_getElem? (i := 1725) (by decide +kernel), rfl⟩
theorem wq_1726 : Cond.instanceMethod ⟨"ForgeSchedulerModel", "leastRate", "(I)I"⟩ ∈ gtb := List.mem_filter.mpr ⟨List.mem_of_getElem? (i := 1726) (by decide +kernel), rfl⟩
theorem wq_1727 : Cond.selects "ForgeSchedulerModel" ⟨"ForgeSchedulerModel", "leastRate", "(I)I"⟩ ⟨"ForgeSchedulerModel", "leastRate", "(I)I"⟩ ∈ gtb := List.mem_filter.mpr ⟨List.mem_of_getElem? (i := 1727) (by decide +kernel), rfl⟩
theorem wq_807 : Cond.code ⟨"ForgeScheduler", "criticalIrons", "()I"⟩ prog_1_method_58_code 5 (some .int) ∈ gtb := List.mem_filter.mpr ⟨List.mem_of_getElem? (i := 807) (by decide +kernel), rfl⟩
theorem wq_804 : Cond.methodLink "ForgeSchedulerLaw" 313 ⟨"ForgeScheduler", "criticalIrons", "()I"⟩ ∈ gtb := List.mem_filter.mpr ⟨List.mem_of_getElem? (i := 804) (by decide +kernel), rfl⟩
theorem wq_805 : Cond.instanceMethod ⟨"ForgeScheduler", "criticalIrons", "()I"⟩ ∈ gtb := List.mem_filter.mpr ⟨List.mem_of_getElem? (i := 805) (by decide +kernel), rfl⟩
theorem wq_806 : Cond.selects "ForgeScheduler" ⟨"ForgeScheduler", "criticalIrons", "()I"⟩ ⟨"ForgeScheduler", "criticalIrons", "()I"⟩ ∈ gtb := List.mem_filter.mpr ⟨List.mem_of_getElem? (i := 806) (by decide +kernel), rfl⟩
theorem wq_1732 : Cond.code ⟨"ForgeSchedulerModel", "criticalIrons", "()I"⟩ prog_9_method_100_code 5 (some .int) ∈ gtb := List.mem_filter.mpr ⟨List.mem_of_getElem? (i := 1732) (by decide +kernel), rfl⟩
theorem wq_1729 : Cond.methodLink "ForgeSchedulerLaw" 316 ⟨"ForgeSchedulerModel", "criticalIrons", "()I"⟩ ∈ gtb := List.mem_filter.mpr ⟨List.mem_of_getElem? (i := 1729) (by decide +kernel), rfl⟩
theorem wq_1730 : Cond.instanceMethod ⟨"ForgeSchedulerModel", "criticalIrons", "()I"⟩ ∈ gtb := List.mem_filter.mpr ⟨List.mem_of_getElem? (i := 1730) (by decide +kernel), rfl⟩
theorem wq_1731 : Cond.selects "ForgeSchedulerModel" ⟨"ForgeSchedulerModel", "criticalIrons", "()I"⟩ ⟨"ForgeSchedulerModel", "criticalIrons", "()I"⟩ ∈ gtb := List.mem_filter.mpr ⟨List.mem_of_getElem? (i := 1731) (by decide +kernel), rfl⟩
