/-! what the Statement gives of the start -/
theorem fl_11 {b : Nat} {s : State} (hgv : (Jvm.Cond.and given_1 narrow_1).before #[Value.ref b] s = true) : (Cond.arrayOf (Term.static "ForgeScheduler" "LEAST_SETTING" "[I") FieldType.int).before #[Value.ref b] s = true := flat_of_before _ hgv _ (List.mem_of_getElem? (i := 11) (by decide +kernel))
theorem fl_12 {b : Nat} {s : State} (hgv : (Jvm.Cond.and given_1 narrow_1).before #[Value.ref b] s = true) : (Cond.eq (Term.length (Term.static "ForgeScheduler" "LEAST_SETTING" "[I")) (Term.int 3)).before #[Value.ref b] s = true := flat_of_before _ hgv _ (List.mem_of_getElem? (i := 12) (by decide +kernel))
theorem fl_13 {b : Nat} {s : State} (hgv : (Jvm.Cond.and given_1 narrow_1).before #[Value.ref b] s = true) : (Cond.eq (Term.elem (Term.static "ForgeScheduler" "LEAST_SETTING" "[I") (Term.int 0)) (Term.int 1)).before #[Value.ref b] s = true := flat_of_before _ hgv _ (List.mem_of_getElem? (i := 13) (by decide +kernel))
theorem fl_14 {b : Nat} {s : State} (hgv : (Jvm.Cond.and given_1 narrow_1).before #[Value.ref b] s = true) : (Cond.eq (Term.elem (Term.static "ForgeScheduler" "LEAST_SETTING" "[I") (Term.int 1)) (Term.int 0)).before #[Value.ref b] s = true := flat_of_before _ hgv _ (List.mem_of_getElem? (i := 14) (by decide +kernel))
theorem fl_15 {b : Nat} {s : State} (hgv : (Jvm.Cond.and given_1 narrow_1).before #[Value.ref b] s = true) : (Cond.eq (Term.elem (Term.static "ForgeScheduler" "LEAST_SETTING" "[I") (Term.int 2)) (Term.int 0)).before #[Value.ref b] s = true := flat_of_before _ hgv _ (List.mem_of_getElem? (i := 15) (by decide +kernel))
theorem fl_17 {b : Nat} {s : State} (hgv : (Jvm.Cond.and given_1 narrow_1).before #[Value.ref b] s = true) : (Cond.arrayOf (Term.static "ForgeScheduler" "MOST_SETTING" "[I") FieldType.int).before #[Value.ref b] s = true := flat_of_before _ hgv _ (List.mem_of_getElem? (i := 17) (by decide +kernel))
theorem fl_18 {b : Nat} {s : State} (hgv : (Jvm.Cond.and given_1 narrow_1).before #[Value.ref b] s = true) : (Cond.eq (Term.length (Term.static "ForgeScheduler" "MOST_SETTING" "[I")) (Term.int 3)).before #[Value.ref b] s = true := flat_of_before _ hgv _ (List.mem_of_getElem? (i := 18) (by decide +kernel))
theorem fl_19 {b : Nat} {s : State} (hgv : (Jvm.Cond.and given_1 narrow_1).before #[Value.ref b] s = true) : (Cond.eq (Term.elem (Term.static "ForgeScheduler" "MOST_SETTING" "[I") (Term.int 0)) (Term.int 3)).before #[Value.ref b] s = true := flat_of_before _ hgv _ (List.mem_of_getElem? (i := 19) (by decide +kernel))
theorem fl_20 {b : Nat} {s : State} (hgv : (Jvm.Cond.and given_1 narrow_1).before #[Value.ref b] s = true) : (Cond.eq (Term.elem (Term.static "ForgeScheduler" "MOST_SETTING" "[I") (Term.int 1)) (Term.int 500)).before #[Value.ref b] s = true := flat_of_before _ hgv _ (List.mem_of_getElem? (i := 20) (by decide +kernel))
theorem fl_21 {b : Nat} {s : State} (hgv : (Jvm.Cond.and given_1 narrow_1).before #[Value.ref b] s = true) : (Cond.eq (Term.elem (Term.static "ForgeScheduler" "MOST_SETTING" "[I") (Term.int 2)) (Term.int 2)).before #[Value.ref b] s = true := flat_of_before _ hgv _ (List.mem_of_getElem? (i := 21) (by decide +kernel))
theorem fl_5 {b : Nat} {s : State} (hgv : (Jvm.Cond.and given_1 narrow_1).before #[Value.ref b] s = true) : (Cond.arrayOf (Term.static "ForgeScheduler" "INITIAL_SETTING" "[I") FieldType.int).before #[Value.ref b] s = true := flat_of_before _ hgv _ (List.mem_of_getElem? (i := 5) (by decide +kernel))
theorem fl_6 {b : Nat} {s : State} (hgv : (Jvm.Cond.and given_1 narrow_1).before #[Value.ref b] s = true) : (Cond.eq (Term.length (Term.static "ForgeScheduler" "INITIAL_SETTING" "[I")) (Term.int 3)).before #[Value.ref b] s = true := flat_of_before _ hgv _ (List.mem_of_getElem? (i := 6) (by decide +kernel))
theorem fl_7 {b : Nat} {s : State} (hgv : (Jvm.Cond.and given_1 narrow_1).before #[Value.ref b] s = true) : (Cond.eq (Term.elem (Term.static "ForgeScheduler" "INITIAL_SETTING" "[I") (Term.int 0)) (Term.int 1)).before #[Value.ref b] s = true := flat_of_before _ hgv _ (List.mem_of_getElem? (i := 7) (by decide +kernel))
theorem fl_8 {b : Nat} {s : State} (hgv : (Jvm.Cond.and given_1 narrow_1).before #[Value.ref b] s = true) : (Cond.eq (Term.elem (Term.static "ForgeScheduler" "INITIAL_SETTING" "[I") (Term.int 1)) (Term.int 50)).before #[Value.ref b] s = true := flat_of_before _ hgv _ (List.mem_of_getElem? (i := 8) (by decide +kernel))
theorem fl_9 {b : Nat} {s : State} (hgv : (Jvm.Cond.and given_1 narrow_1).before #[Value.ref b] s = true) : (Cond.eq (Term.elem (Term.static "ForgeScheduler" "INITIAL_SETTING" "[I") (Term.int 2)) (Term.int 0)).before #[Value.ref b] s = true := flat_of_before _ hgv _ (List.mem_of_getElem? (i := 9) (by decide +kernel))
theorem fl_22 {b : Nat} {s : State} (hgv : (Jvm.Cond.and given_1 narrow_1).before #[Value.ref b] s = true) : (Cond.isRef (Term.static "java/lang/Throwable" "UNASSIGNED_STACK" "[Ljava/lang/StackTraceElement;")).before #[Value.ref b] s = true := flat_of_before _ hgv _ (List.mem_of_getElem? (i := 22) (by decide +kernel))
theorem fl_23 {b : Nat} {s : State} (hgv : (Jvm.Cond.and given_1 narrow_1).before #[Value.ref b] s = true) : (Cond.isRef (Term.static "java/lang/Throwable" "SUPPRESSED_SENTINEL" "Ljava/util/List;")).before #[Value.ref b] s = true := flat_of_before _ hgv _ (List.mem_of_getElem? (i := 23) (by decide +kernel))
theorem fl_24 {b : Nat} {s : State} (hgv : (Jvm.Cond.and given_1 narrow_1).before #[Value.ref b] s = true) : (Cond.eq (Term.static "java/lang/String" "COMPACT_STRINGS" "Z") (Term.int 1)).before #[Value.ref b] s = true := flat_of_before _ hgv _ (List.mem_of_getElem? (i := 24) (by decide +kernel))
theorem fl_25 {b : Nat} {s : State} (hgv : (Jvm.Cond.and given_1 narrow_1).before #[Value.ref b] s = true) : (Cond.isRef (Term.static "jdk/internal/util/Preconditions" "SIOOBE_FORMATTER" "Ljava/util/function/BiFunction;")).before #[Value.ref b] s = true := flat_of_before _ hgv _ (List.mem_of_getElem? (i := 25) (by decide +kernel))
theorem fl_37 {b : Nat} {s : State} (hgv : (Jvm.Cond.and given_1 narrow_1).before #[Value.ref b] s = true) : (Cond.exactly (Term.string "ForgeScheduler" 285) "java/lang/String").before #[Value.ref b] s = true := flat_of_before _ hgv _ (List.mem_of_getElem? (i := 37) (by decide +kernel))
theorem fl_65 {b : Nat} {s : State} (hgv : (Jvm.Cond.and given_1 narrow_1).before #[Value.ref b] s = true) : (Cond.exactly (Term.string "ForgeScheduler" 290) "java/lang/String").before #[Value.ref b] s = true := flat_of_before _ hgv _ (List.mem_of_getElem? (i := 65) (by decide +kernel))
theorem fl_82 {b : Nat} {s : State} (hgv : (Jvm.Cond.and given_1 narrow_1).before #[Value.ref b] s = true) : (Cond.exactly (Term.string "ForgeScheduler" 292) "java/lang/String").before #[Value.ref b] s = true := flat_of_before _ hgv _ (List.mem_of_getElem? (i := 82) (by decide +kernel))
theorem fl_106 {b : Nat} {s : State} (hgv : (Jvm.Cond.and given_1 narrow_1).before #[Value.ref b] s = true) : (Cond.exactly (Term.string "ForgeScheduler" 294) "java/lang/String").before #[Value.ref b] s = true := flat_of_before _ hgv _ (List.mem_of_getElem? (i := 106) (by decide +kernel))
theorem fl_126 {b : Nat} {s : State} (hgv : (Jvm.Cond.and given_1 narrow_1).before #[Value.ref b] s = true) : (Cond.exactly (Term.string "ForgeSchedulerModel" 135) "java/lang/String").before #[Value.ref b] s = true := flat_of_before _ hgv _ (List.mem_of_getElem? (i := 126) (by decide +kernel))
theorem fl_127 {b : Nat} {s : State} (hgv : (Jvm.Cond.and given_1 narrow_1).before #[Value.ref b] s = true) : (Cond.eq (Term.field (Term.string "ForgeSchedulerModel" 135) "java/lang/String" "coder" "B") (Term.int 0)).before #[Value.ref b] s = true := flat_of_before _ hgv _ (List.mem_of_getElem? (i := 127) (by decide +kernel))
theorem fl_128 {b : Nat} {s : State} (hgv : (Jvm.Cond.and given_1 narrow_1).before #[Value.ref b] s = true) : (Cond.arrayOf (Term.field (Term.string "ForgeSchedulerModel" 135) "java/lang/String" "value" "[B") FieldType.byte).before #[Value.ref b] s = true := flat_of_before _ hgv _ (List.mem_of_getElem? (i := 128) (by decide +kernel))
theorem fl_129 {b : Nat} {s : State} (hgv : (Jvm.Cond.and given_1 narrow_1).before #[Value.ref b] s = true) : (Cond.eq (Term.length (Term.field (Term.string "ForgeSchedulerModel" 135) "java/lang/String" "value" "[B")) (Term.int 39)).before #[Value.ref b] s = true := flat_of_before _ hgv _ (List.mem_of_getElem? (i := 129) (by decide +kernel))
theorem fl_130 {b : Nat} {s : State} (hgv : (Jvm.Cond.and given_1 narrow_1).before #[Value.ref b] s = true) : (Cond.eq (Term.elem (Term.field (Term.string "ForgeSchedulerModel" 135) "java/lang/String" "value" "[B") (Term.int 0)) (Term.int 105)).before #[Value.ref b] s = true := flat_of_before _ hgv _ (List.mem_of_getElem? (i := 130) (by decide +kernel))
theorem fl_131 {b : Nat} {s : State} (hgv : (Jvm.Cond.and given_1 narrow_1).before #[Value.ref b] s = true) : (Cond.eq (Term.elem (Term.field (Term.string "ForgeSchedulerModel" 135) "java/lang/String" "value" "[B") (Term.int 1)) (Term.int 114)).before #[Value.ref b] s = true := flat_of_before _ hgv _ (List.mem_of_getElem? (i := 131) (by decide +kernel))
theorem fl_132 {b : Nat} {s : State} (hgv : (Jvm.Cond.and given_1 narrow_1).before #[Value.ref b] s = true) : (Cond.eq (Term.elem (Term.field (Term.string "ForgeSchedulerModel" 135) "java/lang/String" "value" "[B") (Term.int 2)) (Term.int 111)).before #[Value.ref b] s = true := flat_of_before _ hgv _ (List.mem_of_getElem? (i := 132) (by decide +kernel))
theorem fl_133 {b : Nat} {s : State} (hgv : (Jvm.Cond.and given_1 narrow_1).before #[Value.ref b] s = true) : (Cond.eq (Term.elem (Term.field (Term.string "ForgeSchedulerModel" 135) "java/lang/String" "value" "[B") (Term.int 3)) (Term.int 110)).before #[Value.ref b] s = true := flat_of_before _ hgv _ (List.mem_of_getElem? (i := 133) (by decide +kernel))
theorem fl_134 {b : Nat} {s : State} (hgv : (Jvm.Cond.and given_1 narrow_1).before #[Value.ref b] s = true) : (Cond.eq (Term.elem (Term.field (Term.string "ForgeSchedulerModel" 135) "java/lang/String" "value" "[B") (Term.int 4)) (Term.int 32)).before #[Value.ref b] s = true := flat_of_before _ hgv _ (List.mem_of_getElem? (i := 134) (by decide +kernel))
theorem fl_135 {b : Nat} {s : State} (hgv : (Jvm.Cond.and given_1 narrow_1).before #[Value.ref b] s = true) : (Cond.eq (Term.elem (Term.field (Term.string "ForgeSchedulerModel" 135) "java/lang/String" "value" "[B") (Term.int 5)) (Term.int 115)).before #[Value.ref b] s = true := flat_of_before _ hgv _ (List.mem_of_getElem? (i := 135) (by decide +kernel))
theorem fl_136 {b : Nat} {s : State} (hgv : (Jvm.Cond.and given_1 narrow_1).before #[Value.ref b] s = true) : (Cond.eq (Term.elem (Term.field (Term.string "ForgeSchedulerModel" 135) "java/lang/String" "value" "[B") (Term.int 6)) (Term.int 116)).before #[Value.ref b] s = true := flat_of_before _ hgv _ (List.mem_of_getElem? (i := 136) (by decide +kernel))
theorem fl_137 {b : Nat} {s : State} (hgv : (Jvm.Cond.and given_1 narrow_1).before #[Value.ref b] s = true) : (Cond.eq (Term.elem (Term.field (Term.string "ForgeSchedulerModel" 135) "java/lang/String" "value" "[B") (Term.int 7)) (Term.int 101)).before #[Value.ref b] s = true := flat_of_before _ hgv _ (List.mem_of_getElem? (i := 137) (by decide +kernel))
theorem fl_138 {b : Nat} {s : State} (hgv : (Jvm.Cond.and given_1 narrow_1).before #[Value.ref b] s = true) : (Cond.eq (Term.elem (Term.field (Term.string "ForgeSchedulerModel" 135) "java/lang/String" "value" "[B") (Term.int 8)) (Term.int 112)).before #[Value.ref b] s = true := flat_of_before _ hgv _ (List.mem_of_getElem? (i := 138) (by decide +kernel))
theorem fl_139 {b : Nat} {s : State} (hgv : (Jvm.Cond.and given_1 narrow_1).before #[Value.ref b] s = true) : (Cond.eq (Term.elem (Term.field (Term.string "ForgeSchedulerModel" 135) "java/lang/String" "value" "[B") (Term.int 9)) (Term.int 32)).before #[Value.ref b] s = true := flat_of_before _ hgv _ (List.mem_of_getElem? (i := 139) (by decide +kernel))
theorem fl_140 {b : Nat} {s : State} (hgv : (Jvm.Cond.and given_1 narrow_1).before #[Value.ref b] s = true) : (Cond.eq (Term.elem (Term.field (Term.string "ForgeSchedulerModel" 135) "java/lang/String" "value" "[B") (Term.int 10)) (Term.int 112)).before #[Value.ref b] s = true := flat_of_before _ hgv _ (List.mem_of_getElem? (i := 140) (by decide +kernel))
theorem fl_141 {b : Nat} {s : State} (hgv : (Jvm.Cond.and given_1 narrow_1).before #[Value.ref b] s = true) : (Cond.eq (Term.elem (Term.field (Term.string "ForgeSchedulerModel" 135) "java/lang/String" "value" "[B") (Term.int 11)) (Term.int 108)).before #[Value.ref b] s = true := flat_of_before _ hgv _ (List.mem_of_getElem? (i := 141) (by decide +kernel))
theorem fl_142 {b : Nat} {s : State} (hgv : (Jvm.Cond.and given_1 narrow_1).before #[Value.ref b] s = true) : (Cond.eq (Term.elem (Term.field (Term.string "ForgeSchedulerModel" 135) "java/lang/String" "value" "[B") (Term.int 12)) (Term.int 97)).before #[Value.ref b] s = true := flat_of_before _ hgv _ (List.mem_of_getElem? (i := 142) (by decide +kernel))
theorem fl_143 {b : Nat} {s : State} (hgv : (Jvm.Cond.and given_1 narrow_1).before #[Value.ref b] s = true) : (Cond.eq (Term.elem (Term.field (Term.string "ForgeSchedulerModel" 135) "java/lang/String" "value" "[B") (Term.int 13)) (Term.int 99)).before #[Value.ref b] s = true := flat_of_before _ hgv _ (List.mem_of_getElem? (i := 143) (by decide +kernel))
theorem fl_144 {b : Nat} {s : State} (hgv : (Jvm.Cond.and given_1 narrow_1).before #[Value.ref b] s = true) : (Cond.eq (Term.elem (Term.field (Term.string "ForgeSchedulerModel" 135) "java/lang/String" "value" "[B") (Term.int 14)) (Term.int 101)).before #[Value.ref b] s = true := flat_of_before _ hgv _ (List.mem_of_getElem? (i := 144) (by decide +kernel))
theorem fl_145 {b : Nat} {s : State} (hgv : (Jvm.Cond.and given_1 narrow_1).before #[Value.ref b] s = true) : (Cond.eq (Term.elem (Term.field (Term.string "ForgeSchedulerModel" 135) "java/lang/String" "value" "[B") (Term.int 15)) (Term.int 32)).before #[Value.ref b] s = true := flat_of_before _ hgv _ (List.mem_of_getElem? (i := 145) (by decide +kernel))
theorem fl_146 {b : Nat} {s : State} (hgv : (Jvm.Cond.and given_1 narrow_1).before #[Value.ref b] s = true) : (Cond.eq (Term.elem (Term.field (Term.string "ForgeSchedulerModel" 135) "java/lang/String" "value" "[B") (Term.int 16)) (Term.int 115)).before #[Value.ref b] s = true := flat_of_before _ hgv _ (List.mem_of_getElem? (i := 146) (by decide +kernel))
theorem fl_147 {b : Nat} {s : State} (hgv : (Jvm.Cond.and given_1 narrow_1).before #[Value.ref b] s = true) : (Cond.eq (Term.elem (Term.field (Term.string "ForgeSchedulerModel" 135) "java/lang/String" "value" "[B") (Term.int 17)) (Term.int 101)).before #[Value.ref b] s = true := flat_of_before _ hgv _ (List.mem_of_getElem? (i := 147) (by decide +kernel))
theorem fl_148 {b : Nat} {s : State} (hgv : (Jvm.Cond.and given_1 narrow_1).before #[Value.ref b] s = true) : (Cond.eq (Term.elem (Term.field (Term.string "ForgeSchedulerModel" 135) "java/lang/String" "value" "[B") (Term.int 18)) (Term.int 116)).before #[Value.ref b] s = true := flat_of_before _ hgv _ (List.mem_of_getElem? (i := 148) (by decide +kernel))
theorem fl_149 {b : Nat} {s : State} (hgv : (Jvm.Cond.and given_1 narrow_1).before #[Value.ref b] s = true) : (Cond.eq (Term.elem (Term.field (Term.string "ForgeSchedulerModel" 135) "java/lang/String" "value" "[B") (Term.int 19)) (Term.int 32)).before #[Value.ref b] s = true := flat_of_before _ hgv _ (List.mem_of_getElem? (i := 149) (by decide +kernel))
theorem fl_150 {b : Nat} {s : State} (hgv : (Jvm.Cond.and given_1 narrow_1).before #[Value.ref b] s = true) : (Cond.eq (Term.elem (Term.field (Term.string "ForgeSchedulerModel" 135) "java/lang/String" "value" "[B") (Term.int 20)) (Term.int 97)).before #[Value.ref b] s = true := flat_of_before _ hgv _ (List.mem_of_getElem? (i := 150) (by decide +kernel))
theorem fl_151 {b : Nat} {s : State} (hgv : (Jvm.Cond.and given_1 narrow_1).before #[Value.ref b] s = true) : (Cond.eq (Term.elem (Term.field (Term.string "ForgeSchedulerModel" 135) "java/lang/String" "value" "[B") (Term.int 21)) (Term.int 110)).before #[Value.ref b] s = true := flat_of_before _ hgv _ (List.mem_of_getElem? (i := 151) (by decide +kernel))
theorem fl_152 {b : Nat} {s : State} (hgv : (Jvm.Cond.and given_1 narrow_1).before #[Value.ref b] s = true) : (Cond.eq (Term.elem (Term.field (Term.string "ForgeSchedulerModel" 135) "java/lang/String" "value" "[B") (Term.int 22)) (Term.int 118)).before #[Value.ref b] s = true := flat_of_before _ hgv _ (List.mem_of_getElem? (i := 152) (by decide +kernel))
theorem fl_153 {b : Nat} {s : State} (hgv : (Jvm.Cond.and given_1 narrow_1).before #[Value.ref b] s = true) : (Cond.eq (Term.elem (Term.field (Term.string "ForgeSchedulerModel" 135) "java/lang/String" "value" "[B") (Term.int 23)) (Term.int 105)).before #[Value.ref b] s = true := flat_of_before _ hgv _ (List.mem_of_getElem? (i := 153) (by decide +kernel))
theorem fl_154 {b : Nat} {s : State} (hgv : (Jvm.Cond.and given_1 narrow_1).before #[Value.ref b] s = true) : (Cond.eq (Term.elem (Term.field (Term.string "ForgeSchedulerModel" 135) "java/lang/String" "value" "[B") (Term.int 24)) (Term.int 108)).before #[Value.ref b] s = true := flat_of_before _ hgv _ (List.mem_of_getElem? (i := 154) (by decide +kernel))
theorem fl_155 {b : Nat} {s : State} (hgv : (Jvm.Cond.and given_1 narrow_1).before #[Value.ref b] s = true) : (Cond.eq (Term.elem (Term.field (Term.string "ForgeSchedulerModel" 135) "java/lang/String" "value" "[B") (Term.int 25)) (Term.int 115)).before #[Value.ref b] s = true := flat_of_before _ hgv _ (List.mem_of_getElem? (i := 155) (by decide +kernel))
theorem fl_156 {b : Nat} {s : State} (hgv : (Jvm.Cond.and given_1 narrow_1).before #[Value.ref b] s = true) : (Cond.eq (Term.elem (Term.field (Term.string "ForgeSchedulerModel" 135) "java/lang/String" "value" "[B") (Term.int 26)) (Term.int 32)).before #[Value.ref b] s = true := flat_of_before _ hgv _ (List.mem_of_getElem? (i := 156) (by decide +kernel))
theorem fl_157 {b : Nat} {s : State} (hgv : (Jvm.Cond.and given_1 narrow_1).before #[Value.ref b] s = true) : (Cond.eq (Term.elem (Term.field (Term.string "ForgeSchedulerModel" 135) "java/lang/String" "value" "[B") (Term.int 27)) (Term.int 109)).before #[Value.ref b] s = true := flat_of_before _ hgv _ (List.mem_of_getElem? (i := 157) (by decide +kernel))
theorem fl_158 {b : Nat} {s : State} (hgv : (Jvm.Cond.and given_1 narrow_1).before #[Value.ref b] s = true) : (Cond.eq (Term.elem (Term.field (Term.string "ForgeSchedulerModel" 135) "java/lang/String" "value" "[B") (Term.int 28)) (Term.int 97)).before #[Value.ref b] s = true := flat_of_before _ hgv _ (List.mem_of_getElem? (i := 158) (by decide +kernel))
theorem fl_159 {b : Nat} {s : State} (hgv : (Jvm.Cond.and given_1 narrow_1).before #[Value.ref b] s = true) : (Cond.eq (Term.elem (Term.field (Term.string "ForgeSchedulerModel" 135) "java/lang/String" "value" "[B") (Term.int 29)) (Term.int 114)).before #[Value.ref b] s = true := flat_of_before _ hgv _ (List.mem_of_getElem? (i := 159) (by decide +kernel))
theorem fl_160 {b : Nat} {s : State} (hgv : (Jvm.Cond.and given_1 narrow_1).before #[Value.ref b] s = true) : (Cond.eq (Term.elem (Term.field (Term.string "ForgeSchedulerModel" 135) "java/lang/String" "value" "[B") (Term.int 30)) (Term.int 103)).before #[Value.ref b] s = true := flat_of_before _ hgv _ (List.mem_of_getElem? (i := 160) (by decide +kernel))
theorem fl_161 {b : Nat} {s : State} (hgv : (Jvm.Cond.and given_1 narrow_1).before #[Value.ref b] s = true) : (Cond.eq (Term.elem (Term.field (Term.string "ForgeSchedulerModel" 135) "java/lang/String" "value" "[B") (Term.int 31)) (Term.int 105)).before #[Value.ref b] s = true := flat_of_before _ hgv _ (List.mem_of_getElem? (i := 161) (by decide +kernel))
theorem fl_162 {b : Nat} {s : State} (hgv : (Jvm.Cond.and given_1 narrow_1).before #[Value.ref b] s = true) : (Cond.eq (Term.elem (Term.field (Term.string "ForgeSchedulerModel" 135) "java/lang/String" "value" "[B") (Term.int 32)) (Term.int 110)).before #[Value.ref b] s = true := flat_of_before _ hgv _ (List.mem_of_getElem? (i := 162) (by decide +kernel))
theorem fl_163 {b : Nat} {s : State} (hgv : (Jvm.Cond.and given_1 narrow_1).before #[Value.ref b] s = true) : (Cond.eq (Term.elem (Term.field (Term.string "ForgeSchedulerModel" 135) "java/lang/String" "value" "[B") (Term.int 33)) (Term.int 32)).before #[Value.ref b] s = true := flat_of_before _ hgv _ (List.mem_of_getElem? (i := 163) (by decide +kernel))
theorem fl_164 {b : Nat} {s : State} (hgv : (Jvm.Cond.and given_1 narrow_1).before #[Value.ref b] s = true) : (Cond.eq (Term.elem (Term.field (Term.string "ForgeSchedulerModel" 135) "java/lang/String" "value" "[B") (Term.int 34)) (Term.int 114)).before #[Value.ref b] s = true := flat_of_before _ hgv _ (List.mem_of_getElem? (i := 164) (by decide +kernel))
theorem fl_165 {b : Nat} {s : State} (hgv : (Jvm.Cond.and given_1 narrow_1).before #[Value.ref b] s = true) : (Cond.eq (Term.elem (Term.field (Term.string "ForgeSchedulerModel" 135) "java/lang/String" "value" "[B") (Term.int 35)) (Term.int 117)).before #[Value.ref b] s = true := flat_of_before _ hgv _ (List.mem_of_getElem? (i := 165) (by decide +kernel))
theorem fl_166 {b : Nat} {s : State} (hgv : (Jvm.Cond.and given_1 narrow_1).before #[Value.ref b] s = true) : (Cond.eq (Term.elem (Term.field (Term.string "ForgeSchedulerModel" 135) "java/lang/String" "value" "[B") (Term.int 36)) (Term.int 108)).before #[Value.ref b] s = true := flat_of_before _ hgv _ (List.mem_of_getElem? (i := 166) (by decide +kernel))
theorem fl_167 {b : Nat} {s : State} (hgv : (Jvm.Cond.and given_1 narrow_1).before #[Value.ref b] s = true) : (Cond.eq (Term.elem (Term.field (Term.string "ForgeSchedulerModel" 135) "java/lang/String" "value" "[B") (Term.int 37)) (Term.int 101)).before #[Value.ref b] s = true := flat_of_before _ hgv _ (List.mem_of_getElem? (i := 167) (by decide +kernel))
theorem fl_168 {b : Nat} {s : State} (hgv : (Jvm.Cond.and given_1 narrow_1).before #[Value.ref b] s = true) : (Cond.eq (Term.elem (Term.field (Term.string "ForgeSchedulerModel" 135) "java/lang/String" "value" "[B") (Term.int 38)) (Term.int 32)).before #[Value.ref b] s = true := flat_of_before _ hgv _ (List.mem_of_getElem? (i := 168) (by decide +kernel))
theorem tb_n1 : Cond.fieldLinkNest "ForgeScheduler$Forge" 42 "ForgeScheduler" "INITIAL_SETTING" "[I" "ForgeScheduler" ∈ lw_tbl := List.mem_of_getElem? (i := 119) (by decide +kernel)
theorem tb_n2 : Cond.fieldLinkNest "ForgeScheduler$Reader" 122 "ForgeScheduler" "LEAST_SETTING" "[I" "ForgeScheduler" ∈ lw_tbl := List.mem_of_getElem? (i := 486) (by decide +kernel)
theorem tb_n3 : Cond.fieldLinkNest "ForgeScheduler$Reader" 125 "ForgeScheduler" "MOST_SETTING" "[I" "ForgeScheduler" ∈ lw_tbl := List.mem_of_getElem? (i := 488) (by decide +kernel)
theorem tb_n4 : Cond.methodLinkNest "ForgeScheduler$Reader" 134 ⟨"ForgeScheduler", "isWithin", "(III)Z"⟩ "ForgeScheduler" ∈ lw_tbl := List.mem_of_getElem? (i := 418) (by decide +kernel)
theorem tb_n5 : Cond.methodLinkNest "ForgeScheduler" 18 ⟨"ForgeScheduler$Changes", "<init>", "()V"⟩ "ForgeScheduler" ∈ lw_tbl := List.mem_of_getElem? (i := 192) (by decide +kernel)
theorem tb_n6 : Cond.methodLinkNest "ForgeScheduler" 25 ⟨"ForgeScheduler$Reader", "<init>", "()V"⟩ "ForgeScheduler" ∈ lw_tbl := List.mem_of_getElem? (i := 211) (by decide +kernel)
theorem tb_n7 : Cond.methodLinkNest "ForgeScheduler" 41 ⟨"ForgeScheduler$BestOrder", "<init>", "()V"⟩ "ForgeScheduler" ∈ lw_tbl := List.mem_of_getElem? (i := 333) (by decide +kernel)
theorem tb_n8 : Cond.castable "java/lang/IndexOutOfBoundsException" "java/lang/IndexOutOfBoundsException" ∈ lw_tbl := List.mem_of_getElem? (i := 827) (by decide +kernel)
theorem tb_n9 : Cond.declares ⟨"java/lang/RuntimeException", "<init>", "(Ljava/lang/String;)V"⟩ ∈ lw_tbl := List.mem_of_getElem? (i := 829) (by decide +kernel)
theorem tb_n10 : Cond.declares ⟨"java/lang/Exception", "<init>", "(Ljava/lang/String;)V"⟩ ∈ lw_tbl := List.mem_of_getElem? (i := 831) (by decide +kernel)
theorem tb_n11 : Cond.declares ⟨"java/lang/Throwable", "<init>", "(Ljava/lang/String;)V"⟩ ∈ lw_tbl := List.mem_of_getElem? (i := 833) (by decide +kernel)
theorem tb_ao : Cond.arrayOver (.object "ForgeScheduler$Forge") ∈ lw_tbl := List.mem_of_getElem? (i := 197) (by decide +kernel)
theorem tb_s0 : Cond.laysStatic "ForgeScheduler" "LEAST_SETTING" "[I" ∈ lw_tbl := List.mem_of_getElem? (i := 487) (by decide +kernel)
theorem tb_s1 : Cond.laysStatic "ForgeScheduler" "MOST_SETTING" "[I" ∈ lw_tbl := List.mem_of_getElem? (i := 489) (by decide +kernel)
theorem tb_s2 : Cond.laysStatic "ForgeScheduler" "INITIAL_SETTING" "[I" ∈ lw_tbl := List.mem_of_getElem? (i := 120) (by decide +kernel)
theorem tb_us : Cond.laysStatic "java/lang/Throwable" "UNASSIGNED_STACK" "[Ljava/lang/StackTraceElement;" ∈ lw_tbl := List.mem_of_getElem? (i := 852) (by decide +kernel)
theorem tb_ss : Cond.laysStatic "java/lang/Throwable" "SUPPRESSED_SENTINEL" "Ljava/util/List;" ∈ lw_tbl := List.mem_of_getElem? (i := 854) (by decide +kernel)
theorem tb_cs : Cond.laysStatic "java/lang/String" "COMPACT_STRINGS" "Z" ∈ lw_tbl := List.mem_of_getElem? (i := 1338) (by decide +kernel)
theorem tb_sf : Cond.laysStatic "jdk/internal/util/Preconditions" "SIOOBE_FORMATTER" "Ljava/util/function/BiFunction;" ∈ lw_tbl := List.mem_of_getElem? (i := 1354) (by decide +kernel)
theorem tb_it : Cond.initialized "java/lang/Throwable" ∈ lw_tbl := List.mem_of_getElem? (i := 101) (by decide +kernel)
theorem tb_iX : Cond.initialized "ForgeScheduler" ∈ lw_tbl := List.mem_of_getElem? (i := 87) (by decide +kernel)
theorem tb_r285 : Cond.stringRef "ForgeScheduler" 285 "no such iron or position" ∈ lw_tbl := List.mem_of_getElem? (i := 864) (by decide +kernel)
theorem tb_r290 : Cond.stringRef "ForgeScheduler" 290 "no such step" ∈ lw_tbl := List.mem_of_getElem? (i := 915) (by decide +kernel)
theorem tb_r292 : Cond.stringRef "ForgeScheduler" 292 "no such fire place" ∈ lw_tbl := List.mem_of_getElem? (i := 942) (by decide +kernel)
theorem tb_r294 : Cond.stringRef "ForgeScheduler" 294 "no such anvil" ∈ lw_tbl := List.mem_of_getElem? (i := 1041) (by decide +kernel)
theorem tb_r135 : Cond.stringRef "ForgeSchedulerModel" 135 "iron step place set anvils margin rule " ∈ lw_tbl := List.mem_of_getElem? (i := 1328) (by decide +kernel)
theorem tb_al : Cond.arrayClass .long ∈ lw_tbl := List.mem_of_getElem? (i := 1770) (by decide +kernel)
theorem tb_inX0 : Cond.instantiable "ForgeScheduler$BestOrder" 3 ∈ lw_tbl := List.mem_of_getElem? (i := 332) (by decide +kernel)
theorem tb_inX1 : Cond.instantiable "ForgeScheduler$Changes" 3 ∈ lw_tbl := List.mem_of_getElem? (i := 191) (by decide +kernel)
theorem tb_inX2 : Cond.instantiable "ForgeScheduler$Forge" 12 ∈ lw_tbl := List.mem_of_getElem? (i := 114) (by decide +kernel)
theorem tb_inX3 : Cond.instantiable "ForgeScheduler$Log" 5 ∈ lw_tbl := List.mem_of_getElem? (i := 257) (by decide +kernel)
theorem tb_inX4 : Cond.instantiable "ForgeScheduler$Reader" 11 ∈ lw_tbl := List.mem_of_getElem? (i := 210) (by decide +kernel)
theorem tb_inX5 : Cond.instantiable "ForgeScheduler$Run" 13 ∈ lw_tbl := List.mem_of_getElem? (i := 263) (by decide +kernel)
theorem tb_inX6 : Cond.instantiable "ForgeScheduler" 9 ∈ lw_tbl := List.mem_of_getElem? (i := 106) (by decide +kernel)
theorem tb_inX7 : Cond.instantiable "ForgeSchedulerModel" 42 ∈ lw_tbl := List.mem_of_getElem? (i := 1161) (by decide +kernel)
theorem el7 {b : Nat} {s : State} (hgv : (Jvm.Cond.and given_1 narrow_1).before #[Value.ref b] s = true) : ∀ j : Nat, j < 39 → (Cond.eq (Term.elem (Term.field (Term.string "ForgeSchedulerModel" 135) "java/lang/String" "value" "[B") (Term.int (Int32.ofNat j))) (Term.int (wby.getD j 0))).before #[Value.ref b] s = true
  | 0, _ => fl_130 hgv
  | 1, _ => fl_131 hgv
  | 2, _ => fl_132 hgv
  | 3, _ => fl_133 hgv
  | 4, _ => fl_134 hgv
  | 5, _ => fl_135 hgv
  | 6, _ => fl_136 hgv
  | 7, _ => fl_137 hgv
  | 8, _ => fl_138 hgv
  | 9, _ => fl_139 hgv
  | 10, _ => fl_140 hgv
  | 11, _ => fl_141 hgv
  | 12, _ => fl_142 hgv
  | 13, _ => fl_143 hgv
  | 14, _ => fl_144 hgv
  | 15, _ => fl_145 hgv
  | 16, _ => fl_146 hgv
  | 17, _ => fl_147 hgv
  | 18, _ => fl_148 hgv
  | 19, _ => fl_149 hgv
  | 20, _ => fl_150 hgv
  | 21, _ => fl_151 hgv
  | 22, _ => fl_152 hgv
  | 23, _ => fl_153 hgv
  | 24, _ => fl_154 hgv
  | 25, _ => fl_155 hgv
  | 26, _ => fl_156 hgv
  | 27, _ => fl_157 hgv
  | 28, _ => fl_158 hgv
  | 29, _ => fl_159 hgv
  | 30, _ => fl_160 hgv
  | 31, _ => fl_161 hgv
  | 32, _ => fl_162 hgv
  | 33, _ => fl_163 hgv
  | 34, _ => fl_164 hgv
  | 35, _ => fl_165 hgv
  | 36, _ => fl_166 hgv
  | 37, _ => fl_167 hgv
  | 38, _ => fl_168 hgv
  | j + 39, h => absurd h (by omega)
theorem start_sta {b : Nat} {s : State} (hts : ∀ w ∈ lw_tbl, w.before #[Value.ref b] s = true) (hgv : (Jvm.Cond.and given_1 narrow_1).before #[Value.ref b] s = true) : ∃ ts : Nat → Nat, Sta ts (fun q => s.heap.size ≤ q) s := by
  have hA : ∀ a : Nat, a < s.heap.size → ¬ (fun q => s.heap.size ≤ q) a := fun a h h2 => by have : s.heap.size ≤ a := h2; omega
  obtain ⟨t0, e0, T0⟩ := va_Tof (A := fun q => s.heap.size ≤ q) (N := 3) (f := fun j => .int (stv 0 j)) (by decide) (fl_11 hgv) (va_eqt (fl_12 hgv)) (fun j hj => by
    rcases (show j = 0 ∨ j = 1 ∨ j = 2 by omega) with rfl | rfl | rfl
    · exact va_eqt (fl_13 hgv)
    · exact va_eqt (fl_14 hgv)
    · exact va_eqt (fl_15 hgv)) hA
  obtain ⟨t1, e1, T1⟩ := va_Tof (A := fun q => s.heap.size ≤ q) (N := 3) (f := fun j => .int (stv 1 j)) (by decide) (fl_17 hgv) (va_eqt (fl_18 hgv)) (fun j hj => by
    rcases (show j = 0 ∨ j = 1 ∨ j = 2 by omega) with rfl | rfl | rfl
    · exact va_eqt (fl_19 hgv)
    · exact va_eqt (fl_20 hgv)
    · exact va_eqt (fl_21 hgv)) hA
  obtain ⟨t2, e2, T2⟩ := va_Tof (A := fun q => s.heap.size ≤ q) (N := 3) (f := fun j => .int (stv 2 j)) (by decide) (fl_5 hgv) (va_eqt (fl_6 hgv)) (fun j hj => by
    rcases (show j = 0 ∨ j = 1 ∨ j = 2 by omega) with rfl | rfl | rfl
    · exact va_eqt (fl_7 hgv)
    · exact va_eqt (fl_8 hgv)
    · exact va_eqt (fl_9 hgv)) hA
  obtain ⟨adK, adV, hS, hK⟩ := vk_Sof (A := fun q => s.heap.size ≤ q) (args := #[Value.ref b]) (s := s) (N := 1) (tm := fun _ => Term.string "ForgeSchedulerModel" 135) (len := [39]) (byt := [wby]) (fun i hi => by rw [show i = 0 by omega]; decide) (fun i hi => fl_126 hgv) (fun i hi => fl_127 hgv) (fun i hi => fl_128 hgv) (fun i hi => by rw [show i = 0 by omega]; exact fl_129 hgv) (fun i hi j hj => by
    rw [show i = 0 by omega] at hj ⊢
    exact el7 hgv j hj) (fun i j hi hj h => absurd (by omega : i = j) h) hA
  obtain ⟨s5, -, -, -, q5, -⟩ := Cond.exactly_spec (args := #[Value.ref b]) (first := s) (o := none) (s := s) (idx := []) (t := Term.string "ForgeScheduler" 285) (cls := "java/lang/String") (fl_37 hgv)
  obtain ⟨s6, -, -, -, q6, -⟩ := Cond.exactly_spec (args := #[Value.ref b]) (first := s) (o := none) (s := s) (idx := []) (t := Term.string "ForgeScheduler" 290) (cls := "java/lang/String") (fl_65 hgv)
  obtain ⟨s7, -, -, -, q7, -⟩ := Cond.exactly_spec (args := #[Value.ref b]) (first := s) (o := none) (s := s) (idx := []) (t := Term.string "ForgeScheduler" 292) (cls := "java/lang/String") (fl_82 hgv)
  obtain ⟨s8, -, -, -, q8, -⟩ := Cond.exactly_spec (args := #[Value.ref b]) (first := s) (o := none) (s := s) (idx := []) (t := Term.string "ForgeScheduler" 294) (cls := "java/lang/String") (fl_106 hgv)
  refine ⟨fun k => match k with
    | 0 => t0
    | 1 => t1
    | 2 => t2
    | 3 => adK 0
    | 4 => adV 0
    | 5 => s5
    | 6 => s6
    | 7 => s7
    | _ => s8, fun t ht => ?_, ⟨va_Nw.of rfl (hts _ tb_n1), va_Nw.of rfl (hts _ tb_n2), va_Nw.of rfl (hts _ tb_n3), va_Nw.of rfl (hts _ tb_n4), va_Nw.of rfl (hts _ tb_n5), va_Nw.of rfl (hts _ tb_n6), va_Nw.of rfl (hts _ tb_n7), va_Nw.of rfl (hts _ tb_n8), va_Nw.of rfl (hts _ tb_n9), va_Nw.of rfl (hts _ tb_n10), va_Nw.of rfl (hts _ tb_n11), va_AO.of (hts _ tb_ao)⟩, ?_⟩
  · rcases (show t = 0 ∨ t = 1 ∨ t = 2 by omega) with rfl | rfl | rfl
    · exact ⟨va_Zref (hts _ tb_s0) (hts _ tb_iX) e0 hA, T0⟩
    · exact ⟨va_Zref (hts _ tb_s1) (hts _ tb_iX) e1 hA, T1⟩
    · exact ⟨va_Zref (hts _ tb_s2) (hts _ tb_iX) e2 hA, T2⟩
  · refine ⟨vk_R.of (hts _ tb_r135) (hK 0 (by decide)), ?_, vk_R.of (hts _ tb_r285) q5, vk_R.of (hts _ tb_r290) q6, vk_R.of (hts _ tb_r292) q7, vk_R.of (hts _ tb_r294) q8, vx_Zqof (hts _ tb_us) (hts _ tb_it) (fl_22 hgv) hA, vx_Zqof (hts _ tb_ss) (hts _ tb_it) (fl_23 hgv) hA, va_Zof (hts _ tb_cs) (hts _ (List.mem_filter.mp wj_iS).1) (va_eqt (fl_24 hgv)) hA, va_Zqof (hts _ tb_sf) (hts _ (List.mem_filter.mp wj_iP).1) (fl_25 hgv) hA⟩
    refine ⟨fun i hi => ?_, fun i j hi hj _ => by omega⟩
    rw [show i = 0 by omega]
    exact hS.1 0 (by decide)
theorem start_arr {b : Nat} {s : State} {ty : FieldType} (h : (Cond.arrayClass ty).before #[Value.ref b] s = true) (hobj : ∀ C, ty ≠ .object C) : ∃ z : ClassId, ArrOfT s z ty ∧ va_RA s z ty := by
  obtain ⟨c, k, comp, h1, h2, h3⟩ := Cond.arrayClass_spec h
  refine ⟨c, fun N z => ⟨(fun k h => by cases h), k, h2, comp, h3⟩, ?_⟩
  cases ty with
  | object C => exact absurd rfl (hobj C)
  | _ => exact h1
theorem start_K {b : Nat} {s : State} (hts : ∀ w ∈ lw_tbl, w.before #[Value.ref b] s = true) : ∃ (D : va_G) (z : Nat → ClassId), va_K D vwCl (tyl z) s := by
  have htg : ∀ w ∈ gtb, w.before #[Value.ref b] s = true := fun w hw => hts w (List.mem_filter.mp hw).1
  obtain ⟨c0, i0, k0⟩ := u_known (C := RX0) (T := TX0) (N := 3) (n := 3) htg inGX0 (hts _ tb_inX0)
  obtain ⟨c1, i1, k1⟩ := u_known (C := RX1) (T := TX1) (N := 3) (n := 3) htg inGX1 (hts _ tb_inX1)
  obtain ⟨c2, i2, k2⟩ := u_known (C := RX2) (T := TX2) (N := 12) (n := 12) htg inGX2 (hts _ tb_inX2)
  obtain ⟨c3, i3, k3⟩ := u_known (C := RX3) (T := TX3) (N := 5) (n := 5) htg inGX3 (hts _ tb_inX3)
  obtain ⟨c4, i4, k4⟩ := u_known (C := RX4) (T := TX4) (N := 11) (n := 11) htg inGX4 (hts _ tb_inX4)
  obtain ⟨c5, i5, k5⟩ := u_known (C := RX5) (T := TX5) (N := 13) (n := 13) htg inGX5 (hts _ tb_inX5)
  obtain ⟨c6, i6, k6⟩ := u_known (C := RX6) (T := TX6) (N := 9) (n := 9) htg inGX6 (hts _ tb_inX6)
  obtain ⟨c7, i7, k7⟩ := u_known (C := RX7) (T := TX7) (N := 42) (n := 42) htg inGX7 (hts _ tb_inX7)
  obtain ⟨comp, z4, kz, h41, h42, h43, h44, h45⟩ := Cond.arrayOver_spec (hts _ tb_ao)
  obtain ⟨z0, a0⟩ := start_arr (ty := .int) (hts _ (List.mem_filter.mp wn_int).1) (fun C h => by cases h)
  obtain ⟨z1, a1⟩ := start_arr (ty := .byte) (hts _ (List.mem_filter.mp wn_byte).1) (fun C h => by cases h)
  obtain ⟨z2, a2⟩ := start_arr (ty := .boolean) (hts _ (List.mem_filter.mp wn_bool).1) (fun C h => by cases h)
  obtain ⟨z3, a3⟩ := start_arr (ty := .long) (hts _ tb_al) (fun C h => by cases h)
  refine ⟨(fun k => if k = 0 then c0 else if k = 1 then c1 else if k = 2 then c2 else if k = 3 then c3 else if k = 4 then c4 else if k = 5 then c5 else if k = 6 then c6 else c7, fun k => if k = 0 then i0 else if k = 1 then i1 else if k = 2 then i2 else if k = 3 then i3 else if k = 4 then i4 else if k = 5 then i5 else if k = 6 then i6 else i7), fun k => if k = 0 then z0 else if k = 1 then z1 else if k = 2 then z2 else if k = 3 then z3 else z4, ?_, ?_⟩
  · intro k q hq
    match k, hq with
    | 0, hq => cases hq; exact k0
    | 1, hq => cases hq; exact k1
    | 2, hq => cases hq; exact k2
    | 3, hq => cases hq; exact k3
    | 4, hq => cases hq; exact k4
    | 5, hq => cases hq; exact k5
    | 6, hq => cases hq; exact k6
    | 7, hq => cases hq; exact k7
    | k + 8, hq => simp [vwCl] at hq
  · intro k q hq
    match k, hq with
    | 0, hq => cases hq; exact a0
    | 1, hq => cases hq; exact a1
    | 2, hq => cases hq; exact a2
    | 3, hq => cases hq; exact a3
    | 4, hq =>
      cases hq
      exact ⟨fun N z => ⟨(fun k h => by cases h), kz, h43, comp, h44⟩, kz, comp, h43, h44, h41, h45⟩
    | k + 5, hq => simp [tyl] at hq
