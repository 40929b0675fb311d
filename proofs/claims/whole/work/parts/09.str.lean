/-! the written words of the reference: a text of 39 signs -/
def wch (j : Nat) : Int32 := wby.getD j 0
def s_ls (pc' : Nat) : Sst := fun k lv st σ => k pc' lv (.inr (.inr 3) :: st) σ
def s_ln (pc' : Nat) : Sst := fun k lv st σ => match st with
  | .inr (.inr 3) :: r => cond (Nat.ble r.length 8) (k pc' lv (.inl 39 :: r) σ) none
  | _ => none
def s_ch (pc' : Nat) : Sst := fun k lv st σ => match st with
  | .inl i :: .inr (.inr 3) :: r => if inb i 39 = true then cond (Nat.ble r.length 8) (k pc' lv (.inl (wch i.toNatClampNeg) :: r) σ) none else none
  | _ => none
theorem wj_iS : Cond.initialized "java/lang/String" ∈ gtb := List.mem_filter.mpr ⟨List.mem_of_getElem? (i := 97) (by decide +kernel), rfl⟩
theorem wj_iL : Cond.initialized "java/lang/StringLatin1" ∈ gtb := List.mem_filter.mpr ⟨List.mem_of_getElem? (i := 98) (by decide +kernel), rfl⟩
theorem wj_iP : Cond.initialized "jdk/internal/util/Preconditions" ∈ gtb := List.mem_filter.mpr ⟨List.mem_of_getElem? (i := 99) (by decide +kernel), rfl⟩
theorem wj_c_len : Cond.code ⟨"java/lang/String", "length", "()I"⟩ prog_14_method_54_code 1 (some .int) ∈ gtb := List.mem_filter.mpr ⟨List.mem_of_getElem? (i := 1332) (by decide +kernel), rfl⟩
theorem wj_n_len : Cond.instanceMethod ⟨"java/lang/String", "length", "()I"⟩ ∈ gtb := List.mem_filter.mpr ⟨List.mem_of_getElem? (i := 1330) (by decide +kernel), rfl⟩
theorem wj_s_len : Cond.selects "java/lang/String" ⟨"java/lang/String", "length", "()I"⟩ ⟨"java/lang/String", "length", "()I"⟩ ∈ gtb := List.mem_filter.mpr ⟨List.mem_of_getElem? (i := 1331) (by decide +kernel), rfl⟩
theorem wj_c_cod : Cond.code ⟨"java/lang/String", "coder", "()B"⟩ prog_14_method_152_code 1 (some .byte) ∈ gtb := List.mem_filter.mpr ⟨List.mem_of_getElem? (i := 1336) (by decide +kernel), rfl⟩
theorem wj_n_cod : Cond.instanceMethod ⟨"java/lang/String", "coder", "()B"⟩ ∈ gtb := List.mem_filter.mpr ⟨List.mem_of_getElem? (i := 1334) (by decide +kernel), rfl⟩
theorem wj_s_cod : Cond.selects "java/lang/String" ⟨"java/lang/String", "coder", "()B"⟩ ⟨"java/lang/String", "coder", "()B"⟩ ∈ gtb := List.mem_filter.mpr ⟨List.mem_of_getElem? (i := 1335) (by decide +kernel), rfl⟩
theorem wj_c_cha : Cond.code ⟨"java/lang/String", "charAt", "(I)C"⟩ prog_14_method_56_code 2 (some .char) ∈ gtb := List.mem_filter.mpr ⟨List.mem_of_getElem? (i := 1342) (by decide +kernel), rfl⟩
theorem wj_n_cha : Cond.instanceMethod ⟨"java/lang/String", "charAt", "(I)C"⟩ ∈ gtb := List.mem_filter.mpr ⟨List.mem_of_getElem? (i := 1340) (by decide +kernel), rfl⟩
theorem wj_s_cha : Cond.selects "java/lang/String" ⟨"java/lang/String", "charAt", "(I)C"⟩ ⟨"java/lang/String", "charAt", "(I)C"⟩ ∈ gtb := List.mem_filter.mpr ⟨List.mem_of_getElem? (i := 1341) (by decide +kernel), rfl⟩
theorem wj_c_lat : Cond.code ⟨"java/lang/String", "isLatin1", "()Z"⟩ prog_14_method_154_code 1 (some .boolean) ∈ gtb := List.mem_filter.mpr ⟨List.mem_of_getElem? (i := 1346) (by decide +kernel), rfl⟩
theorem wj_n_lat : Cond.instanceMethod ⟨"java/lang/String", "isLatin1", "()Z"⟩ ∈ gtb := List.mem_filter.mpr ⟨List.mem_of_getElem? (i := 1344) (by decide +kernel), rfl⟩
theorem wj_s_lat : Cond.selects "java/lang/String" ⟨"java/lang/String", "isLatin1", "()Z"⟩ ⟨"java/lang/String", "isLatin1", "()Z"⟩ ∈ gtb := List.mem_filter.mpr ⟨List.mem_of_getElem? (i := 1345) (by decide +kernel), rfl⟩
theorem wj_c_ch1 : Cond.code ⟨"java/lang/StringLatin1", "charAt", "([BI)C"⟩ prog_15_method_2_code 2 (some .char) ∈ gtb := List.mem_filter.mpr ⟨List.mem_of_getElem? (i := 1349) (by decide +kernel), rfl⟩
theorem wj_t_ch1 : Cond.static ⟨"java/lang/StringLatin1", "charAt", "([BI)C"⟩ ∈ gtb := List.mem_filter.mpr ⟨List.mem_of_getElem? (i := 1348) (by decide +kernel), rfl⟩
theorem wj_c_ckS : Cond.code ⟨"java/lang/String", "checkIndex", "(II)V"⟩ prog_14_method_155_code 2 none ∈ gtb := List.mem_filter.mpr ⟨List.mem_of_getElem? (i := 1352) (by decide +kernel), rfl⟩
theorem wj_t_ckS : Cond.static ⟨"java/lang/String", "checkIndex", "(II)V"⟩ ∈ gtb := List.mem_filter.mpr ⟨List.mem_of_getElem? (i := 1351) (by decide +kernel), rfl⟩
theorem wj_c_ckP : Cond.code ⟨"jdk/internal/util/Preconditions", "checkIndex", "(IILjava/util/function/BiFunction;)I"⟩ prog_19_method_11_code 3 (some .int) ∈ gtb := List.mem_filter.mpr ⟨List.mem_of_getElem? (i := 1357) (by decide +kernel), rfl⟩
theorem wj_t_ckP : Cond.static ⟨"jdk/internal/util/Preconditions", "checkIndex", "(IILjava/util/function/BiFunction;)I"⟩ ∈ gtb := List.mem_filter.mpr ⟨List.mem_of_getElem? (i := 1356) (by decide +kernel), rfl⟩
theorem wj_l335 : Cond.methodLink "java/lang/String" 335 ⟨"java/lang/String", "coder", "()B"⟩ ∈ gtb := List.mem_filter.mpr ⟨List.mem_of_getElem? (i := 1333) (by decide +kernel), rfl⟩
theorem wj_l492 : Cond.methodLink "java/lang/String" 492 ⟨"java/lang/String", "isLatin1", "()Z"⟩ ∈ gtb := List.mem_filter.mpr ⟨List.mem_of_getElem? (i := 1343) (by decide +kernel), rfl⟩
theorem wj_l495 : Cond.methodLink "java/lang/String" 495 ⟨"java/lang/StringLatin1", "charAt", "([BI)C"⟩ ∈ gtb := List.mem_filter.mpr ⟨List.mem_of_getElem? (i := 1347) (by decide +kernel), rfl⟩
theorem wj_l9 : Cond.methodLink "java/lang/StringLatin1" 9 ⟨"java/lang/String", "checkIndex", "(II)V"⟩ ∈ gtb := List.mem_filter.mpr ⟨List.mem_of_getElem? (i := 1350) (by decide +kernel), rfl⟩
theorem wj_l1059 : Cond.methodLink "java/lang/String" 1059 ⟨"jdk/internal/util/Preconditions", "checkIndex", "(IILjava/util/function/BiFunction;)I"⟩ ∈ gtb := List.mem_filter.mpr ⟨List.mem_of_getElem? (i := 1355) (by decide +kernel), rfl⟩
theorem wj_f38 : Cond.fieldLink "java/lang/String" 38 "java/lang/String" "COMPACT_STRINGS" "Z" ∈ gtb := List.mem_filter.mpr ⟨List.mem_of_getElem? (i := 1337) (by decide +kernel), rfl⟩
theorem wj_f1053 : Cond.fieldLink "java/lang/String" 1053 "jdk/internal/util/Preconditions" "SIOOBE_FORMATTER" "Ljava/util/function/BiFunction;" ∈ gtb := List.mem_filter.mpr ⟨List.mem_of_getElem? (i := 1353) (by decide +kernel), rfl⟩
theorem wj_f9 : Cond.fieldLink "java/lang/String" 9 "java/lang/String" "value" "[B" ∈ gtb := List.mem_filter.mpr ⟨List.mem_of_getElem? (i := 1772) (by decide +kernel), rfl⟩
theorem wj_f15 : Cond.fieldLink "java/lang/String" 15 "java/lang/String" "coder" "B" ∈ gtb := List.mem_filter.mpr ⟨List.mem_of_getElem? (i := 1773) (by decide +kernel), rfl⟩
theorem dJ0_length_8abf5_0 : decode cJ0_length_8abf5 0 = .ok (.aload_n 0, 1) := by decide +kernel
theorem dJ0_length_8abf5_1 : decode cJ0_length_8abf5 1 = .ok (.getfield 9, 3) := by decide +kernel
theorem dJ0_length_8abf5_4 : decode cJ0_length_8abf5 4 = .ok (.arraylength, 1) := by decide +kernel
theorem dJ0_length_8abf5_5 : decode cJ0_length_8abf5 5 = .ok (.aload_n 0, 1) := by decide +kernel
theorem dJ0_length_8abf5_6 : decode cJ0_length_8abf5 6 = .ok (.invokevirtual 335, 3) := by decide +kernel
theorem dJ0_length_8abf5_9 : decode cJ0_length_8abf5 9 = .ok (.ishr, 1) := by decide +kernel
theorem dJ0_length_8abf5_10 : decode cJ0_length_8abf5 10 = .ok (.ireturn, 1) := by decide +kernel
theorem dJ0_charAt_5068e_0 : decode cJ0_charAt_5068e 0 = .ok (.aload_n 0, 1) := by decide +kernel
theorem dJ0_charAt_5068e_1 : decode cJ0_charAt_5068e 1 = .ok (.invokevirtual 492, 3) := by decide +kernel
theorem dJ0_charAt_5068e_4 : decode cJ0_charAt_5068e 4 = .ok (.ifCond .eq 12, 3) := by decide +kernel
theorem dJ0_charAt_5068e_7 : decode cJ0_charAt_5068e 7 = .ok (.aload_n 0, 1) := by decide +kernel
theorem dJ0_charAt_5068e_8 : decode cJ0_charAt_5068e 8 = .ok (.getfield 9, 3) := by decide +kernel
theorem dJ0_charAt_5068e_11 : decode cJ0_charAt_5068e 11 = .ok (.iload_n 1, 1) := by decide +kernel
theorem dJ0_charAt_5068e_12 : decode cJ0_charAt_5068e 12 = .ok (.invokestatic 495, 3) := by decide +kernel
theorem dJ0_charAt_5068e_15 : decode cJ0_charAt_5068e 15 = .ok (.ireturn, 1) := by decide +kernel
theorem dJ0_charAt_5068e_16 : decode cJ0_charAt_5068e 16 = .ok (.aload_n 0, 1) := by decide +kernel
theorem dJ0_charAt_5068e_17 : decode cJ0_charAt_5068e 17 = .ok (.getfield 9, 3) := by decide +kernel
theorem dJ0_charAt_5068e_20 : decode cJ0_charAt_5068e 20 = .ok (.iload_n 1, 1) := by decide +kernel
theorem dJ0_charAt_5068e_21 : decode cJ0_charAt_5068e 21 = .ok (.invokestatic 498, 3) := by decide +kernel
theorem dJ0_charAt_5068e_24 : decode cJ0_charAt_5068e 24 = .ok (.ireturn, 1) := by decide +kernel
theorem dJ0_coder_7d493_0 : decode cJ0_coder_7d493 0 = .ok (.getstatic 38, 3) := by decide +kernel
theorem dJ0_coder_7d493_3 : decode cJ0_coder_7d493 3 = .ok (.ifCond .eq 10, 3) := by decide +kernel
theorem dJ0_coder_7d493_6 : decode cJ0_coder_7d493 6 = .ok (.aload_n 0, 1) := by decide +kernel
theorem dJ0_coder_7d493_7 : decode cJ0_coder_7d493 7 = .ok (.getfield 15, 3) := by decide +kernel
theorem dJ0_coder_7d493_10 : decode cJ0_coder_7d493 10 = .ok (.goto 4, 3) := by decide +kernel
theorem dJ0_coder_7d493_13 : decode cJ0_coder_7d493 13 = .ok (.iconst 1, 1) := by decide +kernel
theorem dJ0_coder_7d493_14 : decode cJ0_coder_7d493 14 = .ok (.ireturn, 1) := by decide +kernel
theorem dJ0_isLatin1_aae02_0 : decode cJ0_isLatin1_aae02 0 = .ok (.getstatic 38, 3) := by decide +kernel
theorem dJ0_isLatin1_aae02_3 : decode cJ0_isLatin1_aae02 3 = .ok (.ifCond .eq 14, 3) := by decide +kernel
theorem dJ0_isLatin1_aae02_6 : decode cJ0_isLatin1_aae02 6 = .ok (.aload_n 0, 1) := by decide +kernel
theorem dJ0_isLatin1_aae02_7 : decode cJ0_isLatin1_aae02 7 = .ok (.getfield 15, 3) := by decide +kernel
theorem dJ0_isLatin1_aae02_10 : decode cJ0_isLatin1_aae02 10 = .ok (.ifCond .ne 7, 3) := by decide +kernel
theorem dJ0_isLatin1_aae02_13 : decode cJ0_isLatin1_aae02 13 = .ok (.iconst 1, 1) := by decide +kernel
theorem dJ0_isLatin1_aae02_14 : decode cJ0_isLatin1_aae02 14 = .ok (.goto 4, 3) := by decide +kernel
theorem dJ0_isLatin1_aae02_17 : decode cJ0_isLatin1_aae02 17 = .ok (.iconst 0, 1) := by decide +kernel
theorem dJ0_isLatin1_aae02_18 : decode cJ0_isLatin1_aae02 18 = .ok (.ireturn, 1) := by decide +kernel
theorem dJ0_checkIndex_df160_0 : decode cJ0_checkIndex_df160 0 = .ok (.iload_n 0, 1) := by decide +kernel
theorem dJ0_checkIndex_df160_1 : decode cJ0_checkIndex_df160 1 = .ok (.iload_n 1, 1) := by decide +kernel
theorem dJ0_checkIndex_df160_2 : decode cJ0_checkIndex_df160 2 = .ok (.getstatic 1053, 3) := by decide +kernel
theorem dJ0_checkIndex_df160_5 : decode cJ0_checkIndex_df160 5 = .ok (.invokestatic 1059, 3) := by decide +kernel
theorem dJ0_checkIndex_df160_8 : decode cJ0_checkIndex_df160 8 = .ok (.pop, 1) := by decide +kernel
theorem dJ0_checkIndex_df160_9 : decode cJ0_checkIndex_df160 9 = .ok (.return_, 1) := by decide +kernel
theorem dJ1_charAt_3b067_0 : decode cJ1_charAt_3b067 0 = .ok (.iload_n 1, 1) := by decide +kernel
theorem dJ1_charAt_3b067_1 : decode cJ1_charAt_3b067 1 = .ok (.aload_n 0, 1) := by decide +kernel
theorem dJ1_charAt_3b067_2 : decode cJ1_charAt_3b067 2 = .ok (.arraylength, 1) := by decide +kernel
theorem dJ1_charAt_3b067_3 : decode cJ1_charAt_3b067 3 = .ok (.invokestatic 9, 3) := by decide +kernel
theorem dJ1_charAt_3b067_6 : decode cJ1_charAt_3b067 6 = .ok (.aload_n 0, 1) := by decide +kernel
theorem dJ1_charAt_3b067_7 : decode cJ1_charAt_3b067 7 = .ok (.iload_n 1, 1) := by decide +kernel
theorem dJ1_charAt_3b067_8 : decode cJ1_charAt_3b067 8 = .ok (.baload, 1) := by decide +kernel
theorem dJ1_charAt_3b067_9 : decode cJ1_charAt_3b067 9 = .ok (.sipush 255, 3) := by decide +kernel
theorem dJ1_charAt_3b067_12 : decode cJ1_charAt_3b067 12 = .ok (.iand, 1) := by decide +kernel
theorem dJ1_charAt_3b067_13 : decode cJ1_charAt_3b067 13 = .ok (.i2c, 1) := by decide +kernel
theorem dJ1_charAt_3b067_14 : decode cJ1_charAt_3b067 14 = .ok (.ireturn, 1) := by decide +kernel
theorem dJ3_checkIndex_8e157_0 : decode cJ3_checkIndex_8e157 0 = .ok (.iload_n 0, 1) := by decide +kernel
theorem dJ3_checkIndex_8e157_1 : decode cJ3_checkIndex_8e157 1 = .ok (.ifCond .lt 8, 3) := by decide +kernel
theorem dJ3_checkIndex_8e157_4 : decode cJ3_checkIndex_8e157 4 = .ok (.iload_n 0, 1) := by decide +kernel
theorem dJ3_checkIndex_8e157_5 : decode cJ3_checkIndex_8e157 5 = .ok (.iload_n 1, 1) := by decide +kernel
theorem dJ3_checkIndex_8e157_6 : decode cJ3_checkIndex_8e157 6 = .ok (.if_icmp .lt 10, 3) := by decide +kernel
theorem dJ3_checkIndex_8e157_9 : decode cJ3_checkIndex_8e157 9 = .ok (.aload_n 2, 1) := by decide +kernel
theorem dJ3_checkIndex_8e157_10 : decode cJ3_checkIndex_8e157 10 = .ok (.iload_n 0, 1) := by decide +kernel
theorem dJ3_checkIndex_8e157_11 : decode cJ3_checkIndex_8e157 11 = .ok (.iload_n 1, 1) := by decide +kernel
theorem dJ3_checkIndex_8e157_12 : decode cJ3_checkIndex_8e157 12 = .ok (.invokestatic 95, 3) := by decide +kernel
theorem dJ3_checkIndex_8e157_15 : decode cJ3_checkIndex_8e157 15 = .ok (.athrow, 1) := by decide +kernel
theorem dJ3_checkIndex_8e157_16 : decode cJ3_checkIndex_8e157 16 = .ok (.iload_n 0, 1) := by decide +kernel
theorem dJ3_checkIndex_8e157_17 : decode cJ3_checkIndex_8e157 17 = .ok (.ireturn, 1) := by decide +kernel
/-! steps of the JDK's own methods over the written words -/
def s_sc (pc' : Nat) : Sst := fun k lv st σ => match st with
  | .inr (.inr 3) :: r => k pc' lv (.inl 0 :: r) σ
  | _ => none
def s_sv (pc' : Nat) : Sst := fun k lv st σ => match st with
  | .inr (.inr 3) :: r => k pc' lv (.inr (.inr 4) :: r) σ
  | _ => none
def s_sl (pc' : Nat) : Sst := fun k lv st σ => match st with
  | .inr (.inr 4) :: r => k pc' lv (.inl 39 :: r) σ
  | _ => none
def s_sb (pc' : Nat) : Sst := fun k lv st σ => match st with
  | .inl i :: .inr (.inr 4) :: r => if inb i 39 = true then k pc' lv (.inl (wch i.toNatClampNeg) :: r) σ else none
  | _ => none
def s_nr (g : Int32 → Int32) : Sst := fun _ _ st σ => match st with
  | [.inl x] => if g x = x then some (some (some (.inl x)), σ) else none
  | _ => none
def s_ck (pc' : Nat) : Sst := fun k lv st σ => match st with
  | .inl n :: .inl i :: r => if st.length ≤ 7 ∧ 0 ≤ i ∧ i < n then k pc' lv (.inl i :: r) σ else none
  | _ => none
def wI (r : Option Ou) (κ : Int32 → Option Ou) : Option Ou := match r with
  | some (some (some (.inl x)), _) => κ x
  | _ => none
def s_cw (pc' n : Nat) (f : List Vv → Mm → Option Ou) : Sst := fun k lv st σ => match (st.take n).reverse with
  | .inr (.inr 3) :: vs => if (st.drop n).length ≤ 8 ∧ vs.length + 1 = n then wI (f (.inr (.inr 3) :: vs) σ) (fun x => k pc' lv (.inl x :: st.drop n) σ) else none
  | _ => none
section STR
variable {l : Launch} {own : String} {cc : ByteArray} {nL dl : Nat} {rt : Option FieldType} {lay : List Shp} {pc pc' : Nat}
theorem Sta.vs {ts : Nat → Nat} {A : Nat → Prop} {z0 : Nat} {s : State} (h : Sta ts (fun q => z0 ≤ q) s) (hA0 : ∀ q, A q → z0 ≤ q) : vk_S 1 [39] [wby] (fun _ => ts 3) (fun _ => ts 4) A s s.heap := h.2.2.2.1.narrow hA0
theorem so_sc {index : Nat} (hlk : Cond.fieldLink own index "java/lang/String" "coder" "B" ∈ gtb) (hdg : decode cc pc = .ok (.getfield index, 3)) (hp : pc + 3 = pc') : So l own cc nL dl rt lay pc (s_sc pc') := by
  subst hp
  intro p e R s m args below meth c D z ts z0 a tl A hF k lv st σ o Q hQ ho h hk H locs ls nc ns hnn hP hS hl
  obtain ⟨hx, hb, hml, hown, hts, hK, hD, hA, hA0, hSt, hF⟩ := hF
  simp only [s_sc] at h
  split at h
  · next r => exact vk_getf hx hb ((hSt.vs hA0).1 0 (by decide)).2.1 hS hown (hts _ hlk) (fun _ h9 => h9) hdg (hk _ _ _ _ h H locs ls nc ns hnn hP hS hl)
  · cases h
theorem so_sva {index : Nat} (hlk : Cond.fieldLink own index "java/lang/String" "value" "[B" ∈ gtb) (hdg : decode cc pc = .ok (.getfield index, 3)) (hp : pc + 3 = pc') : So l own cc nL dl rt lay pc (s_sv pc') := by
  subst hp
  intro p e R s m args below meth c D z ts z0 a tl A hF k lv st σ o Q hQ ho h hk H locs ls nc ns hnn hP hS hl
  obtain ⟨hx, hb, hml, hown, hts, hK, hD, hA, hA0, hSt, hF⟩ := hF
  simp only [s_sv] at h
  split at h
  · next r => exact vk_getf hx hb ((hSt.vs hA0).1 0 (by decide)).2.2.1 hS hown (hts _ hlk) (fun _ h9 => h9) hdg (hk _ _ _ _ h H locs ls nc ns hnn hP hS hl)
  · cases h
theorem so_sl (hdg : decode cc pc = .ok (.arraylength, 1)) (hp : pc + 1 = pc') : So l own cc nL dl rt lay pc (s_sl pc') := by
  subst hp
  intro p e R s m args below meth c D z ts z0 a tl A hF k lv st σ o Q hQ ho h hk H locs ls nc ns hnn hP hS hl
  obtain ⟨hx, hb, hml, hown, hts, hK, hD, hA, hA0, hSt, hF⟩ := hF
  simp only [s_sl] at h
  split at h
  · next r => exact va_tlen hx hb ((hSt.vs hA0).1 0 (by decide)).2.2.2 hS rfl hdg (hk _ _ _ _ h H locs ls nc ns hnn hP hS hl)
  · cases h
theorem so_sb (hdg : decode cc pc = .ok (.baload, 1)) (hp : pc + 1 = pc') : So l own cc nL dl rt lay pc (s_sb pc') := by
  subst hp
  intro p e R s m args below meth c D z ts z0 a tl A hF k lv st σ o Q hQ ho h hk H locs ls nc ns hnn hP hS hl
  obtain ⟨hx, hb, hml, hown, hts, hK, hD, hA, hA0, hSt, hF⟩ := hF
  simp only [s_sb] at h
  split at h
  · next i r =>
    split at h
    · next hi => exact va_tb hx hb ((hSt.vs hA0).1 0 (by decide)).2.2.2 hS (inb_vp hi) (v := .int (wch i.toNatClampNeg)) rfl hdg (hk _ _ _ _ h H locs ls nc ns hnn hP hS hl)
    · cases h
  · cases h
theorem so_gz {index : Nat} (hlk : Cond.fieldLink own index "java/lang/String" "COMPACT_STRINGS" "Z" ∈ gtb) (hdg : decode cc pc = .ok (.getstatic index, 3)) (hp : pc + 3 = pc') : So l own cc nL dl rt lay pc (s_ic pc' 1) := by
  subst hp
  intro p e R s m args below meth c D z ts z0 a tl A hF k lv st σ o Q hQ ho h hk H locs ls nc ns hnn hP hS hl
  obtain ⟨hx, hb, hml, hown, hts, hK, hD, hA, hA0, hSt, hF⟩ := hF
  obtain ⟨-, -, -, -, -, -, -, -, -, -, r9, -⟩ := id hSt
  exact va_gets hx hb (r9.narrow hA0) hS hown (hts _ hlk) (fun _ h9 => h9) hdg (hk _ _ _ _ h H locs ls nc ns hnn hP hS hl)
theorem so_i2c (hdg : decode cc pc = .ok (.i2c, 1)) (hp : pc + 1 = pc') : So l own cc nL dl rt lay pc (s_u pc' (fun x => (x.toUInt32 % 65536).toInt32)) := by
  subst hp
  intro p e R s m args below meth c D z ts z0 a tl A hF k lv st σ o Q hQ ho h hk H locs ls nc ns hnn hP hS hl
  simp only [s_u] at h
  split at h
  · next x r => exact lv_i2c hF.1 hF.2.1 hdg rfl (hk _ _ _ _ h H locs ls nc ns hnn hP hS hl)
  · cases h
theorem so_nr {ty : FieldType} {g : Int32 → Int32} (hrt : rt = some ty) (hg : ∀ x, narrow ty (.int x) = .int (g x)) (hdg : decode cc pc = .ok (.ireturn, 1)) : So l own cc nL dl rt lay pc (s_nr g) := by
  subst hrt
  intro p e R s m args below meth c D z ts z0 a tl A hF k lv st σ o Q hQ ho h hk H locs ls nc ns hnn hP hS hl
  obtain ⟨hx, hb, hml, hown, hts, hK, hD, hA, hA0, hSt, hlk, hr, hF⟩ := hF
  simp only [s_nr] at h
  split at h
  · next v =>
    split at h
    · next hv =>
      cases h
      exact W_q (hQ (fun h9 => by cases h9) _ _) (W.zret hx hb hr (by rw [hg, hv]) (fun t ht hW => ⟨rfl, by rw [ht]; exact hP, hS.F ht⟩) hS.2.2 hdg hlk)
    · cases h
  · cases h
end STR
noncomputable def t_ckP : Tbl := [(0, s_il 1 0), (1, s_zlt 4 9), (4, s_il 5 0), (5, s_il 6 1), (6, s_clt 9 16), (16, s_il 17 0), (17, s_ir)]
theorem ok_ckP (l : Launch) : Ok l RJ3 cJ3_checkIndex_8e157 3 1 (some .int) lay0 t_ckP :=
  Ok.cons (so_iload_n dJ3_checkIndex_8e157_0 rfl rfl) <|
  Ok.cons (so_zlt dJ3_checkIndex_8e157_1 (by decide) rfl) <|
  Ok.cons (so_iload_n dJ3_checkIndex_8e157_4 rfl rfl) <|
  Ok.cons (so_iload_n dJ3_checkIndex_8e157_5 rfl rfl) <|
  Ok.cons (so_clt dJ3_checkIndex_8e157_6 (by decide) rfl) <|
  Ok.cons (so_iload_n dJ3_checkIndex_8e157_16 rfl rfl) <|
  Ok.cons (so_ir rfl dJ3_checkIndex_8e157_17) <| Ok.nil
def rI (x : Int32) (σ : Mm) : Option Ou := some (some (some (.inl x)), σ)
theorem rn_ckP {i n : Int32} {σ : Mm} (h0 : 0 ≤ i) (h1 : i < n) : rn t_ckP [] 1 0 [(0, .inl i), (1, .inl n)] [] σ = some (some (some (.inl i)), σ) := by
  show (if i < 0 then (none : Option Ou) else (if i < n then rI i σ else none)) = _
  rw [if_neg (Int32.not_lt.mpr h0), if_pos h1]
  rfl
theorem ct_ckP (l : Launch) {D : va_G} {z : Nat → ClassId} {ts : Nat → Nat} {z0 : Nat} {w : va_W} {sz : Nat} {i n : Int32} {v : Value} (hv : v.category = 1) (h0 : 0 ≤ i) (h1 : i < n) : Met l yJ3_checkIndex_8e157 (.code yJ3_checkIndex_8e157 cJ3_checkIndex_8e157 3 (some .int) :: gtb) (rmD 1 0 0) (va_Pc [.int i, .int n, v] (Pr D z ts z0 w sz)) (Qx D w (some (.int i)) (va_A w sz)) 0 0 (va_A w sz) := by
  refine Met.ofW (cc := cJ3_checkIndex_8e157) (maxL := 3) (ret := some .int) (by decide) rfl ?_
  intro p e s m args below meth c s₁ B hml hv9
  obtain ⟨rfl, hsz, hP, hK, hD0, hz, hSt⟩ := hv9
  have hat := atoms_spec (ws := .code yJ3_checkIndex_8e157 cJ3_checkIndex_8e157 3 (some .int) :: gtb) B.pre
  have hxt : ∀ x ∈ c.exceptionTable.toList, False := by
    obtain ⟨meth9, c9, h1, h2, -, -, -, -, h7, -⟩ := Cond.code_spec B.named (hat _ List.mem_cons_self)
    cases Option.some.inj (h1.symm.trans B.method)
    cases Option.some.inj (h2.symm.trans (Stand.of_body B).code)
    intro x hx
    rw [Array.isEmpty_iff.mp h7] at hx
    cases hx
  subst hsz
  have hF : Fx p l (rmD 1 0 0) s m [.int i, .int n, v].toArray meth c D z ts z0 lay0 (fun _ => 0) w (va_A w s.heap.size) RJ3 cJ3_checkIndex_8e157 3 1 (some .int) := by
    refine ⟨B.exec, B.bytes, hml, findClass_of_methodNamed B.named, fun w hw => hat w (List.mem_cons_of_mem _ hw), hK, fun τ => hD0.self (sz := s.heap.size), fun q h => Or.inr h, ?_, hSt, B.notSynchronized, B.returns, Nat.le_refl _, Nat.le_refl _, hxt⟩
    rintro q (⟨k, e1, hk⟩ | h)
    · exact hD0.2 k _ hk
    · exact Nat.le_trans hz h
  rw [lg_entry_eq]
  have hc : ∀ (x : Int32), (Value.int x).category = 1 := fun _ => rfl
  have hl := lv_entry [.int i, .int n, v] (n := 3) (by simp [lg_sl, hv, hc])
  have hl2 : lv_has _ 3 [(0, .int i), (1, .int n)] := ⟨hl.1, hl.2.1, fun w hw => hl.2.2 w (by
    have e : lv_args 0 [.int i, .int n, v] = [(0, .int i), (1, .int n), (2, v)] := by simp [lv_args, hv, hc]
    rw [e]
    rcases List.mem_cons.mp hw with h | h
    · rw [h]; exact List.mem_cons_self
    · rcases List.mem_cons.mp h with h | h
      · rw [h]; exact List.mem_cons_of_mem _ List.mem_cons_self
      · cases h)⟩
  exact rn_ok [] (ok_ckP l) hF (Q := Qo below _ s D z ts lay0 (fun _ => 0) w (va_A w s.heap.size) (some (some (.inl i)), fun _ _ => 0)) (fun _ _ _ _ h => h) (fun h => by cases h) 1 0 [(0, .inl i), (1, .inl n)] [] (fun _ _ => 0) (rn_ckP h0 h1) s.heap [] _ 0 0 ⟨Nat.zero_le _, Nat.zero_le _⟩ hP va_S.rf hl2
theorem so_ck {l : Launch} {nL dl : Nat} {rt : Option FieldType} (hdl : 2 ≤ dl) : So l RJ0 cJ0_checkIndex_df160 nL dl rt lay0 2 (s_ck 8) := by
  intro p e R s m args below meth c D z ts z0 a tl A hF k lv st σ o Q hQ ho h hk H locs ls nc ns hnn hP hS hl
  simp only [s_ck] at h
  split at h
  · next n i r =>
    split at h
    · next hn =>
      obtain ⟨h7, h0, h1⟩ := hn
      have hpre := fun (w : va_W) (hPc : va_P D vwCl w H) (hDc : va_D (fun q => z0 ≤ q) w) (as : List Value) => Fx_pre hF hS hPc hDc (as := as)
      obtain ⟨hx, hb, hml9, hown, hts, hK, hD, hA, hA0, hSt, hlk, hr, hR1, hR2, hxt⟩ := id hF
      obtain ⟨-, -, -, -, -, -, -, -, -, -, -, r10⟩ := id hSt
      have hDc : va_D (fun q => z0 ≤ q) (wT z lay0 a tl σ) := (hD σ).weaken (fun _ _ _ h => hA0 _ h)
      have hA1 : ∀ q, va_A (wT z lay0 a tl σ) H.size q → A q := by
        rintro q (⟨k9, e9, hk9⟩ | h9)
        · exact (hD σ).2 _ _ hk9
        · exact hA q (Nat.le_trans hS.1 h9)
      have key : ∀ v : Value, v.category = 1 → va_Z "jdk/internal/util/Preconditions" "SIOOBE_FORMATTER" "Ljava/util/function/BiFunction;" v A s s.heap → W p l e R s m args below meth c H locs nc ns (Q nc ns) (F0 m 2 ls (.int n :: .int i :: r.map (cv a ts))) := by
        intro v hv hZ
        refine va_gets hx hb hZ hS hown (hts _ wj_f1053) (fun _ h9 => h9) dJ0_checkIndex_df160_2 ?_
        have hr9 : ((r.map (cv a ts)).map fun v => v.category).sum ≤ 8 := by
          rw [cv_sum]
          simp only [List.length_cons] at h7
          omega
        refine call_go (w1 := wT z lay0 a tl σ) (v := some (.int i)) (va_runS (As := [.int i, .int n, v]) (rest := r.map (cv a ts)) ⟨hx, hb, hml9, hown, hts⟩ (ct_ckP l hv h0 h1)
          (va_cwS 3 hts (gtb_in (fun w hw => by
            rcases List.mem_append.mp hw with hw | hw
            · simp only [List.mem_cons, List.not_mem_nil, or_false] at hw
              rcases hw with rfl | rfl | rfl
              · exact wj_l1059
              · exact wj_t_ckP
              · exact wj_iP
            · exact gtb_c wj_c_ckP w hw)) rfl rfl rfl (by decide +kernel) ⟨by show 1 + 1 ≤ _; omega, by show 8 + (3 + 11) + 37 * 1 ≤ _; omega⟩)
          ⟨Pr_blind, hpre _ hP hDc _⟩ rfl rfl hl.1 rfl (lv_room hr9) dJ0_checkIndex_df160_5 hnn) hS hA1 (fun H1 locs1 hP1 hk1 hS1 => ?_)
        exact hk _ _ _ _ h H1 locs1 ls nc ns hnn hP1 hS1 hl
      rcases r10 with r | ⟨t, r⟩
      · exact key .null rfl (r.narrow hA0)
      · exact key (.ref t) rfl (r.narrow hA0)
    · cases h
  · cases h
noncomputable def t_ckS : Tbl := [(0, s_il 1 0), (1, s_il 2 1), (2, s_ck 8), (8, s_pop 9), (9, s_vr)]
noncomputable def f_ckS : List Vv → Mm → Option Ou := lock (sem t_ckS [] 2)
theorem ct_ckS (l : Launch) : Ct l yJ0_checkIndex_df160 cJ0_checkIndex_df160 2 none 2 lay0 f_ckS := ofRunL (by decide) rfl (
  Ok.cons (so_iload_n dJ0_checkIndex_df160_0 rfl rfl) <|
  Ok.cons (so_iload_n dJ0_checkIndex_df160_1 rfl rfl) <|
  Ok.cons (so_ck (Nat.le_refl _)) <|
  Ok.cons (so_pop dJ0_checkIndex_df160_8 rfl) <|
  Ok.cons (so_vr rfl dJ0_checkIndex_df160_9) <| Ok.nil)
theorem e_ckS {i : Int32} {σ : Mm} (h : inb i 39 = true) : f_ckS [.inl i, .inl 39] σ = some (some none, σ) := by
  have h2 : 0 ≤ i ∧ i < 39 := by
    simp only [inb, Bool.and_eq_true, decide_eq_true_eq] at h
    refine ⟨h.1, ?_⟩
    have h3 := h.2
    rw [Int32.lt_iff_toInt_lt]
    rw [Int32.le_iff_toInt_le] at h
    have e : (i.toInt).toNat = i.toNatClampNeg := rfl
    have e0 : (0 : Int32).toInt = 0 := by decide
    have e39 : (39 : Int32).toInt = 39 := by decide
    omega
  refine (lock_ap _ _).trans ?_
  show (if ([Sum.inl (39 : Int32), .inl i] : List Vv).length ≤ 7 ∧ 0 ≤ i ∧ i < 39 then some (some none, σ) else none) = _
  rw [if_pos ⟨by simp, h2⟩]
noncomputable def t_ch1 : Tbl := [(0, s_il 1 1), (1, s_al 2 0), (2, s_sl 3), (3, s_cv0 false 6 2 f_ckS), (6, s_al 7 0), (7, s_il 8 1), (8, s_sb 9), (9, s_ic 12 255), (12, s_b 13 (fun x y => x &&& y)), (13, s_u 14 (fun x => (x.toUInt32 % 65536).toInt32)), (14, s_nr (fun v => v.toUInt32.toUInt16.toUInt32.toInt32))]
noncomputable def f_ch1 : List Vv → Mm → Option Ou := lock (sem t_ch1 [] 2)
theorem ct_ch1 (l : Launch) : Ct l yJ1_charAt_3b067 cJ1_charAt_3b067 2 (some .char) 3 lay0 f_ch1 := ofRunL (by decide) rfl (
  Ok.cons (so_iload_n dJ1_charAt_3b067_0 rfl rfl) <|
  Ok.cons (so_aload_n dJ1_charAt_3b067_1 rfl rfl) <|
  Ok.cons (so_sl dJ1_charAt_3b067_2 rfl) <|
  Ok.cons (so_sv0 (ct_ckS l) wj_c_ckS wj_l9 wj_t_ckS wj_iS (by decide +kernel) (by decide) dJ1_charAt_3b067_3 rfl) <|
  Ok.cons (so_aload_n dJ1_charAt_3b067_6 rfl rfl) <|
  Ok.cons (so_iload_n dJ1_charAt_3b067_7 rfl rfl) <|
  Ok.cons (so_sb dJ1_charAt_3b067_8 rfl) <|
  Ok.cons (so_sipush dJ1_charAt_3b067_9 (by decide) rfl) <|
  Ok.cons (so_iand dJ1_charAt_3b067_12 rfl) <|
  Ok.cons (so_i2c dJ1_charAt_3b067_13 rfl) <|
  Ok.cons (so_nr rfl (fun _ => rfl) dJ1_charAt_3b067_14) <| Ok.nil)
theorem wch_c : ∀ j : Nat, j < 39 → ((wch j &&& 255).toUInt32 % 65536).toInt32 = wch j ∧ (wch j).toUInt32.toUInt16.toUInt32.toInt32 = wch j := by decide +kernel
theorem inb_lt {i : Int32} {n : Nat} (h : inb i n = true) : i.toNatClampNeg < n := by
  simp only [inb, Bool.and_eq_true, decide_eq_true_eq] at h
  exact h.2
theorem e_ch1 {i : Int32} {σ : Mm} (h : inb i 39 = true) : f_ch1 [.inr (.inr 4), .inl i] σ = some (some (some (.inl (wch i.toNatClampNeg))), σ) := by
  refine (lock_ap _ _).trans ?_
  show onV (f_ckS [.inl i, .inl 39] σ) (fun τ => some (none, τ)) (fun τ => if inb i 39 = true then (if (((wch i.toNatClampNeg &&& 255).toUInt32 % 65536).toInt32).toUInt32.toUInt16.toUInt32.toInt32 = ((wch i.toNatClampNeg &&& 255).toUInt32 % 65536).toInt32 then some (some (some (.inl ((wch i.toNatClampNeg &&& 255).toUInt32 % 65536).toInt32)), τ) else none) else none) = _
  rw [e_ckS h]
  show (if inb i 39 = true then _ else none) = _
  rw [if_pos h, (wch_c _ (inb_lt h)).1, if_pos (wch_c _ (inb_lt h)).2]
noncomputable def t_cod : Tbl := [(0, s_ic 3 1), (3, s_zeq 6 13), (6, s_al 7 0), (7, s_sc 10), (10, s_go 14), (13, s_ic 14 1), (14, s_nr (fun v => v.toInt8.toInt32))]
noncomputable def f_cod : List Vv → Mm → Option Ou := lock (sem t_cod [] 1)
theorem ct_cod (l : Launch) : Ct l yJ0_coder_7d493 cJ0_coder_7d493 1 (some .byte) 1 lay0 f_cod := ofRunL (by decide) rfl (
  Ok.cons (so_gz wj_f38 dJ0_coder_7d493_0 rfl) <|
  Ok.cons (so_zeq dJ0_coder_7d493_3 (by decide) rfl) <|
  Ok.cons (so_aload_n dJ0_coder_7d493_6 rfl rfl) <|
  Ok.cons (so_sc wj_f15 dJ0_coder_7d493_7 rfl) <|
  Ok.cons (so_goto dJ0_coder_7d493_10 (by decide)) <|
  Ok.cons (so_iconst dJ0_coder_7d493_13 (by decide) rfl) <|
  Ok.cons (so_nr rfl (fun _ => rfl) dJ0_coder_7d493_14) <| Ok.nil)
theorem e_cod {σ : Mm} : f_cod [.inr (.inr 3)] σ = some (some (some (.inl 0)), σ) := by
  refine (lock_ap _ _).trans ?_
  show (if (1 : Int32) = 0 then rI 1 σ else (if (0 : Int32).toInt8.toInt32 = 0 then rI 0 σ else none)) = _
  rw [if_neg (by decide), if_pos (by decide)]
  rfl
noncomputable def t_lat : Tbl := [(0, s_ic 3 1), (3, s_zeq 6 17), (6, s_al 7 0), (7, s_sc 10), (10, s_zne 13 17), (13, s_ic 14 1), (14, s_go 18), (17, s_ic 18 0), (18, s_zr)]
noncomputable def f_lat : List Vv → Mm → Option Ou := lock (sem t_lat [] 1)
theorem ct_lat (l : Launch) : Ct l yJ0_isLatin1_aae02 cJ0_isLatin1_aae02 1 (some .boolean) 1 lay0 f_lat := ofRunL (by decide) rfl (
  Ok.cons (so_gz wj_f38 dJ0_isLatin1_aae02_0 rfl) <|
  Ok.cons (so_zeq dJ0_isLatin1_aae02_3 (by decide) rfl) <|
  Ok.cons (so_aload_n dJ0_isLatin1_aae02_6 rfl rfl) <|
  Ok.cons (so_sc wj_f15 dJ0_isLatin1_aae02_7 rfl) <|
  Ok.cons (so_zne dJ0_isLatin1_aae02_10 (by decide) rfl) <|
  Ok.cons (so_iconst dJ0_isLatin1_aae02_13 (by decide) rfl) <|
  Ok.cons (so_goto dJ0_isLatin1_aae02_14 (by decide)) <|
  Ok.cons (so_iconst dJ0_isLatin1_aae02_17 (by decide) rfl) <|
  Ok.cons (so_zr rfl dJ0_isLatin1_aae02_18) <| Ok.nil)
theorem e_lat {σ : Mm} : f_lat [.inr (.inr 3)] σ = some (some (some (.inl 1)), σ) := by
  refine (lock_ap _ _).trans ?_
  show (if (1 : Int32) = 0 then rI 0 σ else (if (0 : Int32) = 0 then rI 1 σ else rI 0 σ)) = _
  rw [if_neg (by decide), if_pos rfl]
  rfl
section STRCALL
variable {p : Program} {l : Launch} {e : Env} {R : Room} {s : State} {m : MethodId} {args : Array Value} {below : List Frame} {meth : Method} {c : Code} {D : va_G} {z : Nat → ClassId} {ts : Nat → Nat} {z0 : Nat} {lay : List Shp} {a : Nat → Nat} {tl : va_W} {A : Nat → Prop} {own : String} {cc : ByteArray} {nL dl : Nat} {rt : Option FieldType} {H : Heap} {locs : List Loc} {ls : Array Slot} {pc : Nat} {st0 rest : List Value} {Q : State → Prop}
variable {y : MethodName} {cy : ByteArray} {nLy dly index : Nat} {rty : Option FieldType} {f : List Vv → Mm → Option Ou} {σ σ' τ : Mm} {vs' : List Vv} {x : Int32} {nA : Nat}
theorem str_go (hF : Fx p l R s m args meth c D z ts z0 lay a tl A own cc nL dl rt) (hC : Ct l y cy nLy rty dly lay0 f) (hcode : Cond.code y cy nLy rty ∈ gtb) (hml : Cond.methodLink own index y ∈ gtb) (hins : Cond.instanceMethod y ∈ gtb) (hsel : Cond.selects y.cls y y ∈ gtb) (hini : Cond.initialized y.cls ∈ gtb) (hcls : y.cls = "java/lang/String")
    (hd : y.cls ≠ "java/lang/invoke/MethodHandle" ∧ y.cls ≠ "java/lang/invoke/VarHandle" ∧ (parseMethodDescriptor y.desc).map (fun d => d.parameters.length) = some nA) (hdl : dly + 1 ≤ dl ∧ nLy ≤ 18)
    (h : f (.inr (.inr 3) :: vs') σ' = some (some (some (.inl x)), τ)) (hP : va_P D vwCl (wT z lay a tl σ) H) (hS : va_S A s.heap H locs) (hls : ls.size = nL) (hrest : (rest.map fun v => v.category).sum ≤ 8) (hn : vs'.length = nA) (hstk : st0 = (vs'.map (cv a ts)).reverse ++ .ref (ts 3) :: rest) (hdg : decode cc pc = .ok (.invokevirtual index, 3)) {nc ns : Nat} (hn9 : nc ≤ R.cells ∧ ns ≤ R.slots)
    (kk : ∀ (H1 : Heap) (locs1 : List Loc), va_P D vwCl (wT z lay a tl σ) H1 → va_S A s.heap H1 locs1 → W p l e R s m args below meth c H1 locs1 nc ns Q (F0 m (pc + 3) ls (.int x :: rest))) : W p l e R s m args below meth c H locs nc ns Q (F0 m pc ls st0) := by
  obtain ⟨hx, hb, hml9, hown, hts, hK, hD, hA, hA0, hSt, hlk, hr, hR1, hR2, hxt⟩ := id hF
  have hDc : va_D (fun q => z0 ≤ q) (wT z lay a tl σ) := (hD σ).weaken (fun _ _ _ h => hA0 _ h)
  have hA1 : ∀ q, va_A (wT z lay a tl σ) H.size q → A q := by
    rintro q (⟨k9, e9, hk9⟩ | h9)
    · exact (hD σ).2 _ _ hk9
    · exact hA q (Nat.le_trans hS.1 h9)
  have hpre := Fx_pre hF hS hP hDc (as := Value.ref (ts 3) :: vs'.map (cv a ts))
  have hM := (hC D z ts z0 a (wT z lay a tl σ) (.inr (.inr 3) :: vs') σ' τ H.size).1 (some (.inl x)) h
  have hrc := vk_recv (hSt.vs hA0) (i := 0) (by decide) hS
  rw [← hcls] at hrc
  refine call_go (w1 := wT z lay a tl σ) (v := some (.int x)) (va_runV (As := vs'.map (cv a ts)) (rest := rest) (C := y.cls) ⟨hx, hb, hml9, hown, hts⟩ hM
    (cwV nA hts (gtb_in (fun w hw => by
      rcases List.mem_append.mp hw with hw | hw
      · simp only [List.mem_cons, List.not_mem_nil, or_false] at hw
        rcases hw with rfl | rfl | rfl | rfl <;> assumption
      · exact gtb_c hcode w hw)) rfl rfl rfl ⟨rfl, hd⟩ ⟨by show dly + 1 ≤ _; omega, by show 8 + (nLy + 11) + 37 * dly ≤ _; omega⟩)
    ⟨Pr_blind, hrc, hpre⟩ rfl (by rw [List.length_map]; exact hn) hls hstk (lv_room hrest) hdg hn9) hS hA1 (fun H1 locs1 hP1 hk1 hS1 => kk H1 locs1 hP1 hS1)
end STRCALL
theorem so_cw {l : Launch} {own : String} {cc : ByteArray} {nL dl : Nat} {rt : Option FieldType} {lay : List Shp} {pc pc' : Nat} {y : MethodName} {cy : ByteArray} {nLy dly index : Nat} {rty : Option FieldType} {f : List Vv → Mm → Option Ou} {nA : Nat} (hC : Ct l y cy nLy rty dly lay0 f) (hcode : Cond.code y cy nLy rty ∈ gtb) (hml : Cond.methodLink own index y ∈ gtb) (hins : Cond.instanceMethod y ∈ gtb) (hsel : Cond.selects y.cls y y ∈ gtb) (hini : Cond.initialized y.cls ∈ gtb) (hcls : y.cls = "java/lang/String")
    (hd : y.cls ≠ "java/lang/invoke/MethodHandle" ∧ y.cls ≠ "java/lang/invoke/VarHandle" ∧ (parseMethodDescriptor y.desc).map (fun d => d.parameters.length) = some nA) (hdl : dly + 1 ≤ dl ∧ nLy ≤ 18) (hdg : decode cc pc = .ok (.invokevirtual index, 3)) (hp : pc + 3 = pc') : So l own cc nL dl rt lay pc (s_cw pc' (nA + 1) f) := by
  subst hp
  intro p e R s m args below meth c D z ts z0 a tl A hF k lv st σ o Q hQ ho h hk H locs ls nc ns hnn hP hS hl
  simp only [s_cw] at h
  split at h
  · next vs heq =>
    split at h
    · next hn =>
      unfold wI at h
      split at h
      · next x τ hf =>
        have hstk := stk_v (a := a) (ts := ts) (st := st) (n := nA + 1) (by rw [heq]; rfl)
        exact str_go hF hC hcode hml hins hsel hini hcls hd hdl hf hP hS hl.1 (by rw [cv_sum]; exact hn.1) (by omega) hstk hdg hnn (fun H1 locs1 hP1 hS1 => hk _ _ _ _ h H1 locs1 ls nc ns hnn hP1 hS1 hl)
      · cases h
    · cases h
  · cases h
noncomputable def t_len : Tbl := [(0, s_al 1 0), (1, s_sv 4), (4, s_sl 5), (5, s_al 6 0), (6, s_cw 9 1 f_cod), (9, s_b 10 (fun x y => x >>> (y &&& 31))), (10, s_ir)]
noncomputable def f_len : List Vv → Mm → Option Ou := lock (sem t_len [] 1)
theorem ct_len (l : Launch) : Ct l yJ0_length_8abf5 cJ0_length_8abf5 1 (some .int) 2 lay0 f_len := ofRunL (by decide) rfl (
  Ok.cons (so_aload_n dJ0_length_8abf5_0 rfl rfl) <|
  Ok.cons (so_sva wj_f9 dJ0_length_8abf5_1 rfl) <|
  Ok.cons (so_sl dJ0_length_8abf5_4 rfl) <|
  Ok.cons (so_aload_n dJ0_length_8abf5_5 rfl rfl) <|
  Ok.cons (so_cw (nA := 0) (ct_cod l) wj_c_cod wj_l335 wj_n_cod wj_s_cod wj_iS rfl (by decide +kernel) (by decide) dJ0_length_8abf5_6 rfl) <|
  Ok.cons (so_ishr dJ0_length_8abf5_9 rfl) <|
  Ok.cons (so_ir rfl dJ0_length_8abf5_10) <| Ok.nil)
theorem e_len {σ : Mm} : f_len [.inr (.inr 3)] σ = some (some (some (.inl 39)), σ) := by
  refine (lock_ap _ _).trans ?_
  show (if ([.inl 39] : List Vv).length ≤ 8 ∧ ([] : List Vv).length + 1 = 1 then wI (f_cod [.inr (.inr 3)] σ) (fun x => rI ((39 : Int32) >>> (x &&& 31)) σ) else none) = _
  rw [if_pos (by decide), e_cod]
  rfl
noncomputable def t_cha : Tbl := [(0, s_al 1 0), (1, s_cw 4 1 f_lat), (4, s_zeq 7 16), (7, s_al 8 0), (8, s_sv 11), (11, s_il 12 1), (12, s_ci0 false 15 2 f_ch1), (15, s_nr (fun v => v.toUInt32.toUInt16.toUInt32.toInt32))]
noncomputable def f_cha : List Vv → Mm → Option Ou := lock (sem t_cha [] 2)
theorem ct_cha (l : Launch) : Ct l yJ0_charAt_5068e cJ0_charAt_5068e 2 (some .char) 4 lay0 f_cha := ofRunL (by decide) rfl (
  Ok.cons (so_aload_n dJ0_charAt_5068e_0 rfl rfl) <|
  Ok.cons (so_cw (nA := 0) (ct_lat l) wj_c_lat wj_l492 wj_n_lat wj_s_lat wj_iS rfl (by decide +kernel) (by decide) dJ0_charAt_5068e_1 rfl) <|
  Ok.cons (so_zeq dJ0_charAt_5068e_4 (by decide) rfl) <|
  Ok.cons (so_aload_n dJ0_charAt_5068e_7 rfl rfl) <|
  Ok.cons (so_sva wj_f9 dJ0_charAt_5068e_8 rfl) <|
  Ok.cons (so_iload_n dJ0_charAt_5068e_11 rfl rfl) <|
  Ok.cons (so_si0 (ct_ch1 l) wj_c_ch1 wj_l495 wj_t_ch1 wj_iL (by decide +kernel) (by decide) dJ0_charAt_5068e_12 rfl) <|
  Ok.cons (so_nr rfl (fun _ => rfl) dJ0_charAt_5068e_15) <| Ok.nil)
theorem e_cha {i : Int32} {σ : Mm} (h : inb i 39 = true) : f_cha [.inr (.inr 3), .inl i] σ = some (some (some (.inl (wch i.toNatClampNeg))), σ) := by
  refine (lock_ap _ _).trans ?_
  show (if ([] : List Vv).length ≤ 8 ∧ ([] : List Vv).length + 1 = 1 then wI (f_lat [.inr (.inr 3)] σ) (fun x => if x = 0 then none else onI (f_ch1 [.inr (.inr 4), .inl i] σ) (fun τ => some (none, τ)) (fun x τ => if x.toUInt32.toUInt16.toUInt32.toInt32 = x then rI x τ else none)) else none) = _
  rw [if_pos (by decide), e_lat, e_ch1 h]
  show (if (1 : Int32) = 0 then none else (if (wch i.toNatClampNeg).toUInt32.toUInt16.toUInt32.toInt32 = wch i.toNatClampNeg then rI (wch i.toNatClampNeg) σ else none)) = _
  rw [if_neg (by decide), if_pos (wch_c _ (inb_lt h)).2]
  rfl
theorem so_ls {l : Launch} {cc : ByteArray} {nL dl : Nat} {rt : Option FieldType} {lay : List Shp} {pc pc' : Nat} (hdg : decode cc pc = .ok (.ldc 135, 2)) (hp : pc + 2 = pc') : So l RX7 cc nL dl rt lay pc (s_ls pc') := by
  subst hp
  intro p e R s m args below meth c D z ts z0 a tl A hF k lv st σ o Q hQ ho h hk H locs ls nc ns hnn hP hS hl
  obtain ⟨hx, hb, hml, hown, hts, hK, hD, hA, hA0, hSt, hF⟩ := hF
  exact va_ldcS hx hb hown hSt.2.2.1 hdg (hk _ _ _ _ h H locs ls nc ns hnn hP hS hl)
theorem so_ln {l : Launch} {own : String} {cc : ByteArray} {nL dl index : Nat} {rt : Option FieldType} {lay : List Shp} {pc pc' : Nat} (hdl : 6 ≤ dl) (hml : Cond.methodLink own index ⟨"java/lang/String", "length", "()I"⟩ ∈ gtb) (hdg : decode cc pc = .ok (.invokevirtual index, 3)) (hp : pc + 3 = pc') : So l own cc nL dl rt lay pc (s_ln pc') := by
  subst hp
  intro p e R s m args below meth c D z ts z0 a tl A hF k lv st σ o Q hQ ho h hk H locs ls nc ns hnn hP hS hl
  simp only [s_ln] at h
  split at h
  · next r =>
    cases h8 : Nat.ble r.length 8 with
    | false => rw [h8] at h; cases h
    | true =>
      rw [h8] at h
      exact str_go (vs' := []) hF (ct_len l) wj_c_len hml wj_n_len wj_s_len wj_iS rfl (by decide +kernel) ⟨by omega, by decide⟩ (e_len (σ := σ)) hP hS hl.1 (by rw [cv_sum]; exact Nat.le_of_ble_eq_true h8) rfl rfl hdg hnn (fun H1 locs1 hP1 hS1 => hk _ _ _ _ h H1 locs1 ls nc ns hnn hP1 hS1 hl)
  · cases h
theorem so_ch {l : Launch} {own : String} {cc : ByteArray} {nL dl index : Nat} {rt : Option FieldType} {lay : List Shp} {pc pc' : Nat} (hdl : 6 ≤ dl) (hml : Cond.methodLink own index ⟨"java/lang/String", "charAt", "(I)C"⟩ ∈ gtb) (hdg : decode cc pc = .ok (.invokevirtual index, 3)) (hp : pc + 3 = pc') : So l own cc nL dl rt lay pc (s_ch pc') := by
  subst hp
  intro p e R s m args below meth c D z ts z0 a tl A hF k lv st σ o Q hQ ho h hk H locs ls nc ns hnn hP hS hl
  simp only [s_ch] at h
  split at h
  · next i r =>
    split at h
    · next hi =>
      cases h8 : Nat.ble r.length 8 with
      | false => rw [h8] at h; cases h
      | true =>
        rw [h8] at h
        exact str_go (nA := 1) (vs' := [.inl i]) hF (ct_cha l) wj_c_cha hml wj_n_cha wj_s_cha wj_iS rfl (by decide +kernel) ⟨by omega, by decide⟩ (e_cha (σ := σ) hi) hP hS hl.1 (by rw [cv_sum]; exact Nat.le_of_ble_eq_true h8) rfl rfl hdg hnn (fun H1 locs1 hP1 hS1 => hk _ _ _ _ h H1 locs1 ls nc ns hnn hP1 hS1 hl)
    · cases h
  · cases h
theorem so_tb4 {l : Launch} {own : String} {cc : ByteArray} {nL dl len : Nat} {rt : Option FieldType} {lay : List Shp} {pc : Nat} {dfl o0 o1 o2 o3 : Int} {t0 t1 t2 t3 d : Nat} (hdg : decode cc pc = .ok (.tableswitch dfl 0 3 #[o0, o1, o2, o3], len)) (h0 : (pc : Int) + o0 = (t0 : Int)) (h1 : (pc : Int) + o1 = (t1 : Int)) (h2 : (pc : Int) + o2 = (t2 : Int)) (h3 : (pc : Int) + o3 = (t3 : Int)) (hd : (pc : Int) + dfl = (d : Int)) : So l own cc nL dl rt lay pc (s_sw [(0, t0), (1, t1), (2, t2), (3, t3)] d) := by
  intro p e R s m args below meth c D z ts z0 a tl A hF k lv st σ o Q hQ ho h hk H locs ls nc ns hnn hP hS hl
  simp only [s_sw] at h
  split at h
  · next x r =>
    simp only [sws] at h
    by_cases e0 : x = 0
    · subst e0
      exact lv_tableIn hF.1 hF.2.1 hdg (by decide) (by decide) rfl h0 (hk _ _ _ _ (by simpa using h) H locs ls nc ns hnn hP hS hl)
    · by_cases e1 : x = 1
      · subst e1
        exact lv_tableIn hF.1 hF.2.1 hdg (by decide) (by decide) rfl h1 (hk _ _ _ _ (by simpa using h) H locs ls nc ns hnn hP hS hl)
      · by_cases e2 : x = 2
        · subst e2
          exact lv_tableIn hF.1 hF.2.1 hdg (by decide) (by decide) rfl h2 (hk _ _ _ _ (by simpa using h) H locs ls nc ns hnn hP hS hl)
        · by_cases e3 : x = 3
          · subst e3
            exact lv_tableIn hF.1 hF.2.1 hdg (by decide) (by decide) rfl h3 (hk _ _ _ _ (by simpa using h) H locs ls nc ns hnn hP hS hl)
          · rw [if_neg e0, if_neg e1, if_neg e2, if_neg e3] at h
            have ne : ∀ y : Int32, x ≠ y → x.toInt ≠ y.toInt := fun y hy h9 => hy (Int32.toInt_inj.mp h9)
            have q0 : x.toInt ≠ 0 := ne 0 e0
            have q1 : x.toInt ≠ 1 := ne 1 e1
            have q2 : x.toInt ≠ 2 := ne 2 e2
            have q3 : x.toInt ≠ 3 := ne 3 e3
            exact lv_tableOut hF.1 hF.2.1 hdg (by omega) hd (hk _ _ _ _ h H locs ls nc ns hnn hP hS hl)
  · cases h
