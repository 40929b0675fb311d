/-! the written words of the reference: a text of 39 signs -/
def wch (j : Nat) : Int32 := wby.getD j 0
def s_ls (pc' : Nat) : Sst := fun k lv st σ => k pc' lv (.inr (.inr 3) :: st) σ
def s_ln (pc' : Nat) : Sst := fun k lv st σ => match st with
  | .inr (.inr 3) :: r => k pc' lv (.inl 39 :: r) σ
  | _ => none
def s_ch (pc' : Nat) : Sst := fun k lv st σ => match st with
  | .inl i :: .inr (.inr 3) :: r => if inb i 39 = true then k pc' lv (.inl (wch i.toNatClampNeg) :: r) σ else none
  | _ => none
theorem so_ls {l : Launch} {own : String} {cc : ByteArray} {nL dl : Nat} {rt : Option FieldType} {lay : List Shp} {pc pc' : Nat} (hdg : decode cc pc = .ok (.ldc 135, 2)) (hp : pc + 2 = pc') : So l own cc nL dl rt lay pc (s_ls pc') := by sorry
theorem so_ln {l : Launch} {own : String} {cc : ByteArray} {nL dl index : Nat} {rt : Option FieldType} {lay : List Shp} {pc pc' : Nat} (hdl : 6 ≤ dl) (hml : Cond.methodLink own index ⟨"java/lang/String", "length", "()I"⟩ ∈ gtb) (hdg : decode cc pc = .ok (.invokevirtual index, 3)) (hp : pc + 3 = pc') : So l own cc nL dl rt lay pc (s_ln pc') := by sorry
theorem so_ch {l : Launch} {own : String} {cc : ByteArray} {nL dl index : Nat} {rt : Option FieldType} {lay : List Shp} {pc pc' : Nat} (hdl : 6 ≤ dl) (hml : Cond.methodLink own index ⟨"java/lang/String", "charAt", "(I)C"⟩ ∈ gtb) (hdg : decode cc pc = .ok (.invokevirtual index, 3)) (hp : pc + 3 = pc') : So l own cc nL dl rt lay pc (s_ch pc') := by sorry
theorem so_tb4 {l : Launch} {own : String} {cc : ByteArray} {nL dl len : Nat} {rt : Option FieldType} {lay : List Shp} {pc : Nat} {dfl o0 o1 o2 o3 : Int} {t0 t1 t2 t3 d : Nat} (hdg : decode cc pc = .ok (.tableswitch dfl 0 3 #[o0, o1, o2, o3], len)) (h0 : (pc : Int) + o0 = (t0 : Int)) (h1 : (pc : Int) + o1 = (t1 : Int)) (h2 : (pc : Int) + o2 = (t2 : Int)) (h3 : (pc : Int) + o3 = (t3 : Int)) (hd : (pc : Int) + dfl = (d : Int)) : So l own cc nL dl rt lay pc (s_sw [(0, t0), (1, t1), (2, t2), (3, t3)] d) := by
  intro p e R s m args below meth c D z ts z0 a tl A hF k lv st σ o ho h hk H locs ls hP hS hl
  simp only [s_sw] at h
  split at h
  · next x r =>
    simp only [sws] at h
    by_cases e0 : x = 0
    · subst e0
      exact lv_tableIn hF.1 hF.2.1 hdg (by decide) (by decide) rfl h0 (hk _ _ _ _ (by simpa using h) H locs ls hP hS hl)
    · by_cases e1 : x = 1
      · subst e1
        exact lv_tableIn hF.1 hF.2.1 hdg (by decide) (by decide) rfl h1 (hk _ _ _ _ (by simpa using h) H locs ls hP hS hl)
      · by_cases e2 : x = 2
        · subst e2
          exact lv_tableIn hF.1 hF.2.1 hdg (by decide) (by decide) rfl h2 (hk _ _ _ _ (by simpa using h) H locs ls hP hS hl)
        · by_cases e3 : x = 3
          · subst e3
            exact lv_tableIn hF.1 hF.2.1 hdg (by decide) (by decide) rfl h3 (hk _ _ _ _ (by simpa using h) H locs ls hP hS hl)
          · rw [if_neg e0, if_neg e1, if_neg e2, if_neg e3] at h
            have ne : ∀ y : Int32, x ≠ y → x.toInt ≠ y.toInt := fun y hy h9 => hy (Int32.toInt_inj.mp h9)
            have q0 : x.toInt ≠ 0 := ne 0 e0
            have q1 : x.toInt ≠ 1 := ne 1 e1
            have q2 : x.toInt ≠ 2 := ne 2 e2
            have q3 : x.toInt ≠ 3 := ne 3 e3
            exact lv_tableOut hF.1 hF.2.1 hdg (by omega) hd (hk _ _ _ _ h H locs ls hP hS hl)
  · cases h
