/-! the steps -/
def s_ic (pc' : Nat) (v : Int32) : Sst := fun k lv st σ => k pc' lv (.inl v :: st) σ
def s_il (pc' i : Nat) : Sst := fun k lv st σ => match lq lv i with
  | some (.inl x) => k pc' lv (.inl x :: st) σ
  | _ => none
def s_al (pc' i : Nat) : Sst := fun k lv st σ => match lq lv i with
  | some (.inr x) => k pc' lv (.inr x :: st) σ
  | _ => none
def s_is (pc' i : Nat) : Sst := fun k lv st σ => match st with
  | .inl x :: r => k pc' (sl lv i (.inl x)) r σ
  | _ => none
def s_as (pc' i : Nat) : Sst := fun k lv st σ => match st with
  | .inr x :: r => k pc' (sl lv i (.inr x)) r σ
  | _ => none
def s_in (pc' i : Nat) (n : Int32) : Sst := fun k lv st σ => match lq lv i with
  | some (.inl x) => k pc' (sl lv i (.inl (x + n))) st σ
  | _ => none
def s_b (pc' : Nat) (f : Int32 → Int32 → Int32) : Sst := fun k lv st σ => match st with
  | .inl y :: .inl x :: r => k pc' lv (.inl (f x y) :: r) σ
  | _ => none
def s_u (pc' : Nat) (f : Int32 → Int32) : Sst := fun k lv st σ => match st with
  | .inl x :: r => k pc' lv (.inl (f x) :: r) σ
  | _ => none
def s_bd (pc' : Nat) (f : Int32 → Int32 → Int32) : Sst := fun k lv st σ => match st with
  | .inl y :: .inl x :: r => if y = 0 then none else k pc' lv (.inl (f x y) :: r) σ
  | _ => none
def s_go (tgt : Nat) : Sst := fun k lv st σ => k tgt lv st σ
def s_ceq (pc' tgt : Nat) : Sst := fun k lv st σ => match st with
  | .inl y :: .inl x :: r => if x = y then k tgt lv r σ else k pc' lv r σ
  | _ => none
def s_cne (pc' tgt : Nat) : Sst := fun k lv st σ => match st with
  | .inl y :: .inl x :: r => if x = y then k pc' lv r σ else k tgt lv r σ
  | _ => none
def s_clt (pc' tgt : Nat) : Sst := fun k lv st σ => match st with
  | .inl y :: .inl x :: r => if x < y then k tgt lv r σ else k pc' lv r σ
  | _ => none
def s_cge (pc' tgt : Nat) : Sst := fun k lv st σ => match st with
  | .inl y :: .inl x :: r => if x < y then k pc' lv r σ else k tgt lv r σ
  | _ => none
def s_cgt (pc' tgt : Nat) : Sst := fun k lv st σ => match st with
  | .inl y :: .inl x :: r => if y < x then k tgt lv r σ else k pc' lv r σ
  | _ => none
def s_cle (pc' tgt : Nat) : Sst := fun k lv st σ => match st with
  | .inl y :: .inl x :: r => if y < x then k pc' lv r σ else k tgt lv r σ
  | _ => none
def s_zeq (pc' tgt : Nat) : Sst := fun k lv st σ => match st with
  | .inl x :: r => if x = 0 then k tgt lv r σ else k pc' lv r σ
  | _ => none
def s_zne (pc' tgt : Nat) : Sst := fun k lv st σ => match st with
  | .inl x :: r => if x = 0 then k pc' lv r σ else k tgt lv r σ
  | _ => none
def s_zlt (pc' tgt : Nat) : Sst := fun k lv st σ => match st with
  | .inl x :: r => if x < 0 then k tgt lv r σ else k pc' lv r σ
  | _ => none
def s_zge (pc' tgt : Nat) : Sst := fun k lv st σ => match st with
  | .inl x :: r => if x < 0 then k pc' lv r σ else k tgt lv r σ
  | _ => none
def s_zgt (pc' tgt : Nat) : Sst := fun k lv st σ => match st with
  | .inl x :: r => if 0 < x then k tgt lv r σ else k pc' lv r σ
  | _ => none
def s_zle (pc' tgt : Nat) : Sst := fun k lv st σ => match st with
  | .inl x :: r => if 0 < x then k pc' lv r σ else k tgt lv r σ
  | _ => none
def s_dup (pc' : Nat) : Sst := fun k lv st σ => match st with
  | v :: r => k pc' lv (v :: v :: r) σ
  | _ => none
def s_dup2 (pc' : Nat) : Sst := fun k lv st σ => match st with
  | v :: w :: r => k pc' lv (v :: w :: v :: w :: r) σ
  | _ => none
def s_pop (pc' : Nat) : Sst := fun k lv st σ => match st with
  | _ :: r => k pc' lv r σ
  | _ => none
def s_gf (pc' : Nat) (lay : List Shp) (ci f : Nat) : Sst := fun k lv st σ => match st with
  | .inr (.inl q) :: r => match lay[q]? with
    | some (.inr o) => if o.1 = ci then match o.2[f]? with
      | some none => k pc' lv (.inl (σ q f) :: r) σ
      | some (some c) => k pc' lv (.inr (.inl c) :: r) σ
      | none => none
      else none
    | _ => none
  | _ => none
def s_pf (pc' : Nat) (lay : List Shp) (ci f : Nat) : Sst := fun k lv st σ => match st with
  | .inl v :: .inr (.inl q) :: r => match lay[q]? with
    | some (.inr o) => if o.1 = ci then match o.2[f]? with
      | some none => k pc' lv r (wr σ q f v)
      | _ => none
      else none
    | _ => none
  | _ => none
def s_pz (pc' : Nat) (lay : List Shp) (ci f : Nat) : Sst := fun k lv st σ => match st with
  | .inl v :: .inr (.inl q) :: r => if v = 0 ∨ v = 1 then match lay[q]? with
    | some (.inr o) => if o.1 = ci then match o.2[f]? with
      | some none => k pc' lv r (wr σ q f v)
      | _ => none
      else none
    | _ => none
    else none
  | _ => none
def s_ia (pc' : Nat) (lay : List Shp) (tg : Nat) : Sst := fun k lv st σ => match st with
  | .inl i :: .inr (.inl q) :: r => match lay[q]? with
    | some (.inl h) => if h.1 = tg then (if inb i h.2 = true then k pc' lv (.inl (σ q i.toNatClampNeg) :: r) σ else none) else none
    | _ => none
  | .inl i :: .inr (.inr t) :: r => if t < 3 ∧ tg = 0 then (if inb i 3 = true then k pc' lv (.inl (stv t i.toNatClampNeg) :: r) σ else none) else none
  | _ => none
def s_ix (pc' : Nat) (lay : List Shp) (tg : Nat) : Sst := fun k lv st σ => match st with
  | .inl v :: .inl i :: .inr (.inl q) :: r => match lay[q]? with
    | some (.inl h) => if h.1 = tg then (if inb i h.2 = true then k pc' lv r (wr σ q i.toNatClampNeg v) else none) else none
    | _ => none
  | _ => none
/-- a row of bytes: what is stored is a byte -/
def s_bx (pc' : Nat) (lay : List Shp) : Sst := fun k lv st σ => match st with
  | .inl v :: .inl i :: .inr (.inl q) :: r => if v.toInt8.toInt32 = v then match lay[q]? with
    | some (.inl h) => if h.1 = 1 then (if inb i h.2 = true then k pc' lv r (wr σ q i.toNatClampNeg v) else none) else none
    | _ => none
    else none
  | _ => none
/-- a row of truths -/
def s_zx (pc' : Nat) (lay : List Shp) : Sst := fun k lv st σ => match st with
  | .inl v :: .inl i :: .inr (.inl q) :: r => if v = 0 ∨ v = 1 then match lay[q]? with
    | some (.inl h) => if h.1 = 2 then (if inb i h.2 = true then k pc' lv r (wr σ q i.toNatClampNeg v) else none) else none
    | _ => none
    else none
  | _ => none
def s_gs (pc' t : Nat) : Sst := fun k lv st σ => if t < 3 then k pc' lv (.inr (.inr t) :: st) σ else none
def s_ir : Sst := fun _ _ st σ => match st with
  | [.inl v] => some (some (some (.inl v)), σ)
  | _ => none
def s_zr : Sst := fun _ _ st σ => match st with
  | [.inl v] => if v = 0 ∨ v = 1 then some (some (some (.inl v)), σ) else none
  | _ => none
def s_ar : Sst := fun _ _ st σ => match st with
  | [.inr (.inl v)] => some (some (some (.inr (.inl v))), σ)
  | _ => none
def s_vr : Sst := fun _ _ st σ => match st with
  | [] => some (some none, σ)
  | _ => none
def sws (x : Int32) : List (Int32 × Nat) → (Nat → Option Ou) → Nat → Option Ou
  | [], k, d => k d
  | q :: ps, k, d => if x = q.1 then k q.2 else sws x ps k d
def s_sw (ps : List (Int32 × Nat)) (d : Nat) : Sst := fun k lv st σ => match st with
  | .inl x :: r => sws x ps (fun t => k t lv r σ) d
  | _ => none
def s_m (pc' : Nat) (f : Int32 → Int32 → Int32) : Sst := fun k lv st σ => match st with
  | .inl y :: .inl x :: r => if r.length ≤ 8 then k pc' lv (.inl (f x y) :: r) σ else none
  | _ => none
def cpm (σ : Mm) (q0 q1 : Nat) (sp dp n : Int32) : Mm := va_up σ q1 (va_cpy (σ q0) (σ q1) sp.toNatClampNeg dp.toNatClampNeg n.toNatClampNeg)
def cpt (σ : Mm) (t q1 : Nat) (sp dp n : Int32) : Mm := va_up σ q1 (va_cpy (stv t) (σ q1) sp.toNatClampNeg dp.toNatClampNeg n.toNatClampNeg)
def s_cp (pc' : Nat) (lay : List Shp) : Sst := fun k lv st σ => match st with
  | .inl n :: .inl dp :: .inr (.inl q1) :: .inl sp :: .inr (.inl q0) :: r => match lay[q0]?, lay[q1]? with
    | some (.inl h0), some (.inl h1) => if h0.1 = 0 ∧ h1.1 = 0 ∧ ¬ sp < 0 ∧ ¬ dp < 0 ∧ ¬ n < 0 ∧ sp.toNatClampNeg + n.toNatClampNeg ≤ h0.2 ∧ dp.toNatClampNeg + n.toNatClampNeg ≤ h1.2 ∧ r.length ≤ 8 then k pc' lv r (cpm σ q0 q1 sp dp n) else none
    | _, _ => none
  | _ => none
theorem sws_off (x : Int32) (pc : Nat) : ∀ (ps : List (Int32 × Nat)) (d : Nat) {K : Nat → Option Ou} {o : Ou}, sws x ps K d = some o → ∃ t, K t = some o ∧ (pc : Int) + Op.lookupswitch.offset (ps.map (fun q => (q.1.toInt, (q.2 : Int) - pc))) ((d : Int) - pc) x.toInt = (t : Int)
  | [], d, K, o, h => ⟨d, h, by rw [List.map_nil, Op.lookupswitch.offset_nil]; omega⟩
  | q :: ps, d, K, o, h => by
    rw [List.map_cons, Op.lookupswitch.offset_cons]
    unfold sws at h
    by_cases e : x = q.1
    · rw [if_pos e] at h
      rw [if_pos (by rw [e])]
      exact ⟨q.2, h, by omega⟩
    · rw [if_neg e] at h
      rw [if_neg (fun h9 => e (Int32.toInt_inj.mp h9).symm)]
      exact sws_off x pc ps d h
theorem lq_has {a ts : Nat → Nat} {ls : Array Slot} {nL : Nat} {lv : Lv} {i : Nat} {v : Vv} (hl : lv_has ls nL (lv.map (fun q => (q.1, cv a ts q.2)))) (h : lq lv i = some v) : ls[i]? = some (.val (cv a ts v)) := hl.2.2 (i, cv a ts v) (List.mem_map.mpr ⟨(i, v), lq_mem h, rfl⟩)
theorem cv_cat {a ts : Nat → Nat} (v : Vv) : (cv a ts v).category = 1 := by
  rcases v with x | x | x <;> rfl
theorem sl_eq {a ts : Nat → Nat} (lv : Lv) (i : Nat) (v : Vv) : (i, cv a ts v) :: (lv.map (fun q => (q.1, cv a ts q.2))).filter (fun q => !(q.1 == i) && !(q.1 + 1 == i && q.2.category == 2)) = (sl lv i v).map (fun q => (q.1, cv a ts q.2)) := by
  unfold sl
  rw [List.map_cons, List.filter_map]
  congr 2
  apply List.filter_congr
  intro q _
  have h : ((cv a ts q.2).category == 2) = false := by rw [cv_cat]; rfl
  have e : (q.1 == i) = Nat.beq q.1 i := Bool.eq_iff_iff.mpr ⟨fun h => by rw [beq_iff_eq.mp h]; exact Nat.beq_refl i, fun h => by rw [Nat.eq_of_beq_eq_true h]; exact beq_self_eq_true i⟩
  simp only [Function.comp, h, Bool.and_false, Bool.not_false, Bool.and_true, e]
section STEPS
variable {l : Launch} {own : String} {cc : ByteArray} {nL dl : Nat} {rt : Option FieldType} {lay : List Shp} {pc pc' : Nat}
theorem so_iconst {n : Int} {v : Int32} (hdg : decode cc pc = .ok (.iconst n, 1)) (hv : Int32.ofInt n = v) (hp : pc + 1 = pc') : So l own cc nL dl rt lay pc (s_ic pc' v) := by
  subst hp
  intro p e R s m args below meth c D z ts z0 a tl A hF k lv st σ o Q hQ ho h hk H locs ls nc ns hnn hP hS hl
  exact lv_iconst hF.1 hF.2.1 hdg hv (hk _ _ _ _ h H locs ls nc ns hnn hP hS hl)
theorem so_bipush {n : Int} {v : Int32} (hdg : decode cc pc = .ok (.bipush n, 2)) (hv : (Int8.ofInt n).toInt32 = v) (hp : pc + 2 = pc') : So l own cc nL dl rt lay pc (s_ic pc' v) := by
  subst hp
  intro p e R s m args below meth c D z ts z0 a tl A hF k lv st σ o Q hQ ho h hk H locs ls nc ns hnn hP hS hl
  exact lv_bipush hF.1 hF.2.1 hdg hv (hk _ _ _ _ h H locs ls nc ns hnn hP hS hl)
theorem so_sipush {n : Int} {v : Int32} (hdg : decode cc pc = .ok (.sipush n, 3)) (hv : (Int16.ofInt n).toInt32 = v) (hp : pc + 3 = pc') : So l own cc nL dl rt lay pc (s_ic pc' v) := by
  subst hp
  intro p e R s m args below meth c D z ts z0 a tl A hF k lv st σ o Q hQ ho h hk H locs ls nc ns hnn hP hS hl
  exact lv_sipush hF.1 hF.2.1 hdg hv (hk _ _ _ _ h H locs ls nc ns hnn hP hS hl)
theorem so_iload_n {j : Fin 4} {i : Nat} (hdg : decode cc pc = .ok (.iload_n j, 1)) (hi : (j : Nat) = i) (hp : pc + 1 = pc') : So l own cc nL dl rt lay pc (s_il pc' i) := by
  subst hp
  intro p e R s m args below meth c D z ts z0 a tl A hF k lv st σ o Q hQ ho h hk H locs ls nc ns hnn hP hS hl
  simp only [s_il] at h
  split at h
  · next x hq => exact lv_iload_n hF.1 hF.2.1 hdg hi (lq_has hl hq) (hk _ _ _ _ h H locs ls nc ns hnn hP hS hl)
  · cases h
theorem so_iload {i : Nat} (hdg : decode cc pc = .ok (.iload i, 2)) (hp : pc + 2 = pc') : So l own cc nL dl rt lay pc (s_il pc' i) := by
  subst hp
  intro p e R s m args below meth c D z ts z0 a tl A hF k lv st σ o Q hQ ho h hk H locs ls nc ns hnn hP hS hl
  simp only [s_il] at h
  split at h
  · next x hq => exact lv_iload hF.1 hF.2.1 hdg (lq_has hl hq) (hk _ _ _ _ h H locs ls nc ns hnn hP hS hl)
  · cases h
theorem so_aload_n {j : Fin 4} {i : Nat} (hdg : decode cc pc = .ok (.aload_n j, 1)) (hi : (j : Nat) = i) (hp : pc + 1 = pc') : So l own cc nL dl rt lay pc (s_al pc' i) := by
  subst hp
  intro p e R s m args below meth c D z ts z0 a tl A hF k lv st σ o Q hQ ho h hk H locs ls nc ns hnn hP hS hl
  simp only [s_al] at h
  split at h
  · next x hq =>
    rcases x with x | x
    · exact lv_aload_n hF.1 hF.2.1 hdg hi (lq_has hl hq) (hk _ _ _ _ h H locs ls nc ns hnn hP hS hl)
    · exact lv_aload_n hF.1 hF.2.1 hdg hi (lq_has hl hq) (hk _ _ _ _ h H locs ls nc ns hnn hP hS hl)
  · cases h
theorem so_aload {i : Nat} (hdg : decode cc pc = .ok (.aload i, 2)) (hp : pc + 2 = pc') : So l own cc nL dl rt lay pc (s_al pc' i) := by
  subst hp
  intro p e R s m args below meth c D z ts z0 a tl A hF k lv st σ o Q hQ ho h hk H locs ls nc ns hnn hP hS hl
  simp only [s_al] at h
  split at h
  · next x hq =>
    rcases x with x | x
    · exact lv_aload hF.1 hF.2.1 hdg (lq_has hl hq) (hk _ _ _ _ h H locs ls nc ns hnn hP hS hl)
    · exact lv_aload hF.1 hF.2.1 hdg (lq_has hl hq) (hk _ _ _ _ h H locs ls nc ns hnn hP hS hl)
  · cases h
theorem so_istore_n {j : Fin 4} {i : Nat} (hdg : decode cc pc = .ok (.istore_n j, 1)) (hi : (j : Nat) = i) (hn : i < nL) (hp : pc + 1 = pc') : So l own cc nL dl rt lay pc (s_is pc' i) := by
  subst hp
  intro p e R s m args below meth c D z ts z0 a tl A hF k lv st σ o Q hQ ho h hk H locs ls nc ns hnn hP hS hl
  simp only [s_is] at h
  split at h
  · next x r => exact lv_istore_n hF.1 hF.2.1 hdg hi hl hn (sl_eq lv i (.inl x)) (fun ls' hl' => hk _ _ _ _ h H locs ls' nc ns hnn hP hS hl')
  · cases h
theorem so_istore {i : Nat} (hdg : decode cc pc = .ok (.istore i, 2)) (hn : i < nL) (hp : pc + 2 = pc') : So l own cc nL dl rt lay pc (s_is pc' i) := by
  subst hp
  intro p e R s m args below meth c D z ts z0 a tl A hF k lv st σ o Q hQ ho h hk H locs ls nc ns hnn hP hS hl
  simp only [s_is] at h
  split at h
  · next x r => exact lv_istore hF.1 hF.2.1 hdg hl hn (sl_eq lv i (.inl x)) (fun ls' hl' => hk _ _ _ _ h H locs ls' nc ns hnn hP hS hl')
  · cases h
theorem so_astore_n {j : Fin 4} {i : Nat} (hdg : decode cc pc = .ok (.astore_n j, 1)) (hi : (j : Nat) = i) (hn : i < nL) (hp : pc + 1 = pc') : So l own cc nL dl rt lay pc (s_as pc' i) := by
  subst hp
  intro p e R s m args below meth c D z ts z0 a tl A hF k lv st σ o Q hQ ho h hk H locs ls nc ns hnn hP hS hl
  simp only [s_as] at h
  split at h
  · next x r =>
    rcases x with x | x
    · exact lv_astore_n hF.1 hF.2.1 hdg hi hl hn (sl_eq lv i (.inr (.inl x))) (fun ls' hl' => hk _ _ _ _ h H locs ls' nc ns hnn hP hS hl')
    · exact lv_astore_n hF.1 hF.2.1 hdg hi hl hn (sl_eq lv i (.inr (.inr x))) (fun ls' hl' => hk _ _ _ _ h H locs ls' nc ns hnn hP hS hl')
  · cases h
theorem so_iadd (hdg : decode cc pc = .ok (.iadd, 1)) (hp : pc + 1 = pc') : So l own cc nL dl rt lay pc (s_b pc' (fun x y => x + y)) := by
  subst hp
  intro p e R s m args below meth c D z ts z0 a tl A hF k lv st σ o Q hQ ho h hk H locs ls nc ns hnn hP hS hl
  simp only [s_b] at h
  split at h
  · next y x r => exact lv_iadd hF.1 hF.2.1 hdg (hk _ _ _ _ h H locs ls nc ns hnn hP hS hl)
  · cases h
theorem so_isub (hdg : decode cc pc = .ok (.isub, 1)) (hp : pc + 1 = pc') : So l own cc nL dl rt lay pc (s_b pc' (fun x y => x - y)) := by
  subst hp
  intro p e R s m args below meth c D z ts z0 a tl A hF k lv st σ o Q hQ ho h hk H locs ls nc ns hnn hP hS hl
  simp only [s_b] at h
  split at h
  · next y x r => exact lv_isub hF.1 hF.2.1 hdg (hk _ _ _ _ h H locs ls nc ns hnn hP hS hl)
  · cases h
theorem so_imul (hdg : decode cc pc = .ok (.imul, 1)) (hp : pc + 1 = pc') : So l own cc nL dl rt lay pc (s_b pc' (fun x y => x * y)) := by
  subst hp
  intro p e R s m args below meth c D z ts z0 a tl A hF k lv st σ o Q hQ ho h hk H locs ls nc ns hnn hP hS hl
  simp only [s_b] at h
  split at h
  · next y x r => exact lv_imul hF.1 hF.2.1 hdg (hk _ _ _ _ h H locs ls nc ns hnn hP hS hl)
  · cases h
theorem so_iand (hdg : decode cc pc = .ok (.iand, 1)) (hp : pc + 1 = pc') : So l own cc nL dl rt lay pc (s_b pc' (fun x y => x &&& y)) := by
  subst hp
  intro p e R s m args below meth c D z ts z0 a tl A hF k lv st σ o Q hQ ho h hk H locs ls nc ns hnn hP hS hl
  simp only [s_b] at h
  split at h
  · next y x r => exact lv_iand hF.1 hF.2.1 hdg (hk _ _ _ _ h H locs ls nc ns hnn hP hS hl)
  · cases h
theorem so_ior (hdg : decode cc pc = .ok (.ior, 1)) (hp : pc + 1 = pc') : So l own cc nL dl rt lay pc (s_b pc' (fun x y => x ||| y)) := by
  subst hp
  intro p e R s m args below meth c D z ts z0 a tl A hF k lv st σ o Q hQ ho h hk H locs ls nc ns hnn hP hS hl
  simp only [s_b] at h
  split at h
  · next y x r => exact lv_ior hF.1 hF.2.1 hdg (hk _ _ _ _ h H locs ls nc ns hnn hP hS hl)
  · cases h
theorem so_ishl (hdg : decode cc pc = .ok (.ishl, 1)) (hp : pc + 1 = pc') : So l own cc nL dl rt lay pc (s_b pc' (fun x y => x <<< (y &&& 31))) := by
  subst hp
  intro p e R s m args below meth c D z ts z0 a tl A hF k lv st σ o Q hQ ho h hk H locs ls nc ns hnn hP hS hl
  simp only [s_b] at h
  split at h
  · next y x r => exact lv_ishl hF.1 hF.2.1 hdg (hk _ _ _ _ h H locs ls nc ns hnn hP hS hl)
  · cases h
theorem so_ishr (hdg : decode cc pc = .ok (.ishr, 1)) (hp : pc + 1 = pc') : So l own cc nL dl rt lay pc (s_b pc' (fun x y => x >>> (y &&& 31))) := by
  subst hp
  intro p e R s m args below meth c D z ts z0 a tl A hF k lv st σ o Q hQ ho h hk H locs ls nc ns hnn hP hS hl
  simp only [s_b] at h
  split at h
  · next y x r => exact lv_ishr hF.1 hF.2.1 hdg (hk _ _ _ _ h H locs ls nc ns hnn hP hS hl)
  · cases h
theorem so_idiv (hdg : decode cc pc = .ok (.idiv, 1)) (hp : pc + 1 = pc') : So l own cc nL dl rt lay pc (s_bd pc' (fun x y => x / y)) := by
  subst hp
  intro p e R s m args below meth c D z ts z0 a tl A hF k lv st σ o Q hQ ho h hk H locs ls nc ns hnn hP hS hl
  simp only [s_bd] at h
  split at h
  · next y x r =>
    split at h
    · cases h
    · next hy => exact lv_idiv hF.1 hF.2.1 hdg hy (hk _ _ _ _ h H locs ls nc ns hnn hP hS hl)
  · cases h
theorem so_irem (hdg : decode cc pc = .ok (.irem, 1)) (hp : pc + 1 = pc') : So l own cc nL dl rt lay pc (s_bd pc' (fun x y => x - x / y * y)) := by
  subst hp
  intro p e R s m args below meth c D z ts z0 a tl A hF k lv st σ o Q hQ ho h hk H locs ls nc ns hnn hP hS hl
  simp only [s_bd] at h
  split at h
  · next y x r =>
    split at h
    · cases h
    · next hy => exact lv_irem hF.1 hF.2.1 hdg hy (hk _ _ _ _ h H locs ls nc ns hnn hP hS hl)
  · cases h
theorem so_ineg (hdg : decode cc pc = .ok (.ineg, 1)) (hp : pc + 1 = pc') : So l own cc nL dl rt lay pc (s_u pc' (fun x => -x)) := by
  subst hp
  intro p e R s m args below meth c D z ts z0 a tl A hF k lv st σ o Q hQ ho h hk H locs ls nc ns hnn hP hS hl
  simp only [s_u] at h
  split at h
  · next x r => exact lv_ineg hF.1 hF.2.1 hdg (hk _ _ _ _ h H locs ls nc ns hnn hP hS hl)
  · cases h
theorem so_i2b (hdg : decode cc pc = .ok (.i2b, 1)) (hp : pc + 1 = pc') : So l own cc nL dl rt lay pc (s_u pc' (fun x => x.toInt8.toInt32)) := by
  subst hp
  intro p e R s m args below meth c D z ts z0 a tl A hF k lv st σ o Q hQ ho h hk H locs ls nc ns hnn hP hS hl
  simp only [s_u] at h
  split at h
  · next x r => exact lv_i2b hF.1 hF.2.1 hdg rfl (hk _ _ _ _ h H locs ls nc ns hnn hP hS hl)
  · cases h
theorem so_iinc {i : Nat} {n : Int} {v : Int32} (hdg : decode cc pc = .ok (.iinc i n, 3)) (hv : Int32.ofInt n = v) (hn : i < nL) (hp : pc + 3 = pc') : So l own cc nL dl rt lay pc (s_in pc' i v) := by
  subst hp
  intro p e R s m args below meth c D z ts z0 a tl A hF k lv st σ o Q hQ ho h hk H locs ls nc ns hnn hP hS hl
  simp only [s_in] at h
  split at h
  · next x hq =>
    obtain ⟨j, hj⟩ := List.getElem?_of_mem (List.mem_map.mpr ⟨(i, .inl x), lq_mem hq, rfl⟩ : (i, cv a ts (.inl x)) ∈ lv.map (fun q => (q.1, cv a ts q.2)))
    exact lv_iinc hF.1 hF.2.1 hdg hl hj (by rw [hv]) hn (sl_eq lv i (.inl (x + v))) (fun ls' hl' => hk _ _ _ _ h H locs ls' nc ns hnn hP hS hl')
  · cases h
theorem so_goto {off : Int} {tgt : Nat} (hdg : decode cc pc = .ok (.goto off, 3)) (ht : (pc : Int) + off = (tgt : Int)) : So l own cc nL dl rt lay pc (s_go tgt) := by
  intro p e R s m args below meth c D z ts z0 a tl A hF k lv st σ o Q hQ ho h hk H locs ls nc ns hnn hP hS hl
  exact lv_goto hF.1 hF.2.1 hdg ht (hk _ _ _ _ h H locs ls nc ns hnn hP hS hl)
theorem so_ceq {off : Int} {tgt : Nat} (hdg : decode cc pc = .ok (.if_icmp .eq off, 3)) (ht : (pc : Int) + off = (tgt : Int)) (hp : pc + 3 = pc') : So l own cc nL dl rt lay pc (s_ceq pc' tgt) := by
  subst hp
  intro p e R s m args below meth c D z ts z0 a tl A hF k lv st σ o Q hQ ho h hk H locs ls nc ns hnn hP hS hl
  simp only [s_ceq] at h
  split at h
  · next y x r =>
    refine lv_icmp_eq hF.1 hF.2.1 hdg ht (fun q => ?_) (fun q => ?_)
    · rw [if_pos q] at h
      exact hk _ _ _ _ h H locs ls nc ns hnn hP hS hl
    · rw [if_neg q] at h
      exact hk _ _ _ _ h H locs ls nc ns hnn hP hS hl
  · cases h
theorem so_cne {off : Int} {tgt : Nat} (hdg : decode cc pc = .ok (.if_icmp .ne off, 3)) (ht : (pc : Int) + off = (tgt : Int)) (hp : pc + 3 = pc') : So l own cc nL dl rt lay pc (s_cne pc' tgt) := by
  subst hp
  intro p e R s m args below meth c D z ts z0 a tl A hF k lv st σ o Q hQ ho h hk H locs ls nc ns hnn hP hS hl
  simp only [s_cne] at h
  split at h
  · next y x r =>
    refine lv_icmp_ne hF.1 hF.2.1 hdg ht (fun q => ?_) (fun q => ?_)
    · rw [if_neg q] at h
      exact hk _ _ _ _ h H locs ls nc ns hnn hP hS hl
    · rw [if_pos q] at h
      exact hk _ _ _ _ h H locs ls nc ns hnn hP hS hl
  · cases h
theorem so_clt {off : Int} {tgt : Nat} (hdg : decode cc pc = .ok (.if_icmp .lt off, 3)) (ht : (pc : Int) + off = (tgt : Int)) (hp : pc + 3 = pc') : So l own cc nL dl rt lay pc (s_clt pc' tgt) := by
  subst hp
  intro p e R s m args below meth c D z ts z0 a tl A hF k lv st σ o Q hQ ho h hk H locs ls nc ns hnn hP hS hl
  simp only [s_clt] at h
  split at h
  · next y x r =>
    refine lv_icmp_lt hF.1 hF.2.1 hdg ht (fun q => ?_) (fun q => ?_)
    · rw [if_pos q] at h
      exact hk _ _ _ _ h H locs ls nc ns hnn hP hS hl
    · rw [if_neg q] at h
      exact hk _ _ _ _ h H locs ls nc ns hnn hP hS hl
  · cases h
theorem so_cge {off : Int} {tgt : Nat} (hdg : decode cc pc = .ok (.if_icmp .ge off, 3)) (ht : (pc : Int) + off = (tgt : Int)) (hp : pc + 3 = pc') : So l own cc nL dl rt lay pc (s_cge pc' tgt) := by
  subst hp
  intro p e R s m args below meth c D z ts z0 a tl A hF k lv st σ o Q hQ ho h hk H locs ls nc ns hnn hP hS hl
  simp only [s_cge] at h
  split at h
  · next y x r =>
    refine lv_icmp_ge hF.1 hF.2.1 hdg ht (fun q => ?_) (fun q => ?_)
    · rw [if_neg (Int32.not_lt.mpr q)] at h
      exact hk _ _ _ _ h H locs ls nc ns hnn hP hS hl
    · rw [if_pos (Int32.not_le.mp q)] at h
      exact hk _ _ _ _ h H locs ls nc ns hnn hP hS hl
  · cases h
theorem so_cgt {off : Int} {tgt : Nat} (hdg : decode cc pc = .ok (.if_icmp .gt off, 3)) (ht : (pc : Int) + off = (tgt : Int)) (hp : pc + 3 = pc') : So l own cc nL dl rt lay pc (s_cgt pc' tgt) := by
  subst hp
  intro p e R s m args below meth c D z ts z0 a tl A hF k lv st σ o Q hQ ho h hk H locs ls nc ns hnn hP hS hl
  simp only [s_cgt] at h
  split at h
  · next y x r =>
    refine lv_icmp_gt hF.1 hF.2.1 hdg ht (fun q => ?_) (fun q => ?_)
    · rw [if_pos q] at h
      exact hk _ _ _ _ h H locs ls nc ns hnn hP hS hl
    · rw [if_neg q] at h
      exact hk _ _ _ _ h H locs ls nc ns hnn hP hS hl
  · cases h
theorem so_cle {off : Int} {tgt : Nat} (hdg : decode cc pc = .ok (.if_icmp .le off, 3)) (ht : (pc : Int) + off = (tgt : Int)) (hp : pc + 3 = pc') : So l own cc nL dl rt lay pc (s_cle pc' tgt) := by
  subst hp
  intro p e R s m args below meth c D z ts z0 a tl A hF k lv st σ o Q hQ ho h hk H locs ls nc ns hnn hP hS hl
  simp only [s_cle] at h
  split at h
  · next y x r =>
    refine lv_icmp_le hF.1 hF.2.1 hdg ht (fun q => ?_) (fun q => ?_)
    · rw [if_neg (Int32.not_lt.mpr q)] at h
      exact hk _ _ _ _ h H locs ls nc ns hnn hP hS hl
    · rw [if_pos (Int32.not_le.mp q)] at h
      exact hk _ _ _ _ h H locs ls nc ns hnn hP hS hl
  · cases h
theorem so_zeq {off : Int} {tgt : Nat} (hdg : decode cc pc = .ok (.ifCond .eq off, 3)) (ht : (pc : Int) + off = (tgt : Int)) (hp : pc + 3 = pc') : So l own cc nL dl rt lay pc (s_zeq pc' tgt) := by
  subst hp
  intro p e R s m args below meth c D z ts z0 a tl A hF k lv st σ o Q hQ ho h hk H locs ls nc ns hnn hP hS hl
  simp only [s_zeq] at h
  split at h
  · next x r =>
    refine lv_if_eq hF.1 hF.2.1 hdg ht (fun q => ?_) (fun q => ?_)
    · rw [if_pos q] at h
      exact hk _ _ _ _ h H locs ls nc ns hnn hP hS hl
    · rw [if_neg q] at h
      exact hk _ _ _ _ h H locs ls nc ns hnn hP hS hl
  · cases h
theorem so_zne {off : Int} {tgt : Nat} (hdg : decode cc pc = .ok (.ifCond .ne off, 3)) (ht : (pc : Int) + off = (tgt : Int)) (hp : pc + 3 = pc') : So l own cc nL dl rt lay pc (s_zne pc' tgt) := by
  subst hp
  intro p e R s m args below meth c D z ts z0 a tl A hF k lv st σ o Q hQ ho h hk H locs ls nc ns hnn hP hS hl
  simp only [s_zne] at h
  split at h
  · next x r =>
    refine lv_if_ne hF.1 hF.2.1 hdg ht (fun q => ?_) (fun q => ?_)
    · rw [if_neg q] at h
      exact hk _ _ _ _ h H locs ls nc ns hnn hP hS hl
    · rw [if_pos q] at h
      exact hk _ _ _ _ h H locs ls nc ns hnn hP hS hl
  · cases h
theorem so_zlt {off : Int} {tgt : Nat} (hdg : decode cc pc = .ok (.ifCond .lt off, 3)) (ht : (pc : Int) + off = (tgt : Int)) (hp : pc + 3 = pc') : So l own cc nL dl rt lay pc (s_zlt pc' tgt) := by
  subst hp
  intro p e R s m args below meth c D z ts z0 a tl A hF k lv st σ o Q hQ ho h hk H locs ls nc ns hnn hP hS hl
  simp only [s_zlt] at h
  split at h
  · next x r =>
    refine lv_if_lt hF.1 hF.2.1 hdg ht (fun q => ?_) (fun q => ?_)
    · rw [if_pos q] at h
      exact hk _ _ _ _ h H locs ls nc ns hnn hP hS hl
    · rw [if_neg q] at h
      exact hk _ _ _ _ h H locs ls nc ns hnn hP hS hl
  · cases h
theorem so_zge {off : Int} {tgt : Nat} (hdg : decode cc pc = .ok (.ifCond .ge off, 3)) (ht : (pc : Int) + off = (tgt : Int)) (hp : pc + 3 = pc') : So l own cc nL dl rt lay pc (s_zge pc' tgt) := by
  subst hp
  intro p e R s m args below meth c D z ts z0 a tl A hF k lv st σ o Q hQ ho h hk H locs ls nc ns hnn hP hS hl
  simp only [s_zge] at h
  split at h
  · next x r =>
    refine lv_if_ge hF.1 hF.2.1 hdg ht (fun q => ?_) (fun q => ?_)
    · rw [if_neg (Int32.not_lt.mpr q)] at h
      exact hk _ _ _ _ h H locs ls nc ns hnn hP hS hl
    · rw [if_pos (Int32.not_le.mp q)] at h
      exact hk _ _ _ _ h H locs ls nc ns hnn hP hS hl
  · cases h
theorem so_zgt {off : Int} {tgt : Nat} (hdg : decode cc pc = .ok (.ifCond .gt off, 3)) (ht : (pc : Int) + off = (tgt : Int)) (hp : pc + 3 = pc') : So l own cc nL dl rt lay pc (s_zgt pc' tgt) := by
  subst hp
  intro p e R s m args below meth c D z ts z0 a tl A hF k lv st σ o Q hQ ho h hk H locs ls nc ns hnn hP hS hl
  simp only [s_zgt] at h
  split at h
  · next x r =>
    refine lv_if_gt hF.1 hF.2.1 hdg ht (fun q => ?_) (fun q => ?_)
    · rw [if_pos q] at h
      exact hk _ _ _ _ h H locs ls nc ns hnn hP hS hl
    · rw [if_neg q] at h
      exact hk _ _ _ _ h H locs ls nc ns hnn hP hS hl
  · cases h
theorem so_zle {off : Int} {tgt : Nat} (hdg : decode cc pc = .ok (.ifCond .le off, 3)) (ht : (pc : Int) + off = (tgt : Int)) (hp : pc + 3 = pc') : So l own cc nL dl rt lay pc (s_zle pc' tgt) := by
  subst hp
  intro p e R s m args below meth c D z ts z0 a tl A hF k lv st σ o Q hQ ho h hk H locs ls nc ns hnn hP hS hl
  simp only [s_zle] at h
  split at h
  · next x r =>
    refine lv_if_le hF.1 hF.2.1 hdg ht (fun q => ?_) (fun q => ?_)
    · rw [if_neg (Int32.not_lt.mpr q)] at h
      exact hk _ _ _ _ h H locs ls nc ns hnn hP hS hl
    · rw [if_pos (Int32.not_le.mp q)] at h
      exact hk _ _ _ _ h H locs ls nc ns hnn hP hS hl
  · cases h
theorem so_dup (hdg : decode cc pc = .ok (.dup, 1)) (hp : pc + 1 = pc') : So l own cc nL dl rt lay pc (s_dup pc') := by
  subst hp
  intro p e R s m args below meth c D z ts z0 a tl A hF k lv st σ o Q hQ ho h hk H locs ls nc ns hnn hP hS hl
  simp only [s_dup] at h
  split at h
  · next v r => exact lv_dup hF.1 hF.2.1 hdg (cv_cat v) (hk _ _ _ _ h H locs ls nc ns hnn hP hS hl)
  · cases h
theorem so_pop (hdg : decode cc pc = .ok (.pop, 1)) (hp : pc + 1 = pc') : So l own cc nL dl rt lay pc (s_pop pc') := by
  subst hp
  intro p e R s m args below meth c D z ts z0 a tl A hF k lv st σ o Q hQ ho h hk H locs ls nc ns hnn hP hS hl
  simp only [s_pop] at h
  split at h
  · next v r => exact lv_pop hF.1 hF.2.1 hdg (cv_cat v) (hk _ _ _ _ h H locs ls nc ns hnn hP hS hl)
  · cases h
theorem so_dup2 (hdg : decode cc pc = .ok (.dup2, 1)) (hp : pc + 1 = pc') : So l own cc nL dl rt lay pc (s_dup2 pc') := by
  subst hp
  intro p e R s m args below meth c D z ts z0 a tl A hF k lv st σ o Q hQ ho h hk H locs ls nc ns hnn hP hS hl
  simp only [s_dup2] at h
  split at h
  · next v w r => exact lv_dup2_11 hF.1 hF.2.1 hdg (cv_cat v) (cv_cat w) (hk _ _ _ _ h H locs ls nc ns hnn hP hS hl)
  · cases h
theorem so_gf {C ref : String} {T : u_T} {N ci f index : Nat} (hin : ∀ w ∈ u_ws C T N, w ∈ gtb) (hc : vwCl[ci]? = some (C, T, N)) (hf : f < N) (hlk : Cond.fieldLink own index ref (T f).2.1 (T f).2.2.1 ∈ gtb) (hsame : (T f).1 = ref) (hdg : decode cc pc = .ok (.getfield index, 3)) (hp : pc + 3 = pc') : So l own cc nL dl rt lay pc (s_gf pc' lay ci f) := by
  subst hp
  intro p e R s m args below meth c D z ts z0 a tl A hF k lv st σ o Q hQ ho h hk H locs ls nc ns hnn hP hS hl
  obtain ⟨hx, hb, hml, hown, hts, hK, hF⟩ := hF
  subst hsame
  simp only [s_gf] at h
  split at h
  · next q r =>
    split at h
    · next w hw =>
      split at h
      · next hci =>
        obtain ⟨c1, fs⟩ := w
        subst hci
        have he := wT_get (z := z) (a := a) (tl := tl) (σ := σ) hw
        split at h
        · next hj => exact va_get (v := .int (σ q f)) hx hb hts hin hown hK hP q he hc f hf (hts _ hlk) (fun _ h9 => h9) (by rw [List.getElem?_mapIdx, hj]; rfl) hdg (hk _ _ _ _ h H locs ls nc ns hnn hP hS hl)
        · next j hj => exact va_get (v := .ref (a j)) hx hb hts hin hown hK hP q he hc f hf (hts _ hlk) (fun _ h9 => h9) (by rw [List.getElem?_mapIdx, hj]; rfl) hdg (hk _ _ _ _ h H locs ls nc ns hnn hP hS hl)
        · cases h
      · cases h
    · cases h
  · cases h
theorem so_pf {C ref : String} {T : u_T} {ty0 : Nat → FieldType} {N ci f index : Nat} (hin : ∀ w ∈ u_ws C T N, w ∈ gtb) (hty : ∀ k, k < N → parseFieldDescriptor (T k).2.2.1 = some (ty0 k)) (hnm : ∀ a, a < N → ∀ b, b < N → a ≠ b → (T a).2.1 ≠ (T b).2.1) (hc : vwCl[ci]? = some (C, T, N)) (hf : f < N) (hlk : Cond.fieldLink own index ref (T f).2.1 (T f).2.2.1 ∈ gtb) (hsame : (T f).1 = ref) (hfin : (T f).2.2.2 = false) (hd : parseFieldDescriptor (T f).2.2.1 = some .int) (hdg : decode cc pc = .ok (.putfield index, 3)) (hp : pc + 3 = pc') : So l own cc nL dl rt lay pc (s_pf pc' lay ci f) := by
  subst hp
  intro p e R s m args below meth c D z ts z0 a tl A hF k lv st σ o Q hQ ho h hk H locs ls nc ns hnn hP hS hl
  obtain ⟨hx, hb, hml, hown, hts, hK, hD, hA, hF⟩ := hF
  subst hsame
  simp only [s_pf] at h
  split at h
  · next v q r =>
    split at h
    · next w hw =>
      split at h
      · next hci =>
        obtain ⟨c1, fs⟩ := w
        subst hci
        have he := wT_get (z := z) (a := a) (tl := tl) (σ := σ) hw
        split at h
        · next hj =>
          refine va_put (v := .int v) (ty := .int) hx hb hts hin ty0 hty hnm hown hK hP (hD σ) hS q he hc f hf (hts _ hlk) (fun _ h9 => h9) hfin hd rfl rfl (by rw [List.length_mapIdx]; exact (List.getElem?_eq_some_iff.mp hj).1) hdg (fun H1 locs1 hP1 _ hS1 => ?_)
          refine hk _ _ _ _ h H1 locs1 ls nc ns hnn ?_ hS1 hl
          rw [fv_set hj] at hP1
          have e := wT_set (z := z) (a := a) (tl := tl) (σ := σ) hw (upd (σ q) f v)
          unfold ce at e
          rw [e] at hP1
          exact hP1
        · cases h
      · cases h
    · cases h
  · cases h
theorem so_pz {C ref : String} {T : u_T} {ty0 : Nat → FieldType} {N ci f index : Nat} (hin : ∀ w ∈ u_ws C T N, w ∈ gtb) (hty : ∀ k, k < N → parseFieldDescriptor (T k).2.2.1 = some (ty0 k)) (hnm : ∀ a, a < N → ∀ b, b < N → a ≠ b → (T a).2.1 ≠ (T b).2.1) (hc : vwCl[ci]? = some (C, T, N)) (hf : f < N) (hlk : Cond.fieldLink own index ref (T f).2.1 (T f).2.2.1 ∈ gtb) (hsame : (T f).1 = ref) (hfin : (T f).2.2.2 = false) (hd : parseFieldDescriptor (T f).2.2.1 = some .boolean) (hdg : decode cc pc = .ok (.putfield index, 3)) (hp : pc + 3 = pc') : So l own cc nL dl rt lay pc (s_pz pc' lay ci f) := by
  subst hp
  intro p e R s m args below meth c D z ts z0 a tl A hF k lv st σ o Q hQ ho h hk H locs ls nc ns hnn hP hS hl
  obtain ⟨hx, hb, hml, hown, hts, hK, hD, hA, hF⟩ := hF
  subst hsame
  simp only [s_pz] at h
  split at h
  · next v q r =>
    split at h
    case isFalse => cases h
    next hv =>
    split at h
    · next w hw =>
      split at h
      · next hci =>
        obtain ⟨c1, fs⟩ := w
        subst hci
        have he := wT_get (z := z) (a := a) (tl := tl) (σ := σ) hw
        split at h
        · next hj =>
          refine va_put (v := .int v) (ty := .boolean) hx hb hts hin ty0 hty hnm hown hK hP (hD σ) hS q he hc f hf (hts _ hlk) (fun _ h9 => h9) hfin hd (by rcases hv with rfl | rfl <;> rfl) (by rcases hv with rfl | rfl <;> rfl) (by rw [List.length_mapIdx]; exact (List.getElem?_eq_some_iff.mp hj).1) hdg (fun H1 locs1 hP1 _ hS1 => ?_)
          refine hk _ _ _ _ h H1 locs1 ls nc ns hnn ?_ hS1 hl
          rw [fv_set hj] at hP1
          have e := wT_set (z := z) (a := a) (tl := tl) (σ := σ) hw (upd (σ q) f v)
          unfold ce at e
          rw [e] at hP1
          exact hP1
        · cases h
      · cases h
    · cases h
  · cases h
theorem so_ia0 (hdg : decode cc pc = .ok (.iaload, 1)) (hp : pc + 1 = pc') : So l own cc nL dl rt lay pc (s_ia pc' lay 0) := by
  subst hp
  intro p e R s m args below meth c D z ts z0 a tl A hF k lv st σ o Q hQ ho h hk H locs ls nc ns hnn hP hS hl
  obtain ⟨hx, hb, hml, hown, hts, hK, hD, hA, hA0, hSt, hF⟩ := hF
  simp only [s_ia] at h
  split at h
  · next i q r =>
    split at h
    · next w hw =>
      split at h
      · next hci =>
        obtain ⟨c1, n⟩ := w
        subst hci
        have he := wT_get (z := z) (a := a) (tl := tl) (σ := σ) hw
        split at h
        · next hi => exact va_iald hx hb hK hP q 0 he rfl (inb_vp hi) hdg (hk _ _ _ _ h H locs ls nc ns hnn hP hS hl)
        · cases h
      · cases h
    · cases h
  · next i t r =>
    split at h
    · next ht =>
      split at h
      · next hi => exact va_ti (v := .int (stv t i.toNatClampNeg)) hx hb ((hSt.1 t ht.1).2.narrow hA0) hS (inb_vp hi) rfl hdg (hk _ _ _ _ h H locs ls nc ns hnn hP hS hl)
      · cases h
    · cases h
  · cases h
theorem so_ia1 (hdg : decode cc pc = .ok (.baload, 1)) (hp : pc + 1 = pc') : So l own cc nL dl rt lay pc (s_ia pc' lay 1) := by
  subst hp
  intro p e R s m args below meth c D z ts z0 a tl A hF k lv st σ o Q hQ ho h hk H locs ls nc ns hnn hP hS hl
  obtain ⟨hx, hb, hml, hown, hts, hK, hD, hA, hA0, hSt, hF⟩ := hF
  simp only [s_ia] at h
  split at h
  · next i q r =>
    split at h
    · next w hw =>
      split at h
      · next hci =>
        obtain ⟨c1, n⟩ := w
        subst hci
        have he := wT_get (z := z) (a := a) (tl := tl) (σ := σ) hw
        split at h
        · next hi => exact va_bald hx hb hK hP q 1 he rfl (inb_vp hi) hdg (hk _ _ _ _ h H locs ls nc ns hnn hP hS hl)
        · cases h
      · cases h
    · cases h
  · next i t r =>
    split at h
    · next ht => exact absurd ht.2 (by decide)
    · cases h
  · cases h
theorem so_ia2 (hdg : decode cc pc = .ok (.baload, 1)) (hp : pc + 1 = pc') : So l own cc nL dl rt lay pc (s_ia pc' lay 2) := by
  subst hp
  intro p e R s m args below meth c D z ts z0 a tl A hF k lv st σ o Q hQ ho h hk H locs ls nc ns hnn hP hS hl
  obtain ⟨hx, hb, hml, hown, hts, hK, hD, hA, hA0, hSt, hF⟩ := hF
  simp only [s_ia] at h
  split at h
  · next i q r =>
    split at h
    · next w hw =>
      split at h
      · next hci =>
        obtain ⟨c1, n⟩ := w
        subst hci
        have he := wT_get (z := z) (a := a) (tl := tl) (σ := σ) hw
        split at h
        · next hi => exact va_zald hx hb hK hP q 2 he rfl (inb_vp hi) hdg (hk _ _ _ _ h H locs ls nc ns hnn hP hS hl)
        · cases h
      · cases h
    · cases h
  · next i t r =>
    split at h
    · next ht => exact absurd ht.2 (by decide)
    · cases h
  · cases h
theorem so_ix (hdg : decode cc pc = .ok (.iastore, 1)) (hp : pc + 1 = pc') : So l own cc nL dl rt lay pc (s_ix pc' lay 0) := by
  subst hp
  intro p e R s m args below meth c D z ts z0 a tl A hF k lv st σ o Q hQ ho h hk H locs ls nc ns hnn hP hS hl
  obtain ⟨hx, hb, hml, hown, hts, hK, hD, hA, hF⟩ := hF
  simp only [s_ix] at h
  split at h
  · next v i q r =>
    split at h
    · next w hw =>
      split at h
      · next hci =>
        obtain ⟨c1, n⟩ := w
        subst hci
        have he := wT_get (z := z) (a := a) (tl := tl) (σ := σ) hw
        split at h
        · next hi =>
          refine va_iast hx hb hK hP (hD σ) hS q 0 he rfl (inb_vp hi) hdg (fun H1 locs1 hP1 _ hS1 => ?_)
          refine hk _ _ _ _ h H1 locs1 ls nc ns hnn ?_ hS1 hl
          have e := wT_set (z := z) (a := a) (tl := tl) (σ := σ) hw (upd (σ q) i.toNatClampNeg v)
          unfold ce at e
          rw [e] at hP1
          exact hP1
        · cases h
      · cases h
    · cases h
  · cases h
theorem so_bx (hdg : decode cc pc = .ok (.bastore, 1)) (hp : pc + 1 = pc') : So l own cc nL dl rt lay pc (s_bx pc' lay) := by
  subst hp
  intro p e R s m args below meth c D z ts z0 a tl A hF k lv st σ o Q hQ ho h hk H locs ls nc ns hnn hP hS hl
  obtain ⟨hx, hb, hml, hown, hts, hK, hD, hA, hF⟩ := hF
  simp only [s_bx] at h
  split at h
  · next v i q r =>
    split at h
    case isFalse => cases h
    next hv =>
    split at h
    · next w hw =>
      split at h
      · next hci =>
        obtain ⟨c1, n⟩ := w
        subst hci
        have he := wT_get (z := z) (a := a) (tl := tl) (σ := σ) hw
        split at h
        · next hi =>
          refine va_bast hx hb hK hP (hD σ) hS q 1 he rfl (inb_vp hi) hdg (fun H1 locs1 hP1 _ hS1 => ?_)
          refine hk _ _ _ _ h H1 locs1 ls nc ns hnn ?_ hS1 hl
          have e := wT_set (z := z) (a := a) (tl := tl) (σ := σ) hw (upd (σ q) i.toNatClampNeg v)
          unfold ce at e
          rw [vp_nar_byte, hv] at hP1
          rw [e] at hP1
          exact hP1
        · cases h
      · cases h
    · cases h
  · cases h
theorem so_zx (hdg : decode cc pc = .ok (.bastore, 1)) (hp : pc + 1 = pc') : So l own cc nL dl rt lay pc (s_zx pc' lay) := by
  subst hp
  intro p e R s m args below meth c D z ts z0 a tl A hF k lv st σ o Q hQ ho h hk H locs ls nc ns hnn hP hS hl
  obtain ⟨hx, hb, hml, hown, hts, hK, hD, hA, hF⟩ := hF
  simp only [s_zx] at h
  split at h
  · next v i q r =>
    split at h
    case isFalse => cases h
    next hv =>
    split at h
    · next w hw =>
      split at h
      · next hci =>
        obtain ⟨c1, n⟩ := w
        subst hci
        have he := wT_get (z := z) (a := a) (tl := tl) (σ := σ) hw
        split at h
        · next hi =>
          refine va_zast hx hb hK hP (hD σ) hS q 2 he rfl (inb_vp hi) hdg (fun H1 locs1 hP1 _ hS1 => ?_)
          refine hk _ _ _ _ h H1 locs1 ls nc ns hnn ?_ hS1 hl
          have e := wT_set (z := z) (a := a) (tl := tl) (σ := σ) hw (upd (σ q) i.toNatClampNeg v)
          unfold ce at e
          rw [show vp_nar .boolean v = v by rcases hv with rfl | rfl <;> rfl] at hP1
          rw [e] at hP1
          exact hP1
        · cases h
      · cases h
    · cases h
  · cases h
theorem so_gs {index t : Nat} (hlk : Cond.fieldLink own index "ForgeScheduler" (stn t) "[I" ∈ gtb) (hdg : decode cc pc = .ok (.getstatic index, 3)) (hp : pc + 3 = pc') : So l own cc nL dl rt lay pc (s_gs pc' t) := by
  subst hp
  intro p e R s m args below meth c D z ts z0 a tl A hF k lv st σ o Q hQ ho h hk H locs ls nc ns hnn hP hS hl
  obtain ⟨hx, hb, hml, hown, hts, hK, hD, hA, hA0, hSt, hF⟩ := hF
  simp only [s_gs] at h
  split at h
  · next ht => exact va_gets hx hb ((hSt.1 t ht).1.narrow hA0) hS hown (hts _ hlk) (fun _ h9 => h9) hdg (hk _ _ _ _ h H locs ls nc ns hnn hP hS hl)
  · cases h
theorem so_gsn {index t : Nat} (hlk : ∀ U : State, Nst U → va_Nw (.fieldLinkNest own index "ForgeScheduler" (stn t) "[I" "ForgeScheduler") U) (hdg : decode cc pc = .ok (.getstatic index, 3)) (hp : pc + 3 = pc') : So l own cc nL dl rt lay pc (s_gs pc' t) := by
  subst hp
  intro p e R s m args below meth c D z ts z0 a tl A hF k lv st σ o Q hQ ho h hk H locs ls nc ns hnn hP hS hl
  obtain ⟨hx, hb, hml, hown, hts, hK, hD, hA, hA0, hSt, hF⟩ := hF
  simp only [s_gs] at h
  split at h
  · next ht => exact va_getsN hx hb ((hSt.1 t ht).1.narrow hA0) hS hown (va_Nw.use rfl (hlk s hSt.2.1)) (fun _ h9 => h9) hdg (hk _ _ _ _ h H locs ls nc ns hnn hP hS hl)
  · cases h
theorem so_ldc {index : Nat} {v : Int32} (hlk : Cond.constant own index v ∈ gtb) (hdg : decode cc pc = .ok (.ldc index, 2)) (hp : pc + 2 = pc') : So l own cc nL dl rt lay pc (s_ic pc' v) := by
  subst hp
  intro p e R s m args below meth c D z ts z0 a tl A hF k lv st σ o Q hQ ho h hk H locs ls nc ns hnn hP hS hl
  obtain ⟨hx, hb, hml, hown, hts, hF⟩ := hF
  exact lv_ldc hx hb hown (hts _ hlk) hdg (hk _ _ _ _ h H locs ls nc ns hnn hP hS hl)
theorem so_ir (hrt : rt = some .int) (hdg : decode cc pc = .ok (.ireturn, 1)) : So l own cc nL dl rt lay pc s_ir := by
  subst hrt
  intro p e R s m args below meth c D z ts z0 a tl A hF k lv st σ o Q hQ ho h hk H locs ls nc ns hnn hP hS hl
  obtain ⟨hx, hb, hml, hown, hts, hK, hD, hA, hA0, hSt, hlk, hr, hF⟩ := hF
  simp only [s_ir] at h
  split at h
  · next v =>
    cases h
    exact W_q (hQ (fun h9 => by cases h9) _ _) (W.iret hx hb hr (fun t ht hW => ⟨rfl, by rw [ht]; exact hP, hS.F ht⟩) hS.2.2 hdg hlk)
  · cases h
theorem so_zr (hrt : rt = some .boolean) (hdg : decode cc pc = .ok (.ireturn, 1)) : So l own cc nL dl rt lay pc s_zr := by
  subst hrt
  intro p e R s m args below meth c D z ts z0 a tl A hF k lv st σ o Q hQ ho h hk H locs ls nc ns hnn hP hS hl
  obtain ⟨hx, hb, hml, hown, hts, hK, hD, hA, hA0, hSt, hlk, hr, hF⟩ := hF
  simp only [s_zr] at h
  split at h
  · next v =>
    split at h
    · next hv =>
      cases h
      exact W_q (hQ (fun h9 => by cases h9) _ _) (W.zret hx hb hr (by rcases hv with rfl | rfl <;> rfl) (fun t ht hW => ⟨rfl, by rw [ht]; exact hP, hS.F ht⟩) hS.2.2 hdg hlk)
    · cases h
  · cases h
theorem so_ar {n : String} (hrt : rt = some (.object n)) (hdg : decode cc pc = .ok (.areturn, 1)) : So l own cc nL dl rt lay pc s_ar := by
  subst hrt
  intro p e R s m args below meth c D z ts z0 a tl A hF k lv st σ o Q hQ ho h hk H locs ls nc ns hnn hP hS hl
  obtain ⟨hx, hb, hml, hown, hts, hK, hD, hA, hA0, hSt, hlk, hr, hF⟩ := hF
  simp only [s_ar] at h
  split at h
  · next v =>
    cases h
    exact W_q (hQ (fun h9 => by cases h9) _ _) (W.aret hx hb hr (Or.inl ⟨n, rfl⟩) (Or.inr ⟨a v, rfl⟩) (fun t ht hW => ⟨rfl, by rw [ht]; exact hP, hS.F ht⟩) hS.2.2 hdg hlk)
  · cases h
theorem so_vr (hrt : rt = none) (hdg : decode cc pc = .ok (.return_, 1)) : So l own cc nL dl rt lay pc s_vr := by
  subst hrt
  intro p e R s m args below meth c D z ts z0 a tl A hF k lv st σ o Q hQ ho h hk H locs ls nc ns hnn hP hS hl
  obtain ⟨hx, hb, hml, hown, hts, hK, hD, hA, hA0, hSt, hlk, hr, hF⟩ := hF
  simp only [s_vr] at h
  split at h
  · cases h
    exact W_q (hQ (fun h9 => by cases h9) _ _) (W.vret hx hb hr (fun t ht hW => ⟨rfl, by rw [ht]; exact hP, hS.F ht⟩) hS.2.2 hdg hlk)
  · cases h
theorem so_sw {len : Nat} {dfl : Int} {arr : Array (Int × Int)} {ps : List (Int32 × Nat)} {d : Nat} (hdg : decode cc pc = .ok (.lookupswitch dfl arr, len)) (hs : (arr.toList.zip (arr.toList.drop 1)).all (fun (a, next) => a.1 < next.1) = true) (hps : arr.toList = ps.map (fun q => (q.1.toInt, (q.2 : Int) - pc))) (hd : dfl = (d : Int) - pc) : So l own cc nL dl rt lay pc (s_sw ps d) := by
  intro p e R s m args below meth c D z ts z0 a tl A hF k lv st σ o Q hQ ho h hk H locs ls nc ns hnn hP hS hl
  simp only [s_sw] at h
  split at h
  · next x r =>
    obtain ⟨t, h1, h2⟩ := sws_off x pc ps d h
    exact lv_lookup hF.1 hF.2.1 hdg hs rfl (by rw [hps, hd]; exact h2) (hk _ _ _ _ h1 H locs ls nc ns hnn hP hS hl)
  · cases h
theorem cv_sum {a ts : Nat → Nat} (r : List Vv) : ((r.map (cv a ts)).map fun v => v.category).sum = r.length := by
  induction r with
  | nil => rfl
  | cons v r ih => simp only [List.map_cons, List.sum_cons, List.length_cons, ih, cv_cat]; omega
theorem so_max {index : Nat} (hd1 : 1 ≤ dl) (hlink : Cond.methodLink own index Lib.Math.max.name ∈ gtb) (hstat : Cond.static Lib.Math.max.name ∈ gtb) (hini : Cond.initialized "java/lang/Math" ∈ gtb) (hcode : Cond.code Lib.Math.max.name Lib.Math.max.code 2 (some .int) ∈ gtb) (hdg : decode cc pc = .ok (.invokestatic index, 3)) (hp : pc + 3 = pc') : So l own cc nL dl rt lay pc (s_m pc' (fun x y => if x < y then y else x)) := by
  subst hp
  intro p e R s m args below meth c D z ts z0 a tl A hF k lv st σ o Q hQ ho h hk H locs ls nc ns hnn hP hS hl
  obtain ⟨hx, hb, hml, hown, hts, hK, hD, hA, hA0, hSt, hlk, hr, hR1, hR2, hF⟩ := hF
  simp only [s_m] at h
  split at h
  · next y x r =>
    split at h
    · next hr8 => exact va_mmax hx hb (hml.trans hl.1.symm) hown (hts _ hlink) (hts _ hstat) (hts _ hini) (hts _ hcode) (by omega) (by rw [cv_sum]; omega) hnn.1 hnn.2 hdg (hk _ _ _ _ h H locs ls nc ns hnn hP hS hl)
    · cases h
  · cases h
theorem so_min {index : Nat} (hd1 : 1 ≤ dl) (hlink : Cond.methodLink own index Lib.Math.min.name ∈ gtb) (hstat : Cond.static Lib.Math.min.name ∈ gtb) (hini : Cond.initialized "java/lang/Math" ∈ gtb) (hcode : Cond.code Lib.Math.min.name Lib.Math.min.code 2 (some .int) ∈ gtb) (hdg : decode cc pc = .ok (.invokestatic index, 3)) (hp : pc + 3 = pc') : So l own cc nL dl rt lay pc (s_m pc' (fun x y => if y < x then y else x)) := by
  subst hp
  intro p e R s m args below meth c D z ts z0 a tl A hF k lv st σ o Q hQ ho h hk H locs ls nc ns hnn hP hS hl
  obtain ⟨hx, hb, hml, hown, hts, hK, hD, hA, hA0, hSt, hlk, hr, hR1, hR2, hF⟩ := hF
  simp only [s_m] at h
  split at h
  · next y x r =>
    split at h
    · next hr8 => exact va_mmin hx hb (hml.trans hl.1.symm) hown (hts _ hlink) (hts _ hstat) (hts _ hini) (hts _ hcode) (by omega) (by rw [cv_sum]; omega) hnn.1 hnn.2 hdg (hk _ _ _ _ h H locs ls nc ns hnn hP hS hl)
    · cases h
  · cases h
theorem so_cp {index : Nat} (hd1 : 1 ≤ dl) (hlink : Cond.methodLink own index arraycopyName ∈ gtb) (hnat : Cond.native arraycopyName ∈ gtb) (hstat : Cond.static arraycopyName ∈ gtb) (hini : Cond.initialized "java/lang/System" ∈ gtb) (hdg : decode cc pc = .ok (.invokestatic index, 3)) (hp : pc + 3 = pc') : So l own cc nL dl rt lay pc (s_cp pc' lay) := by
  subst hp
  intro p e R s m args below meth c D z ts z0 a tl A hF k lv st σ o Q hQ ho h hk H locs ls nc ns hnn hP hS hl
  obtain ⟨hx, hb, hml, hown, hts, hK, hD, hA, hA0, hSt, hlk, hr, hR1, hR2, hF⟩ := hF
  simp only [s_cp] at h
  split at h
  · next n dp q1 sp q0 r =>
    split at h
    · next w0 w1 hw0 hw1 =>
      split at h
      · next hc =>
        obtain ⟨c0, n0⟩ := w0
        obtain ⟨c1, n1⟩ := w1
        obtain ⟨e0, e1, h1, h2, h3, h4, h5, h6⟩ := hc
        dsimp only at e0 e1 h4 h5
        subst e0
        subst e1
        have he0 := wT_get (z := z) (a := a) (tl := tl) (σ := σ) hw0
        have he1 := wT_get (z := z) (a := a) (tl := tl) (σ := σ) hw1
        refine va_copyi hx hb (hml.trans hl.1.symm) hown (hts _ hlink) (hts _ hnat) (hts _ hstat) (hts _ hini) hK hP (hD σ) hS q0 q1 0 0 (ty := .int) he0 he1 rfl rfl rfl h1 h2 h3 h4 h5 (fun _ _ => rfl) (by omega) (by rw [cv_sum]; show _ + (7 + 11) ≤ _; omega) hdg (fun H1 locs1 hP1 _ hS1 => ?_)
        refine hk _ _ _ _ h H1 locs1 ls nc ns hnn ?_ hS1 hl
        have e := wT_set (z := z) (a := a) (tl := tl) (σ := σ) hw1 (va_cpy (σ q0) (σ q1) sp.toNatClampNeg dp.toNatClampNeg n.toNatClampNeg)
        unfold ce at e
        rw [e] at hP1
        exact hP1
      · cases h
    · cases h
  · cases h
end STEPS
