/-! a world written out cell by cell, by structural recursion -/
def fgo (a : Nat → Nat) (row : Nat → Int32) : Nat → List (Option Nat) → List Value
  | _, [] => []
  | k, o :: fs => fv a row k o :: fgo a row (k + 1) fs
def cgo (z : Nat → ClassId) (a : Nat → Nat) (sh : Shp) (row : Nat → Int32) : va_E := match sh with
  | .inl q => .inl (z q.1, q.2, .inl row)
  | .inr o => .inr (o.1, fgo a row 0 o.2)
def wgo (z : Nat → ClassId) (a : Nat → Nat) (σ : Mm) : Nat → List Shp → va_W
  | _, [] => []
  | k, sh :: lay => (a k, cgo z a sh (σ k)) :: wgo z a σ (k + 1) lay
theorem fgo_get {a : Nat → Nat} {row : Nat → Int32} : ∀ (fs : List (Option Nat)) (k j : Nat), (fgo a row k fs)[j]? = (fs[j]?).map (fv a row (k + j))
  | [], k, j => by simp [fgo]
  | o :: fs, k, 0 => by simp [fgo]
  | o :: fs, k, j + 1 => by
    show (fgo a row (k + 1) fs)[j]? = _
    rw [fgo_get fs (k + 1) j, show k + 1 + j = k + (j + 1) from by omega]
    rfl
theorem cgo_eq {z : Nat → ClassId} {a : Nat → Nat} {sh : Shp} {row : Nat → Int32} : ce z a sh row = cgo z a sh row := by
  rcases sh with q | o
  · rfl
  · show Sum.inr (o.1, o.2.mapIdx (fv a row)) = Sum.inr (o.1, fgo a row 0 o.2)
    congr 2
    apply List.ext_getElem?
    intro j
    rw [List.getElem?_mapIdx, fgo_get, Nat.zero_add]
theorem wgo_get {z : Nat → ClassId} {a : Nat → Nat} {σ : Mm} : ∀ (lay : List Shp) (k j : Nat), (wgo z a σ k lay)[j]? = (lay[j]?).map (fun sh => (a (k + j), cgo z a sh (σ (k + j))))
  | [], k, j => by simp [wgo]
  | sh :: lay, k, 0 => by simp [wgo]
  | sh :: lay, k, j + 1 => by
    show (wgo z a σ (k + 1) lay)[j]? = _
    rw [wgo_get lay (k + 1) j, show k + 1 + j = k + (j + 1) from by omega]
    rfl
theorem wT_go {z : Nat → ClassId} {lay : List Shp} {a : Nat → Nat} {tl : va_W} {σ : Mm} : wT z lay a tl σ = wgo z a σ 0 lay ++ tl := by
  unfold wT wG
  congr 1
  apply List.ext_getElem?
  intro j
  rw [List.getElem?_mapIdx, wgo_get]
  simp only [Nat.zero_add, cgo_eq]
