/-! the kept forges: worlds in another order, copying between a forge and a kept one -/
theorem P_perm {D : va_G} {ws ws' : va_W} {H : Heap} (h : ws.Perm ws') (hP : va_P D vwCl ws H) : va_P D vwCl ws' H := by
  intro k q hk
  have h1 : q ∈ ws := h.mem_iff.mpr (List.mem_of_getElem? hk)
  obtain ⟨i, hi⟩ := List.mem_iff_getElem?.mp h1
  exact hP i q hi
theorem D_nodup {A : Nat → Prop} {ws : va_W} : va_D A ws ↔ (ws.map Prod.fst).Nodup ∧ ∀ q ∈ ws, A q.1 := by
  constructor
  · intro hD
    refine ⟨?_, fun q hq => ?_⟩
    · rw [List.Nodup, List.pairwise_iff_getElem]
      intro i j hi hj hij h
      rw [List.getElem_map, List.getElem_map] at h
      have hi' : i < ws.length := by simpa using hi
      have hj' : j < ws.length := by simpa using hj
      have := hD.1 i j ws[i] ws[j] (List.getElem?_eq_getElem hi') (List.getElem?_eq_getElem hj') h
      omega
    · obtain ⟨i, hi⟩ := List.mem_iff_getElem?.mp hq
      exact hD.2 i q hi
  · rintro ⟨h1, h2⟩
    refine ⟨fun i j x y hi hj hxy => ?_, fun k q hk => h2 q (List.mem_of_getElem? hk)⟩
    rw [List.Nodup, List.pairwise_iff_getElem] at h1
    obtain ⟨hi', ei⟩ := List.getElem?_eq_some_iff.mp hi
    obtain ⟨hj', ej⟩ := List.getElem?_eq_some_iff.mp hj
    have hi2 : i < (ws.map Prod.fst).length := by simpa using hi'
    have hj2 : j < (ws.map Prod.fst).length := by simpa using hj'
    have e : (ws.map Prod.fst)[i] = (ws.map Prod.fst)[j] := by rw [List.getElem_map, List.getElem_map, ei, ej, hxy]
    rcases Nat.lt_trichotomy i j with h | h | h
    · exact absurd e (h1 i j hi2 hj2 h)
    · exact h
    · exact absurd e.symm (h1 j i hj2 hi2 h)
theorem D_perm {A : Nat → Prop} {ws ws' : va_W} (h : ws.Perm ws') (hD : va_D A ws) : va_D A ws' := by
  obtain ⟨h1, h2⟩ := D_nodup.mp hD
  exact D_nodup.mpr ⟨(h.map Prod.fst).nodup_iff.mp h1, fun q hq => h2 q (h.mem_iff.mpr hq)⟩
theorem wgo_app {z : Nat → ClassId} {a : Nat → Nat} {σ : Mm} : ∀ (l1 l2 : List Shp) (k : Nat), wgo z a σ k (l1 ++ l2) = wgo z a σ k l1 ++ wgo z a σ (k + l1.length) l2
  | [], l2, k => rfl
  | sh :: l1, l2, k => by
    show _ :: wgo z a σ (k + 1) (l1 ++ l2) = _ :: (wgo z a σ (k + 1) l1 ++ _)
    rw [wgo_app l1 l2 (k + 1), show k + 1 + l1.length = k + (sh :: l1).length from by simp; omega]
def sh32 (a : Nat → Nat) : Nat → Nat := fun c => a (32 + c)
/-- ForgeScheduler's cells: ahead of the forge, the forge, behind it, the tail -/
theorem wX_split {z : Nat → ClassId} {a : Nat → Nat} {tl : va_W} {σ : Mm} : wT z layX a tl σ = wgo z a σ 0 (layX.take 32) ++ (wT z layF (sh32 a) [] (fun c => σ (32 + c)) ++ (wgo z a σ 43 (layX.drop 43) ++ tl)) := by
  have e : layX = layX.take 32 ++ ((layX.drop 32).take 11 ++ layX.drop 43) := rfl
  rw [wT_go]
  conv => lhs; rw [e, wgo_app, wgo_app]
  rw [wT_go]
  simp only [List.append_assoc, List.append_nil, List.nil_append]
  rfl
def upR (ρ : Nat → Mm) (i : Nat) (r : Mm) : Nat → Mm := fun j => if j = i then r else ρ j
theorem upR_self (ρ : Nat → Mm) (i : Nat) : upR ρ i (ρ i) = ρ := by
  funext j
  unfold upR
  split
  · next h => rw [h]
  · rfl
theorem kfs_cong {z : Nat → ClassId} {a a' : Nat → Nat} {ρ ρ' : Nat → Mm} : ∀ (n : Nat), (∀ j, j < 69 + 11 * n → a' j = a j) → (∀ j, j < n → ρ' j = ρ j) → kfs z a' ρ' n = kfs z a ρ n
  | 0, _, _ => rfl
  | n + 1, ha, hr => by
    unfold kfs
    rw [kfs_cong n (fun j hj => ha j (by omega)) (fun j hj => hr j (by omega)), hr n (by omega)]
    congr 1
    rw [wT_go, wT_go]
    congr 1
    have e : ∀ c, c < 11 → a' (69 + 11 * n + c) = a (69 + 11 * n + c) := fun c hc => ha _ (by omega)
    simp only [layF, wgo, cgo, fgo, fv, e 0 (by decide), e 1 (by decide), e 2 (by decide), e 3 (by decide), e 4 (by decide), e 5 (by decide), e 6 (by decide), e 7 (by decide), e 8 (by decide), e 9 (by decide), e 10 (by decide), Nat.zero_add, Nat.reduceAdd]
theorem kfs_split {z : Nat → ClassId} {a : Nat → Nat} {ρ : Nat → Mm} {i : Nat} : ∀ (n : Nat), i < n → ∃ X Y : va_W, ∀ r : Mm, kfs z a (upR ρ i r) n = X ++ (wT z layF (fun c => a (69 + 11 * i + c)) [] r ++ Y)
  | 0, h => absurd h (Nat.not_lt_zero _)
  | n + 1, h => by
    by_cases hi : i = n
    · subst hi
      refine ⟨kfs z a ρ i, [], fun r => ?_⟩
      show kfs z a (upR ρ i r) i ++ wT z layF (fun c => a (69 + 11 * i + c)) [] (upR ρ i r i) = _
      rw [List.append_nil]
      congr 1
      · exact kfs_cong i (fun _ _ => rfl) (fun j hj => by unfold upR; rw [if_neg (by omega)])
      · unfold upR; rw [if_pos rfl]
    · obtain ⟨X, Y, hXY⟩ := kfs_split (z := z) (a := a) (ρ := ρ) n (by omega : i < n)
      refine ⟨X, Y ++ wT z layF (fun c => a (69 + 11 * n + c)) [] (ρ n), fun r => ?_⟩
      unfold kfs
      rw [hXY r]
      simp only [List.append_assoc]
      congr 4
      unfold upR
      rw [if_neg (fun h9 => hi h9.symm)]
def cFF (σ1 σ2 : Mm) : Mm := fun j => cond (Nat.blt j 11) (σ1 j) (σ2 (j - 11))
def cpR (σ : Mm) : Mm := cpm (cpm (cpm (cpm (cpm (cpm (cpm (cpm (cpm (cpm (wr (wr σ 0 0 (σ 11 0)) 0 1 (σ 11 1)) 12 1 0 0 6) 13 2 0 0 6) 14 3 0 0 6) 15 4 0 0 6) 16 5 0 0 30) 17 6 0 0 30) 18 7 0 0 3) 19 8 0 0 3) 20 9 0 0 3) 21 10 0 0 6
def cpF (σ1 σ2 : Mm) : Mm := cpR (cFF σ1 σ2)
def aFF (a1 a2 : Nat → Nat) : Nat → Nat := fun j => cond (Nat.blt j 11) (a1 j) (a2 (j - 11))
theorem wFF {z : Nat → ClassId} {a1 a2 : Nat → Nat} {σ1 σ2 : Mm} {rw9 : va_W} : wT z layFF (aFF a1 a2) rw9 (cFF σ1 σ2) = wT z layF a1 [] σ1 ++ (wT z layF a2 [] σ2 ++ rw9) := by
  rw [wT_go, wT_go, wT_go]
  rfl
theorem wFF' {z : Nat → ClassId} {a1 a2 : Nat → Nat} {σ1 σ2 : Mm} {rw9 : va_W} : wT z layFF (aFF a1 a2) rw9 (cpR (cFF σ1 σ2)) = wT z layF a1 [] (cpF σ1 σ2) ++ (wT z layF a2 [] σ2 ++ rw9) := by
  rw [wT_go, wT_go, wT_go]
  rfl
