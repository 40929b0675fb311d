theorem wq_34 : Cond.selects "ForgeScheduler" ⟨"ForgeScheduler", "beginChange", "()V"⟩ ⟨"ForgeScheduler", "beginChange", "()V"⟩ ∈ gtb := List.mem_filter.mpr ⟨List.mem_of_getElem? (i := 34) (by decide +kernel), rfl⟩
theorem wq_717 : Cond.methodLink "ForgeScheduler" 236 ⟨"ForgeScheduler", "beginChange", "()V"⟩ ∈ gtb := List.mem_filter.mpr ⟨List.mem_of_getElem? (i := 717) (by decide +kernel), rfl⟩
theorem wq_719 : Cond.instanceMethod ⟨"ForgeScheduler", "beginChange", "()V"⟩ ∈ gtb := List.mem_filter.mpr ⟨List.mem_of_getElem? (i := 719) (by decide +kernel), rfl⟩
theorem wq_720 : Cond.code ⟨"ForgeScheduler", "beginChange", "()V"⟩ prog_1_method_69_code 1 none ∈ gtb := List.mem_filter.mpr ⟨List.mem_of_getElem? (i := 720) (by decide +kernel), rfl⟩
theorem wq_721 : Cond.methodLink "ForgeScheduler" 296 ⟨"ForgeScheduler$Changes", "keep", "(LForgeScheduler$Forge;)V"⟩ ∈ gtb := List.mem_filter.mpr ⟨List.mem_of_getElem? (i := 721) (by decide +kernel), rfl⟩
theorem wq_722 : Cond.instanceMethod ⟨"ForgeScheduler$Changes", "keep", "(LForgeScheduler$Forge;)V"⟩ ∈ gtb := List.mem_filter.mpr ⟨List.mem_of_getElem? (i := 722) (by decide +kernel), rfl⟩
theorem wq_723 : Cond.selects "ForgeScheduler$Changes" ⟨"ForgeScheduler$Changes", "keep", "(LForgeScheduler$Forge;)V"⟩ ⟨"ForgeScheduler$Changes", "keep", "(LForgeScheduler$Forge;)V"⟩ ∈ gtb := List.mem_filter.mpr ⟨List.mem_of_getElem? (i := 723) (by decide +kernel), rfl⟩
theorem wq_763 : Cond.methodLink "ForgeScheduler" 255 ⟨"ForgeScheduler$Changes", "restore", "(LForgeScheduler$Forge;)Z"⟩ ∈ gtb := List.mem_filter.mpr ⟨List.mem_of_getElem? (i := 763) (by decide +kernel), rfl⟩
theorem wq_764 : Cond.instanceMethod ⟨"ForgeScheduler$Changes", "restore", "(LForgeScheduler$Forge;)Z"⟩ ∈ gtb := List.mem_filter.mpr ⟨List.mem_of_getElem? (i := 764) (by decide +kernel), rfl⟩
theorem wq_765 : Cond.selects "ForgeScheduler$Changes" ⟨"ForgeScheduler$Changes", "restore", "(LForgeScheduler$Forge;)Z"⟩ ⟨"ForgeScheduler$Changes", "restore", "(LForgeScheduler$Forge;)Z"⟩ ∈ gtb := List.mem_filter.mpr ⟨List.mem_of_getElem? (i := 765) (by decide +kernel), rfl⟩
/-! contracts of the methods that change, out of plain facts -/
def kN (n i : Nat) : Nat := if i < n then n else n + 1
def kR (ρ : Nat → Mm) (σ : Mm) (n i : Nat) : Nat → Mm := if i < n then upR ρ i (cpF (ρ i) (fun c => σ (32 + c))) else upR (upR ρ n mmF) n (cpF (upR ρ n mmF n) (fun c => σ (32 + c)))
def kC (n i : Nat) : Nat := if i < n then 0 else 11
def kB (n i : Nat) : Nat := if i < n then 0 else 111
def fg (σ : Mm) : Mm := wr (wr σ 0 7 0) 0 8 0
section CHM
variable {l : Launch} {D : va_G} {z : Nat → ClassId} {ts : Nat → Nat} {z0 sz : Nat} {a : Nat → Nat} {n i : Nat} {σ σ1 σ3 : Mm} {ρ : Nat → Mm}
theorem ck_keep (hi : i ≤ n) (hi12 : i < 12) (hnx : σ 1 1 = Int32.ofNat i) : Met l yX1_keep (.code yX1_keep cX1_keep 2 none :: gtb) (rmD 2 (kC n i) (kB n i)) (va_Pc [.ref (a 1), .ref (a 32)] (Pr D z ts z0 (wT z layX a (ktl z a n ρ) σ) sz)) (Qk D z (kN n i) (kR ρ σ n i) (kS σ) none a n (va_A (wT z layX a (ktl z a n ρ) σ) sz)) (kC n i) (kB n i) (va_A (wT z layX a (ktl z a n ρ) σ) sz) := by
  unfold kN kR kC kB
  by_cases h : i < n
  · simp only [if_pos h]
    exact ci_keep0 l D z ts z0 sz a n i ρ σ h hi12 hnx
  · have e : i = n := by omega
    subst e
    simp only [if_neg h]
    exact ci_keep1 l D z ts z0 sz a i ρ σ hi12 hnx
theorem ck_bc (hl : l.stackTraces = false) (hi : i ≤ n) (hi12 : i < 12) (hnx : σ 1 1 = Int32.ofNat i) : Met l yX6_beginChange (.code yX6_beginChange cX6_beginChange 1 none :: gtb) (rmD 6 (kC n i) (kB n i)) (va_Pc [.ref (a 0)] (Pr D z ts z0 (wT z layX a (ktl z a n ρ) σ) sz)) (Qk D z (kN n i) (kR ρ σ n i) (fg (kS σ)) none a n (va_A (wT z layX a (ktl z a n ρ) σ) sz)) (kC n i) (kB n i) (va_A (wT z layX a (ktl z a n ρ) σ) sz) :=
  chg_go (vs := [.inr (.inl 0)]) (vs' := [.inr (.inl 32)]) (rc := 1) (st1 := []) (lv1 := [(0, .inr (.inl 0))]) (vv := none) (vr := none) (nA := 1) (by decide) rfl rfl (ok_X6_beginChange l hl) (fun k => s_X6_beginChange k σ) (fun sz => ck_keep hi hi12 hnx) ((u_X6_beginChange (kS σ)).trans (by rw [e_X6_forgetResults]; rfl)) wq_724 wq_721 wq_722 wq_723 wq_90 (by decide +kernel) (by decide) rfl rfl rfl (by decide) dX6_beginChange_8 rfl rfl rfl
/-- a change: the road to beginChange, and the road from it -/
def Ch (t : Tbl) (cs : Cs) (pcb : Nat) (vs : List Vv) (n : Nat) (ρ : Nat → Mm) (σ : Mm) (n' : Nat) (ρ' : Nat → Mm) (σ' : Mm) (r : Int32) (mc ms : Nat) : Prop :=
  ∃ (lv1 : Lv) (σ1 : Mm) (i : Nat), (∀ k : Kt, rl cs k t 0 (en 0 vs) [] σ = k pcb lv1 [.inr (.inl 0)] σ1) ∧ lv1.all (fun q => okv q.2) = true ∧ rn t cs 1 (pcb + 3) lv1 [] (fg (kS σ1)) = some (some (some (.inl r)), σ') ∧ i ≤ n ∧ i < 12 ∧ σ1 1 1 = Int32.ofNat i ∧ n' = kN n i ∧ ρ' = kR ρ σ1 n i ∧ mc = kC n i ∧ ms = kB n i
theorem ch_met {y0 : MethodName} {cc : ByteArray} {nL dl pcb : Nat} {rt : Option FieldType} {t : Tbl} {cs : Cs} {vs : List Vv} {n' mc ms : Nat} {ρ' : Nat → Mm} {σ' : Mm} {r : Int32} (hl : l.stackTraces = false) (h : Ch t cs pcb (.inr (.inl 0) :: vs) n ρ σ n' ρ' σ' r mc ms) (hpl : plainName y0.cls = true) (hy0 : y0.cls = RX6) (hnv : Nat.ble (vs.length + 1) nL = true) (hO : Ok l RX6 cc nL dl rt layX t) (hdl : 7 ≤ dl) (hdg : decode cc pcb = .ok (.invokevirtual 236, 3)) :
    Met l y0 (.code y0 cc nL rt :: gtb) (rmD dl mc ms) (va_Pc (.ref (a 0) :: vs.map (cv a ts)) (Pr D z ts z0 (wT z layX a (ktl z a n ρ) σ) sz)) (Qk D z n' ρ' σ' (some (.int r)) a n (va_A (wT z layX a (ktl z a n ρ) σ) sz)) mc ms (va_A (wT z layX a (ktl z a n ρ) σ) sz) := by
  obtain ⟨lv1, σ1, i, h1, hk1, h2, hi, hi12, hnx, rfl, rfl, rfl, rfl⟩ := h
  exact chg_go (vs := .inr (.inl 0) :: vs) (vs' := []) (rc := 0) (st1 := []) (vv := none) (vr := some (.inl r)) (nA := 0) hpl hy0 hnv hO h1 (fun sz => ck_bc hl hi hi12 hnx) h2 wq_720 wq_717 wq_719 wq_34 wq_87 (by decide +kernel) ⟨hdl, by decide⟩ rfl rfl rfl (by decide) hdg hk1 rfl rfl
/-- undo: nothing is kept; or the latest one comes back -/
def Un (n : Nat) (ρ : Nat → Mm) (σ σ' : Mm) (r : Int32) : Prop := ∃ j : Nat, j < 12 ∧ rX σ = Int32.ofNat j ∧ ((σ 1 2 = 0 ∧ σ' = σ ∧ r = -1) ∨ (¬ σ 1 2 = 0 ∧ j < n ∧ σ' = fg (wr (wr (rF σ (ρ j)) 1 1 (rX σ)) 1 2 ((wr (rF σ (ρ j)) 1 1 (rX σ)) 1 2 - 1)) ∧ r = σ' 1 2))
theorem un_met {σ' : Mm} {r : Int32} (hl : l.stackTraces = false) (h : Un n ρ σ σ' r) : Met l yX6_undo (.code yX6_undo cX6_undo 1 (some .int) :: gtb) (rmD 6 0 0) (va_Pc [.ref (a 0)] (Pr D z ts z0 (wT z layX a (ktl z a n ρ) σ) sz)) (Qk D z n ρ σ' (some (.int r)) a n (va_A (wT z layX a (ktl z a n ρ) σ) sz)) 0 0 (va_A (wT z layX a (ktl z a n ρ) σ) sz) := by
  obtain ⟨j, hj, hx, h⟩ := h
  rcases h with ⟨h0, rfl, rfl⟩ | ⟨h0, hjn, rfl, rfl⟩
  · exact chg_go (vs := [.inr (.inl 0)]) (vs' := [.inr (.inl 32)]) (rc := 1) (st1 := []) (lv1 := [(0, .inr (.inl 0))]) (vv := some (.inl 0)) (vr := some (.inl (-1))) (nA := 1) (by decide) rfl rfl (ok_X6_undo l hl) (fun k => s_X6_undo k _) (fun sz => ci_rest0 hj hx h0) ((u_X6_undo 0 _).trans (if_pos rfl)) wq_766 wq_763 wq_764 wq_765 wq_90 (by decide +kernel) (by decide) rfl rfl rfl (by decide) dX6_undo_8 rfl rfl rfl
  · exact chg_go (vs := [.inr (.inl 0)]) (vs' := [.inr (.inl 32)]) (rc := 1) (st1 := []) (lv1 := [(0, .inr (.inl 0))]) (vv := some (.inl 1)) (vr := some (.inl _)) (nA := 1) (by decide) rfl rfl (ok_X6_undo l hl) (fun k => s_X6_undo k _) (fun sz => ci_rest1 hj hjn hx h0) ((u_X6_undo 1 _).trans ((if_neg (by decide)).trans (by rw [e_X6_forgetResults]; rfl))) wq_766 wq_763 wq_764 wq_765 wq_90 (by decide +kernel) (by decide) rfl rfl rfl (by decide) dX6_undo_8 rfl rfl rfl
end CHM
