theorem wq_195 : Cond.methodLink "ForgeScheduler$Changes" 3 ⟨"java/lang/Object", "<init>", "()V"⟩ ∈ gtb := List.mem_filter.mpr ⟨List.mem_of_getElem? (i := 195) (by decide +kernel), rfl⟩
theorem wq_196 : Cond.classLink "ForgeScheduler$Changes" 9 "ForgeScheduler$Forge" ∈ gtb := List.mem_filter.mpr ⟨List.mem_of_getElem? (i := 196) (by decide +kernel), rfl⟩
theorem wq_198 : Cond.fieldLink "ForgeScheduler$Changes" 11 "ForgeScheduler$Changes" "kept" "[LForgeScheduler$Forge;" ∈ gtb := List.mem_filter.mpr ⟨List.mem_of_getElem? (i := 198) (by decide +kernel), rfl⟩
theorem Nst.ao {U : State} (h : Nst U) : va_AO "ForgeScheduler$Forge" U := h.2.2.2.2.2.2.2.2.2.2.2
section NEWQ
variable {p : Program} {l : Launch} {e : Env} {R : Room} {s : State} {m : MethodId} {args : Array Value} {below : List Frame} {meth : Method} {c : Code} {H : Heap} {locs : List Loc} {cells slots : Nat} {Q : State → Prop} {cc : ByteArray} {pc : Nat} {ls : Array Slot} {rest : List Value} {A : Nat → Prop} {D : va_G} {z : Nat → ClassId} {ws : va_W} {H0 : Heap}
/-- a new array of references to forges -/
theorem nw_q (hexec : p.tables.exec = Jvm.exec) (hb : c.code = cc) {own : String} {index : Nat} (hown : s.vm.findClass own = some m.cls) (hclink : (Cond.classLink own index "ForgeScheduler$Forge").before args s = true) (hover : va_AO "ForgeScheduler$Forge" s) (hK : va_K D vwCl (tyl z) s) (hP : va_P D vwCl ws H) (hD : va_D A ws) (hS : va_S A H0 H locs) (hA : ∀ q, H0.size ≤ q → A q)
    {n : Int32} {N' : Nat} (hn : ¬ n < 0) (hN : n.toNatClampNeg = N') (hbytes : N' * 4 ≤ 536870912) (hcells : cells + 1 ≤ R.cells) (hslots : slots + N' ≤ R.slots) (hdg : decode cc pc = .ok (.anewarray index, 3))
    (kk : ∀ (q : Nat) (H1 : Heap), va_P D vwCl (ws ++ [(q, .inl (z 4, N', .inr (.inr (.inr (.inr (fun _ => none))))))]) H1 → va_D A (ws ++ [(q, .inl (z 4, N', .inr (.inr (.inr (.inr (fun _ => none))))))]) → va_S A H0 H1 locs →
      W p l e R s m args below meth c H1 locs (cells + 1) (slots + N') Q (F0 m (pc + 3) ls (.ref q :: rest))) : W p l e R s m args below meth c H locs cells slots Q (F0 m pc ls (.int n :: rest)) := by
  refine va_newq hexec hb hown hclink hover hK hP hD hS hA hn hN hbytes hcells hslots hdg (fun q cA H1 hK1 hP1 hD1 hS1 => ?_)
  obtain ⟨kA, comp, -, -, -, e1⟩ := (hK1.2 (tyl z).length (cA, .object "ForgeScheduler$Forge") (by simp)).2
  obtain ⟨kB, comB, -, -, -, e2⟩ := (hK.2 4 (z 4, .object "ForgeScheduler$Forge") rfl).2
  have e3 : cA = z 4 := Option.some.inj (e1.symm.trans e2)
  subst e3
  exact kk q H1 hP1 hD1 hS1
end NEWQ
def wK (z : Nat → ClassId) (a : Nat → Nat) : va_W := [(a 0, .inr (1, [.ref (a 1), .int 0, .int 0])), (a 1, .inl (z 4, 12, .inr (.inr (.inr (.inr (fun _ => none))))))]
theorem dX1_init_0 : decode cX1_init 0 = .ok (.aload_n 0, 1) := by decide +kernel
theorem dX1_init_1 : decode cX1_init 1 = .ok (.invokespecial 3, 3) := by decide +kernel
theorem dX1_init_4 : decode cX1_init 4 = .ok (.aload_n 0, 1) := by decide +kernel
theorem dX1_init_5 : decode cX1_init 5 = .ok (.bipush 12, 2) := by decide +kernel
theorem dX1_init_7 : decode cX1_init 7 = .ok (.anewarray 9, 3) := by decide +kernel
theorem dX1_init_10 : decode cX1_init 10 = .ok (.putfield 11, 3) := by decide +kernel
theorem dX1_init_13 : decode cX1_init 13 = .ok (.return_, 1) := by decide +kernel
set_option maxHeartbeats 4000000 in
set_option maxRecDepth 100000 in
theorem ci_X1 (l : Launch) (D : va_G) (z : Nat → ClassId) (ts : Nat → Nat) (z0 h0 sz : Nat) : Met l yX1_init (.code yX1_init cX1_init 1 none :: gtb) (rmD 1 1 12) (va_Pc [.ref h0] (Pr D z ts z0 [(h0, .inr (1, [.null, .int 0, .int 0]))] sz)) (va_Qv (fun a : Nat → Nat => a 0 = h0) (fun a t => va_P D vwCl (wK z a) t.heap ∧ va_D (va_A [(h0, .inr (1, [.null, .int 0, .int 0]))] sz) (wK z a)) (va_A [(h0, .inr (1, [.null, .int 0, .int 0]))] sz)) 1 12 (va_A [(h0, .inr (1, [.null, .int 0, .int 0]))] sz) := by
  refine Met.ofW (cc := cX1_init) (maxL := 1) (ret := none) (by decide) rfl ?_
  intro p e s m args below meth c s₁ B hml hv
  obtain ⟨rfl, hsz, hP, hK, hD0, hz, hSt⟩ := hv
  have hx := B.exec
  have hb := B.bytes
  have hr := B.returns
  have hat := atoms_spec (ws := .code yX1_init cX1_init 1 none :: gtb) B.pre
  have hts := fun w hw => hat w (List.mem_cons_of_mem _ hw)
  have hown : s.vm.findClass RX1 = some m.cls := findClass_of_methodNamed B.named
  have hlocks := B.notSynchronized
  have hin : meth.name = "<init>" := (name_of_methodNamed B.named B.method).1
  subst hsz
  have hD := hD0.self (sz := s.heap.size)
  have hA0 : ∀ q, va_A [(h0, .inr (1, [.null, .int 0, .int 0]))] s.heap.size q → z0 ≤ q := by
    rintro q (⟨k9, e9, hk9⟩ | h9)
    · exact hD0.2 k9 _ hk9
    · exact Nat.le_trans hz h9
  generalize hAe : va_A [(h0, .inr (1, [.null, .int 0, .int 0]))] s.heap.size = A at hD hA0 ⊢
  have hA : ∀ q : Nat, s.heap.size ≤ q → A q := fun q h => by rw [← hAe]; exact Or.inr h
  have hS : va_S A s.heap s.heap [] := va_S.rf
  have hl := lv_entry ([.ref h0]) (n := 1) (Nat.le_of_ble_eq_true rfl)
  rw [lg_entry_eq]
  generalize (lg_sl ([.ref h0]) ++ List.replicate (1 - (lg_sl ([.ref h0])).length) Slot.unset).toArray = ls at hl ⊢
  have hl : lv_has ls 1 [(0, .ref h0)] := hl
  refine lv_aload_n hx hb dX1_init_0 rfl (lv_at hl 0 rfl) ?_
  refine W.objInit hx hb hown (hts _ wq_195) (hts _ wn_objI) (hts _ wn_objC) rfl (by rw [hml]; exact hl.1) rfl dX1_init_1 (Nat.le_of_ble_eq_true rfl) (Nat.le_of_ble_eq_true rfl) ?_
  refine W.eq (g2 := F0 m 4 ls []) rfl ?_
  refine lv_aload_n hx hb dX1_init_4 rfl (lv_at hl 0 rfl) ?_
  refine lv_bipush (v := 12) hx hb dX1_init_5 (by decide +kernel) ?_
  refine nw_q hx hb hown (hts _ wq_196) hSt.2.1.ao hK hP hD hS hA (N' := 12) (by decide +kernel) (by decide +kernel) (Nat.le_of_ble_eq_true rfl) (Nat.le_of_ble_eq_true rfl) (Nat.le_of_ble_eq_true rfl) dX1_init_7 (fun q7 H hP hD hS => ?_)
  have hP : va_P D vwCl [(h0, .inr (1, [.null, .int 0, .int 0])), (q7, .inl (z 4, 12, .inr (.inr (.inr (.inr (fun _ => none))))))] H := hP
  have hD : va_D A [(h0, .inr (1, [.null, .int 0, .int 0])), (q7, .inl (z 4, 12, .inr (.inr (.inr (.inr (fun _ => none))))))] := hD
  refine va_putF (D := D) (ci := 1) (v := .ref q7) (ty := .array (.object "ForgeScheduler$Forge")) (C := RX1) (T := TX1) (N := 3) hx hb hts inGX1 tyX1 tyX1_ok nmX1 hown hK hP hD hS 0 rfl rfl 0 (by decide) (hts _ wq_198) (fun _ h9 => h9) rfl hin rfl (by decide +kernel) rfl rfl (Nat.le_of_ble_eq_true rfl) dX1_init_10 (fun H locs hP hD hS => ?_)
  have hP : va_P D vwCl [(h0, .inr (1, [.ref q7, .int 0, .int 0])), (q7, .inl (z 4, 12, .inr (.inr (.inr (.inr (fun _ => none))))))] H := hP
  have hD : va_D A [(h0, .inr (1, [.ref q7, .int 0, .int 0])), (q7, .inl (z 4, 12, .inr (.inr (.inr (.inr (fun _ => none))))))] := hD
  exact W.vret hx hb hr (fun t ht hW => ⟨⟨fun j => ([h0, q7] : List Nat).getD j 0, rfl, rfl, by rw [ht]; exact hP, hD⟩, hS.F ht⟩) hS.2.2 dX1_init_13 hlocks
/-- the kept array and the kept forges behind ForgeScheduler's cells: n of them, numbered from 69 on -/
def kcell (z : Nat → ClassId) (a : Nat → Nat) (n : Nat) : Nat × va_E := (a 68, .inl (z 4, 12, .inr (.inr (.inr (.inr (fun j => if j < n then some (a (69 + 11 * j)) else none))))))
def kfs (z : Nat → ClassId) (a : Nat → Nat) (ρ : Nat → Mm) : Nat → va_W
  | 0 => []
  | n + 1 => kfs z a ρ n ++ wT z layF (fun c => a (69 + 11 * n + c)) [] (ρ n)
def ktl (z : Nat → ClassId) (a : Nat → Nat) (n : Nat) (ρ : Nat → Mm) : va_W := kcell z a n :: kfs z a ρ n
def mmX : Mm := cpt (cpt (cpt (wr mm0 2 4 (-1)) 2 14 0 0 3) 2 41 0 0 3) 2 66 0 0 3
theorem ktl0 {z : Nat → ClassId} {a : Nat → Nat} {ρ : Nat → Mm} : ktl z a 0 ρ = [(a 68, .inl (z 4, 12, .inr (.inr (.inr (.inr (fun _ => none))))))] := by
  unfold ktl kcell kfs
  simp
