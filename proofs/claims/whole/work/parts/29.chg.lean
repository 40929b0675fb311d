/-! methods that call one which leaves kept forges in another state -/
def okv : Vv → Bool
  | .inr (.inl k) => Nat.blt k 69
  | _ => true
theorem cv_ag {a a' ts : Nat → Nat} {n : Nat} (h : ∀ j, j < 69 + 11 * n → a' j = a j) {v : Vv} (hv : okv v = true) : cv a' ts v = cv a ts v := by
  rcases v with x | k | t
  · rfl
  · show Value.ref (a' k) = Value.ref (a k)
    rw [h k (by have : k < 69 := Nat.le_of_ble_eq_true hv; omega)]
  · rfl
theorem cvs_ag {a a' ts : Nat → Nat} {n : Nat} (h : ∀ j, j < 69 + 11 * n → a' j = a j) : ∀ {vs : List Vv}, vs.all okv = true → vs.map (cv a' ts) = vs.map (cv a ts)
  | [], _ => rfl
  | v :: vs, hv => by
    simp only [List.all_cons, Bool.and_eq_true] at hv
    rw [List.map_cons, List.map_cons, cv_ag h hv.1, cvs_ag h hv.2]
theorem lv_ag {a a' ts : Nat → Nat} {n : Nat} (h : ∀ j, j < 69 + 11 * n → a' j = a j) : ∀ {lv : Lv}, lv.all (fun q => okv q.2) = true → lv.map (fun q => (q.1, cv a' ts q.2)) = lv.map (fun q => (q.1, cv a ts q.2))
  | [], _ => rfl
  | v :: vs, hv => by
    simp only [List.all_cons, Bool.and_eq_true] at hv
    rw [List.map_cons, List.map_cons, cv_ag h hv.1, lv_ag h hv.2]
section CHG
variable {l : Launch} {D : va_G} {z : Nat → ClassId} {ts : Nat → Nat} {z0 sz : Nat} {a : Nat → Nat} {n n' : Nat} {σ σ1 σ2 σ3 : Mm} {ρ ρ' : Nat → Mm} {y0 y : MethodName} {cc cy : ByteArray} {nL dl nLy dly mc ms pcb index rc nA N ci M : Nat} {rt rty : Option FieldType} {t : Tbl} {cs : Cs} {vs vs' st1 : List Vv} {lv1 : Lv} {vv vr : Option Vv} {T : u_T} {fds : List (Option Nat)}
theorem chg_go (hpl : plainName y0.cls = true) (hy0 : y0.cls = RX6) (hnv : Nat.ble vs.length nL = true) (hO : Ok l RX6 cc nL dl rt layX t)
    (h1 : ∀ k : Kt, rl cs k t 0 (en 0 vs) [] σ = k pcb lv1 (vs'.reverse ++ .inr (.inl rc) :: st1) σ1)
    (hy : ∀ sz, Met l y (.code y cy nLy rty :: gtb) (rmD dly mc ms) (va_Pc (.ref (a rc) :: vs'.map (cv a ts)) (Pr D z ts z0 (wT z layX a (ktl z a n ρ) σ1) sz)) (Qk D z n' ρ' σ2 (vv.map (cv a ts)) a n (va_A (wT z layX a (ktl z a n ρ) σ1) sz)) mc ms (va_A (wT z layX a (ktl z a n ρ) σ1) sz))
    (h2 : rn t cs N (pcb + 3) lv1 (vv.toList ++ st1) σ2 = some (some vr, σ3))
    (hcode : Cond.code y cy nLy rty ∈ gtb) (hml : Cond.methodLink RX6 index y ∈ gtb) (hins : Cond.instanceMethod y ∈ gtb) (hsel : Cond.selects y.cls y y ∈ gtb) (hini : Cond.initialized y.cls ∈ gtb)
    (hd : y.cls ≠ "java/lang/invoke/MethodHandle" ∧ y.cls ≠ "java/lang/invoke/VarHandle" ∧ (parseMethodDescriptor y.desc).map (fun d => d.parameters.length) = some nA) (hdl : dly + 1 ≤ dl ∧ nLy ≤ 18) (hrecv : layX[rc]? = some (.inr (ci, fds))) (hcl : vwCl[ci]? = some (y.cls, T, M)) (hn : vs'.length = nA) (hs8 : st1.length ≤ 8) (hdg : decode cc pcb = .ok (.invokevirtual index, 3))
    (hk1 : lv1.all (fun q => okv q.2) = true) (hk2 : (vv.toList ++ st1).all okv = true) (hk3 : vr.toList.all okv = true) :
    Met l y0 (.code y0 cc nL rt :: gtb) (rmD dl mc ms) (va_Pc (vs.map (cv a ts)) (Pr D z ts z0 (wT z layX a (ktl z a n ρ) σ) sz)) (Qk D z n' ρ' σ3 (vr.map (cv a ts)) a n (va_A (wT z layX a (ktl z a n ρ) σ) sz)) mc ms (va_A (wT z layX a (ktl z a n ρ) σ) sz) := by
  refine met_k (own := RX6) hpl hy0 (by rw [en_sl]; exact Nat.le_of_ble_eq_true hnv) ?_
  intro p e s m below meth c ls hM hsz hP hD hl
  subst hsz
  generalize hAe : va_A (wT z layX a (ktl z a n ρ) σ) s.heap.size = A at hM hD ⊢
  have hS : va_S A s.heap s.heap [] := va_S.rf
  rw [en_args] at hl
  refine W_q (Q1 := fun t => (0 : Nat) = 0 → (0 : Nat) = 0 → MQ below (Qk D z n' ρ' σ3 (vr.map (cv a ts)) a n A) (vs.map (cv a ts)).toArray s mc ms A t) (fun t h => h rfl rfl) (seg (Q := fun nc ns t => nc = 0 → ns = 0 → MQ below (Qk D z n' ρ' σ3 (vr.map (cv a ts)) a n A) (vs.map (cv a ts)).toArray s mc ms A t) (hM.fx hD) hO h1 (fun H locs ls nc ns hnn hP hS hl => W_th (fun e1 e2 => ?_)) s.heap [] ls 0 0 ⟨Nat.zero_le _, Nat.zero_le _⟩ hP hS hl)
  obtain ⟨⟨hx, hb, hml9, hown, hts, hK, hA, hA0, hSt⟩, hlk, hr, hR1, hR2, hxt⟩ := id hM
  have hD1 : va_D A (wT z layX a (ktl z a n ρ) σ1) := va_D_fst (wT_len σ σ1) hD
  have hA1 : ∀ q, va_A (wT z layX a (ktl z a n ρ) σ1) H.size q → A q := by
    rintro q (⟨k9, e9, hk9⟩ | h9)
    · exact hD1.2 _ _ hk9
    · exact hA q (Nat.le_trans hS.1 h9)
  have hpre := Fx_pre (l := l) (hM.fx hD) hS hP (hD1.weaken (fun _ _ _ h => hA0 _ h)) (as := .ref (a rc) :: vs'.map (cv a ts))
  have hr9 : ((st1.map (cv a ts)).map fun v => v.category).sum ≤ 8 := by rw [cv_sum]; exact hs8
  have hstk : (vs'.reverse ++ .inr (.inl rc) :: st1).map (cv a ts) = (vs'.map (cv a ts)).reverse ++ .ref (a rc) :: st1.map (cv a ts) := by rw [List.map_append, List.map_reverse]; rfl
  refine callk (va_runV (As := vs'.map (cv a ts)) (rest := st1.map (cv a ts)) (C := y.cls) ⟨hx, hb, hml9, hown, hts⟩ (hy H.size)
    (cwV nA hts (gtb_in (fun w hw => by
      rcases List.mem_append.mp hw with hw | hw
      · simp only [List.mem_cons, List.not_mem_nil, or_false] at hw
        rcases hw with rfl | rfl | rfl | rfl <;> assumption
      · exact gtb_c hcode w hw)) rfl rfl rfl ⟨rfl, hd⟩ ⟨by show dly + 1 ≤ dl; omega, by show 8 + (nLy + 11) + 37 * dly ≤ 37 * dl; omega⟩)
    ⟨Pr_blind, va_recv hK hP (q0 := rc) hcl (wT_get hrecv), hpre⟩ rfl (by rw [List.length_map]; exact hn) hl.1 hstk (lv_room hr9) hdg ⟨by show 0 + mc ≤ mc; omega, by show 0 + ms ≤ ms; omega⟩) hS hA1 (fun a' H1 locs1 hag hP1 hD2 hk9 hS1 => ?_)
  have hl2 : lv_has ls nL (lv1.map (fun q => (q.1, cv a' ts q.2))) := by rw [lv_ag hag hk1]; exact hl
  have hst2 : (vv.map (cv a ts)).toList ++ st1.map (cv a ts) = (vv.toList ++ st1).map (cv a' ts) := by
    rw [cvs_ag hag hk2, List.map_append]
    cases vv <;> rfl
  rw [hst2]
  refine W_q (Q1 := Qo below (vs.map (cv a ts)).toArray s D z ts layX a' (ktl z a' n' ρ') A (some vr, σ3) (0 + mc) (0 + ms)) (fun t h => ?_) (rn_ok cs hO (hM.fx hD2) (Q := Qo below (vs.map (cv a ts)).toArray s D z ts layX a' (ktl z a' n' ρ') A (some vr, σ3)) (fun _ _ _ _ h => h) (fun h => by cases h) N (pcb + 3) lv1 (vv.toList ++ st1) σ2 h2 H1 locs1 ls (0 + mc) (0 + ms) ⟨by show 0 + mc ≤ mc; omega, by show 0 + ms ≤ ms; omega⟩ hP1 hS1 hl2)
  have hv3 : vr.map (cv a' ts) = vr.map (cv a ts) := by
    cases vr with
    | none => rfl
    | some v =>
      have : okv v = true := by simpa using hk3
      show some _ = some _
      rw [cv_ag hag this]
  obtain ⟨oc, g1, g2, ⟨g3, g4, g5⟩, g6⟩ := h
  rw [Nat.zero_add, Nat.zero_add] at g6
  exact ⟨oc, g1, g2, ⟨⟨a', g3.trans (by rw [hv3]), hag, g4, va_D_fst (wT_len σ2 σ3) hD2⟩, g5⟩, g6⟩
end CHG
