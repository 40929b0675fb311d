/-! the law: what holds all through it, its calls -/
def Lc (p : Program) (s : State) (m : MethodId) (c : Code) (D : va_G) (z : Nat → ClassId) (ts : Nat → Nat) (b L : Nat) (xs : Nat → Int32) : Prop := Fn p s m #[Value.ref b] c D z ts s.heap.size (fun q => s.heap.size ≤ q) RL cL_law 7 ∧ va_X b L xs s s.heap ∧ b < s.heap.size ∧ L ≤ 3072
def LwS (z : Nat → ClassId) (a : Nat → Nat) (n : Nat) (ρ : Nat → Mm) (σX : Mm) (aM : Nat → Nat) (σM : Mm) (o : Nat) (g : Nat → Int64) : va_W := wT z layM aM [] σM ++ (wO z o g ++ wT z layX a (ktl z a n ρ) σX)
theorem wT_app {z : Nat → ClassId} {lay : List Shp} {a : Nat → Nat} {t : va_W} {σ : Mm} : wT z lay a [] σ ++ t = [] ++ wT z lay a t σ := by
  unfold wT
  rw [List.append_nil, List.nil_append]
abbrev roomL : Room := room_1
section LAWB
variable {p : Program} {l : Launch} {e : Env} {s : State} {m : MethodId} {below : List Frame} {meth : Method} {c : Code} {D : va_G} {z : Nat → ClassId} {ts : Nat → Nat} {b L : Nat} {xs : Nat → Int32} {a aM : Nat → Nat} {n n' : Nat} {ρ ρ' : Nat → Mm} {σX σX' σM σM' : Mm} {o : Nat} {g g' : Nat → Int64} {H : Heap} {locs : List Loc} {ls : Array Slot} {pc : Nat} {st0 rest : List Value} {Q : State → Prop} {cells slots mc ms : Nat}
variable {y : MethodName} {cy : ByteArray} {nLy dly index nA N : Nat} {rty : Option FieldType} {f : List Vv → Mm → Option Ou} {vs' : List Vv} {r : Int32} {T : u_T}
theorem idx_ok {L i k : Nat} (hL : L ≤ 3072) (h : i + k < L) (hk : k < 6) : (Int32.ofNat i + Int32.ofNat k).toNatClampNeg = i + k ∧ vp_in (Int32.ofNat i + Int32.ofNat k) L := by
  have e : Int32.ofNat i + Int32.ofNat k = Int32.ofNat (i + k) := by rw [← Int32.ofNat_add]
  have h1 : (Int32.ofNat (i + k)).toInt = ((i + k : Nat) : Int) := Int32.toInt_ofNat_of_lt (by omega)
  have h2 : (Int32.ofNat (i + k)).toNatClampNeg = i + k := by
    show ((Int32.ofNat (i + k)).toInt).toNat = i + k
    rw [h1]
    rfl
  rw [e]
  refine ⟨h2, ?_⟩
  rintro (h3 | h3)
  · rw [Int32.lt_iff_toInt_lt, h1] at h3
    have : (0 : Int32).toInt = 0 := by decide
    omega
  · omega
theorem ld_arg (hL : Lc p s m c D z ts b L xs) {R : Room} {i k : Nat} {kz : Int} {lv : List (Nat × Value)} (hl : lv_has ls 7 ((0, .ref b) :: (1, .ref (a 0)) :: (2, .ref (aM 0)) :: (3, .ref o) :: (4, .int (Int32.ofNat i)) :: lv)) (hS : va_S (fun q => s.heap.size ≤ q) s.heap H locs) (hi : i + k < L) (hk6 : k < 6) (hkz : Int32.ofInt kz = Int32.ofNat k)
    (d0 : decode cL_law pc = .ok (.aload_n 0, 1)) (d1 : decode cL_law (pc + 1) = .ok (.iload 4, 2)) (d2 : decode cL_law (pc + 3) = .ok (.iconst kz, 1)) (d3 : decode cL_law (pc + 4) = .ok (.iadd, 1)) (d4 : decode cL_law (pc + 5) = .ok (.iaload, 1))
    (kk : W p l e R s m #[Value.ref b] below meth c H locs cells slots Q (F0 m (pc + 6) ls (.int (xs (i + k)) :: rest))) : W p l e R s m #[Value.ref b] below meth c H locs cells slots Q (F0 m pc ls rest) := by
  obtain ⟨⟨hx, hb, hml, hown, hts, hK, hA, hA0, hSt⟩, hX, hbl, hL3⟩ := hL
  obtain ⟨e1, e2⟩ := idx_ok hL3 hi hk6
  refine lv_aload_n hx hb d0 rfl (lv_at hl 0 rfl) ?_
  refine lv_iload hx hb d1 (lv_at hl 4 rfl) ?_
  refine lv_iconst (v := Int32.ofNat k) hx hb d2 hkz ?_
  refine lv_iadd hx hb d3 ?_
  refine va_sld hx hb hX hbl (fun h => by omega) hS e2 d4 ?_
  rw [e1]
  exact kk
theorem lcX (hF : Fn p s m #[Value.ref b] c D z ts s.heap.size (fun q => s.heap.size ≤ q) RL cL_law 7) (hC : Ct l y cy nLy rty dly layX f) (hcode : Cond.code y cy nLy rty ∈ gtb) (hml : Cond.methodLink RL index y ∈ gtb) (hins : Cond.instanceMethod y ∈ gtb) (hsel : Cond.selects y.cls y y ∈ gtb) (hini : Cond.initialized y.cls ∈ gtb)
    (hd : y.cls ≠ "java/lang/invoke/MethodHandle" ∧ y.cls ≠ "java/lang/invoke/VarHandle" ∧ (parseMethodDescriptor y.desc).map (fun d => d.parameters.length) = some nA) (hR : dly + 1 ≤ 14 ∧ nLy ≤ 18) (hcl : vwCl[6]? = some (y.cls, T, N))
    (h : f (.inr (.inl 0) :: vs') σX = some (some (some (.inl r)), σX')) (hP : va_P D vwCl (LwS z a n ρ σX aM σM o g) H) (hD : va_D (fun q => s.heap.size ≤ q) (LwS z a n ρ σX aM σM o g)) (hS : va_S (fun q => s.heap.size ≤ q) s.heap H locs) (hls : ls.size = 7) (hrest : (rest.map fun v => v.category).sum ≤ 8) (hn : vs'.length = nA) (hstk : st0 = (vs'.map (cv a ts)).reverse ++ .ref (a 0) :: rest) (hdg : decode cL_law pc = .ok (.invokevirtual index, 3)) (hf : cells ≤ 601024 ∧ slots ≤ 7293034)
    (kk : ∀ (H1 : Heap) (locs1 : List Loc), va_P D vwCl (LwS z a n ρ σX' aM σM o g) H1 → va_D (fun q => s.heap.size ≤ q) (LwS z a n ρ σX' aM σM o g) → va_S (fun q => s.heap.size ≤ q) s.heap H1 locs1 → W p l e roomL s m #[Value.ref b] below meth c H1 locs1 cells slots Q (F0 m (pc + 3) ls (.int r :: rest))) : W p l e roomL s m #[Value.ref b] below meth c H locs cells slots Q (F0 m pc ls st0) := by
  unfold LwS at hP hD kk
  rw [← List.append_assoc] at hP hD kk
  exact la_call (lay := layX) (ci := 6) (fds := [some 32, some 1, some 2, some 16, some 43, some 57, some 45, none, none]) hF hC hcode hml hins hsel hini hd ⟨hR.1, by show 8 + (nLy + 11) + 37 * dly ≤ 518; omega⟩ rfl hcl h hP hD hS hls hrest hn hstk hdg hf (fun H1 locs1 hP1 hD1 hS1 => kk H1 locs1 hP1 hD1 hS1)
theorem lcM (hF : Fn p s m #[Value.ref b] c D z ts s.heap.size (fun q => s.heap.size ≤ q) RL cL_law 7) (hC : Ct l y cy nLy rty dly layM f) (hcode : Cond.code y cy nLy rty ∈ gtb) (hml : Cond.methodLink RL index y ∈ gtb) (hins : Cond.instanceMethod y ∈ gtb) (hsel : Cond.selects y.cls y y ∈ gtb) (hini : Cond.initialized y.cls ∈ gtb)
    (hd : y.cls ≠ "java/lang/invoke/MethodHandle" ∧ y.cls ≠ "java/lang/invoke/VarHandle" ∧ (parseMethodDescriptor y.desc).map (fun d => d.parameters.length) = some nA) (hR : dly + 1 ≤ 14 ∧ nLy ≤ 18) (hcl : vwCl[7]? = some (y.cls, T, N))
    (h : f (.inr (.inl 0) :: vs') σM = some (some (some (.inl r)), σM')) (hP : va_P D vwCl (LwS z a n ρ σX aM σM o g) H) (hD : va_D (fun q => s.heap.size ≤ q) (LwS z a n ρ σX aM σM o g)) (hS : va_S (fun q => s.heap.size ≤ q) s.heap H locs) (hls : ls.size = 7) (hrest : (rest.map fun v => v.category).sum ≤ 8) (hn : vs'.length = nA) (hstk : st0 = (vs'.map (cv aM ts)).reverse ++ .ref (aM 0) :: rest) (hdg : decode cL_law pc = .ok (.invokevirtual index, 3)) (hf : cells ≤ 601024 ∧ slots ≤ 7293034)
    (kk : ∀ (H1 : Heap) (locs1 : List Loc), va_P D vwCl (LwS z a n ρ σX aM σM' o g) H1 → va_D (fun q => s.heap.size ≤ q) (LwS z a n ρ σX aM σM' o g) → va_S (fun q => s.heap.size ≤ q) s.heap H1 locs1 → W p l e roomL s m #[Value.ref b] below meth c H1 locs1 cells slots Q (F0 m (pc + 3) ls (.int r :: rest))) : W p l e roomL s m #[Value.ref b] below meth c H locs cells slots Q (F0 m pc ls st0) := by
  unfold LwS at hP hD kk
  rw [wT_app] at hP hD kk
  exact la_call (lay := layM) (ci := 7) (fds := [none, some 1, none, some 2, some 3, some 4, some 5, some 6, none, none, none, none, none, none, none, none, none, none, none, none, some 7, none, none, none, some 8, some 9, some 10, some 11, some 12, some 13, some 14, some 15, some 16, some 17, some 18, some 19, some 20, none, none, some 21, none, none]) hF hC hcode hml hins hsel hini hd ⟨hR.1, by show 8 + (nLy + 11) + 37 * dly ≤ 518; omega⟩ rfl hcl h hP hD hS hls hrest hn hstk hdg hf (fun H1 locs1 hP1 hD1 hS1 => kk H1 locs1 hP1 hD1 hS1)
theorem lcK (hF : Fn p s m #[Value.ref b] c D z ts s.heap.size (fun q => s.heap.size ≤ q) RL cL_law 7) (hM : ∀ sz, Met l y (.code y cy nLy rty :: gtb) (rmD dly mc ms) (va_Pc (.ref (a 0) :: vs'.map (cv a ts)) (Pr D z ts s.heap.size (wT z layX a (ktl z a n ρ) σX) sz)) (Qk D z n' ρ' σX' (some (.int r)) a n (va_A (wT z layX a (ktl z a n ρ) σX) sz)) mc ms (va_A (wT z layX a (ktl z a n ρ) σX) sz))
    (hcode : Cond.code y cy nLy rty ∈ gtb) (hml : Cond.methodLink RL index y ∈ gtb) (hins : Cond.instanceMethod y ∈ gtb) (hsel : Cond.selects y.cls y y ∈ gtb) (hini : Cond.initialized y.cls ∈ gtb)
    (hd : y.cls ≠ "java/lang/invoke/MethodHandle" ∧ y.cls ≠ "java/lang/invoke/VarHandle" ∧ (parseMethodDescriptor y.desc).map (fun d => d.parameters.length) = some nA) (hR : dly + 1 ≤ 14 ∧ nLy ≤ 18) (hcl : vwCl[6]? = some (y.cls, T, N))
    (hP : va_P D vwCl (LwS z a n ρ σX aM σM o g) H) (hD : va_D (fun q => s.heap.size ≤ q) (LwS z a n ρ σX aM σM o g)) (hS : va_S (fun q => s.heap.size ≤ q) s.heap H locs) (hls : ls.size = 7) (hrest : (rest.map fun v => v.category).sum ≤ 8) (hn : vs'.length = nA) (hstk : st0 = (vs'.map (cv a ts)).reverse ++ .ref (a 0) :: rest) (hdg : decode cL_law pc = .ok (.invokevirtual index, 3)) (hf : cells + mc ≤ 601024 ∧ slots + ms ≤ 7293034)
    (kk : ∀ (a' : Nat → Nat) (H1 : Heap) (locs1 : List Loc), (∀ j, j < 69 + 11 * n → a' j = a j) → va_P D vwCl (LwS z a' n' ρ' σX' aM σM o g) H1 → va_D (fun q => s.heap.size ≤ q) (LwS z a' n' ρ' σX' aM σM o g) → va_S (fun q => s.heap.size ≤ q) s.heap H1 locs1 → W p l e roomL s m #[Value.ref b] below meth c H1 locs1 (cells + mc) (slots + ms) Q (F0 m (pc + 3) ls (.int r :: rest))) : W p l e roomL s m #[Value.ref b] below meth c H locs cells slots Q (F0 m pc ls st0) := by
  unfold LwS at hP hD
  rw [← List.append_assoc] at hP hD
  exact lk_call hF (hM H.size) hcode hml hins hsel hini hd ⟨hR.1, by show 8 + (nLy + 11) + 37 * dly ≤ 518; omega⟩ hcl hP hD hS hls hrest hn hstk hdg hf (fun a' H1 locs1 hag hP1 hD1 hS1 => kk a' H1 locs1 hag (by unfold LwS; rw [← List.append_assoc]; exact hP1) (by unfold LwS; rw [← List.append_assoc]; exact hD1) hS1)
theorem lcH {ch : ByteArray} {nLh : Nat} {hh : List (Nat × Nat × Nat × Nat)} {As : List Value} {kr : Int32} (hF : Fn p s m #[Value.ref b] c D z ts s.heap.size (fun q => s.heap.size ≤ q) RL cL_law 7) (hM : ∀ sz, vx_Met l y (.codeWith y ch nLh (some .int) hh :: gtb) (rmD 13 mc ms) (va_Pc As (Pr D z ts s.heap.size (wO z o g ++ wT z layX a (ktl z a n ρ) σX) sz)) (Qx D (wO z o g' ++ wT z layX a (ktl z a n ρ) σX') (some (.int kr)) (va_A (wO z o g ++ wT z layX a (ktl z a n ρ) σX) sz)) (fun _ _ _ => False) mc ms (va_A (wO z o g ++ wT z layX a (ktl z a n ρ) σX) sz))
    (hcode : Cond.codeWith y ch nLh (some .int) hh ∈ gtb) (hml : Cond.methodLink RL index y ∈ gtb) (hsta : Cond.static y ∈ gtb) (hini : Cond.initialized y.cls ∈ gtb)
    (hd : y.cls ≠ "java/lang/invoke/MethodHandle" ∧ y.cls ≠ "java/lang/invoke/VarHandle" ∧ (parseMethodDescriptor y.desc).map (fun d => d.parameters.length) = some nA) (hnL : nLh ≤ 18)
    (hP : va_P D vwCl (LwS z a n ρ σX aM σM o g) H) (hD : va_D (fun q => s.heap.size ≤ q) (LwS z a n ρ σX aM σM o g)) (hS : va_S (fun q => s.heap.size ≤ q) s.heap H locs) (hls : ls.size = 7) (hrest : (rest.map fun v => v.category).sum ≤ 8) (hn : As.length = nA) (hstk : st0 = As.reverse ++ rest) (hdg : decode cL_law pc = .ok (.invokestatic index, 3)) (hf : cells + mc ≤ 601024 ∧ slots + ms ≤ 7293034)
    (kk : ∀ (H1 : Heap) (locs1 : List Loc), va_P D vwCl (LwS z a n ρ σX' aM σM o g') H1 → va_D (fun q => s.heap.size ≤ q) (LwS z a n ρ σX' aM σM o g') → va_S (fun q => s.heap.size ≤ q) s.heap H1 locs1 → W p l e roomL s m #[Value.ref b] below meth c H1 locs1 (cells + mc) (slots + ms) Q (F0 m (pc + 3) ls (.int kr :: rest))) : W p l e roomL s m #[Value.ref b] below meth c H locs cells slots Q (F0 m pc ls st0) := by
  unfold LwS at hP hD
  have hPc := sub_P hP
  have hDc := sub_D hD
  have hpre := fn_pre hF hPc hDc hS (as := As)
  have hfr := fn_free hF hDc hS
  obtain ⟨hx, hb, hml9, hown, hts, hK, hA, hA0, hSt⟩ := id hF
  have hr := vx_runSX (l := l) (e := e) (R := roomL) (below := below) (meth := meth) (locs := locs) (cells := cells) (slots := slots) (As := As) (rest := rest) (g := F0 m pc ls st0) ⟨hx, hb, hml9, hown, hts⟩ (hM H.size)
    (vx_cwSW nA hts (gtb_in (fun w hw => by
      rcases List.mem_append.mp hw with hw | hw
      · simp only [List.mem_cons, List.not_mem_nil, or_false] at hw
        rcases hw with rfl | rfl | rfl <;> assumption
      · rcases List.mem_cons.mp hw with rfl | hw
        · exact hcode
        · exact hw)) rfl rfl rfl hd ⟨by show 13 + 1 ≤ 14; omega, by show 8 + (nLh + 11) + 37 * 13 ≤ 518; omega⟩)
    ⟨Pr_blind, hpre⟩ rfl hn hls hstk (lv_room hrest) hdg hf
  intro T hT X
  rcases hr T hT X with ⟨v9, st₀, t, T', L, h0', X', hL, e1, e2, ⟨hv, hP1, hz, hk⟩, st⟩ | ⟨q, st₀, t, T', L, E, ce, h0', X', hL, e1, e2, hFa, hce, hcv, hcl9, st⟩
  · cases hv
    rw [h0'] at hz hk
    have hDw : va_D (va_A (wO z o g ++ wT z layX a (ktl z a n ρ) σX) H.size) (wO z o g' ++ wT z layX a (ktl z a n ρ) σX') := va_D_fst (w := wO z o g ++ wT z layX a (ktl z a n ρ) σX) (by rw [List.map_append, List.map_append, wT_len σX σX']; rfl) (hDc.self (sz := H.size))
    obtain ⟨hP2, hD2⟩ := join_r (H1 := T'.heap) hP hD (fun q h1 h2 => by rw [e1]; exact hk q h1 h2) hfr (by rw [e1]; exact hP1) hDw
    obtain ⟨t2, a1, b1⟩ := kk T'.heap (locs ++ L) hP2 hD2
      ⟨Nat.le_trans hS.1 (by rw [e1]; exact hz), fun q h1 h2 => by rw [e1, hk q (Nat.lt_of_lt_of_le h1 hS.1) (fun z => h2 (hfr q z))]; exact hS.2.1 q h1 h2, fun q hq => by
        rcases List.mem_append.mp hq with h | h
        · exact hS.2.2 q h
        · exact hfr _ (hL q h)⟩ T' rfl X'
    exact ⟨t2, st t2 a1, b1⟩
  · exact hFa.elim
end LAWB
