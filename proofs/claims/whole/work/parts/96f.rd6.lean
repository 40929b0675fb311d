/-! a statement; a text -/
def FS (M M' : Mm) : Prop := (∀ q, q ≠ 0 → q ≠ 3 → q ≠ 5 → M' q = M q) ∧ (∀ j, j < 9 ∨ 19 < j ∨ j = 17 → M' 0 j = M 0 j)
section READ6
variable {D M D' M' D'' M'' : Mm} {c : Nat → Nat} {L p s e : Nat} {G G' : Fg} {y : Int32} {v m w t : Nat} {X Y RS RM : Option Ou}
theorem FS_fm (h : FM M M') : FS M M' := ⟨h.1, fun j a => h.2 j (by omega)⟩
theorem FS_trans (h : FS M M') (h' : FS M' M'') : FS M M'' := ⟨fun q a b d => (h'.1 q a b d).trans (h.1 q a b d), fun j a => (h'.2 j a).trans (h.2 j a)⟩
theorem FS_18 {z : Int32} : FS M (wr M 0 18 z) := ⟨fun q a _ _ => by funext i; exact wr_cell a, fun j a => wr_place (by omega)⟩
theorem flx_18 {z : Int32} (h : Fl D M) : Fl D (wr M 0 18 z) := by
  obtain ⟨y, s, hy, h1, h2, h3, h4⟩ := h
  exact ⟨y, s, hy, h1, by rw [wr_place (by decide)]; exact h2, h3, by rw [wr_place (by decide)]; exact h4⟩
theorem sy_18 {z : Int32} (h : SY D M c L G s) : SY D (wr M 0 18 z) c L G s := by
  obtain ⟨hB, hs, hX, m1, m2, m3, m4, m5⟩ := h
  refine ⟨bs_m hB (fun q hq => by funext i; exact wr_cell (by omega)) (wr_place (by decide)) (wr_place (by decide)) (wr_place (by decide)), hs, hX, ?_, ?_, ?_, fun h9 => ?_, fun h9 => ?_⟩
  · rw [wr_place (by decide)]; exact m1
  · rw [wr_place (by decide)]; exact m2
  · rw [wr_place (by decide)]; exact m3
  · rw [wr_place (by decide)]; exact m4 h9
  · rw [wr_place (by decide)]; exact m5 h9
def SemO (RS RM : Option Ou) (D M : Mm) (c : Nat → Nat) (L s : Nat) : Prop :=
  (∃ D1 D2 D3 M3 G' s', RS = some (some (some (.inl 1)), D1) ∧ f_X4_readSemicolon [.inr (.inl 0)] D1 = some (some (some (.inl 1)), D2) ∧ f_X4_nextToken [.inr (.inl 0)] D2 = some (some none, D3) ∧ RM = some (some none, M3) ∧ SY D3 M3 c L G' s' ∧ s < s' ∧ Gok G' ∧ FX D D3 ∧ FS M M3 ∧ M3 0 18 = M 0 18 + 1) ∨
  (∃ D' M', (RS = some (some (some (.inl 0)), D') ∨ ∃ D1, RS = some (some (some (.inl 1)), D1) ∧ f_X4_readSemicolon [.inr (.inl 0)] D1 = some (some (some (.inl 0)), D')) ∧ RM = some (some none, M') ∧ Fl D' M' ∧ D' 0 3 = D 0 3 ∧ FS M M')
theorem sem_97 {N : Nat} {z : Int32} (h : ¬ M 0 15 = 0) : b_X7_readStatement_97 (N + 1) z M = some (some none, wr M 0 18 (M 0 18 + 1)) := by
  rw [e_X7_readStatement_97, mf_ifE h, onV_s, mg_E h, onV_s]
theorem p_semi {N : Nat} (h : Out X Y D M c L s G) (hG : Gok G) (hX : ∀ r τ, (r = 0 ∨ r = 1) → X = some (some (some (.inl r)), τ) → RS = some (some (some (.inl r)), τ)) (hY : RM = onV Y (fun τ1 => some (none, τ1)) (fun τ1 => b_X7_readStatement_83 (N + 1 + 1) τ1)) : SemO RS RM D M c L s := by
  rcases h with ⟨D1, M1, G', p', x1, y1, hLA, hsp, fx, fm, hg⟩ | ⟨D', M', x1, y1, hf⟩
  · obtain ⟨D2, a1, hS, a3⟩ := la_tok hLA
    have hst := tkS_le (c := c) hLA.2.1
    generalize tkS c L p' = s1 at *
    have h15 := hS.1.2.2.2
    have k4 := tkK_le (c := c) (L := L) (s := s1)
    have hkm := km_iff _ k4
    have k9 : D2 0 9 = 3 ↔ tkK c L s1 = 3 := by
      rw [hS.2.2.1.2.2.1]
      exact nI_eq (b := 3) (by omega) (by decide)
    have k12 : M1 0 12 = 2 ↔ tkK c L s1 = 3 := by
      rw [hS.2.2.2.2.2.1]
      exact hkm.2.2.1
    have hx := hX 1 D1 (Or.inr rfl) x1
    rw [y1, onV_s, e_X7_readStatement_83] at hY
    by_cases hk : tkK c L s1 = 3
    · left
      obtain ⟨M2, g1, hLA2, g3⟩ := la_next hS
      obtain ⟨D3, b1, hS3, b3⟩ := la_tok hLA2
      have hle := tkE_le (c := c) hS.2.1
      have hst2 := tkS_le (c := c) hLA2.2.1
      rw [if_pos (k12.mpr hk), e_X7_readStatement_97, mf_if0 h15, onV_s, g1, onV_s] at hY
      refine ⟨D1, D2, D3, _, G', _, hx, ?_, b1, hY, sy_18 hS3, by omega, hg hG, FX_trans fx (FX_fr (FrX_trans a3 b3)), FS_trans (FS_fm (FM_trans fm (FM_fr g3))) FS_18, ?_⟩
      · rw [e_X4_readSemicolon, a1, onV_s, if_pos (k9.mpr hk)]
      · rw [wr_same, g3.1 18 (by omega), fm.2 18 (by omega)]
    · right
      have he := er_15 (M := M1) (y := -11) (by decide)
      have hf := fl_mk (y := -11) hS.2.2.1.2.1 hS.2.2.2.2.1 (by decide)
      rw [if_neg (fun h9 => hk (k12.mp h9)), e_X7_readStatement_97, mf_if1 h15, onV_s, mg_E he, onV_s] at hY
      refine ⟨_, _, Or.inr ⟨D1, hx, ?_⟩, hY, flx_18 hf.1, hf.2.1.trans ((a3.1 3 (by omega)).trans fx.1), FS_trans (FS_fm (FM_trans fm hf.2.2)) FS_18⟩
      rw [e_X4_readSemicolon, a1, onV_s, if_neg (fun h9 => hk (k9.mp h9)), e_X4_fail, onI_s, if_pos rfl]
  · right
    have hx := hX 0 D' (Or.inl rfl) x1
    have he := fl_er hf.1
    rw [y1, onV_s, e_X7_readStatement_83, sem_97 he, sem_97 he] at hY
    refine ⟨D', wr M' 0 18 (M' 0 18 + 1), Or.inl hx, ?_, flx_18 hf.1, hf.2.1, FS_trans (FS_fm hf.2.2) FS_18⟩
    rw [hY]
    split <;> rfl
theorem p_stmt (h : SY D M c L G s) (hk : tkK c L s ≠ 0) (hG : Gok G) : SemO (f_X4_readStatement [.inr (.inl 0)] D) (f_X7_readStatement [.inr (.inl 0)] M) D M c L s := by
  obtain ⟨N, hN⟩ := big5
  obtain ⟨hB, hs, hX, hM⟩ := id h
  have h15 := hB.2.2.2
  have k4 := tkK_le (c := c) (L := L) (s := s)
  have hkm := km_iff _ k4
  have k9 : D 0 9 = 1 ↔ tkK c L s = 1 := by
    rw [hX.2.2.1]
    exact nI_eq (b := 1) (by omega) (by decide)
  have k12 : M 0 12 = 0 ↔ tkK c L s = 1 := by
    rw [hM.2.2.1]
    exact hkm.1
  have hbad : Out (f_X4_fail [.inr (.inl 0), .inl (-11)] D) (f_X7_failsIf [.inr (.inl 0), .inl 1, .inl (-11)] M) D M c L s G := Or.inr ⟨_, _, e_X4_fail _ _, mf_if1 h15, fl_mk hX.2.1 hM.2.1 (by decide)⟩
  by_cases hkk : tkK c L s = 1
  · have ev := hX.2.2.2.1 hkk
    have ew := hM.2.2.2.1 hkk
    generalize vA c s (tkE c L s) = v at *
    by_cases h1 : v = 321370112
    · refine p_semi (N := N + 1 + 1) (p_iron h hk) hG (fun r τ hr hx => ?_) ?_
      · rw [e_X4_readStatement, if_pos (k9.mpr hkk), ev, if_pos h1, hx, onI_s, if_pos hr]
      · rw [e_X7_readStatement, hN, if_pos (k12.mpr hkk), ew, h1, e_X7_readStatement_15, if_pos (by decide)]
    by_cases h2 : v = 549489824
    · refine p_semi (N := N + 1 + 1) (p_place h hk) hG (fun r τ hr hx => ?_) ?_
      · rw [e_X4_readStatement, if_pos (k9.mpr hkk), ev, if_neg h1, if_pos h2, hx, onI_s, if_pos hr]
      · rw [e_X7_readStatement, hN, if_pos (k12.mpr hkk), ew, h2, e_X7_readStatement_15, if_neg (by decide), if_neg (by decide), if_pos (by decide)]
    by_cases h3 : v = 643432448
    · refine p_semi (N := N + 1 + 1) (p_set h hk hG) hG (fun r τ hr hx => ?_) ?_
      · rw [e_X4_readStatement, if_pos (k9.mpr hkk), ev, if_neg h1, if_neg h2, if_pos h3, hx, onI_s, if_pos hr]
      · rw [e_X7_readStatement, hN, if_pos (k12.mpr hkk), ew, h3, e_X7_readStatement_15, if_neg (by decide), if_neg (by decide), if_neg (by decide), if_pos (by decide)]
    by_cases h4 : v = 658685952
    · refine p_semi (N := N + 1 + 1) (p_step h hk) hG (fun r τ hr hx => ?_) ?_
      · rw [e_X4_readStatement, if_pos (k9.mpr hkk), ev, if_neg h1, if_neg h2, if_neg h3, if_pos h4, hx, onI_s, if_pos hr]
      · rw [e_X7_readStatement, hN, if_pos (k12.mpr hkk), ew, h4, e_X7_readStatement_15, if_neg (by decide), if_pos (by decide)]
    refine p_semi (N := N + 1 + 1) hbad hG (fun r τ hr hx => ?_) ?_
    · rw [e_X4_readStatement, if_pos (k9.mpr hkk), ev, if_neg h1, if_neg h2, if_neg h3, if_neg h4, hx, onI_s, if_pos hr]
    · have e5 : ¬ wiX v = 0 ∧ ¬ wiX v = 1 ∧ ¬ wiX v = 2 ∧ ¬ wiX v = 3 := by
        unfold wiX
        rw [if_neg h1, if_neg h4, if_neg h2, if_neg h3]
        split
        · decide
        · split
          · decide
          · split <;> decide
      rw [e_X7_readStatement, hN, if_pos (k12.mpr hkk), ew, e_X7_readStatement_15, if_neg e5.1, if_neg e5.2.1, if_neg e5.2.2.1, if_neg e5.2.2.2]
  · refine p_semi (N := N + 1 + 1) hbad hG (fun r τ hr hx => ?_) ?_
    · rw [e_X4_readStatement, if_neg (fun h9 => hkk (k9.mp h9)), hx, onI_s, if_pos hr]
    · rw [e_X7_readStatement, hN, if_neg (fun h9 => hkk (k12.mp h9)), e_X7_readStatement_15, if_neg (by decide), if_neg (by decide), if_neg (by decide), if_neg (by decide)]
theorem p_loop (hL : L ≤ 900) : ∀ (k n s N N' : Nat) (D M : Mm) (G : Fg), L ≤ s + k → n ≤ s → k + 1 ≤ N → k + 5 ≤ N' → SY D M c L G s → Gok G → M 0 18 = nI n →
    (∃ D' M' G' n' N2, b_X4_readText_11 N (nI L) (nI n) D = some (some (some (.inl (nI n'))), D') ∧ 3 ≤ N2 ∧ b_X7_load_43 N' M = b_X7_load_65 N2 M' ∧ Dr D' M' G' ∧ M' 0 15 = 0 ∧ M' 0 18 = nI n' ∧ n' ≤ 900 ∧ FX D D' ∧ FS M M') ∨
    (∃ D' M' N2, b_X4_readText_11 N (nI L) (nI n) D = some (some (some (.inl (D' 0 5))), D') ∧ 3 ≤ N2 ∧ b_X7_load_43 N' M = b_X7_load_65 N2 M' ∧ Fl D' M' ∧ D' 0 3 = D 0 3 ∧ FS M M') := by
  intro k
  induction k with
  | zero =>
    intro n s N N' D M G hk hn hN hN' h hG h18
    obtain ⟨N, rfl⟩ : ∃ N1, N = N1 + 1 := ⟨N - 1, by omega⟩
    obtain ⟨N', rfl⟩ : ∃ N1, N' = N1 + 1 := ⟨N' - 1, by omega⟩
    have e0 : tkK c L s = 0 := by
      unfold tkK
      rw [if_pos (by omega)]
    have hs := h.2.1
    left
    refine ⟨D, M, G, n, N', ?_, by omega, ?_, h.1.2.1, h.1.2.2.2, h18, by omega, ⟨rfl, rfl⟩, ⟨fun _ _ _ _ => rfl, fun _ _ => rfl⟩⟩
    · rw [e_X4_readText_11, if_pos (show D 0 9 = 0 by rw [h.2.2.1.2.2.1, e0]; rfl)]
    · rw [e_X7_load_43, if_pos h.1.2.2.2, if_pos (show M 0 12 = 3 by rw [h.2.2.2.2.2.1, e0]; rfl)]
  | succ k ih =>
    intro n s N N' D M G hk hn hN hN' h hG h18
    obtain ⟨N, rfl⟩ : ∃ N1, N = N1 + 1 := ⟨N - 1, by omega⟩
    obtain ⟨N', rfl⟩ : ∃ N1, N' = N1 + 1 := ⟨N' - 1, by omega⟩
    have hs := h.2.1
    have k4 := tkK_le (c := c) (L := L) (s := s)
    have hkm := km_iff _ k4
    by_cases e0 : tkK c L s = 0
    · left
      refine ⟨D, M, G, n, N', ?_, by omega, ?_, h.1.2.1, h.1.2.2.2, h18, by omega, ⟨rfl, rfl⟩, ⟨fun _ _ _ _ => rfl, fun _ _ => rfl⟩⟩
      · rw [e_X4_readText_11, if_pos (show D 0 9 = 0 by rw [h.2.2.1.2.2.1, e0]; rfl)]
      · rw [e_X7_load_43, if_pos h.1.2.2.2, if_pos (show M 0 12 = 3 by rw [h.2.2.2.2.2.1, e0]; rfl)]
    · have hsl := (tkE_gt (c := c) hs e0).1
      have n9 : ¬ D 0 9 = 0 := by
        rw [h.2.2.1.2.2.1]
        exact nI_ne0 (by omega) (by omega)
      have n12 : ¬ M 0 12 = 3 := by
        rw [h.2.2.2.2.2.1]
        exact fun h9 => e0 (hkm.2.2.2.mp h9)
      rw [e_X4_readText_11, if_neg n9, if_pos (nI_lt (by omega) (by omega)), e_X7_load_43, if_pos h.1.2.2.2, if_neg n12]
      rcases p_stmt h e0 hG with ⟨D1, D2, D3, M3, G', s', a1, a2, a3, a4, a5, a6, a7, a8, a9, a10⟩ | ⟨D', M', a1, a2, a3, a4, a5⟩
      · rw [a1, onI_s, if_neg (show ¬ (1 : Int32) = 0 by decide), a2, onI_s, if_neg (show ¬ (1 : Int32) = 0 by decide), a3, onV_s, a4, onV_s, nI_1]
        rcases ih (n + 1) s' N N' D3 M3 G' (by omega) (by omega) (by omega) (by omega) a5 a7 (by rw [a10, h18, nI_1]) with ⟨D4, M4, G4, n4, N2, b1, b2, b3, b4, b5, b6, b7, b8, b9⟩ | ⟨D4, M4, N2, b1, b2, b3, b4, b5, b6⟩
        · exact Or.inl ⟨D4, M4, G4, n4, N2, b1, b2, b3, b4, b5, b6, b7, FX_trans a8 b8, FS_trans a9 b9⟩
        · exact Or.inr ⟨D4, M4, N2, b1, b2, b3, b4, b5.trans a8.1, FS_trans a9 b6⟩
      · right
        obtain ⟨N', rfl⟩ : ∃ N1, N' = N1 + 1 := ⟨N' - 1, by omega⟩
        rw [a2, onV_s, e_X7_load_43, if_neg (fl_er a3)]
        refine ⟨D', M', N', ?_, by omega, rfl, a3, a4, a5⟩
        rcases a1 with a1 | ⟨D1, a1, b1⟩
        · rw [a1, onI_s, if_pos rfl]
        · rw [a1, onI_s, if_neg (show ¬ (1 : Int32) = 0 by decide), b1, onI_s, if_pos rfl]
end READ6
