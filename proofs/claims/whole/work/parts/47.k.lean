/-! THE MODEL: chant, firstError, written -/
theorem okZ_X {M0 M : xM} (hZ : okZ M0) (h : rdX M0 M) (s : Int) : okZ (spM M s) := by
  have e : ∀ k, zI (spM M s) k = zI M0 k := fun k => by unfold zI; rw [spM_row _ _ (by decide), h.1 69 (by decide) (by decide) (by decide) (by decide) (by decide)]
  unfold okZ
  rw [e, e]
  exact ⟨fun r h0 h1 => by rw [e]; exact hZ.1 r h0 h1, hZ.2⟩
theorem svZ_75 {M : xM} {a : Nat} (h : a ≠ 68) (h2 : a ≠ 70) : (svZ M).1 a = M.1 a := svZ_row h h2
theorem svS_68 (M : xM) {k : Nat} (hk : k ≠ 2) : (svS M).1 68 k = M.1 68 k := by
  unfold svS
  split
  · rw [upI_1, if_neg (fun z => hk z.2), cpK_row (by decide)]
  · rfl
theorem svZ_68 {M : xM} {k : Nat} (hk : k ≠ 2) : (svZ M).1 68 k = M.1 68 k := by
  unfold svZ
  dsimp only
  rw [upI_1, if_neg (fun z => hk z.2), cpK_row (by decide), svS_68 M hk]
theorem prOk_sv {M : xM} {s : Int} {j : Nat} (h : prOk M j) : prOk (svZ (spM M s)) j := by
  unfold prOk lr lt l1 l2
  rw [svZ_row (by decide) (by decide), svZ_row (by decide) (by decide), svZ_row (by decide) (by decide), svZ_row (by decide) (by decide), spM_row _ _ (by decide), spM_row _ _ (by decide), spM_row _ _ (by decide), spM_row _ _ (by decide)]
  exact h
theorem fzR_len {M : xM} : ∀ (n : Nat) (s : Int), 0 ≤ s → ((fzR M n s).2.2 = [] ∨ 6 * ((fzR M n s).2.2.length : Int) ≤ ln M + 1 - s)
  | 0, _, _ => Or.inl rfl
  | n + 1, s, h0 => by
    rw [fzR]
    by_cases h1 : al (tsT M s) = true
    · rw [if_pos h1]
      have h2 := tsT_in h1
      by_cases h3 : cdZ M (s + pf (tsT M s)) = 59
      · rw [if_pos h3]
        have h4 := fzR_len (M := M) n (s + pf (tsT M s) + 1) (by omega)
        right
        dsimp only
        rw [List.length_cons]
        rcases h4 with h4 | h4
        · rw [h4]; simp only [List.length_nil]; omega
        · omega
      · rw [if_neg h3]
        right
        simp only [List.length_cons, List.length_nil]
        omega
    · rw [if_neg h1]; exact Or.inl rfl
theorem recs_pr {M0 M : xM} (hY : okW M0) (h : recs M0 M (fzZ M0).2.2) : pa M ≤ 11 ∧ 0 ≤ pa M ∧ ∀ j : Nat, (j : Int) < pa M → prOk M j := by
  have hln := hY.1
  have hl := fzR_len (M := M0) 12 0 (by decide)
  have e : (fzR M0 12 0).2.2 = (fzZ M0).2.2 := rfl
  rw [e] at hl
  refine ⟨?_, by rw [h.1]; omega, fun j hj => ?_⟩
  · rw [h.1]
    rcases hl with hl | hl
    · rw [hl]; decide
    · omega
  · rw [h.1] at hj
    have hj2 : j < (fzZ M0).2.2.length := by omega
    have hg := List.getElem?_eq_getElem hj2
    exact prOk_rec (fzR_al 12 0 _ (List.getElem_mem hj2)) (h.2 j _ hg)
set_option maxRecDepth 20000 in
theorem m_X7_firstError {l : Launch} {E : xE} {M0 : xM} (hY : okW M0) : XP l E 12 yX7_firstError cX7_firstError 1 (some FieldType.int) [vA 68] M0 (fun r' M' => r' = vI (jI (feZ (t0 M0))) ∧ ∃ M9, rdX (t0 M0) M9 ∧ M' = spM M9 (fzZ (t0 M0)).1) := by
  refine xp_start (plainFor_of_name (by decide)) rfl (Nat.le_of_ble_eq_true rfl) ?_
  intro Y F FR
  have hY0 : okW (upI M0 68 5 (jI 0)) := okW_up hY (by decide) (Or.inr (by decide))
  have hfb := fzR_b (M := (upI M0 68 5 (jI 0))) 12 0 (by decide)
  have hfe : (fzR (upI M0 68 5 (jI 0)) 12 0).1 = (fzZ (upI M0 68 5 (jI 0))).1 := rfl
  refine x_aload_n F dX7_firstError_0 rfl ?_
  refine xj_iconst F dX7_firstError_1 ?_
  refine x_puti F flX7_40 rfl dX7_firstError_2 (by decide) (by decide) rfl fw7_5 rfl rfl ?_
  refine x_aload_n F dX7_firstError_5 rfl ?_
  refine x_V0P F (m_X7_isChants (M0 := (upI M0 68 5 (jI 0))) hY0) mlX7_185 mvX7_isChants rfl dX7_firstError_6 (by decide) rfl ⟨Nat.le_of_ble_eq_true rfl, Nat.le_of_ble_eq_true rfl⟩ ⟨Nat.zero_le _, Nat.zero_le _⟩ (Nat.le_of_ble_eq_true rfl) (fun r_6 M_6 q_6 => ?_)
  obtain ⟨M9, rfl, rfl, q3, q4⟩ := q_6
  refine xb_if_eq (tgt := 19) F dX7_firstError_9 (by decide) (fun h_1 => ?_) (fun h_1 => ?_)
  · have znw := h_1
    have e12 : ((spM M9 (fzZ (upI M0 68 5 (jI 0))).1).1 68 12).toInt = (fzZ (upI M0 68 5 (jI 0))).1 := spM_sp M9 (by omega)
    refine x_aload_n F dX7_firstError_19 rfl ?_
    refine xj_geti F flX7_148 rfl dX7_firstError_20 (by decide) (by decide) rfl (fun hg_2 => ?_)
    refine x_iret F FR dX7_firstError_23 rfl (Nat.le_refl _) (Nat.le_refl _) ?_
    first
      | exact ⟨vj2 (by unfold feZ; rw [if_pos (show wcP (t0 M0) = true from zyw)]; exact e11.symm), M9, q3, rfl⟩
      | exact ⟨vj2 (by unfold feZ; rw [if_neg (show ¬ wcP (t0 M0) = true from znw)]; exact e12.symm), M9, q3, rfl⟩
  · have zyw := h_1
    have e11 : ((spM M9 (fzZ (upI M0 68 5 (jI 0))).1).1 68 11).toInt = ln (upI M0 68 5 (jI 0)) := (by rw [spM_k _ _ (by decide)]; exact rdX_ln q3)
    refine x_aload_n F dX7_firstError_12 rfl ?_
    refine xj_geti F flX7_145 rfl dX7_firstError_13 (by decide) (by decide) rfl (fun hg_3 => ?_)
    refine x_goto (tgt := 23) F dX7_firstError_16 (by decide) ?_
    refine x_iret F FR dX7_firstError_23 rfl (Nat.le_refl _) (Nat.le_refl _) ?_
    first
      | exact ⟨vj2 (by unfold feZ; rw [if_pos (show wcP (t0 M0) = true from zyw)]; exact e11.symm), M9, q3, rfl⟩
      | exact ⟨vj2 (by unfold feZ; rw [if_neg (show ¬ wcP (t0 M0) = true from znw)]; exact e12.symm), M9, q3, rfl⟩
set_option maxRecDepth 20000 in
theorem m_X7_chant {l : Launch} {E : xE} {M0 : xM} (hZ : okZ M0) (hY : okW M0) (hs : 0 ≤ (M0.1 68 2).toInt ∧ (M0.1 68 2).toInt ≤ 6) : XP l E 11 yX7_chant cX7_chant 2 (some FieldType.int) [vA 68] M0 (fun r' M' => cmQ M0 r' M') := by
  refine xp_start (plainFor_of_name (by decide)) rfl (Nat.le_of_ble_eq_true rfl) ?_
  intro Y F FR
  have hY0 : okW (upI M0 68 5 (jI 0)) := okW_up hY (by decide) (Or.inr (by decide))
  have hfb := fzR_b (M := (upI M0 68 5 (jI 0))) 12 0 (by decide)
  have hfe : (fzR (upI M0 68 5 (jI 0)) 12 0).1 = (fzZ (upI M0 68 5 (jI 0))).1 := rfl
  have hZ0 : okZ (upI M0 68 5 (jI 0)) := hZ
  refine x_aload_n F dX7_chant_0 rfl ?_
  refine xj_iconst F dX7_chant_1 ?_
  refine x_puti F flX7_40 rfl dX7_chant_2 (by decide) (by decide) rfl fw7_5 rfl rfl ?_
  refine x_aload_n F dX7_chant_5 rfl ?_
  refine x_V0P F (m_X7_isChants (M0 := (upI M0 68 5 (jI 0))) hY0) mlX7_185 mvX7_isChants rfl dX7_chant_6 (by decide) rfl ⟨Nat.le_of_ble_eq_true rfl, Nat.le_of_ble_eq_true rfl⟩ ⟨Nat.zero_le _, Nat.zero_le _⟩ (Nat.le_of_ble_eq_true rfl) (fun r_6 M_6 q_6 => ?_)
  obtain ⟨M9, rfl, rfl, q3, q4⟩ := q_6
  refine xb_if_ne (tgt := 18) F dX7_chant_9 (by decide) (fun h_1 => ?_) (fun h_1 => ?_)
  · have zyw := h_1
    have hs9 : 0 ≤ ((spM M9 (fzZ (upI M0 68 5 (jI 0))).1).1 68 2).toInt ∧ ((spM M9 (fzZ (upI M0 68 5 (jI 0))).1).1 68 2).toInt ≤ 6 := (by rw [spM_k _ _ (by decide), q3.2.1 2 (by decide) (by decide)]; exact hs)
    have hrc := q4 zyw
    obtain ⟨hp1, hp2, hp3⟩ := recs_pr hY0 hrc
    refine x_aload_n F dX7_chant_18 rfl ?_
    refine x_V0 F (m_X7_save hs9) mlX7_67 mvX7_save rfl dX7_chant_19 (by decide) rfl ⟨Nat.le_of_ble_eq_true rfl, Nat.le_of_ble_eq_true rfl⟩ ⟨Nat.zero_le _, Nat.zero_le _⟩ (Nat.le_of_ble_eq_true rfl) ?_
    refine xj_iconst F dX7_chant_22 ?_
    refine x_istore_n F dX7_chant_23 (by decide) ?_
    have hpe : pa (svZ (spM M9 (fzZ (upI M0 68 5 (jI 0))).1)) = pa M9 := (by unfold pa; rw [svZ_68 (by decide), spM_k _ _ (by decide)])
    refine L_X7_chant (l := l) hZ hY hs F FR _ (svZ (spM M9 (fzZ (upI M0 68 5 (jI 0))).1)) 0 12 ⟨okZ_sv (okZ_X hZ0 q3 _), fun j hj => prOk_sv (hp3 j (by omega)), by omega, fun r1 M1 e1 e2 => ⟨fun z => absurd zyw z, fun _ => ⟨M9, q3, hrc, e1, e2⟩⟩, rfl⟩ (Nat.lt_succ_self _)
  · have znw := h_1
    refine x_aload_n F dX7_chant_12 rfl ?_
    refine xj_iconst F dX7_chant_13 ?_
    refine x_V1 F (m_X7_fails) mlX7_55 mvX7_fails rfl dX7_chant_14 (by decide) rfl ⟨Nat.le_of_ble_eq_true rfl, Nat.le_of_ble_eq_true rfl⟩ ⟨Nat.zero_le _, Nat.zero_le _⟩ (Nat.le_of_ble_eq_true rfl) ?_
    refine x_iret F FR dX7_chant_17 rfl (Nat.le_refl _) (Nat.le_refl _) ?_
    exact ⟨fun _ => ⟨rfl, M9, q3, rfl⟩, fun z => absurd z znw⟩
def wrY (r i : Int) : Int := if ¬ (0 ≤ r ∧ r ≤ 3) then 1 else if ¬ (0 ≤ i) then 2 else 0
set_option maxRecDepth 20000 in
theorem m_X7_written {l : Launch} {E : xE} {r i : Int} {M : xM} (hZ : okZ M) (hr : rg r) (hi : rg i) (hH : ∀ q p : Int, 0 ≤ q → q < 4 → 0 ≤ p → p < zI M q → 0 ≤ zI M (28 + 6 * q + p) ∧ zI M (28 + 6 * q + p) ≤ 1000) : XP l E 10 yX7_written cX7_written 3 (some FieldType.int) [vA 68, vI (jI r), vI (jI i)] M (fun r' M' => (wrY r i = 0 → r' = vI (jI (wvZ (t0 M) r i)) ∧ M' = t0 M) ∧ (wrY r i ≠ 0 → r' = vI (jI 0) ∧ M' = upI (t0 M) 68 5 (jI (wrY r i)))) := by
  refine xp_start (plainFor_of_name (by decide)) rfl (Nat.le_of_ble_eq_true rfl) ?_
  intro Y F FR
  have hZ0 : okZ (upI M 68 5 (jI 0)) := hZ
  refine x_aload_n F dX7_written_0 rfl ?_
  refine xj_iconst F dX7_written_1 ?_
  refine x_puti F flX7_40 rfl dX7_written_2 (by decide) (by decide) rfl fw7_5 rfl rfl ?_
  refine x_iload_n F dX7_written_5 rfl ?_
  refine x_S1 F (m_X7_isRow (by first | assumption | omega | decide)) mlX7_48 msX7_isRow dX7_written_6 ⟨Nat.le_of_ble_eq_true rfl, Nat.le_of_ble_eq_true rfl⟩ ⟨Nat.zero_le _, Nat.zero_le _⟩ (Nat.le_of_ble_eq_true rfl) ?_
  refine xb_if_ne (tgt := 18) F dX7_written_9 (by decide) (fun h_1 => ?_) (fun h_1 => ?_)
  · refine x_iload_n F dX7_written_18 rfl ?_
    refine xj_if_ge (tgt := 30) F dX7_written_19 (by decide) (by omega) (fun h_2 => ?_) (fun h_2 => ?_)
    · refine x_aload_n F dX7_written_30 rfl ?_
      refine x_iload_n F dX7_written_31 rfl ?_
      refine x_iload_n F dX7_written_32 rfl ?_
      refine x_V2 F (m_X7_writtenAt hZ0 (by omega) (by omega) (fun p => hH r p (by omega) (by omega))) mlX7_194 mvX7_writtenAt rfl dX7_written_33 (by decide) rfl ⟨Nat.le_of_ble_eq_true rfl, Nat.le_of_ble_eq_true rfl⟩ ⟨Nat.zero_le _, Nat.zero_le _⟩ (Nat.le_of_ble_eq_true rfl) ?_
      refine x_iret F FR dX7_written_36 rfl (Nat.le_refl _) (Nat.le_refl _) ?_
      first
        | (have hX : wrY r i = 1 := (by unfold wrY; (repeat' split) <;> first | rfl | omega); exact ⟨fun z9 => absurd (hX.symm.trans z9) (by decide), fun _ => ⟨rfl, by rw [hX]; rfl⟩⟩)
        | (have hX : wrY r i = 2 := (by unfold wrY; (repeat' split) <;> first | rfl | omega); exact ⟨fun z9 => absurd (hX.symm.trans z9) (by decide), fun _ => ⟨rfl, by rw [hX]; rfl⟩⟩)
        | (have hX : wrY r i = 0 := (by unfold wrY; (repeat' split) <;> first | rfl | omega); exact ⟨fun _ => ⟨rfl, rfl⟩, fun z9 => absurd hX z9⟩)
    · refine x_aload_n F dX7_written_22 rfl ?_
      refine xj_iconst F dX7_written_23 ?_
      refine x_V1 F (m_X7_fails) mlX7_55 mvX7_fails rfl dX7_written_24 (by decide) rfl ⟨Nat.le_of_ble_eq_true rfl, Nat.le_of_ble_eq_true rfl⟩ ⟨Nat.zero_le _, Nat.zero_le _⟩ (Nat.le_of_ble_eq_true rfl) ?_
      refine x_goto (tgt := 36) F dX7_written_27 (by decide) ?_
      refine x_iret F FR dX7_written_36 rfl (Nat.le_refl _) (Nat.le_refl _) ?_
      first
        | (have hX : wrY r i = 1 := (by unfold wrY; (repeat' split) <;> first | rfl | omega); exact ⟨fun z9 => absurd (hX.symm.trans z9) (by decide), fun _ => ⟨rfl, by rw [hX]; rfl⟩⟩)
        | (have hX : wrY r i = 2 := (by unfold wrY; (repeat' split) <;> first | rfl | omega); exact ⟨fun z9 => absurd (hX.symm.trans z9) (by decide), fun _ => ⟨rfl, by rw [hX]; rfl⟩⟩)
        | (have hX : wrY r i = 0 := (by unfold wrY; (repeat' split) <;> first | rfl | omega); exact ⟨fun _ => ⟨rfl, rfl⟩, fun z9 => absurd hX z9⟩)
  · refine x_aload_n F dX7_written_12 rfl ?_
    refine xj_iconst F dX7_written_13 ?_
    refine x_V1 F (m_X7_fails) mlX7_55 mvX7_fails rfl dX7_written_14 (by decide) rfl ⟨Nat.le_of_ble_eq_true rfl, Nat.le_of_ble_eq_true rfl⟩ ⟨Nat.zero_le _, Nat.zero_le _⟩ (Nat.le_of_ble_eq_true rfl) ?_
    refine x_iret F FR dX7_written_17 rfl (Nat.le_refl _) (Nat.le_refl _) ?_
    first
      | (have hX : wrY r i = 1 := (by unfold wrY; (repeat' split) <;> first | rfl | omega); exact ⟨fun z9 => absurd (hX.symm.trans z9) (by decide), fun _ => ⟨rfl, by rw [hX]; rfl⟩⟩)
      | (have hX : wrY r i = 2 := (by unfold wrY; (repeat' split) <;> first | rfl | omega); exact ⟨fun z9 => absurd (hX.symm.trans z9) (by decide), fun _ => ⟨rfl, by rw [hX]; rfl⟩⟩)
      | (have hX : wrY r i = 0 := (by unfold wrY; (repeat' split) <;> first | rfl | omega); exact ⟨fun _ => ⟨rfl, rfl⟩, fun z9 => absurd hX z9⟩)
