/-! THE MODEL tells of a row -/
theorem dcZ_b {M : xM} (hZ : okZ M) {r : Int} (hr : 0 ≤ r ∧ r < 4) : 0 ≤ dcZ M r ∧ dcZ M r ≤ 36 := by
  have hz := hZ.1 r hr.1 hr.2
  unfold dcZ
  have := sumI_b (f := fun p => sumI (fun q => b01 (decide (zI M (28 + 6 * r + p) < zI M (28 + 6 * r + q)))) p.toNat) (b := 6) (zI M r).toNat (fun i h0 h1 => by
    have := sumI_b (f := fun q => b01 (decide (zI M (28 + 6 * r + i) < zI M (28 + 6 * r + q)))) (b := 1) i.toNat (fun j _ _ => b01_b _)
    omega)
  omega
def orZ (M : xM) (r z : Int) : Int := if z = 0 then zI M r else if z = 1 then odZ M r else if z = 2 then dcZ M r else if z = 3 then dcZ M r % 2 else if z = 4 then (toQ M r).1 else if z = 5 then (toQ M r).2 else hgZ M r
theorem qT_rfl (M : xM) : qT M M := ⟨fun _ _ _ _ => rfl, fun _ _ _ => rfl, rfl⟩
set_option maxRecDepth 20000 in
theorem m_X7_ofRow {l : Launch} {E : xE} {r z : Int} {M : xM} (hZ : okZ M) (hr : 0 ≤ r ∧ r < 4) (hz : 0 ≤ z ∧ z ≤ 6) : XP l E 8 yX7_ofRow cX7_ofRow 3 (some FieldType.int) [vA 68, vI (jI r), vI (jI z)] M (fun r' M' => r' = vI (jI (orZ M r z)) ∧ qT M M') := by
  refine xp_start (plainFor_of_name (by decide)) rfl (Nat.le_of_ble_eq_true rfl) ?_
  intro Y F FR
  have hzr : (M.1 69 r.toNat).toInt = zI M r := rfl
  have hdb := dcZ_b hZ hr
  refine x_iload_n F dX7_ofRow_0 rfl ?_
  by_cases h_1 : z = 0
  · refine xj_tabIn (off := 39) (tgt := 40) F dX7_ofRow_1 (by omega) (by omega) (by rw [h_1]; rfl) (by decide) (by omega) ?_
    refine x_aload_n F dX7_ofRow_40 rfl ?_
    refine x_getc (v := 69) F flX7_7 rfl dX7_ofRow_41 (by decide) (by decide) rfl rfl ?_
    refine xj_iconst F dX7_ofRow_44 ?_
    refine x_iload_n F dX7_ofRow_45 rfl ?_
    refine xj_iadd F dX7_ofRow_46 ?_
    rw [Int.zero_add r]
    refine xj_lald2 F rfl dX7_ofRow_47 (by omega) (fun hg_2 => ?_)
    refine x_iret F FR dX7_ofRow_48 rfl (Nat.le_refl _) (Nat.le_refl _) ?_
    first
      | exact ⟨vj2 (by unfold orZ; rw [if_pos (by omega)]; rfl), qT_rfl _⟩
      | exact ⟨vj2 (by unfold orZ; rw [if_neg (by omega), if_pos (by omega)]), qT_rfl _⟩
      | exact ⟨vj2 (by unfold orZ; rw [if_neg (by omega), if_neg (by omega), if_pos (by omega)]), qT_rfl _⟩
      | exact ⟨vj2 (by unfold orZ; rw [if_neg (by omega), if_neg (by omega), if_neg (by omega), if_pos (by omega)]), qT_rfl _⟩
      | exact ⟨vj2 (by unfold orZ; rw [if_neg (by omega), if_neg (by omega), if_neg (by omega), if_neg (by omega), if_pos (by omega)]; exact qv_71.1.symm), qt_71⟩
      | exact ⟨vj2 (by unfold orZ; rw [if_neg (by omega), if_neg (by omega), if_neg (by omega), if_neg (by omega), if_neg (by omega), if_pos (by omega)]; exact qv_81.2.symm), qt_81⟩
      | exact ⟨vj2 (by unfold orZ; rw [if_neg (by omega), if_neg (by omega), if_neg (by omega), if_neg (by omega), if_neg (by omega), if_neg (by omega)]), qT_rfl _⟩
  by_cases h_3 : z = 1
  · refine xj_tabIn (off := 48) (tgt := 49) F dX7_ofRow_1 (by omega) (by omega) (by rw [h_3]; rfl) (by decide) (by omega) ?_
    refine x_aload_n F dX7_ofRow_49 rfl ?_
    refine x_iload_n F dX7_ofRow_50 rfl ?_
    refine x_V1 F (m_X7_oddIn hZ hr) mlX7_84 mvX7_oddIn rfl dX7_ofRow_51 (by decide) rfl ⟨Nat.le_of_ble_eq_true rfl, Nat.le_of_ble_eq_true rfl⟩ ⟨Nat.zero_le _, Nat.zero_le _⟩ (Nat.le_of_ble_eq_true rfl) ?_
    refine x_iret F FR dX7_ofRow_54 rfl (Nat.le_refl _) (Nat.le_refl _) ?_
    first
      | exact ⟨vj2 (by unfold orZ; rw [if_pos (by omega)]; rfl), qT_rfl _⟩
      | exact ⟨vj2 (by unfold orZ; rw [if_neg (by omega), if_pos (by omega)]), qT_rfl _⟩
      | exact ⟨vj2 (by unfold orZ; rw [if_neg (by omega), if_neg (by omega), if_pos (by omega)]), qT_rfl _⟩
      | exact ⟨vj2 (by unfold orZ; rw [if_neg (by omega), if_neg (by omega), if_neg (by omega), if_pos (by omega)]), qT_rfl _⟩
      | exact ⟨vj2 (by unfold orZ; rw [if_neg (by omega), if_neg (by omega), if_neg (by omega), if_neg (by omega), if_pos (by omega)]; exact qv_71.1.symm), qt_71⟩
      | exact ⟨vj2 (by unfold orZ; rw [if_neg (by omega), if_neg (by omega), if_neg (by omega), if_neg (by omega), if_neg (by omega), if_pos (by omega)]; exact qv_81.2.symm), qt_81⟩
      | exact ⟨vj2 (by unfold orZ; rw [if_neg (by omega), if_neg (by omega), if_neg (by omega), if_neg (by omega), if_neg (by omega), if_neg (by omega)]), qT_rfl _⟩
  by_cases h_4 : z = 2
  · refine xj_tabIn (off := 54) (tgt := 55) F dX7_ofRow_1 (by omega) (by omega) (by rw [h_4]; rfl) (by decide) (by omega) ?_
    refine x_aload_n F dX7_ofRow_55 rfl ?_
    refine x_iload_n F dX7_ofRow_56 rfl ?_
    refine x_V1 F (m_X7_discord hZ hr) mlX7_142 mvX7_discord rfl dX7_ofRow_57 (by decide) rfl ⟨Nat.le_of_ble_eq_true rfl, Nat.le_of_ble_eq_true rfl⟩ ⟨Nat.zero_le _, Nat.zero_le _⟩ (Nat.le_of_ble_eq_true rfl) ?_
    refine x_iret F FR dX7_ofRow_60 rfl (Nat.le_refl _) (Nat.le_refl _) ?_
    first
      | exact ⟨vj2 (by unfold orZ; rw [if_pos (by omega)]; rfl), qT_rfl _⟩
      | exact ⟨vj2 (by unfold orZ; rw [if_neg (by omega), if_pos (by omega)]), qT_rfl _⟩
      | exact ⟨vj2 (by unfold orZ; rw [if_neg (by omega), if_neg (by omega), if_pos (by omega)]), qT_rfl _⟩
      | exact ⟨vj2 (by unfold orZ; rw [if_neg (by omega), if_neg (by omega), if_neg (by omega), if_pos (by omega)]), qT_rfl _⟩
      | exact ⟨vj2 (by unfold orZ; rw [if_neg (by omega), if_neg (by omega), if_neg (by omega), if_neg (by omega), if_pos (by omega)]; exact qv_71.1.symm), qt_71⟩
      | exact ⟨vj2 (by unfold orZ; rw [if_neg (by omega), if_neg (by omega), if_neg (by omega), if_neg (by omega), if_neg (by omega), if_pos (by omega)]; exact qv_81.2.symm), qt_81⟩
      | exact ⟨vj2 (by unfold orZ; rw [if_neg (by omega), if_neg (by omega), if_neg (by omega), if_neg (by omega), if_neg (by omega), if_neg (by omega)]), qT_rfl _⟩
  by_cases h_5 : z = 3
  · refine xj_tabIn (off := 60) (tgt := 61) F dX7_ofRow_1 (by omega) (by omega) (by rw [h_5]; rfl) (by decide) (by omega) ?_
    refine x_aload_n F dX7_ofRow_61 rfl ?_
    refine x_iload_n F dX7_ofRow_62 rfl ?_
    refine x_V1 F (m_X7_discord hZ hr) mlX7_142 mvX7_discord rfl dX7_ofRow_63 (by decide) rfl ⟨Nat.le_of_ble_eq_true rfl, Nat.le_of_ble_eq_true rfl⟩ ⟨Nat.zero_le _, Nat.zero_le _⟩ (Nat.le_of_ble_eq_true rfl) ?_
    refine xj_iconst F dX7_ofRow_66 ?_
    refine xj_irem F dX7_ofRow_67 (by omega) ?_
    refine x_iret F FR dX7_ofRow_68 rfl (Nat.le_refl _) (Nat.le_refl _) ?_
    first
      | exact ⟨vj2 (by unfold orZ; rw [if_pos (by omega)]; rfl), qT_rfl _⟩
      | exact ⟨vj2 (by unfold orZ; rw [if_neg (by omega), if_pos (by omega)]), qT_rfl _⟩
      | exact ⟨vj2 (by unfold orZ; rw [if_neg (by omega), if_neg (by omega), if_pos (by omega)]), qT_rfl _⟩
      | exact ⟨vj2 (by unfold orZ; rw [if_neg (by omega), if_neg (by omega), if_neg (by omega), if_pos (by omega)]), qT_rfl _⟩
      | exact ⟨vj2 (by unfold orZ; rw [if_neg (by omega), if_neg (by omega), if_neg (by omega), if_neg (by omega), if_pos (by omega)]; exact qv_71.1.symm), qt_71⟩
      | exact ⟨vj2 (by unfold orZ; rw [if_neg (by omega), if_neg (by omega), if_neg (by omega), if_neg (by omega), if_neg (by omega), if_pos (by omega)]; exact qv_81.2.symm), qt_81⟩
      | exact ⟨vj2 (by unfold orZ; rw [if_neg (by omega), if_neg (by omega), if_neg (by omega), if_neg (by omega), if_neg (by omega), if_neg (by omega)]), qT_rfl _⟩
  by_cases h_6 : z = 4
  · refine xj_tabIn (off := 68) (tgt := 69) F dX7_ofRow_1 (by omega) (by omega) (by rw [h_6]; rfl) (by decide) (by omega) ?_
    refine x_aload_n F dX7_ofRow_69 rfl ?_
    refine x_iload_n F dX7_ofRow_70 rfl ?_
    refine x_V1P F (m_X7_tryOrders hZ hr) mlX7_206 mvX7_tryOrders rfl dX7_ofRow_71 (by decide) rfl ⟨Nat.le_of_ble_eq_true rfl, Nat.le_of_ble_eq_true rfl⟩ ⟨Nat.zero_le _, Nat.zero_le _⟩ (Nat.le_of_ble_eq_true rfl) (fun r_71 M_71 q_71 => ?_)
    obtain ⟨rfl, qt_71, qv_71⟩ := q_71
    refine x_aload_n F dX7_ofRow_74 rfl ?_
    refine xj_geti F flX7_91 rfl dX7_ofRow_75 (by decide) (by decide) rfl (fun hg_7 => ?_)
    refine x_iret F FR dX7_ofRow_78 rfl (Nat.le_refl _) (Nat.le_refl _) ?_
    first
      | exact ⟨vj2 (by unfold orZ; rw [if_pos (by omega)]; rfl), qT_rfl _⟩
      | exact ⟨vj2 (by unfold orZ; rw [if_neg (by omega), if_pos (by omega)]), qT_rfl _⟩
      | exact ⟨vj2 (by unfold orZ; rw [if_neg (by omega), if_neg (by omega), if_pos (by omega)]), qT_rfl _⟩
      | exact ⟨vj2 (by unfold orZ; rw [if_neg (by omega), if_neg (by omega), if_neg (by omega), if_pos (by omega)]), qT_rfl _⟩
      | exact ⟨vj2 (by unfold orZ; rw [if_neg (by omega), if_neg (by omega), if_neg (by omega), if_neg (by omega), if_pos (by omega)]; exact qv_71.1.symm), qt_71⟩
      | exact ⟨vj2 (by unfold orZ; rw [if_neg (by omega), if_neg (by omega), if_neg (by omega), if_neg (by omega), if_neg (by omega), if_pos (by omega)]; exact qv_81.2.symm), qt_81⟩
      | exact ⟨vj2 (by unfold orZ; rw [if_neg (by omega), if_neg (by omega), if_neg (by omega), if_neg (by omega), if_neg (by omega), if_neg (by omega)]), qT_rfl _⟩
  by_cases h_8 : z = 5
  · refine xj_tabIn (off := 78) (tgt := 79) F dX7_ofRow_1 (by omega) (by omega) (by rw [h_8]; rfl) (by decide) (by omega) ?_
    refine x_aload_n F dX7_ofRow_79 rfl ?_
    refine x_iload_n F dX7_ofRow_80 rfl ?_
    refine x_V1P F (m_X7_tryOrders hZ hr) mlX7_206 mvX7_tryOrders rfl dX7_ofRow_81 (by decide) rfl ⟨Nat.le_of_ble_eq_true rfl, Nat.le_of_ble_eq_true rfl⟩ ⟨Nat.zero_le _, Nat.zero_le _⟩ (Nat.le_of_ble_eq_true rfl) (fun r_81 M_81 q_81 => ?_)
    obtain ⟨rfl, qt_81, qv_81⟩ := q_81
    refine x_aload_n F dX7_ofRow_84 rfl ?_
    refine xj_geti F flX7_97 rfl dX7_ofRow_85 (by decide) (by decide) rfl (fun hg_9 => ?_)
    refine x_iret F FR dX7_ofRow_88 rfl (Nat.le_refl _) (Nat.le_refl _) ?_
    first
      | exact ⟨vj2 (by unfold orZ; rw [if_pos (by omega)]; rfl), qT_rfl _⟩
      | exact ⟨vj2 (by unfold orZ; rw [if_neg (by omega), if_pos (by omega)]), qT_rfl _⟩
      | exact ⟨vj2 (by unfold orZ; rw [if_neg (by omega), if_neg (by omega), if_pos (by omega)]), qT_rfl _⟩
      | exact ⟨vj2 (by unfold orZ; rw [if_neg (by omega), if_neg (by omega), if_neg (by omega), if_pos (by omega)]), qT_rfl _⟩
      | exact ⟨vj2 (by unfold orZ; rw [if_neg (by omega), if_neg (by omega), if_neg (by omega), if_neg (by omega), if_pos (by omega)]; exact qv_71.1.symm), qt_71⟩
      | exact ⟨vj2 (by unfold orZ; rw [if_neg (by omega), if_neg (by omega), if_neg (by omega), if_neg (by omega), if_neg (by omega), if_pos (by omega)]; exact qv_81.2.symm), qt_81⟩
      | exact ⟨vj2 (by unfold orZ; rw [if_neg (by omega), if_neg (by omega), if_neg (by omega), if_neg (by omega), if_neg (by omega), if_neg (by omega)]), qT_rfl _⟩
  refine xj_tabOut (tgt := 89) F dX7_ofRow_1 (by omega) (by decide) (by omega) ?_
  refine x_aload_n F dX7_ofRow_89 rfl ?_
  refine x_iload_n F dX7_ofRow_90 rfl ?_
  refine x_V1 F (m_X7_highest hZ hr) mlX7_209 mvX7_highest rfl dX7_ofRow_91 (by decide) rfl ⟨Nat.le_of_ble_eq_true rfl, Nat.le_of_ble_eq_true rfl⟩ ⟨Nat.zero_le _, Nat.zero_le _⟩ (Nat.le_of_ble_eq_true rfl) ?_
  refine x_iret F FR dX7_ofRow_94 rfl (Nat.le_refl _) (Nat.le_refl _) ?_
  first
    | exact ⟨vj2 (by unfold orZ; rw [if_pos (by omega)]; rfl), qT_rfl _⟩
    | exact ⟨vj2 (by unfold orZ; rw [if_neg (by omega), if_pos (by omega)]), qT_rfl _⟩
    | exact ⟨vj2 (by unfold orZ; rw [if_neg (by omega), if_neg (by omega), if_pos (by omega)]), qT_rfl _⟩
    | exact ⟨vj2 (by unfold orZ; rw [if_neg (by omega), if_neg (by omega), if_neg (by omega), if_pos (by omega)]), qT_rfl _⟩
    | exact ⟨vj2 (by unfold orZ; rw [if_neg (by omega), if_neg (by omega), if_neg (by omega), if_neg (by omega), if_pos (by omega)]; exact qv_71.1.symm), qt_71⟩
    | exact ⟨vj2 (by unfold orZ; rw [if_neg (by omega), if_neg (by omega), if_neg (by omega), if_neg (by omega), if_neg (by omega), if_pos (by omega)]; exact qv_81.2.symm), qt_81⟩
    | exact ⟨vj2 (by unfold orZ; rw [if_neg (by omega), if_neg (by omega), if_neg (by omega), if_neg (by omega), if_neg (by omega), if_neg (by omega)]), qT_rfl _⟩
set_option maxRecDepth 20000 in
theorem m_X7_row {l : Launch} {E : xE} {r z : Int} {M : xM} (hZ : okZ M) (hr : rg r) (hz : rg z) : XP l E 9 yX7_row cX7_row 3 (some FieldType.int) [vA 68, vI (jI r), vI (jI z)] M (fun r' M' => (rwY r 0 6 z = 0 → r' = vI (jI (orZ (t0 M) r z)) ∧ qT (t0 M) M') ∧ (rwY r 0 6 z ≠ 0 → r' = vI (jI 0) ∧ M' = upI (t0 M) 68 5 (jI (rwY r 0 6 z)))) := by
  refine xp_start (plainFor_of_name (by decide)) rfl (Nat.le_of_ble_eq_true rfl) ?_
  intro Y F FR
  have hZ0 : okZ (upI M 68 5 (jI 0)) := hZ
  refine x_aload_n F dX7_row_0 rfl ?_
  refine xj_iconst F dX7_row_1 ?_
  refine x_puti F flX7_40 rfl dX7_row_2 (by decide) (by decide) rfl fw7_5 rfl rfl ?_
  refine x_iload_n F dX7_row_5 rfl ?_
  refine x_S1 F (m_X7_isRow (by first | assumption | omega | decide)) mlX7_48 msX7_isRow dX7_row_6 ⟨Nat.le_of_ble_eq_true rfl, Nat.le_of_ble_eq_true rfl⟩ ⟨Nat.zero_le _, Nat.zero_le _⟩ (Nat.le_of_ble_eq_true rfl) ?_
  refine xb_if_ne (tgt := 18) F dX7_row_9 (by decide) (fun h_1 => ?_) (fun h_1 => ?_)
  · refine x_iload_n F dX7_row_18 rfl ?_
    refine xj_iconst F dX7_row_19 ?_
    refine xj_bipush F dX7_row_20 (by decide) ?_
    refine x_S3 F (m_X7_in (by first | assumption | omega | decide) (by first | assumption | omega | decide) (by first | assumption | omega | decide)) mlX7_44 msX7_in dX7_row_22 ⟨Nat.le_of_ble_eq_true rfl, Nat.le_of_ble_eq_true rfl⟩ ⟨Nat.zero_le _, Nat.zero_le _⟩ (Nat.le_of_ble_eq_true rfl) ?_
    refine xb_if_eq (tgt := 37) F dX7_row_25 (by decide) (fun h_2 => ?_) (fun h_2 => ?_)
    · refine x_aload_n F dX7_row_37 rfl ?_
      refine xj_iconst F dX7_row_38 ?_
      refine x_V1 F (m_X7_fails) mlX7_55 mvX7_fails rfl dX7_row_39 (by decide) rfl ⟨Nat.le_of_ble_eq_true rfl, Nat.le_of_ble_eq_true rfl⟩ ⟨Nat.zero_le _, Nat.zero_le _⟩ (Nat.le_of_ble_eq_true rfl) ?_
      refine x_iret F FR dX7_row_42 rfl (Nat.le_refl _) (Nat.le_refl _) ?_
      first
        | (have hX : rwY r 0 6 z = 0 := (by unfold rwY; (repeat' split) <;> first | rfl | omega); exact ⟨fun _ => ⟨rfl, qt_31⟩, fun z9 => absurd hX z9⟩)
        | (have hX : rwY r 0 6 z = 1 := (by unfold rwY; (repeat' split) <;> first | rfl | omega); exact ⟨fun z9 => absurd (hX.symm.trans z9) (by decide), fun _ => ⟨rfl, by rw [hX]; rfl⟩⟩)
        | (have hX : rwY r 0 6 z = 2 := (by unfold rwY; (repeat' split) <;> first | rfl | omega); exact ⟨fun z9 => absurd (hX.symm.trans z9) (by decide), fun _ => ⟨rfl, by rw [hX]; rfl⟩⟩)
    · refine x_aload_n F dX7_row_28 rfl ?_
      refine x_iload_n F dX7_row_29 rfl ?_
      refine x_iload_n F dX7_row_30 rfl ?_
      refine x_V2P F (m_X7_ofRow hZ0 (by omega) (by omega)) mlX7_212 mvX7_ofRow rfl dX7_row_31 (by decide) rfl ⟨Nat.le_of_ble_eq_true rfl, Nat.le_of_ble_eq_true rfl⟩ ⟨Nat.zero_le _, Nat.zero_le _⟩ (Nat.le_of_ble_eq_true rfl) (fun r_31 M_31 q_31 => ?_)
      obtain ⟨rfl, qt_31⟩ := q_31
      refine x_goto (tgt := 42) F dX7_row_34 (by decide) ?_
      refine x_iret F FR dX7_row_42 rfl (Nat.le_refl _) (Nat.le_refl _) ?_
      first
        | (have hX : rwY r 0 6 z = 0 := (by unfold rwY; (repeat' split) <;> first | rfl | omega); exact ⟨fun _ => ⟨rfl, qt_31⟩, fun z9 => absurd hX z9⟩)
        | (have hX : rwY r 0 6 z = 1 := (by unfold rwY; (repeat' split) <;> first | rfl | omega); exact ⟨fun z9 => absurd (hX.symm.trans z9) (by decide), fun _ => ⟨rfl, by rw [hX]; rfl⟩⟩)
        | (have hX : rwY r 0 6 z = 2 := (by unfold rwY; (repeat' split) <;> first | rfl | omega); exact ⟨fun z9 => absurd (hX.symm.trans z9) (by decide), fun _ => ⟨rfl, by rw [hX]; rfl⟩⟩)
  · refine x_aload_n F dX7_row_12 rfl ?_
    refine xj_iconst F dX7_row_13 ?_
    refine x_V1 F (m_X7_fails) mlX7_55 mvX7_fails rfl dX7_row_14 (by decide) rfl ⟨Nat.le_of_ble_eq_true rfl, Nat.le_of_ble_eq_true rfl⟩ ⟨Nat.zero_le _, Nat.zero_le _⟩ (Nat.le_of_ble_eq_true rfl) ?_
    refine x_iret F FR dX7_row_17 rfl (Nat.le_refl _) (Nat.le_refl _) ?_
    first
      | (have hX : rwY r 0 6 z = 0 := (by unfold rwY; (repeat' split) <;> first | rfl | omega); exact ⟨fun _ => ⟨rfl, qt_31⟩, fun z9 => absurd hX z9⟩)
      | (have hX : rwY r 0 6 z = 1 := (by unfold rwY; (repeat' split) <;> first | rfl | omega); exact ⟨fun z9 => absurd (hX.symm.trans z9) (by decide), fun _ => ⟨rfl, by rw [hX]; rfl⟩⟩)
      | (have hX : rwY r 0 6 z = 2 := (by unfold rwY; (repeat' split) <;> first | rfl | omega); exact ⟨fun z9 => absurd (hX.symm.trans z9) (by decide), fun _ => ⟨rfl, by rw [hX]; rfl⟩⟩)
