/-! THE MODEL: cross, undo, restore, clearBuffer; looks of rows -/
set_option maxRecDepth 20000 in
theorem m_X7_cross {l : Launch} {E : xE} {r p t : Int} {M : xM} (hZ : okZ M) (hs : 0 ≤ (M.1 68 2).toInt ∧ (M.1 68 2).toInt ≤ 6) (hr : rg r) (hp : rg p) (ht : rg t) : XP l E 8 yX7_cross cX7_cross 4 (some FieldType.int) [vA 68, vI (jI r), vI (jI p), vI (jI t)] M (fun r' M' => (crY M r p t = 0 → r' = vI (jI (zI (crZ (svZ (t0 M)) r p t) t - 1)) ∧ M' = crZ (svZ (t0 M)) r p t) ∧ (crY M r p t ≠ 0 → r' = vI (jI 0) ∧ M' = upI (t0 M) 68 5 (jI (crY M r p t)))) := by
  refine xp_start (plainFor_of_name (by decide)) rfl (Nat.le_of_ble_eq_true rfl) ?_
  intro Y F FR
  have hZ0 : okZ (upI M 68 5 (jI 0)) := hZ
  refine x_aload_n F dX7_cross_0 rfl ?_
  refine xj_iconst F dX7_cross_1 ?_
  refine x_puti F flX7_40 rfl dX7_cross_2 (by decide) (by decide) rfl fw7_5 rfl rfl ?_
  refine x_aload_n F dX7_cross_5 rfl ?_
  refine x_iload_n F dX7_cross_6 rfl ?_
  refine x_iload_n F dX7_cross_7 rfl ?_
  refine x_V2 F (m_X7_isPlace hZ0 hr hp) mlX7_126 mvX7_isPlace rfl dX7_cross_8 (by decide) rfl ⟨Nat.le_of_ble_eq_true rfl, Nat.le_of_ble_eq_true rfl⟩ ⟨Nat.zero_le _, Nat.zero_le _⟩ (Nat.le_of_ble_eq_true rfl) ?_
  refine xb_if_eq (tgt := 21) F dX7_cross_11 (by decide) (fun h_1 => ?_) (fun h_1 => ?_)
  · have hin : ¬ ((0 ≤ r ∧ r ≤ 3) ∧ 0 ≤ p ∧ p < zI M r) := h_1
    refine x_aload_n F dX7_cross_21 rfl ?_
    refine xj_iconst F dX7_cross_22 ?_
    refine x_V1 F (m_X7_fails) mlX7_55 mvX7_fails rfl dX7_cross_23 (by decide) rfl ⟨Nat.le_of_ble_eq_true rfl, Nat.le_of_ble_eq_true rfl⟩ ⟨Nat.zero_le _, Nat.zero_le _⟩ (Nat.le_of_ble_eq_true rfl) ?_
    refine x_iret F FR dX7_cross_26 rfl (Nat.le_refl _) (Nat.le_refl _) ?_
    first
      | (have hX : crY M r p t = 1 := (by unfold crY; (repeat' split) <;> first | rfl | omega); exact ⟨fun z9 => absurd (hX.symm.trans z9) (by decide), fun _ => ⟨rfl, by rw [hX]; rfl⟩⟩)
      | (have hX : crY M r p t = 2 := (by unfold crY; (repeat' split) <;> first | rfl | omega); exact ⟨fun z9 => absurd (hX.symm.trans z9) (by decide), fun _ => ⟨rfl, by rw [hX]; rfl⟩⟩)
      | (have hX : crY M r p t = 0 := (by unfold crY; (repeat' split) <;> first | rfl | omega); exact ⟨fun _ => ⟨rfl, rfl⟩, fun z9 => absurd hX z9⟩)
  · have hin : (0 ≤ r ∧ r ≤ 3) ∧ 0 ≤ p ∧ p < zI M r := h_1
    refine x_iload_n F dX7_cross_14 rfl ?_
    refine x_S1 F (m_X7_isRow (by first | assumption | omega | decide)) mlX7_48 msX7_isRow dX7_cross_15 ⟨Nat.le_of_ble_eq_true rfl, Nat.le_of_ble_eq_true rfl⟩ ⟨Nat.zero_le _, Nat.zero_le _⟩ (Nat.le_of_ble_eq_true rfl) ?_
    refine xb_if_ne (tgt := 27) F dX7_cross_18 (by decide) (fun h_2 => ?_) (fun h_2 => ?_)
    · refine x_iload_n F dX7_cross_27 rfl ?_
      refine x_iload_n F dX7_cross_28 rfl ?_
      refine xj_icmp_eq (tgt := 45) F dX7_cross_29 (by decide) (by omega) (fun h_3 => ?_) (fun h_3 => ?_)
      · refine x_aload_n F dX7_cross_45 rfl ?_
        refine xj_iconst F dX7_cross_46 ?_
        refine x_V1 F (m_X7_fails) mlX7_55 mvX7_fails rfl dX7_cross_47 (by decide) rfl ⟨Nat.le_of_ble_eq_true rfl, Nat.le_of_ble_eq_true rfl⟩ ⟨Nat.zero_le _, Nat.zero_le _⟩ (Nat.le_of_ble_eq_true rfl) ?_
        refine x_iret F FR dX7_cross_50 rfl (Nat.le_refl _) (Nat.le_refl _) ?_
        first
          | (have hX : crY M r p t = 1 := (by unfold crY; (repeat' split) <;> first | rfl | omega); exact ⟨fun z9 => absurd (hX.symm.trans z9) (by decide), fun _ => ⟨rfl, by rw [hX]; rfl⟩⟩)
          | (have hX : crY M r p t = 2 := (by unfold crY; (repeat' split) <;> first | rfl | omega); exact ⟨fun z9 => absurd (hX.symm.trans z9) (by decide), fun _ => ⟨rfl, by rw [hX]; rfl⟩⟩)
          | (have hX : crY M r p t = 0 := (by unfold crY; (repeat' split) <;> first | rfl | omega); exact ⟨fun _ => ⟨rfl, rfl⟩, fun z9 => absurd hX z9⟩)
      · refine x_aload_n F dX7_cross_32 rfl ?_
        refine x_getc (v := 69) F flX7_7 rfl dX7_cross_33 (by decide) (by decide) rfl rfl ?_
        have e9 : ((upI M 68 5 (jI 0)).1 69 t.toNat).toInt = zI M t := rfl
        refine xj_iconst F dX7_cross_36 ?_
        refine x_iload_n F dX7_cross_37 rfl ?_
        refine xj_iadd F dX7_cross_38 ?_
        rw [Int.zero_add t]
        refine xj_lald2 F rfl dX7_cross_39 (by omega) (fun hg_4 => ?_)
        refine xj_bipush F dX7_cross_40 (by decide) ?_
        refine xj_icmp_ne (tgt := 51) F dX7_cross_42 (by decide) (by omega) (fun h_5 => ?_) (fun h_5 => ?_)
        · refine x_aload_n F dX7_cross_51 rfl ?_
          refine x_V0 F (m_X7_save hs) mlX7_67 mvX7_save rfl dX7_cross_52 (by decide) rfl ⟨Nat.le_of_ble_eq_true rfl, Nat.le_of_ble_eq_true rfl⟩ ⟨Nat.zero_le _, Nat.zero_le _⟩ (Nat.le_of_ble_eq_true rfl) ?_
          have hZ2 : okZ (svZ (upI M 68 5 (jI 0))) := okZ_sv hZ0
          have hzs : ∀ k, zI (svZ (upI M 68 5 (jI 0))) k = zI M k := svZ_zI _
          have hzr := hZ.1 r (by omega) (by omega)
          have hzt := hZ.1 t (by omega) (by omega)
          have hn6 : zI M t ≠ 6 := by omega
          refine x_aload_n F dX7_cross_55 rfl ?_
          refine xj_bipush F dX7_cross_56 (by decide) ?_
          refine x_iload_n F dX7_cross_58 rfl ?_
          refine xj_imul F dX7_cross_59 ?_
          refine x_iload_n F dX7_cross_60 rfl ?_
          refine xj_iadd F dX7_cross_61 ?_
          refine xj_bipush F dX7_cross_62 (by decide) ?_
          refine x_iload_n F dX7_cross_64 rfl ?_
          refine xj_imul F dX7_cross_65 ?_
          refine x_aload_n F dX7_cross_66 rfl ?_
          refine x_getc (v := 69) F flX7_7 rfl dX7_cross_67 (by decide) (by decide) rfl rfl ?_
          refine xj_iconst F dX7_cross_70 ?_
          refine x_iload_n F dX7_cross_71 rfl ?_
          refine xj_iadd F dX7_cross_72 ?_
          rw [Int.zero_add t]
          refine xj_lald2 F rfl dX7_cross_73 (by omega) (fun hg_6 => ?_)
          refine xj_iadd F dX7_cross_74 ?_
          refine x_V2 F (m_X7_copy (by omega) (by show 0 ≤ 6 * t + zI (svZ (upI M 68 5 (jI 0))) t ∧ 6 * t + zI (svZ (upI M 68 5 (jI 0))) t < 24; rw [hzs]; omega)) mlX7_103 mvX7_copy rfl dX7_cross_75 (by decide) rfl ⟨Nat.le_of_ble_eq_true rfl, Nat.le_of_ble_eq_true rfl⟩ ⟨Nat.zero_le _, Nat.zero_le _⟩ (Nat.le_of_ble_eq_true rfl) ?_
          refine x_aload_n F dX7_cross_78 rfl ?_
          refine x_getc (v := 69) F flX7_7 rfl dX7_cross_79 (by decide) (by decide) rfl rfl ?_
          refine xj_iconst F dX7_cross_82 ?_
          refine x_iload_n F dX7_cross_83 rfl ?_
          refine xj_iadd F dX7_cross_84 ?_
          rw [Int.zero_add t]
          refine x_dup2 F dX7_cross_85 rfl rfl ?_
          refine xj_lald2 F rfl dX7_cross_86 (by omega) (fun hg_7 => ?_)
          refine xj_iconst F dX7_cross_87 ?_
          refine xj_iadd F dX7_cross_88 ?_
          refine xj_iast F rfl dX7_cross_89 (by omega) ?_
          have hzr9 : zI (upI (cpZ (svZ (upI M 68 5 (jI 0))) (6 * r + p) (6 * t + zI (svZ (upI M 68 5 (jI 0))) t)) 69 t.toNat (jI (zI (cpZ (svZ (upI M 68 5 (jI 0))) (6 * r + p) (6 * t + zI (svZ (upI M 68 5 (jI 0))) t)) t + 1))) r = zI M r := by rw [zI_up _ (by omega) (by omega), if_neg (by omega), cpZ_lo (by rw [hzs]; omega) (by omega), hzs]
          have hA9 : 1 ≤ zI (upI (cpZ (svZ (upI M 68 5 (jI 0))) (6 * r + p) (6 * t + zI (svZ (upI M 68 5 (jI 0))) t)) 69 t.toNat (jI (zI (cpZ (svZ (upI M 68 5 (jI 0))) (6 * r + p) (6 * t + zI (svZ (upI M 68 5 (jI 0))) t)) t + 1))) r ∧ zI (upI (cpZ (svZ (upI M 68 5 (jI 0))) (6 * r + p) (6 * t + zI (svZ (upI M 68 5 (jI 0))) t)) 69 t.toNat (jI (zI (cpZ (svZ (upI M 68 5 (jI 0))) (6 * r + p) (6 * t + zI (svZ (upI M 68 5 (jI 0))) t)) t + 1))) r ≤ 6 := by rw [hzr9]; omega
          have hB9 : 0 ≤ p ∧ p < zI (upI (cpZ (svZ (upI M 68 5 (jI 0))) (6 * r + p) (6 * t + zI (svZ (upI M 68 5 (jI 0))) t)) 69 t.toNat (jI (zI (cpZ (svZ (upI M 68 5 (jI 0))) (6 * r + p) (6 * t + zI (svZ (upI M 68 5 (jI 0))) t)) t + 1))) r := by rw [hzr9]; omega
          refine x_aload_n F dX7_cross_90 rfl ?_
          refine x_iload_n F dX7_cross_91 rfl ?_
          refine x_iload_n F dX7_cross_92 rfl ?_
          refine x_V2 F (m_X7_removeNow (by omega) hA9 hB9) mlX7_130 mvX7_removeNow rfl dX7_cross_93 (by decide) rfl ⟨Nat.le_of_ble_eq_true rfl, Nat.le_of_ble_eq_true rfl⟩ ⟨Nat.zero_le _, Nat.zero_le _⟩ (Nat.le_of_ble_eq_true rfl) ?_
          refine x_aload_n F dX7_cross_96 rfl ?_
          refine x_getc (v := 69) F flX7_7 rfl dX7_cross_97 (by decide) (by decide) rfl rfl ?_
          refine xj_iconst F dX7_cross_100 ?_
          refine x_iload_n F dX7_cross_101 rfl ?_
          refine xj_iadd F dX7_cross_102 ?_
          rw [Int.zero_add t]
          refine xj_lald2 F rfl dX7_cross_103 (by omega) (fun hg_8 => ?_)
          refine xj_iconst F dX7_cross_104 ?_
          refine xj_isub F dX7_cross_105 ?_
          refine x_iret F FR dX7_cross_106 rfl (Nat.le_refl _) (Nat.le_refl _) ?_
          first
            | (have hX : crY M r p t = 1 := (by unfold crY; (repeat' split) <;> first | rfl | omega); exact ⟨fun z9 => absurd (hX.symm.trans z9) (by decide), fun _ => ⟨rfl, by rw [hX]; rfl⟩⟩)
            | (have hX : crY M r p t = 2 := (by unfold crY; (repeat' split) <;> first | rfl | omega); exact ⟨fun z9 => absurd (hX.symm.trans z9) (by decide), fun _ => ⟨rfl, by rw [hX]; rfl⟩⟩)
            | (have hX : crY M r p t = 0 := (by unfold crY; (repeat' split) <;> first | rfl | omega); exact ⟨fun _ => ⟨rfl, rfl⟩, fun z9 => absurd hX z9⟩)
        · refine x_aload_n F dX7_cross_45 rfl ?_
          refine xj_iconst F dX7_cross_46 ?_
          refine x_V1 F (m_X7_fails) mlX7_55 mvX7_fails rfl dX7_cross_47 (by decide) rfl ⟨Nat.le_of_ble_eq_true rfl, Nat.le_of_ble_eq_true rfl⟩ ⟨Nat.zero_le _, Nat.zero_le _⟩ (Nat.le_of_ble_eq_true rfl) ?_
          refine x_iret F FR dX7_cross_50 rfl (Nat.le_refl _) (Nat.le_refl _) ?_
          first
            | (have hX : crY M r p t = 1 := (by unfold crY; (repeat' split) <;> first | rfl | omega); exact ⟨fun z9 => absurd (hX.symm.trans z9) (by decide), fun _ => ⟨rfl, by rw [hX]; rfl⟩⟩)
            | (have hX : crY M r p t = 2 := (by unfold crY; (repeat' split) <;> first | rfl | omega); exact ⟨fun z9 => absurd (hX.symm.trans z9) (by decide), fun _ => ⟨rfl, by rw [hX]; rfl⟩⟩)
            | (have hX : crY M r p t = 0 := (by unfold crY; (repeat' split) <;> first | rfl | omega); exact ⟨fun _ => ⟨rfl, rfl⟩, fun z9 => absurd hX z9⟩)
    · refine x_aload_n F dX7_cross_21 rfl ?_
      refine xj_iconst F dX7_cross_22 ?_
      refine x_V1 F (m_X7_fails) mlX7_55 mvX7_fails rfl dX7_cross_23 (by decide) rfl ⟨Nat.le_of_ble_eq_true rfl, Nat.le_of_ble_eq_true rfl⟩ ⟨Nat.zero_le _, Nat.zero_le _⟩ (Nat.le_of_ble_eq_true rfl) ?_
      refine x_iret F FR dX7_cross_26 rfl (Nat.le_refl _) (Nat.le_refl _) ?_
      first
        | (have hX : crY M r p t = 1 := (by unfold crY; (repeat' split) <;> first | rfl | omega); exact ⟨fun z9 => absurd (hX.symm.trans z9) (by decide), fun _ => ⟨rfl, by rw [hX]; rfl⟩⟩)
        | (have hX : crY M r p t = 2 := (by unfold crY; (repeat' split) <;> first | rfl | omega); exact ⟨fun z9 => absurd (hX.symm.trans z9) (by decide), fun _ => ⟨rfl, by rw [hX]; rfl⟩⟩)
        | (have hX : crY M r p t = 0 := (by unfold crY; (repeat' split) <;> first | rfl | omega); exact ⟨fun _ => ⟨rfl, rfl⟩, fun z9 => absurd hX z9⟩)
set_option maxRecDepth 20000 in
theorem m_X7_clearBuffer {l : Launch} {E : xE} {M : xM} : XF l E 2 yX7_clearBuffer cX7_clearBuffer 2 (some FieldType.int) [vA 68] M (vI (jI (M.1 68 11).toInt)) (upI (t0 M) 68 11 (jI 0)) := by
  refine xp_start (plainFor_of_name (by decide)) rfl (Nat.le_of_ble_eq_true rfl) ?_
  intro Y F FR
  refine x_aload_n F dX7_clearBuffer_0 rfl ?_
  refine xj_iconst F dX7_clearBuffer_1 ?_
  refine x_puti F flX7_40 rfl dX7_clearBuffer_2 (by decide) (by decide) rfl fw7_5 rfl rfl ?_
  refine x_aload_n F dX7_clearBuffer_5 rfl ?_
  refine xj_geti F flX7_145 rfl dX7_clearBuffer_6 (by decide) (by decide) rfl (fun hg_1 => ?_)
  refine x_istore_n F dX7_clearBuffer_9 (by decide) ?_
  refine x_aload_n F dX7_clearBuffer_10 rfl ?_
  refine xj_iconst F dX7_clearBuffer_11 ?_
  refine x_puti F flX7_145 rfl dX7_clearBuffer_12 (by decide) (by decide) rfl fw7_11 rfl rfl ?_
  refine x_iload_n F dX7_clearBuffer_15 rfl ?_
  refine x_iret F FR dX7_clearBuffer_16 rfl (Nat.le_refl _) (Nat.le_refl _) ?_
  exact ⟨rfl, rfl⟩
set_option maxRecDepth 20000 in
theorem L_X7_undo {l : Launch} {E : xE} {M M1 : xM} (hs1 : 0 ≤ (M1.1 68 2).toInt ∧ (M1.1 68 2).toInt ≤ 5) (hM1 : upI (t0 M) 68 2 (jI (((t0 M).1 68 2).toInt - 1)) = M1) (hX : unY M = 0) {Y : xY} (F : xFix E (xA E) Y cX7_undo yX7_undo.cls 2) (FR : xRet E Y (some FieldType.int) 0 0 (fun r' M' => (unY M = 0 → r' = vI (jI ((unZ (t0 M)).1 68 2).toInt) ∧ M' = unZ (t0 M)) ∧ (unY M ≠ 0 → r' = vI (jI 0) ∧ M' = upI (t0 M) 68 5 (jI (unY M)))) (fun _ _ => False)) : ∀ (k : Nat) (n : Nat), n ≤ 81 → 81 - n < k → WP l E (xRm 8 0 0) (xA E) Y 0 0 30 [vA 68, vI (jI (n : Int))] [] (cpK M1 70 (81 * (M1.1 68 2).toInt).toNat 69 0 n) := by
  intro k
  induction k with
  | zero => intro n hn hk; exact absurd hk (Nat.not_lt_zero _)
  | succ k ih =>
    intro n hn hk
    have e0 : ((cpK M1 70 (81 * (M1.1 68 2).toInt).toNat 69 0 n).1 68 2) = M1.1 68 2 := congrFun (cpK_row (by decide)) 2
    refine x_iload_n F dX7_undo_30 rfl ?_
    refine xj_bipush F dX7_undo_31 (by decide) ?_
    refine xj_icmp_ge (tgt := 62) F dX7_undo_33 (by decide) (by omega) (fun h_1 => ?_) (fun h_1 => ?_)
    · refine x_aload_n F dX7_undo_62 rfl ?_
      refine xj_geti F flX7_52 rfl dX7_undo_63 (by decide) (by decide) rfl (fun hg_2 => ?_)
      refine x_iret F FR dX7_undo_66 rfl (Nat.le_refl _) (Nat.le_refl _) ?_
      have e : n = 81 := by omega
      subst e
      have eU : unZ (t0 M) = cpK M1 70 (81 * (M1.1 68 2).toInt).toNat 69 0 81 := by unfold unZ; rw [hM1]
      rw [eU]
      exact ⟨fun _ => ⟨rfl, rfl⟩, fun z => absurd hX z⟩
    · refine x_aload_n F dX7_undo_36 rfl ?_
      refine x_getc (v := 69) F flX7_7 rfl dX7_undo_37 (by decide) (by decide) rfl rfl ?_
      refine x_iload_n F dX7_undo_40 rfl ?_
      refine x_aload_n F dX7_undo_41 rfl ?_
      refine x_getc (v := 70) F flX7_13 rfl dX7_undo_42 (by decide) (by decide) rfl rfl ?_
      refine xj_bipush F dX7_undo_45 (by decide) ?_
      refine x_aload_n F dX7_undo_47 rfl ?_
      refine xj_geti F flX7_52 rfl dX7_undo_48 (by decide) (by decide) rfl (fun hg_3 => ?_)
      rw [e0]
      refine xj_imul F dX7_undo_51 ?_
      refine x_iload_n F dX7_undo_52 rfl ?_
      refine xj_iadd F dX7_undo_53 ?_
      refine xj_lald2 F rfl dX7_undo_54 (by omega) (fun hg_4 => ?_)
      refine xj_iast F rfl dX7_undo_55 (by omega) ?_
      refine xj_iinc F dX7_undo_56 rfl ?_
      refine x_goto (tgt := 30) F dX7_undo_59 (by decide) ?_
      have e1 : (81 * (M1.1 68 2).toInt + (n : Int)).toNat = (81 * (M1.1 68 2).toInt).toNat + n := by omega
      have e2 : ((n : Int)).toNat = 0 + n := by omega
      rw [e1, e2, cpK_step (Or.inl (by decide))]
      exact ih (n + 1) (by omega) (by omega)
set_option maxRecDepth 20000 in
theorem m_X7_undo {l : Launch} {E : xE} {M : xM} (hs : 0 ≤ (M.1 68 2).toInt ∧ (M.1 68 2).toInt ≤ 6) : XP l E 8 yX7_undo cX7_undo 2 (some FieldType.int) [vA 68] M (fun r' M' => (unY M = 0 → r' = vI (jI ((unZ (t0 M)).1 68 2).toInt) ∧ M' = unZ (t0 M)) ∧ (unY M ≠ 0 → r' = vI (jI 0) ∧ M' = upI (t0 M) 68 5 (jI (unY M)))) := by
  refine xp_start (plainFor_of_name (by decide)) rfl (Nat.le_of_ble_eq_true rfl) ?_
  intro Y F FR
  have e0 : ((upI M 68 5 (jI 0)).1 68 2).toInt = (M.1 68 2).toInt := rfl
  refine x_aload_n F dX7_undo_0 rfl ?_
  refine xj_iconst F dX7_undo_1 ?_
  refine x_puti F flX7_40 rfl dX7_undo_2 (by decide) (by decide) rfl fw7_5 rfl rfl ?_
  refine x_aload_n F dX7_undo_5 rfl ?_
  refine xj_geti F flX7_52 rfl dX7_undo_6 (by decide) (by decide) rfl (fun hg_1 => ?_)
  refine xj_if_ne (tgt := 18) F dX7_undo_9 (by decide) (by omega) (fun h_2 => ?_) (fun h_2 => ?_)
  · refine x_aload_n F dX7_undo_18 rfl ?_
    refine x_dup F dX7_undo_19 rfl ?_
    refine xj_geti F flX7_52 rfl dX7_undo_20 (by decide) (by decide) rfl (fun hg_3 => ?_)
    refine xj_iconst F dX7_undo_23 ?_
    refine xj_isub F dX7_undo_24 ?_
    refine x_puti F flX7_52 rfl dX7_undo_25 (by decide) (by decide) rfl fw7_2 rfl rfl ?_
    refine xj_iconst F dX7_undo_28 ?_
    refine x_istore_n F dX7_undo_29 (by decide) ?_
    have hX : unY M = 0 := by unfold unY; exact if_neg (fun z => z (by omega))
    have g := L_X7_undo (l := l) (M := M) (M1 := upI (t0 M) 68 2 (jI (((t0 M).1 68 2).toInt - 1))) (by rw [upI_1, if_pos ⟨rfl, rfl⟩, show (t0 M).1 68 2 = M.1 68 2 from rfl, jI_toInt (by omega)]; omega) rfl hX F FR _ 0 (by omega) (Nat.lt_succ_self _)
    rw [cpK_0] at g
    exact g
  · refine x_aload_n F dX7_undo_12 rfl ?_
    refine xj_iconst F dX7_undo_13 ?_
    refine x_V1 F (m_X7_fails) mlX7_55 mvX7_fails rfl dX7_undo_14 (by decide) rfl ⟨Nat.le_of_ble_eq_true rfl, Nat.le_of_ble_eq_true rfl⟩ ⟨Nat.zero_le _, Nat.zero_le _⟩ (Nat.le_of_ble_eq_true rfl) ?_
    refine x_iret F FR dX7_undo_17 rfl (Nat.le_refl _) (Nat.le_refl _) ?_
    have hX : unY M = 1 := by unfold unY; exact if_pos (fun z => z (by omega))
    exact ⟨fun z9 => absurd (hX.symm.trans z9) (by decide), fun _ => ⟨rfl, by rw [hX]; rfl⟩⟩
set_option maxRecDepth 20000 in
theorem L_X7_restore {l : Launch} {E : xE} {M : xM} (hX : reY M = 0) {Y : xY} (F : xFix E (xA E) Y cX7_restore yX7_restore.cls 2) (FR : xRet E Y (some FieldType.int) 0 0 (fun r' M' => (reY M = 0 → r' = vI (jI (zI (cpK (svZ (t0 M)) 71 0 69 0 81) 0 + zI (cpK (svZ (t0 M)) 71 0 69 0 81) 1 + zI (cpK (svZ (t0 M)) 71 0 69 0 81) 2 + zI (cpK (svZ (t0 M)) 71 0 69 0 81) 3)) ∧ M' = (cpK (svZ (t0 M)) 71 0 69 0 81)) ∧ (reY M ≠ 0 → r' = vI (jI 0) ∧ M' = upI (t0 M) 68 5 (jI (reY M)))) (fun _ _ => False)) : ∀ (k : Nat) (n : Nat), n ≤ 81 → 81 - n < k → WP l E (xRm 8 0 0) (xA E) Y 0 0 24 [vA 68, vI (jI (n : Int))] [] (cpK (svZ (t0 M)) 71 0 69 0 n) := by
  intro k
  induction k with
  | zero => intro n hn hk; exact absurd hk (Nat.not_lt_zero _)
  | succ k ih =>
    intro n hn hk
    refine x_iload_n F dX7_restore_24 rfl ?_
    refine xj_bipush F dX7_restore_25 (by decide) ?_
    refine xj_icmp_ge (tgt := 48) F dX7_restore_27 (by decide) (by omega) (fun h_1 => ?_) (fun h_1 => ?_)
    · refine x_aload_n F dX7_restore_48 rfl ?_
      refine x_V0 F (m_X7_singers) mlX7_63 mvX7_singers rfl dX7_restore_49 (by decide) rfl ⟨Nat.le_of_ble_eq_true rfl, Nat.le_of_ble_eq_true rfl⟩ ⟨Nat.zero_le _, Nat.zero_le _⟩ (Nat.le_of_ble_eq_true rfl) ?_
      refine x_iret F FR dX7_restore_52 rfl (Nat.le_refl _) (Nat.le_refl _) ?_
      have e : n = 81 := by omega
      subst e
      exact ⟨fun _ => ⟨rfl, rfl⟩, fun z => absurd hX z⟩
    · refine x_aload_n F dX7_restore_30 rfl ?_
      refine x_getc (v := 69) F flX7_7 rfl dX7_restore_31 (by decide) (by decide) rfl rfl ?_
      refine x_iload_n F dX7_restore_34 rfl ?_
      refine x_aload_n F dX7_restore_35 rfl ?_
      refine x_getc (v := 71) F flX7_16 rfl dX7_restore_36 (by decide) (by decide) rfl rfl ?_
      refine x_iload_n F dX7_restore_39 rfl ?_
      refine xj_lald2 F rfl dX7_restore_40 (by omega) (fun hg_2 => ?_)
      refine xj_iast F rfl dX7_restore_41 (by omega) ?_
      refine xj_iinc F dX7_restore_42 rfl ?_
      refine x_goto (tgt := 24) F dX7_restore_45 (by decide) ?_
      have e2 : ((n : Int)).toNat = 0 + n := by omega
      rw [e2, cpK_step (Or.inl (by decide))]
      exact ih (n + 1) (by omega) (by omega)
set_option maxRecDepth 20000 in
theorem m_X7_restore {l : Launch} {E : xE} {M : xM} (hs : 0 ≤ (M.1 68 2).toInt ∧ (M.1 68 2).toInt ≤ 6) : XP l E 8 yX7_restore cX7_restore 2 (some FieldType.int) [vA 68] M (fun r' M' => (reY M = 0 → r' = vI (jI (zI (cpK (svZ (t0 M)) 71 0 69 0 81) 0 + zI (cpK (svZ (t0 M)) 71 0 69 0 81) 1 + zI (cpK (svZ (t0 M)) 71 0 69 0 81) 2 + zI (cpK (svZ (t0 M)) 71 0 69 0 81) 3)) ∧ M' = (cpK (svZ (t0 M)) 71 0 69 0 81)) ∧ (reY M ≠ 0 → r' = vI (jI 0) ∧ M' = upI (t0 M) 68 5 (jI (reY M)))) := by
  refine xp_start (plainFor_of_name (by decide)) rfl (Nat.le_of_ble_eq_true rfl) ?_
  intro Y F FR
  have e0 : ((upI M 68 5 (jI 0)).1 68 4).toInt = (M.1 68 4).toInt := rfl
  refine x_aload_n F dX7_restore_0 rfl ?_
  refine xj_iconst F dX7_restore_1 ?_
  refine x_puti F flX7_40 rfl dX7_restore_2 (by decide) (by decide) rfl fw7_5 rfl rfl ?_
  refine x_aload_n F dX7_restore_5 rfl ?_
  refine xj_geti F flX7_59 rfl dX7_restore_6 (by decide) (by decide) rfl (fun hg_1 => ?_)
  refine xj_if_ne (tgt := 18) F dX7_restore_9 (by decide) (by omega) (fun h_2 => ?_) (fun h_2 => ?_)
  · refine x_aload_n F dX7_restore_18 rfl ?_
    refine x_V0 F (m_X7_save hs) mlX7_67 mvX7_save rfl dX7_restore_19 (by decide) rfl ⟨Nat.le_of_ble_eq_true rfl, Nat.le_of_ble_eq_true rfl⟩ ⟨Nat.zero_le _, Nat.zero_le _⟩ (Nat.le_of_ble_eq_true rfl) ?_
    refine xj_iconst F dX7_restore_22 ?_
    refine x_istore_n F dX7_restore_23 (by decide) ?_
    have hX : reY M = 0 := by unfold reY; exact if_neg (fun z => z (by omega))
    have g := L_X7_restore (l := l) (M := M) hX F FR _ 0 (by omega) (Nat.lt_succ_self _)
    rw [cpK_0] at g
    exact g
  · refine x_aload_n F dX7_restore_12 rfl ?_
    refine xj_iconst F dX7_restore_13 ?_
    refine x_V1 F (m_X7_fails) mlX7_55 mvX7_fails rfl dX7_restore_14 (by decide) rfl ⟨Nat.le_of_ble_eq_true rfl, Nat.le_of_ble_eq_true rfl⟩ ⟨Nat.zero_le _, Nat.zero_le _⟩ (Nat.le_of_ble_eq_true rfl) ?_
    refine x_iret F FR dX7_restore_17 rfl (Nat.le_refl _) (Nat.le_refl _) ?_
    have hX : reY M = 1 := by unfold reY; exact if_pos (fun z => z (by omega))
    exact ⟨fun z9 => absurd (hX.symm.trans z9) (by decide), fun _ => ⟨rfl, by rw [hX]; rfl⟩⟩
