/-! THE MODEL: one more singer tried out -/
def owZ (M : xM) (r h : Int) : xM :=
  let M1 := upI M 69 (28 + 6 * r + zI M r).toNat (jI h)
  upI M1 69 r.toNat (jI (zI M1 r + 1))
def ouZ (M : xM) (r h : Int) : xM := upI (upI (owZ M r h) 69 r.toNat (jI (zI (owZ M r h) r - 1))) 69 (28 + 6 * r + zI M r).toNat (jI 0)
theorem okZ_ow {M : xM} {r h : Int} (hZ : okZ M) (hr : 0 ≤ r ∧ r < 4) (hs : zI M r < 6) : okZ (owZ M r h) := by
  have hz := hZ.1 r hr.1 hr.2
  unfold owZ
  dsimp only
  have e1 : ∀ k, 0 ≤ k ∧ k < 4 → zI (upI M 69 (28 + 6 * r + zI M r).toNat (jI h)) k = zI M k := fun k hk => zI_lo (by omega) hk
  have e2 : ∀ k, 76 ≤ k → zI (upI M 69 (28 + 6 * r + zI M r).toNat (jI h)) k = zI M k := fun k hk => zI_mid (by omega) hk
  unfold okZ
  rw [zI_up _ hr.1 (by decide), zI_up _ hr.1 (by decide), if_neg (by omega), if_neg (by omega), e2 76 (by decide), e2 77 (by decide), e1 r hr]
  refine ⟨fun k h0 h1 => ?_, hZ.2⟩
  rw [zI_up _ hr.1 h0, e1 k ⟨h0, h1⟩]
  have hk := hZ.1 k h0 h1
  split
  · rw [jI_toInt (by omega)]; omega
  · exact hk
set_option maxRecDepth 20000 in
theorem m_X7_oddWith {l : Launch} {E : xE} {r h : Int} {M : xM} (hZ : okZ M) (hr : 0 ≤ r ∧ r < 4) (hs : zI M r < 6) : XF l E 8 yX7_oddWith cX7_oddWith 5 (some FieldType.int) [vA 68, vI (jI r), vI (jI h)] M (vI (jI (oaZ (owZ M r h)))) (ouZ M r h) := by
  refine xp_start (plainFor_of_name (by decide)) rfl (Nat.le_of_ble_eq_true rfl) ?_
  intro Y F FR
  have hz : 0 ≤ (M.1 69 r.toNat).toInt ∧ (M.1 69 r.toNat).toInt ≤ 6 := hZ.1 r hr.1 hr.2
  have hzz : (M.1 69 r.toNat).toInt = zI M r := rfl
  have hO := okZ_ow (h := h) hZ hr hs
  refine xj_bipush F dX7_oddWith_0 (by decide) ?_
  refine xj_bipush F dX7_oddWith_2 (by decide) ?_
  refine x_iload_n F dX7_oddWith_4 rfl ?_
  refine xj_imul F dX7_oddWith_5 ?_
  refine xj_iadd F dX7_oddWith_6 ?_
  refine x_aload_n F dX7_oddWith_7 rfl ?_
  refine x_getc (v := 69) F flX7_7 rfl dX7_oddWith_8 (by decide) (by decide) rfl rfl ?_
  refine xj_iconst F dX7_oddWith_11 ?_
  refine x_iload_n F dX7_oddWith_12 rfl ?_
  refine xj_iadd F dX7_oddWith_13 ?_
  rw [Int.zero_add r]
  refine xj_lald2 F rfl dX7_oddWith_14 (by omega) (fun hg_1 => ?_)
  refine xj_iadd F dX7_oddWith_15 ?_
  refine x_istore_n F dX7_oddWith_16 (by decide) ?_
  refine x_aload_n F dX7_oddWith_17 rfl ?_
  refine x_getc (v := 69) F flX7_7 rfl dX7_oddWith_18 (by decide) (by decide) rfl rfl ?_
  refine x_iload_n F dX7_oddWith_21 rfl ?_
  refine x_iload_n F dX7_oddWith_22 rfl ?_
  refine xj_iast F rfl dX7_oddWith_23 (by omega) ?_
  refine x_aload_n F dX7_oddWith_24 rfl ?_
  refine x_getc (v := 69) F flX7_7 rfl dX7_oddWith_25 (by decide) (by decide) rfl rfl ?_
  refine xj_iconst F dX7_oddWith_28 ?_
  refine x_iload_n F dX7_oddWith_29 rfl ?_
  refine xj_iadd F dX7_oddWith_30 ?_
  rw [Int.zero_add r]
  refine x_dup2 F dX7_oddWith_31 rfl rfl ?_
  refine xj_lald2 F rfl dX7_oddWith_32 (by omega) (fun hg_2 => ?_)
  refine xj_iconst F dX7_oddWith_33 ?_
  refine xj_iadd F dX7_oddWith_34 ?_
  refine xj_iast F rfl dX7_oddWith_35 (by omega) ?_
  refine x_aload_n F dX7_oddWith_36 rfl ?_
  refine x_V0 F (m_X7_odd hO) mlX7_133 mvX7_odd rfl dX7_oddWith_37 (by decide) rfl ⟨Nat.le_of_ble_eq_true rfl, Nat.le_of_ble_eq_true rfl⟩ ⟨Nat.zero_le _, Nat.zero_le _⟩ (Nat.le_of_ble_eq_true rfl) ?_
  refine x_istore F dX7_oddWith_40 (by decide) ?_
  refine x_aload_n F dX7_oddWith_42 rfl ?_
  refine x_getc (v := 69) F flX7_7 rfl dX7_oddWith_43 (by decide) (by decide) rfl rfl ?_
  refine xj_iconst F dX7_oddWith_46 ?_
  refine x_iload_n F dX7_oddWith_47 rfl ?_
  refine xj_iadd F dX7_oddWith_48 ?_
  rw [Int.zero_add r]
  refine x_dup2 F dX7_oddWith_49 rfl rfl ?_
  refine xj_lald2 F rfl dX7_oddWith_50 (by omega) (fun hg_3 => ?_)
  refine xj_iconst F dX7_oddWith_51 ?_
  refine xj_isub F dX7_oddWith_52 ?_
  refine xj_iast F rfl dX7_oddWith_53 (by omega) ?_
  refine x_aload_n F dX7_oddWith_54 rfl ?_
  refine x_getc (v := 69) F flX7_7 rfl dX7_oddWith_55 (by decide) (by decide) rfl rfl ?_
  refine x_iload_n F dX7_oddWith_58 rfl ?_
  refine xj_iconst F dX7_oddWith_59 ?_
  refine xj_iast F rfl dX7_oddWith_60 (by omega) ?_
  refine x_iload F dX7_oddWith_61 rfl ?_
  refine x_iret F FR dX7_oddWith_63 rfl (Nat.le_refl _) (Nat.le_refl _) ?_
  exact ⟨rfl, rfl⟩
