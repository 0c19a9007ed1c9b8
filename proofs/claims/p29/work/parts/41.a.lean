/-! THE LAW'S ACTIONS: each answers true, and class and arrays go together again -/
set_option maxRecDepth 20000 in
theorem joins_96 {l : Launch} {E : xE} {t : Int} {h v d n : aT} {M : xM} (C : Cl t M h v d n) (ht : t < 999) {x : Int32} {row X : Int} (hrow : 0 ≤ row ∧ row < 4) (hm : mnI h row ≠ 6) (hX : 100 ≤ X ∧ X ≤ 220) {Y : xY} (F : xFix E (xA E) Y cL_joins yL_joins.cls 9) (FR : xRet E Y (some FieldType.boolean) 0 0 (fun r' M' => r' = vI (jI 1) ∧ ∃ h v d n, Cl (t + 1) M' h v d n) (fun _ _ => False)) : WP l E (xRm 20 0 0) (xA E) Y 0 0 96 [vA 0, vA 68, vA 69, vA 70, vA 71, vI x, vI (jI row), vI (jI (mnI h row)), vI (jI (6 * row + mnI h row))] [vI (jI X), vI (jI (6 * row + mnI h row)), vA 68] M := by
  have hb := mnI_b h row
  refine xf_hast F (Or.inl rfl) dL_joins_96 (by omega) ?_
  refine x_nw (Nw_68 (Nw_0 C)) (fun M_97 q_97 => ?_)
  refine x_aload_n F dL_joins_97 rfl ?_
  refine x_iload F dL_joins_98 rfl ?_
  refine x_iload F dL_joins_100 rfl ?_
  refine xj_bipush F dL_joins_102 (by decide) ?_
  refine x_ishr F dL_joins_104 ?_
  refine xj_iconst F dL_joins_105 ?_
  refine x_S2 F (m_L_low (by decide)) mlL_64 msL_low dL_joins_106 ⟨Nat.le_of_ble_eq_true rfl, Nat.le_of_ble_eq_true rfl⟩ ⟨Nat.zero_le _, Nat.zero_le _⟩ (Nat.le_of_ble_eq_true rfl) ?_
  have hl_w9 := lowI_b (x >>> (jI 6 &&& 31)) (b := 4) (by decide)
  obtain ⟨w9, h_w9⟩ : ∃ z, lowI (x >>> (jI 6 &&& 31)) 4 = z := ⟨_, rfl⟩
  rw [h_w9] at hl_w9
  rw [h_w9]
  refine xf_hast F (Or.inl rfl) dL_joins_109 (by omega) ?_
  refine x_nw (Nw_69 q_97) (fun M_110 q_110 => ?_)
  refine x_aload_n F dL_joins_110 rfl ?_
  refine x_iload F dL_joins_111 rfl ?_
  refine x_aload F dL_joins_113 rfl ?_
  refine xj_iconst F dL_joins_115 ?_
  refine xf_nald (f := n) (j := 2) F (rfl : xk 71 = (8, 5)) q_110.2.2.2.2.2 dL_joins_116 (by omega) rfl (fun hg_1 => ?_)
  refine xf_hast F (Or.inl rfl) dL_joins_117 (by omega) ?_
  refine x_nw (Nw_70 q_110) (fun M_118 q_118 => ?_)
  refine x_aload F dL_joins_118 rfl ?_
  refine xj_iconst F dL_joins_120 ?_
  refine x_dup2 F dL_joins_121 rfl rfl ?_
  refine xf_nald (f := n) (j := 2) F (rfl : xk 71 = (8, 5)) q_118.2.2.2.2.2 dL_joins_122 (by omega) rfl (fun hg_2 => ?_)
  refine xj_iconst F dL_joins_123 ?_
  refine xj_iadd F dL_joins_124 ?_
  refine xj_iast F (rfl : xk 71 = (8, 5)) dL_joins_125 (by omega) ?_
  refine x_nw (Nw_71 q_118) (fun M_126 q_126 => ?_)
  have hok := Cl_ok C q_126
  have hcm := Rl_came C.1
  have hct := Cl_cnt C q_126
  have hle := C.1.2.2.2.2.2.2.2
  have hjn : szI M_126 1 row < 6 ∧ (M_126.1 1 6).toInt < 999 := ⟨by rw [hok.2.2 row hrow]; omega, by rw [hct.1]; omega⟩
  refine x_aload_n F dL_joins_126 rfl ?_
  refine x_iload F dL_joins_127 rfl ?_
  refine x_aload_n F dL_joins_129 rfl ?_
  refine x_iload F dL_joins_130 rfl ?_
  refine xf_hald (f := (upd h (6 * row + mnI h row).toNat (jI X))) (j := ((6 * row + mnI h row)).toNat) F (Or.inl rfl) q_126.2.2.1 dL_joins_132 (by omega) rfl (fun hg_3 => ?_)
  rw [upd_i (by omega)]
  refine x_aload_n F dL_joins_133 rfl ?_
  refine x_iload F dL_joins_134 rfl ?_
  refine xf_hald (f := (upd v (6 * row + mnI h row).toNat (jI w9))) (j := ((6 * row + mnI h row)).toNat) F (Or.inl rfl) q_126.2.2.2.1 dL_joins_136 (by omega) rfl (fun hg_4 => ?_)
  rw [upd_i (by omega)]
  refine x_V3 F (m_X6_join hok.1 hok.2.1 hrow (by omega) (by omega) hjn) mlL_87 mvX6_join rfl dL_joins_137 (by decide) rfl ⟨Nat.le_of_ble_eq_true rfl, Nat.le_of_ble_eq_true rfl⟩ ⟨Nat.zero_le _, Nat.zero_le _⟩ (Nat.le_of_ble_eq_true rfl) ?_
  rw [hct.2]
  refine x_cl (Cl_join C q_126 hrow (by omega) (by omega) (by omega) ht) (fun M_140 q_140 => ?_)
  refine x_aload_n F dL_joins_140 rfl ?_
  refine x_iload F dL_joins_141 rfl ?_
  refine xf_hald (f := (upd d (6 * row + mnI h row).toNat (jI (n 2).toInt))) (j := ((6 * row + mnI h row)).toNat) F (Or.inl rfl) q_140.2.2.2.2.1 dL_joins_143 (by omega) rfl (fun hg_5 => ?_)
  rw [upd_i (rg_of _)]
  refine xj_icmp_ne (tgt := 151) F dL_joins_144 (by decide) (by omega) (fun h_6 => ?_) (fun h_6 => ?_)
  · exfalso
    omega
  · refine xj_iconst F dL_joins_147 ?_
    refine x_goto (tgt := 152) F dL_joins_148 (by decide) ?_
    refine x_iret F FR dL_joins_152 rfl (Nat.le_refl _) (Nat.le_refl _) ?_
    exact ⟨rfl, _, _, _, _, q_140⟩
set_option maxRecDepth 20000 in
theorem m_L_joins {l : Launch} {E : xE} {t : Int} {h v d n : aT} {M : xM} (C : Cl t M h v d n) (ht : t < 999) {x : Int32} : XP l E 20 yL_joins cL_joins 9 (some FieldType.boolean) [vA 0, vA 68, vA 69, vA 70, vA 71, vI x] M (fun r' M' => r' = vI (jI 1) ∧ ∃ h v d n, Cl (t + 1) M' h v d n) := by
  refine xp_start (plainFor_of_name (by decide)) rfl (Nat.le_of_ble_eq_true rfl) ?_
  intro Y F FR
  refine x_iload F dL_joins_0 rfl ?_
  refine xj_iconst F dL_joins_2 ?_
  refine x_ishr F dL_joins_3 ?_
  refine xj_iconst F dL_joins_4 ?_
  refine x_S2 F (m_L_low (by decide)) mlL_64 msL_low dL_joins_5 ⟨Nat.le_of_ble_eq_true rfl, Nat.le_of_ble_eq_true rfl⟩ ⟨Nat.zero_le _, Nat.zero_le _⟩ (Nat.le_of_ble_eq_true rfl) ?_
  have hl_row := lowI_b (x >>> (jI 3 &&& 31)) (b := 4) (by decide)
  obtain ⟨row, h_row⟩ : ∃ z, lowI (x >>> (jI 3 &&& 31)) 4 = z := ⟨_, rfl⟩
  rw [h_row] at hl_row
  rw [h_row]
  refine x_istore F dL_joins_8 (by decide) ?_
  refine x_aload_n F dL_joins_10 rfl ?_
  refine x_iload F dL_joins_11 rfl ?_
  refine x_S2 F (m_L_many (Or.inl rfl) (Nw_0 C).2.2.1 hl_row) mlL_9 msL_many dL_joins_13 ⟨Nat.le_of_ble_eq_true rfl, Nat.le_of_ble_eq_true rfl⟩ ⟨Nat.zero_le _, Nat.zero_le _⟩ (Nat.le_of_ble_eq_true rfl) ?_
  have hf_1 := mnI_b h row
  refine x_istore F dL_joins_16 (by decide) ?_
  refine x_iload F dL_joins_18 rfl ?_
  refine xj_bipush F dL_joins_20 (by decide) ?_
  refine xj_icmp_ne (tgt := 43) F dL_joins_22 (by decide) (by omega) (fun h_2 => ?_) (fun h_2 => ?_)
  · have hm := h_2
    refine xj_bipush F dL_joins_43 (by decide) ?_
    refine x_iload F dL_joins_45 rfl ?_
    refine xj_imul F dL_joins_47 ?_
    refine x_iload F dL_joins_48 rfl ?_
    refine xj_iadd F dL_joins_50 ?_
    refine x_istore F dL_joins_51 (by decide) ?_
    refine x_aload_n F dL_joins_53 rfl ?_
    refine x_iload F dL_joins_54 rfl ?_
    refine x_iload F dL_joins_56 rfl ?_
    refine xj_iconst F dL_joins_58 ?_
    refine x_ishr F dL_joins_59 ?_
    refine xj_iconst F dL_joins_60 ?_
    refine x_S2 F (m_L_low (by decide)) mlL_64 msL_low dL_joins_61 ⟨Nat.le_of_ble_eq_true rfl, Nat.le_of_ble_eq_true rfl⟩ ⟨Nat.zero_le _, Nat.zero_le _⟩ (Nat.le_of_ble_eq_true rfl) ?_
    have hl_z3 := lowI_b (x >>> (jI 5 &&& 31)) (b := 3) (by decide)
    obtain ⟨z3, h_z3⟩ : ∃ z, lowI (x >>> (jI 5 &&& 31)) 3 = z := ⟨_, rfl⟩
    rw [h_z3] at hl_z3
    rw [h_z3]
    refine xj_if_ne (tgt := 83) F dL_joins_64 (by decide) (by omega) (fun h_3 => ?_) (fun h_3 => ?_)
    · refine xj_bipush F dL_joins_83 (by decide) ?_
      refine x_iload F dL_joins_85 rfl ?_
      refine xj_bipush F dL_joins_87 (by decide) ?_
      refine x_ishr F dL_joins_89 ?_
      refine xj_bipush F dL_joins_90 (by decide) ?_
      refine x_S2 F (m_L_low (by decide)) mlL_64 msL_low dL_joins_92 ⟨Nat.le_of_ble_eq_true rfl, Nat.le_of_ble_eq_true rfl⟩ ⟨Nat.zero_le _, Nat.zero_le _⟩ (Nat.le_of_ble_eq_true rfl) ?_
      have hl_zb := lowI_b (x >>> (jI 8 &&& 31)) (b := 121) (by decide)
      obtain ⟨zb, h_zb⟩ : ∃ z, lowI (x >>> (jI 8 &&& 31)) 121 = z := ⟨_, rfl⟩
      rw [h_zb] at hl_zb
      rw [h_zb]
      refine xj_iadd F dL_joins_95 ?_
      exact joins_96 C ht hl_row (by omega) (by omega) F FR
    · refine xj_sipush F dL_joins_67 (by decide) ?_
      refine x_iload F dL_joins_70 rfl ?_
      refine xj_bipush F dL_joins_72 (by decide) ?_
      refine x_ishr F dL_joins_74 ?_
      refine xj_iconst F dL_joins_75 ?_
      refine x_S2 F (m_L_low (by decide)) mlL_64 msL_low dL_joins_76 ⟨Nat.le_of_ble_eq_true rfl, Nat.le_of_ble_eq_true rfl⟩ ⟨Nat.zero_le _, Nat.zero_le _⟩ (Nat.le_of_ble_eq_true rfl) ?_
      have hl_za := lowI_b (x >>> (jI 8 &&& 31)) (b := 4) (by decide)
      obtain ⟨za, h_za⟩ : ∃ z, lowI (x >>> (jI 8 &&& 31)) 4 = z := ⟨_, rfl⟩
      rw [h_za] at hl_za
      rw [h_za]
      refine xj_iadd F dL_joins_79 ?_
      refine x_goto (tgt := 96) F dL_joins_80 (by decide) ?_
      exact joins_96 C ht hl_row (by omega) (by omega) F FR
  · have o0 := (Rl_ow C.1 hl_row).1
    refine x_aload_n F dL_joins_25 rfl ?_
    refine x_iload F dL_joins_26 rfl ?_
    refine xj_iconst F dL_joins_28 ?_
    refine x_V2P F (m_X6_row C.1.1.1 C.2.1.2 (qX_rf _) hl_row (by decide)) mlL_47 mvX6_row rfl dL_joins_29 (by decide) rfl ⟨Nat.le_of_ble_eq_true rfl, Nat.le_of_ble_eq_true rfl⟩ ⟨Nat.zero_le _, Nat.zero_le _⟩ (Nat.le_of_ble_eq_true rfl) (fun r_29 M_29 q_29 => ?_)
    obtain ⟨rfl, q_29⟩ := q_29
    rw [o0]
    refine xj_bipush F dL_joins_32 (by decide) ?_
    refine xj_icmp_ne (tgt := 41) F dL_joins_34 (by decide) (by omega) (fun h_4 => ?_) (fun h_4 => ?_)
    · exfalso
      omega
    · refine xj_iconst F dL_joins_37 ?_
      refine x_goto (tgt := 42) F dL_joins_38 (by decide) ?_
      refine x_iret F FR dL_joins_42 rfl (Nat.le_refl _) (Nat.le_refl _) ?_
      exact ⟨rfl, _, _, _, _, Cl_mono (Cl_q C q_29) (by omega)⟩
set_option maxRecDepth 20000 in
theorem m_L_leaves {l : Launch} {E : xE} {t : Int} {h v d n : aT} {M : xM} (C : Cl t M h v d n) (ht : t < 999) {x : Int32} : XP l E 20 yL_leaves cL_leaves 8 (some FieldType.boolean) [vA 0, vA 68, vA 69, vA 70, vA 71, vI x] M (fun r' M' => r' = vI (jI 1) ∧ ∃ h v d n, Cl (t + 1) M' h v d n) := by
  refine xp_start (plainFor_of_name (by decide)) rfl (Nat.le_of_ble_eq_true rfl) ?_
  intro Y F FR
  refine x_aload_n F dL_leaves_0 rfl ?_
  refine x_iload F dL_leaves_1 rfl ?_
  refine x_S2P F (m_L_some (Nw_0 C).2.2.1) mlL_67 msL_some dL_leaves_3 ⟨Nat.le_of_ble_eq_true rfl, Nat.le_of_ble_eq_true rfl⟩ ⟨Nat.zero_le _, Nat.zero_le _⟩ (Nat.le_of_ble_eq_true rfl) (fun r_3 M_3 q_3 => ?_)
  obtain ⟨z_3, rfl, rfl, hz_3⟩ := q_3
  refine x_istore F dL_leaves_6 (by decide) ?_
  refine x_iload F dL_leaves_8 rfl ?_
  refine xj_if_ge (tgt := 27) F dL_leaves_10 (by decide) (by omega) (fun h_1 => ?_) (fun h_1 => ?_)
  · have hz : vz h z_3 := hz_3.resolve_left (fun z => by omega)
    have hbz := hz.1
    obtain ⟨p1, p2, p3⟩ := vz_mn C.1.2.1 hz
    refine x_aload_n F dL_leaves_27 rfl ?_
    refine x_iload F dL_leaves_28 rfl ?_
    refine xf_hald (f := d) (j := (z_3).toNat) F (Or.inl rfl) (Nw_0 C).2.2.2.2.1 dL_leaves_30 (by omega) rfl (fun hg_2 => ?_)
    refine x_istore F dL_leaves_31 (by decide) ?_
    refine x_aload_n F dL_leaves_33 rfl ?_
    refine x_aload_n F dL_leaves_34 rfl ?_
    refine x_aload_n F dL_leaves_35 rfl ?_
    refine x_iload F dL_leaves_36 rfl ?_
    refine x_S4 F (m_L_closesAll (by omega)) mlL_93 msL_closesAll dL_leaves_38 ⟨Nat.le_of_ble_eq_true rfl, Nat.le_of_ble_eq_true rfl⟩ ⟨Nat.zero_le _, Nat.zero_le _⟩ (Nat.le_of_ble_eq_true rfl) ?_
    refine x_nw (Nw_cl (Nw_0 C) hz.1) (fun M_41 q_41 => ?_)
    refine x_aload F dL_leaves_41 rfl ?_
    refine xj_iconst F dL_leaves_43 ?_
    refine x_dup2 F dL_leaves_44 rfl rfl ?_
    refine xf_nald (f := n) (j := 3) F (rfl : xk 71 = (8, 5)) q_41.2.2.2.2.2 dL_leaves_45 (by omega) rfl (fun hg_3 => ?_)
    refine xj_iconst F dL_leaves_46 ?_
    refine xj_iadd F dL_leaves_47 ?_
    refine xj_iast F (rfl : xk 71 = (8, 5)) dL_leaves_48 (by omega) ?_
    refine x_nw (Nw_71 q_41) (fun M_49 q_49 => ?_)
    have hok := Cl_ok C q_49
    refine x_aload_n F dL_leaves_49 rfl ?_
    refine x_iload F dL_leaves_50 rfl ?_
    refine xj_bipush F dL_leaves_52 (by decide) ?_
    refine xj_idiv F dL_leaves_54 (by omega) ?_
    refine x_iload F dL_leaves_55 rfl ?_
    refine xj_bipush F dL_leaves_57 (by decide) ?_
    refine xj_irem F dL_leaves_59 (by omega) ?_
    refine x_V2 F (m_X6_leave hok.1 hok.2.1 p1 ⟨p2.1, by rw [hok.2.2 _ p1]; exact p2.2, by omega⟩) mlL_97 mvX6_leave rfl dL_leaves_60 (by decide) rfl ⟨Nat.le_of_ble_eq_true rfl, Nat.le_of_ble_eq_true rfl⟩ ⟨Nat.zero_le _, Nat.zero_le _⟩ (Nat.le_of_ble_eq_true rfl) ?_
    rw [Cl_lv C hz q_49]
    refine x_cl (Cl_leave C hz q_49) (fun M_63 q_63 => ?_)
    refine x_iload F dL_leaves_63 rfl ?_
    refine xj_icmp_ne (tgt := 72) F dL_leaves_65 (by decide) (by omega) (fun h_4 => ?_) (fun h_4 => ?_)
    · exfalso
      omega
    · refine xj_iconst F dL_leaves_68 ?_
      refine x_goto (tgt := 73) F dL_leaves_69 (by decide) ?_
      refine x_iret F FR dL_leaves_73 rfl (Nat.le_refl _) (Nat.le_refl _) ?_
      first
        | exact ⟨rfl, _, _, _, _, Cl_mono (Cl_q C q_15) (by omega)⟩
        | exact ⟨rfl, _, _, _, _, q_63⟩
  · have o0 := Cl_none C (hz_3.resolve_right (fun z => by omega)).2
    refine x_aload_n F dL_leaves_13 rfl ?_
    refine xj_iconst F dL_leaves_14 ?_
    refine x_V1P F (m_X6_count C.1.1.1 C.2.1.2 (qX_rf _) (by decide)) mlL_53 mvX6_count rfl dL_leaves_15 (by decide) rfl ⟨Nat.le_of_ble_eq_true rfl, Nat.le_of_ble_eq_true rfl⟩ ⟨Nat.zero_le _, Nat.zero_le _⟩ (Nat.le_of_ble_eq_true rfl) (fun r_15 M_15 q_15 => ?_)
    obtain ⟨rfl, q_15⟩ := q_15
    rw [o0]
    refine xj_if_ne (tgt := 25) F dL_leaves_18 (by decide) (by omega) (fun h_5 => ?_) (fun h_5 => ?_)
    · exact absurd h_5 (by decide)
    · refine xj_iconst F dL_leaves_21 ?_
      refine x_goto (tgt := 26) F dL_leaves_22 (by decide) ?_
      refine x_iret F FR dL_leaves_26 rfl (Nat.le_refl _) (Nat.le_refl _) ?_
      first
        | exact ⟨rfl, _, _, _, _, Cl_mono (Cl_q C q_15) (by omega)⟩
        | exact ⟨rfl, _, _, _, _, q_63⟩
set_option maxRecDepth 20000 in
theorem m_L_crosses {l : Launch} {E : xE} {t : Int} {h v d n : aT} {M : xM} (C : Cl t M h v d n) (ht : t < 999) {x : Int32} : XP l E 20 yL_crosses cL_crosses 8 (some FieldType.boolean) [vA 0, vA 68, vA 69, vA 70, vI x] M (fun r' M' => r' = vI (jI 1) ∧ ∃ h v d n, Cl (t + 1) M' h v d n) := by
  refine xp_start (plainFor_of_name (by decide)) rfl (Nat.le_of_ble_eq_true rfl) ?_
  intro Y F FR
  refine x_aload_n F dL_crosses_0 rfl ?_
  refine x_iload F dL_crosses_1 rfl ?_
  refine x_S2P F (m_L_some (Nw_0 C).2.2.1) mlL_67 msL_some dL_crosses_3 ⟨Nat.le_of_ble_eq_true rfl, Nat.le_of_ble_eq_true rfl⟩ ⟨Nat.zero_le _, Nat.zero_le _⟩ (Nat.le_of_ble_eq_true rfl) (fun r_3 M_3 q_3 => ?_)
  obtain ⟨z_3, rfl, rfl, hz_3⟩ := q_3
  refine x_istore F dL_crosses_6 (by decide) ?_
  refine x_iload F dL_crosses_8 rfl ?_
  refine xj_bipush F dL_crosses_10 (by decide) ?_
  refine x_ishr F dL_crosses_12 ?_
  refine xj_iconst F dL_crosses_13 ?_
  refine x_S2 F (m_L_low (by decide)) mlL_64 msL_low dL_crosses_14 ⟨Nat.le_of_ble_eq_true rfl, Nat.le_of_ble_eq_true rfl⟩ ⟨Nat.zero_le _, Nat.zero_le _⟩ (Nat.le_of_ble_eq_true rfl) ?_
  have hl_to := lowI_b (x >>> (jI 7 &&& 31)) (b := 4) (by decide)
  obtain ⟨to, h_to⟩ : ∃ z, lowI (x >>> (jI 7 &&& 31)) 4 = z := ⟨_, rfl⟩
  rw [h_to] at hl_to
  rw [h_to]
  refine x_istore F dL_crosses_17 (by decide) ?_
  refine x_iload F dL_crosses_19 rfl ?_
  refine xj_if_lt (tgt := 45) F dL_crosses_21 (by decide) (by omega) (fun h_1 => ?_) (fun h_1 => ?_)
  · refine xj_iconst F dL_crosses_45 ?_
    refine x_iret F FR dL_crosses_46 rfl (Nat.le_refl _) (Nat.le_refl _) ?_
    first
      | exact ⟨rfl, _, _, _, _, Cl_mono q_121 (by omega)⟩
      | exact ⟨rfl, _, _, _, _, Cl_mono C (by omega)⟩
  · have hz : vz h z_3 := hz_3.resolve_left (fun z => by omega)
    have hbz := hz.1
    obtain ⟨p1, p2, p3⟩ := vz_mn C.1.2.1 hz
    refine x_iload F dL_crosses_24 rfl ?_
    refine xj_bipush F dL_crosses_26 (by decide) ?_
    refine xj_idiv F dL_crosses_28 (by omega) ?_
    refine x_iload F dL_crosses_29 rfl ?_
    refine xj_icmp_eq (tgt := 45) F dL_crosses_31 (by decide) (by omega) (fun h_2 => ?_) (fun h_2 => ?_)
    · refine xj_iconst F dL_crosses_45 ?_
      refine x_iret F FR dL_crosses_46 rfl (Nat.le_refl _) (Nat.le_refl _) ?_
      first
        | exact ⟨rfl, _, _, _, _, Cl_mono q_121 (by omega)⟩
        | exact ⟨rfl, _, _, _, _, Cl_mono C (by omega)⟩
    · refine x_aload_n F dL_crosses_34 rfl ?_
      refine x_iload F dL_crosses_35 rfl ?_
      refine x_S2 F (m_L_many (Or.inl rfl) (Nw_0 C).2.2.1 hl_to) mlL_9 msL_many dL_crosses_37 ⟨Nat.le_of_ble_eq_true rfl, Nat.le_of_ble_eq_true rfl⟩ ⟨Nat.zero_le _, Nat.zero_le _⟩ (Nat.le_of_ble_eq_true rfl) ?_
      have hf_3 := mnI_b h to
      refine xj_bipush F dL_crosses_40 (by decide) ?_
      refine xj_icmp_ne (tgt := 47) F dL_crosses_42 (by decide) (by omega) (fun h_4 => ?_) (fun h_4 => ?_)
      · refine x_aload_n F dL_crosses_47 rfl ?_
        refine x_iload F dL_crosses_48 rfl ?_
        refine x_S2 F (m_L_many (Or.inl rfl) (Nw_0 C).2.2.1 hl_to) mlL_9 msL_many dL_crosses_50 ⟨Nat.le_of_ble_eq_true rfl, Nat.le_of_ble_eq_true rfl⟩ ⟨Nat.zero_le _, Nat.zero_le _⟩ (Nat.le_of_ble_eq_true rfl) ?_
        have hf_5 := mnI_b h to
        refine x_istore F dL_crosses_53 (by decide) ?_
        refine x_aload_n F dL_crosses_55 rfl ?_
        refine xj_bipush F dL_crosses_56 (by decide) ?_
        refine x_iload F dL_crosses_58 rfl ?_
        refine xj_imul F dL_crosses_60 ?_
        refine x_iload F dL_crosses_61 rfl ?_
        refine xj_iadd F dL_crosses_63 ?_
        refine x_aload_n F dL_crosses_64 rfl ?_
        refine x_iload F dL_crosses_65 rfl ?_
        refine xf_hald (f := h) (j := (z_3).toNat) F (Or.inl rfl) (Nw_0 C).2.2.1 dL_crosses_67 (by omega) rfl (fun hg_6 => ?_)
        refine xf_hast F (Or.inl rfl) dL_crosses_68 (by omega) ?_
        refine x_nw (Nw_68 (Nw_0 C)) (fun M_69 q_69 => ?_)
        refine x_aload_n F dL_crosses_69 rfl ?_
        refine xj_bipush F dL_crosses_70 (by decide) ?_
        refine x_iload F dL_crosses_72 rfl ?_
        refine xj_imul F dL_crosses_74 ?_
        refine x_iload F dL_crosses_75 rfl ?_
        refine xj_iadd F dL_crosses_77 ?_
        refine x_aload_n F dL_crosses_78 rfl ?_
        refine x_iload F dL_crosses_79 rfl ?_
        refine xf_hald (f := v) (j := (z_3).toNat) F (Or.inl rfl) q_69.2.2.2.1 dL_crosses_81 (by omega) rfl (fun hg_7 => ?_)
        refine xf_hast F (Or.inl rfl) dL_crosses_82 (by omega) ?_
        refine x_nw (Nw_69 q_69) (fun M_83 q_83 => ?_)
        refine x_aload_n F dL_crosses_83 rfl ?_
        refine xj_bipush F dL_crosses_84 (by decide) ?_
        refine x_iload F dL_crosses_86 rfl ?_
        refine xj_imul F dL_crosses_88 ?_
        refine x_iload F dL_crosses_89 rfl ?_
        refine xj_iadd F dL_crosses_91 ?_
        refine x_aload_n F dL_crosses_92 rfl ?_
        refine x_iload F dL_crosses_93 rfl ?_
        refine xf_hald (f := d) (j := (z_3).toNat) F (Or.inl rfl) q_83.2.2.2.2.1 dL_crosses_95 (by omega) rfl (fun hg_8 => ?_)
        refine xf_hast F (Or.inl rfl) dL_crosses_96 (by omega) ?_
        refine x_nw (Nw_70 q_83) (fun M_97 q_97 => ?_)
        refine x_aload_n F dL_crosses_97 rfl ?_
        refine x_aload_n F dL_crosses_98 rfl ?_
        refine x_aload_n F dL_crosses_99 rfl ?_
        refine x_iload F dL_crosses_100 rfl ?_
        refine x_S4 F (m_L_closesAll (by omega)) mlL_93 msL_closesAll dL_crosses_102 ⟨Nat.le_of_ble_eq_true rfl, Nat.le_of_ble_eq_true rfl⟩ ⟨Nat.zero_le _, Nat.zero_le _⟩ (Nat.le_of_ble_eq_true rfl) ?_
        refine x_nw (Nw_cl q_97 hz.1) (fun M_105 q_105 => ?_)
        have hok := Cl_ok C q_105
        refine x_aload_n F dL_crosses_105 rfl ?_
        refine x_iload F dL_crosses_106 rfl ?_
        refine xj_bipush F dL_crosses_108 (by decide) ?_
        refine xj_idiv F dL_crosses_110 (by omega) ?_
        refine x_iload F dL_crosses_111 rfl ?_
        refine xj_bipush F dL_crosses_113 (by decide) ?_
        refine xj_irem F dL_crosses_115 (by omega) ?_
        refine x_iload F dL_crosses_116 rfl ?_
        refine x_V3 F (m_X6_cross hok.1 hok.2.1 p1 ⟨p2.1, by rw [hok.2.2 _ p1]; exact p2.2, by omega⟩ hl_to ⟨by omega, by rw [hok.2.2 _ hl_to]; omega⟩) mlL_100 mvX6_cross rfl dL_crosses_118 (by decide) rfl ⟨Nat.le_of_ble_eq_true rfl, Nat.le_of_ble_eq_true rfl⟩ ⟨Nat.zero_le _, Nat.zero_le _⟩ (Nat.le_of_ble_eq_true rfl) ?_
        rw [(Rl_sz (Cl_B C q_105) hl_to)]
        refine x_cl (Cl_cross C hz hl_to (by omega) (by omega) q_105) (fun M_121 q_121 => ?_)
        refine x_iload F dL_crosses_121 rfl ?_
        refine xj_icmp_ne (tgt := 130) F dL_crosses_123 (by decide) (by omega) (fun h_9 => ?_) (fun h_9 => ?_)
        · exfalso
          omega
        · refine xj_iconst F dL_crosses_126 ?_
          refine x_goto (tgt := 131) F dL_crosses_127 (by decide) ?_
          refine x_iret F FR dL_crosses_131 rfl (Nat.le_refl _) (Nat.le_refl _) ?_
          first
            | exact ⟨rfl, _, _, _, _, Cl_mono q_121 (by omega)⟩
            | exact ⟨rfl, _, _, _, _, Cl_mono C (by omega)⟩
      · refine xj_iconst F dL_crosses_45 ?_
        refine x_iret F FR dL_crosses_46 rfl (Nat.le_refl _) (Nat.le_refl _) ?_
        first
          | exact ⟨rfl, _, _, _, _, Cl_mono q_121 (by omega)⟩
          | exact ⟨rfl, _, _, _, _, Cl_mono C (by omega)⟩
set_option maxRecDepth 20000 in
theorem m_L_swaps {l : Launch} {E : xE} {t : Int} {h v d n : aT} {M : xM} (C : Cl t M h v d n) (ht : t < 999) {x : Int32} : XP l E 20 yL_swaps cL_swaps 8 (some FieldType.boolean) [vA 0, vA 68, vA 69, vA 70, vA 71, vI x] M (fun r' M' => r' = vI (jI 1) ∧ ∃ h v d n, Cl (t + 1) M' h v d n) := by
  refine xp_start (plainFor_of_name (by decide)) rfl (Nat.le_of_ble_eq_true rfl) ?_
  intro Y F FR
  refine x_aload_n F dL_swaps_0 rfl ?_
  refine x_iload F dL_swaps_1 rfl ?_
  refine x_S2P F (m_L_some (Nw_0 C).2.2.1) mlL_67 msL_some dL_swaps_3 ⟨Nat.le_of_ble_eq_true rfl, Nat.le_of_ble_eq_true rfl⟩ ⟨Nat.zero_le _, Nat.zero_le _⟩ (Nat.le_of_ble_eq_true rfl) (fun r_3 M_3 q_3 => ?_)
  obtain ⟨z_3, rfl, rfl, hz_3⟩ := q_3
  refine x_istore F dL_swaps_6 (by decide) ?_
  refine x_aload_n F dL_swaps_8 rfl ?_
  refine x_iload F dL_swaps_9 rfl ?_
  refine xj_bipush F dL_swaps_11 (by decide) ?_
  refine x_ishr F dL_swaps_13 ?_
  refine x_S2P F (m_L_some (Nw_0 C).2.2.1) mlL_67 msL_some dL_swaps_14 ⟨Nat.le_of_ble_eq_true rfl, Nat.le_of_ble_eq_true rfl⟩ ⟨Nat.zero_le _, Nat.zero_le _⟩ (Nat.le_of_ble_eq_true rfl) (fun r_14 M_14 q_14 => ?_)
  obtain ⟨z_14, rfl, rfl, hz_14⟩ := q_14
  refine x_istore F dL_swaps_17 (by decide) ?_
  refine x_iload F dL_swaps_19 rfl ?_
  refine xj_if_ge (tgt := 26) F dL_swaps_21 (by decide) (by omega) (fun h_1 => ?_) (fun h_1 => ?_)
  · have hs : vz h z_3 := hz_3.resolve_left (fun z => by omega)
    have hu : vz h z_14 := hz_14.resolve_left (fun z => absurd (z.2 z_3.toNat (by have := hs.1; omega)) (by have := hs.2; omega))
    have hb1 := hs.1
    have hb2 := hu.1
    obtain ⟨p1, p2, p3⟩ := vz_mn C.1.2.1 hs
    obtain ⟨p4, p5, p6⟩ := vz_mn C.1.2.1 hu
    refine x_aload_n F dL_swaps_26 rfl ?_
    refine x_aload_n F dL_swaps_27 rfl ?_
    refine x_aload_n F dL_swaps_28 rfl ?_
    refine x_iload F dL_swaps_29 rfl ?_
    refine x_iload F dL_swaps_31 rfl ?_
    refine x_S5 F (m_L_exchangeAll hs.1 hu.1) mlL_103 msL_exchangeAll dL_swaps_33 ⟨Nat.le_of_ble_eq_true rfl, Nat.le_of_ble_eq_true rfl⟩ ⟨Nat.zero_le _, Nat.zero_le _⟩ (Nat.le_of_ble_eq_true rfl) ?_
    refine x_nw (Nw_ex (Nw_0 C) hs.1 hu.1) (fun M_36 q_36 => ?_)
    refine x_aload F dL_swaps_36 rfl ?_
    refine xj_iconst F dL_swaps_38 ?_
    refine x_dup2 F dL_swaps_39 rfl rfl ?_
    refine xf_nald (f := n) (j := 4) F (rfl : xk 71 = (8, 5)) q_36.2.2.2.2.2 dL_swaps_40 (by omega) rfl (fun hg_2 => ?_)
    refine xj_iconst F dL_swaps_41 ?_
    refine xj_iadd F dL_swaps_42 ?_
    refine xj_iast F (rfl : xk 71 = (8, 5)) dL_swaps_43 (by omega) ?_
    refine x_nw (Nw_71 q_36) (fun M_44 q_44 => ?_)
    have hok := Cl_ok C q_44
    refine x_aload_n F dL_swaps_44 rfl ?_
    refine x_iload F dL_swaps_45 rfl ?_
    refine xj_bipush F dL_swaps_47 (by decide) ?_
    refine xj_idiv F dL_swaps_49 (by omega) ?_
    refine x_iload F dL_swaps_50 rfl ?_
    refine xj_bipush F dL_swaps_52 (by decide) ?_
    refine xj_irem F dL_swaps_54 (by omega) ?_
    refine x_iload F dL_swaps_55 rfl ?_
    refine xj_bipush F dL_swaps_57 (by decide) ?_
    refine xj_idiv F dL_swaps_59 (by omega) ?_
    refine x_iload F dL_swaps_60 rfl ?_
    refine xj_bipush F dL_swaps_62 (by decide) ?_
    refine xj_irem F dL_swaps_64 (by omega) ?_
    refine x_V4 F (m_X6_swap hok.1 hok.2.1 p1 ⟨p2.1, by rw [hok.2.2 _ p1]; exact p2.2, by omega⟩ p4 ⟨p5.1, by rw [hok.2.2 _ p4]; exact p5.2, by omega⟩) mlL_107 mvX6_swap rfl dL_swaps_65 (by decide) rfl ⟨Nat.le_of_ble_eq_true rfl, Nat.le_of_ble_eq_true rfl⟩ ⟨Nat.zero_le _, Nat.zero_le _⟩ (Nat.le_of_ble_eq_true rfl) ?_
    have c9 := Cl_swap C hs hu q_44
    rw [Cl_oa c9]
    refine x_cl (c9) (fun M_68 q_68 => ?_)
    refine x_aload_n F dL_swaps_68 rfl ?_
    refine x_aload F dL_swaps_69 rfl ?_
    refine x_S2 F (m_L_allOdd (Or.inl rfl) q_68.2.2.1 q_68.2.2.2.2.2 q_68.1.2.1) mlL_56 msL_allOdd dL_swaps_71 ⟨Nat.le_of_ble_eq_true rfl, Nat.le_of_ble_eq_true rfl⟩ ⟨Nat.zero_le _, Nat.zero_le _⟩ (Nat.le_of_ble_eq_true rfl) ?_
    have hf_3 := oaI_b (vC_hS (exF h z_3 z_14) (upd n 4 (jI ((n 4).toInt + 1))))
    refine xj_icmp_ne (tgt := 81) F dL_swaps_74 (by decide) (by omega) (fun h_4 => ?_) (fun h_4 => ?_)
    · exfalso
      omega
    · refine xj_iconst F dL_swaps_77 ?_
      refine x_goto (tgt := 82) F dL_swaps_78 (by decide) ?_
      refine x_iret F FR dL_swaps_82 rfl (Nat.le_refl _) (Nat.le_refl _) ?_
      first
        | exact ⟨rfl, _, _, _, _, Cl_mono q_68 (by omega)⟩
        | exact ⟨rfl, _, _, _, _, Cl_mono C (by omega)⟩
  · refine xj_iconst F dL_swaps_24 ?_
    refine x_iret F FR dL_swaps_25 rfl (Nat.le_refl _) (Nat.le_refl _) ?_
    first
      | exact ⟨rfl, _, _, _, _, Cl_mono q_68 (by omega)⟩
      | exact ⟨rfl, _, _, _, _, Cl_mono C (by omega)⟩
set_option maxRecDepth 20000 in
theorem L_turns_11 {l : Launch} {E : xE} {t : Int} {h v d n : aT} {M : xM} (C : Cl t M h v d n) (ht : t < 999) {row : Int} (hrow : 0 ≤ row ∧ row < 4) {Y : xY} (F : xFix E (xA E) Y cL_turns yL_turns.cls 8) (FR : xRet E Y (some FieldType.boolean) 0 0 (fun r' M' => r' = vI (jI 1) ∧ ∃ h v d n, Cl (t + 1) M' h v d n) (fun _ _ => False)) : ∀ (k : Nat) (i : Nat) (M_w : xM), Nw M M_w (trA h row (mnI h row) i) (trA v row (mnI h row) i) (trA d row (mnI h row) i) n → 2 * (i : Int) ≤ (mnI h row) → 7 - i < k → WP l E (xRm 20 0 0) (xA E) Y 0 0 11 [vA 0, vA 68, vA 69, vA 70, vA 71, vI (jI row), vI (jI (mnI h row)), vI (jI (i : Int))] [] M_w := by
  intro k
  induction k with
  | zero => intro i M_w q_w hi hk; exact absurd hk (Nat.not_lt_zero _)
  | succ k ih =>
    intro i M_w q_w hi hk
    have hb := mnI_b h row
    refine xj_iconst F dL_turns_11 ?_
    refine x_iload F dL_turns_12 rfl ?_
    refine xj_imul F dL_turns_14 ?_
    refine xj_iconst F dL_turns_15 ?_
    refine xj_iadd F dL_turns_16 ?_
    refine x_iload F dL_turns_17 rfl ?_
    refine xj_icmp_ge (tgt := 55) F dL_turns_19 (by decide) (by omega) (fun h_1 => ?_) (fun h_1 => ?_)
    · have e9 : i = ((mnI h row) / 2).toNat := by omega
      subst e9
      have hok := Cl_ok C q_w
      refine x_aload_n F dL_turns_55 rfl ?_
      refine x_iload F dL_turns_56 rfl ?_
      refine x_V1 F (m_X6_turn hok.1 hok.2.1 hrow) mlL_110 mvX6_turn rfl dL_turns_58 (by decide) rfl ⟨Nat.le_of_ble_eq_true rfl, Nat.le_of_ble_eq_true rfl⟩ ⟨Nat.zero_le _, Nat.zero_le _⟩ (Nat.le_of_ble_eq_true rfl) ?_
      have c9 := Cl_turn C hrow q_w
      rw [Cl_oa c9]
      refine x_cl (c9) (fun M_61 q_61 => ?_)
      refine x_aload_n F dL_turns_61 rfl ?_
      refine x_aload F dL_turns_62 rfl ?_
      refine x_S2 F (m_L_allOdd (Or.inl rfl) q_61.2.2.1 q_61.2.2.2.2.2 q_61.1.2.1) mlL_56 msL_allOdd dL_turns_64 ⟨Nat.le_of_ble_eq_true rfl, Nat.le_of_ble_eq_true rfl⟩ ⟨Nat.zero_le _, Nat.zero_le _⟩ (Nat.le_of_ble_eq_true rfl) ?_
      have hf_2 := oaI_b (vC_hS (trA h row (mnI h row) ((mnI h row) / 2).toNat) n)
      refine xj_icmp_ne (tgt := 74) F dL_turns_67 (by decide) (by omega) (fun h_3 => ?_) (fun h_3 => ?_)
      · exfalso
        omega
      · refine xj_iconst F dL_turns_70 ?_
        refine x_goto (tgt := 75) F dL_turns_71 (by decide) ?_
        refine x_iret F FR dL_turns_75 rfl (Nat.le_refl _) (Nat.le_refl _) ?_
        exact ⟨rfl, _, _, _, _, Cl_mono q_61 (by omega)⟩
    · refine x_aload_n F dL_turns_22 rfl ?_
      refine x_aload_n F dL_turns_23 rfl ?_
      refine x_aload_n F dL_turns_24 rfl ?_
      refine xj_bipush F dL_turns_25 (by decide) ?_
      refine x_iload F dL_turns_27 rfl ?_
      refine xj_imul F dL_turns_29 ?_
      refine x_iload F dL_turns_30 rfl ?_
      refine xj_iadd F dL_turns_32 ?_
      refine xj_bipush F dL_turns_33 (by decide) ?_
      refine x_iload F dL_turns_35 rfl ?_
      refine xj_imul F dL_turns_37 ?_
      refine x_iload F dL_turns_38 rfl ?_
      refine xj_iadd F dL_turns_40 ?_
      refine xj_iconst F dL_turns_41 ?_
      refine xj_isub F dL_turns_42 ?_
      refine x_iload F dL_turns_43 rfl ?_
      refine xj_isub F dL_turns_45 ?_
      rw [show 6 * row + mnI h row - 1 - (i : Int) = 6 * row + (mnI h row - 1 - (i : Int)) by omega]
      refine x_S5 F (m_L_exchangeAll (by omega) (by omega)) mlL_103 msL_exchangeAll dL_turns_46 ⟨Nat.le_of_ble_eq_true rfl, Nat.le_of_ble_eq_true rfl⟩ ⟨Nat.zero_le _, Nat.zero_le _⟩ (Nat.le_of_ble_eq_true rfl) ?_
      refine x_nw (Nw_ex q_w (by omega) (by omega)) (fun M_49 q_49 => ?_)
      refine xj_iinc F dL_turns_49 rfl ?_
      refine x_goto (tgt := 11) F dL_turns_52 (by decide) ?_
      exact ih (i + 1) _ q_49 (by omega) (by omega)
set_option maxRecDepth 20000 in
theorem m_L_turns {l : Launch} {E : xE} {t : Int} {h v d n : aT} {M : xM} (C : Cl t M h v d n) (ht : t < 999) {row : Int} (hrow : 0 ≤ row ∧ row < 4) : XP l E 20 yL_turns cL_turns 8 (some FieldType.boolean) [vA 0, vA 68, vA 69, vA 70, vA 71, vI (jI row)] M (fun r' M' => r' = vI (jI 1) ∧ ∃ h v d n, Cl (t + 1) M' h v d n) := by
  refine xp_start (plainFor_of_name (by decide)) rfl (Nat.le_of_ble_eq_true rfl) ?_
  intro Y F FR
  refine x_aload_n F dL_turns_0 rfl ?_
  refine x_iload F dL_turns_1 rfl ?_
  refine x_S2 F (m_L_many (Or.inl rfl) (Nw_0 C).2.2.1 hrow) mlL_9 msL_many dL_turns_3 ⟨Nat.le_of_ble_eq_true rfl, Nat.le_of_ble_eq_true rfl⟩ ⟨Nat.zero_le _, Nat.zero_le _⟩ (Nat.le_of_ble_eq_true rfl) ?_
  have hf_1 := mnI_b h row
  refine x_istore F dL_turns_6 (by decide) ?_
  refine xj_iconst F dL_turns_8 ?_
  refine x_istore F dL_turns_9 (by decide) ?_
  have hb := mnI_b h row
  exact L_turns_11 C ht hrow F FR _ 0 M (Nw_0 C) (by omega) (Nat.lt_succ_self _)
