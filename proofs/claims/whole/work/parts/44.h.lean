/-! THE MODEL reads a part, from its beginning -/
theorem rp_fail {M0 : xM} {s k : Int} (h : ¬ al (tsT M0 s) = true) (hk : s + pf (tsT M0 s) = k) : rpQ M0 s (vI (jI 0)) (spM M0 k) :=
  ⟨M0, by rw [jb_f h], by rw [hk], rdW_rfl M0, fun z => absurd z h, fun _ => rfl⟩
set_option maxRecDepth 20000 in
theorem L_X7_readPart_61 {l : Launch} {E : xE} {s : Int} {M0 : xM} (hY : okW M0) (hs : 0 ≤ s ∧ s ≤ 60) (hp : 0 ≤ pa M0 ∧ pa M0 < 12) (hw : isW (cdZ M0 s) = true) {u : Int} (hu : u = s + 1 + wdN (cdZ M0 s)) {Y : xY} (F : xFix E (xA E) Y cX7_readPart yX7_readPart.cls 4) (FR : xRet E Y (some FieldType.boolean) 0 0 (fun r' M' => rpQ M0 s r' M') (fun _ _ => False)) : ∀ (k : Nat) , 0 < k → WP l E (xRm 9 0 0) (xA E) Y 0 0 61 [vA 68, vI (jI (cdZ M0 s)), vU, vU] [] (spM M0 s) := by
  intro k
  induction k with
  | zero => intro   hk; exact absurd hk (Nat.not_lt_zero _)
  | succ k ih =>
    intro   hk
    have hln := hY.1
    have e12 : ((spM M0 s).1 68 12).toInt = s := spM_sp M0 (by omega)
    have e2 : ∀ x, upI (spM M0 s) 68 12 (jI x) = spM M0 x := fun x => spM_spM M0 s x
    have hcb := cdZ_b hY s
    have hwi := isW_iff.mp hw
    have hsi := cdZ_in (M := M0) (k := s) (by omega)
    have hwb := wdN_b (cdZ M0 s)
    have hYa : okW (upI M0 75 (pa M0).toNat (jI (cdZ M0 s))) := okW_up hY (by decide) (Or.inl (by decide))
    have hpa : pa (upI M0 75 (pa M0).toNat (jI (cdZ M0 s))) = pa M0 := pa_up (Or.inl (by decide))
    have hca : ∀ z, cdZ (upI M0 75 (pa M0).toNat (jI (cdZ M0 s))) z = cdZ M0 z := fun z => cdZ_up (by decide) (Or.inl (by decide)) z
    have hla : ln (upI M0 75 (pa M0).toNat (jI (cdZ M0 s))) = ln M0 := rfl
    have e13 : ∀ (N : xM) t, ((spM N t).1 68 13).toInt = pa N := fun N t => (by rw [spM_k _ _ (by decide)]; rfl)
    refine xj_iconst F dX7_readPart_61 ?_
    refine x_goto (tgt := 66) F dX7_readPart_62 (by decide) ?_
    refine x_istore_n F dX7_readPart_66 (by decide) ?_
    refine x_aload_n F dX7_readPart_67 rfl ?_
    refine x_dup F dX7_readPart_68 rfl ?_
    refine xj_geti F flX7_148 rfl dX7_readPart_69 (by decide) (by decide) rfl (fun hg_1 => ?_)
    rw [e12]
    refine x_iload_n F dX7_readPart_72 rfl ?_
    refine xj_if_eq (tgt := 80) F dX7_readPart_73 (by decide) (by omega) (fun h_2 => ?_) (fun h_2 => ?_)
    · exact absurd h_2 (by decide)
    · refine xj_iconst F dX7_readPart_76 ?_
      refine x_goto (tgt := 81) F dX7_readPart_77 (by decide) ?_
      refine xj_iadd F dX7_readPart_81 ?_
      refine x_puti F flX7_148 rfl dX7_readPart_82 (by decide) (by decide) rfl fw7_12 rfl rfl ?_
      rw [e2]
      refine x_iload_n F dX7_readPart_85 rfl ?_
      refine xj_if_eq (tgt := 117) F dX7_readPart_86 (by decide) (by omega) (fun h_3 => ?_) (fun h_3 => ?_)
      · exact absurd h_3 (by decide)
      · refine x_aload_n F dX7_readPart_89 rfl ?_
        refine x_iload_n F dX7_readPart_90 rfl ?_
        refine x_V1 F (m_X7_readWord (M0 := M0) (s := s + 1) (c := cdZ M0 s) hY (by omega) (by omega)) mlX7_169 mvX7_readWord rfl dX7_readPart_91 (by decide) rfl ⟨Nat.le_of_ble_eq_true rfl, Nat.le_of_ble_eq_true rfl⟩ ⟨Nat.zero_le _, Nat.zero_le _⟩ (Nat.le_of_ble_eq_true rfl) ?_
        refine xb_if_eq (tgt := 117) F dX7_readPart_94 (by decide) (fun h_4 => ?_) (fun h_4 => ?_)
        · have zwn := h_4
          refine xj_iconst F dX7_readPart_117 ?_
          refine x_iret F FR dX7_readPart_118 rfl (Nat.le_refl _) (Nat.le_refl _) ?_
          first
            | have zguard := zwn; exact rp_fail (by unfold tsT; rw [if_pos hw, al_t rfl, al_ap, Bool.eq_false_iff.mpr zwn]; exact fun z => Bool.false_ne_true z) (by unfold tsT; rw [if_pos hw, pf_t rfl, pf_ap, if_neg zwn]; omega)
            | have zguard := zc58; exact rp_fail (by unfold tsT; rw [if_pos hw, al_t rfl, al_ap, zwp, al_f (show ¬ rgB M0 (s + 1 + wdN (cdZ M0 s)) 58 58 = true by rw [← hu]; exact zc58)]; decide) (by unfold tsT; rw [if_pos hw, pf_t rfl, pf_ap, if_pos zwp, wdT_len hw, pf_f (show ¬ rgB M0 (s + 1 + wdN (cdZ M0 s)) 58 58 = true by rw [← hu]; exact zc58), b01_f zc58]; omega)
            | have zguard := zcro; exact rp_fail (by unfold tsT; rw [if_pos hw, al_t rfl, al_ap, zwp, al_t (show rgB M0 (s + 1 + wdN (cdZ M0 s)) 58 58 = true by rw [← hu]; exact zp58), al_f (show ¬ rgB M0 (s + 1 + wdN (cdZ M0 s) + 1) 48 51 = true by rw [← hu]; exact zcro)]; decide) (by unfold tsT; rw [if_pos hw, pf_t rfl, pf_ap, if_pos zwp, wdT_len hw, pf_t (show rgB M0 (s + 1 + wdN (cdZ M0 s)) 58 58 = true by rw [← hu]; exact zp58), pf_f (show ¬ rgB M0 (s + 1 + wdN (cdZ M0 s) + 1) 48 51 = true by rw [← hu]; exact zcro), b01_f zcro]; omega)
        · have zwp := h_4
          have zwi := wdT_in hw zwp
          rw [pf_w zwp (wdT_len hw), ← hu]
          refine x_aload_n F dX7_readPart_97 rfl ?_
          refine xj_bipush F dX7_readPart_98 (by decide) ?_
          refine x_V1 F (m_X7_takesSign (M0 := M0) (s := u) hY (by omega) (by decide)) mlX7_157 mvX7_takesSign rfl dX7_readPart_100 (by decide) rfl ⟨Nat.le_of_ble_eq_true rfl, Nat.le_of_ble_eq_true rfl⟩ ⟨Nat.zero_le _, Nat.zero_le _⟩ (Nat.le_of_ble_eq_true rfl) ?_
          refine xb_if_eq (tgt := 117) F dX7_readPart_103 (by decide) (fun h_5 => ?_) (fun h_5 => ?_)
          · have zc58 := h_5
            refine xj_iconst F dX7_readPart_117 ?_
            refine x_iret F FR dX7_readPart_118 rfl (Nat.le_refl _) (Nat.le_refl _) ?_
            first
              | have zguard := zwn; exact rp_fail (by unfold tsT; rw [if_pos hw, al_t rfl, al_ap, Bool.eq_false_iff.mpr zwn]; exact fun z => Bool.false_ne_true z) (by unfold tsT; rw [if_pos hw, pf_t rfl, pf_ap, if_neg zwn]; omega)
              | have zguard := zc58; exact rp_fail (by unfold tsT; rw [if_pos hw, al_t rfl, al_ap, zwp, al_f (show ¬ rgB M0 (s + 1 + wdN (cdZ M0 s)) 58 58 = true by rw [← hu]; exact zc58)]; decide) (by unfold tsT; rw [if_pos hw, pf_t rfl, pf_ap, if_pos zwp, wdT_len hw, pf_f (show ¬ rgB M0 (s + 1 + wdN (cdZ M0 s)) 58 58 = true by rw [← hu]; exact zc58), b01_f zc58]; omega)
              | have zguard := zcro; exact rp_fail (by unfold tsT; rw [if_pos hw, al_t rfl, al_ap, zwp, al_t (show rgB M0 (s + 1 + wdN (cdZ M0 s)) 58 58 = true by rw [← hu]; exact zp58), al_f (show ¬ rgB M0 (s + 1 + wdN (cdZ M0 s) + 1) 48 51 = true by rw [← hu]; exact zcro)]; decide) (by unfold tsT; rw [if_pos hw, pf_t rfl, pf_ap, if_pos zwp, wdT_len hw, pf_t (show rgB M0 (s + 1 + wdN (cdZ M0 s)) 58 58 = true by rw [← hu]; exact zp58), pf_f (show ¬ rgB M0 (s + 1 + wdN (cdZ M0 s) + 1) 48 51 = true by rw [← hu]; exact zcro), b01_f zcro]; omega)
          · have zp58 := h_5
            have zi58 := rgB_in zp58 (by decide)
            rw [b01_t zp58]
            refine x_aload_n F dX7_readPart_106 rfl ?_
            refine xj_bipush F dX7_readPart_107 (by decide) ?_
            refine xj_bipush F dX7_readPart_109 (by decide) ?_
            refine x_V2 F (m_X7_takes (M0 := M0) (s := u + 1) hY (by omega) (by decide) (by decide)) mlX7_154 mvX7_takes rfl dX7_readPart_111 (by decide) rfl ⟨Nat.le_of_ble_eq_true rfl, Nat.le_of_ble_eq_true rfl⟩ ⟨Nat.zero_le _, Nat.zero_le _⟩ (Nat.le_of_ble_eq_true rfl) ?_
            refine xb_if_ne (tgt := 119) F dX7_readPart_114 (by decide) (fun h_6 => ?_) (fun h_6 => ?_)
            · have zpro := h_6
              have ziro := rgB_in zpro (by decide)
              rw [b01_t zpro]
              refine x_aload_n F dX7_readPart_119 rfl ?_
              refine x_getc (v := 75) F flX7_28 rfl dX7_readPart_120 (by decide) (by decide) rfl rfl ?_
              refine x_aload_n F dX7_readPart_123 rfl ?_
              refine xj_geti F flX7_166 rfl dX7_readPart_124 (by decide) (by decide) rfl (fun hg_7 => ?_)
              rw [e13]
              refine x_iload_n F dX7_readPart_127 rfl ?_
              refine xj_iast F rfl dX7_readPart_128 (by omega) ?_
              rw [spM_up _ _ (by decide)]
              refine x_aload_n F dX7_readPart_129 rfl ?_
              refine x_getc (v := 76) F flX7_31 rfl dX7_readPart_130 (by decide) (by decide) rfl rfl ?_
              refine x_aload_n F dX7_readPart_133 rfl ?_
              refine xj_geti F flX7_166 rfl dX7_readPart_134 (by decide) (by decide) rfl (fun hg_8 => ?_)
              rw [e13, hpa]
              refine x_aload_n F dX7_readPart_137 rfl ?_
              refine xj_iconst F dX7_readPart_138 ?_
              refine x_V1 F (m_X7_digit (M0 := (upI M0 75 (pa M0).toNat (jI (cdZ M0 s)))) (s := u + 1 + 1) hYa (by omega) (by decide) (by omega)) mlX7_163 mvX7_digit rfl dX7_readPart_139 (by decide) rfl ⟨Nat.le_of_ble_eq_true rfl, Nat.le_of_ble_eq_true rfl⟩ ⟨Nat.zero_le _, Nat.zero_le _⟩ (Nat.le_of_ble_eq_true rfl) ?_
              refine xj_iast F rfl dX7_readPart_142 (by omega) ?_
              rw [spM_up _ _ (by decide)]
              exact L_X7_readPart_143 (l := l) hY hs hp hw zwp (by rw [← hu]; exact zp58) (by rw [← hu]; exact zpro) (Mb := (upI (upI M0 75 (pa M0).toNat (jI (cdZ M0 s))) 76 (pa M0).toNat (jI (cdZ (upI M0 75 (pa M0).toNat (jI (cdZ M0 s))) (u + 1 + 1 - 1) - 48)))) (t := u + 1 + 1) (by omega) ((pa_up (Or.inl (by decide))).trans hpa) (rdW_up (rdW_up (rdW_rfl M0) (Or.inl rfl)) (Or.inr (Or.inl rfl))) (by rw [upI_row (by decide), upI_1, if_pos ⟨rfl, rfl⟩, jI_toInt (by omega)]) (by have zz8 := cdZ_b hY (u + 1 + 1 - 1); rw [upI_1, if_pos ⟨rfl, rfl⟩, hca, jI_toInt (by omega)]) F FR _ _ _ (Nat.lt_succ_self 0)
            · have zcro := h_6
              refine xj_iconst F dX7_readPart_117 ?_
              refine x_iret F FR dX7_readPart_118 rfl (Nat.le_refl _) (Nat.le_refl _) ?_
              first
                | have zguard := zwn; exact rp_fail (by unfold tsT; rw [if_pos hw, al_t rfl, al_ap, Bool.eq_false_iff.mpr zwn]; exact fun z => Bool.false_ne_true z) (by unfold tsT; rw [if_pos hw, pf_t rfl, pf_ap, if_neg zwn]; omega)
                | have zguard := zc58; exact rp_fail (by unfold tsT; rw [if_pos hw, al_t rfl, al_ap, zwp, al_f (show ¬ rgB M0 (s + 1 + wdN (cdZ M0 s)) 58 58 = true by rw [← hu]; exact zc58)]; decide) (by unfold tsT; rw [if_pos hw, pf_t rfl, pf_ap, if_pos zwp, wdT_len hw, pf_f (show ¬ rgB M0 (s + 1 + wdN (cdZ M0 s)) 58 58 = true by rw [← hu]; exact zc58), b01_f zc58]; omega)
                | have zguard := zcro; exact rp_fail (by unfold tsT; rw [if_pos hw, al_t rfl, al_ap, zwp, al_t (show rgB M0 (s + 1 + wdN (cdZ M0 s)) 58 58 = true by rw [← hu]; exact zp58), al_f (show ¬ rgB M0 (s + 1 + wdN (cdZ M0 s) + 1) 48 51 = true by rw [← hu]; exact zcro)]; decide) (by unfold tsT; rw [if_pos hw, pf_t rfl, pf_ap, if_pos zwp, wdT_len hw, pf_t (show rgB M0 (s + 1 + wdN (cdZ M0 s)) 58 58 = true by rw [← hu]; exact zp58), pf_f (show ¬ rgB M0 (s + 1 + wdN (cdZ M0 s) + 1) 48 51 = true by rw [← hu]; exact zcro), b01_f zcro]; omega)
set_option maxRecDepth 20000 in
theorem L_X7_readPart_24 {l : Launch} {E : xE} {s : Int} {M0 : xM} (hY : okW M0) (hs : 0 ≤ s ∧ s ≤ 60) (hp : 0 ≤ pa M0 ∧ pa M0 < 12) {Y : xY} (F : xFix E (xA E) Y cX7_readPart yX7_readPart.cls 4) (FR : xRet E Y (some FieldType.boolean) 0 0 (fun r' M' => rpQ M0 s r' M') (fun _ _ => False)) : ∀ (k : Nat) , 0 < k → WP l E (xRm 9 0 0) (xA E) Y 0 0 24 [vA 68, vU, vU, vU] [vI (jI (cdZ M0 s))] (spM M0 s) := by
  intro k
  induction k with
  | zero => intro   hk; exact absurd hk (Nat.not_lt_zero _)
  | succ k ih =>
    intro   hk
    have hln := hY.1
    have e12 : ((spM M0 s).1 68 12).toInt = s := spM_sp M0 (by omega)
    have e2 : ∀ x, upI (spM M0 s) 68 12 (jI x) = spM M0 x := fun x => spM_spM M0 s x
    have hcb := cdZ_b hY s
    refine x_istore_n F dX7_readPart_24 (by decide) ?_
    refine x_iload_n F dX7_readPart_25 rfl ?_
    refine xj_bipush F dX7_readPart_26 (by decide) ?_
    refine xj_icmp_eq (tgt := 61) F dX7_readPart_28 (by decide) (by omega) (fun h_1 => ?_) (fun h_1 => ?_)
    · exact L_X7_readPart_61 (l := l) hY hs hp (isW_iff.mpr (by omega)) rfl F FR _ (Nat.lt_succ_self 0)
    · refine x_iload_n F dX7_readPart_31 rfl ?_
      refine xj_bipush F dX7_readPart_32 (by decide) ?_
      refine xj_icmp_eq (tgt := 61) F dX7_readPart_34 (by decide) (by omega) (fun h_2 => ?_) (fun h_2 => ?_)
      · exact L_X7_readPart_61 (l := l) hY hs hp (isW_iff.mpr (by omega)) rfl F FR _ (Nat.lt_succ_self 0)
      · refine x_iload_n F dX7_readPart_37 rfl ?_
        refine xj_bipush F dX7_readPart_38 (by decide) ?_
        refine xj_icmp_eq (tgt := 61) F dX7_readPart_40 (by decide) (by omega) (fun h_3 => ?_) (fun h_3 => ?_)
        · exact L_X7_readPart_61 (l := l) hY hs hp (isW_iff.mpr (by omega)) rfl F FR _ (Nat.lt_succ_self 0)
        · refine x_iload_n F dX7_readPart_43 rfl ?_
          refine xj_bipush F dX7_readPart_44 (by decide) ?_
          refine xj_icmp_eq (tgt := 61) F dX7_readPart_46 (by decide) (by omega) (fun h_4 => ?_) (fun h_4 => ?_)
          · exact L_X7_readPart_61 (l := l) hY hs hp (isW_iff.mpr (by omega)) rfl F FR _ (Nat.lt_succ_self 0)
          · refine x_iload_n F dX7_readPart_49 rfl ?_
            refine xj_bipush F dX7_readPart_50 (by decide) ?_
            refine xj_icmp_eq (tgt := 61) F dX7_readPart_52 (by decide) (by omega) (fun h_5 => ?_) (fun h_5 => ?_)
            · exact L_X7_readPart_61 (l := l) hY hs hp (isW_iff.mpr (by omega)) rfl F FR _ (Nat.lt_succ_self 0)
            · refine x_iload_n F dX7_readPart_55 rfl ?_
              refine xj_bipush F dX7_readPart_56 (by decide) ?_
              refine xj_icmp_ne (tgt := 65) F dX7_readPart_58 (by decide) (by omega) (fun h_6 => ?_) (fun h_6 => ?_)
              · refine xj_iconst F dX7_readPart_65 ?_
                refine x_istore_n F dX7_readPart_66 (by decide) ?_
                refine x_aload_n F dX7_readPart_67 rfl ?_
                refine x_dup F dX7_readPart_68 rfl ?_
                refine xj_geti F flX7_148 rfl dX7_readPart_69 (by decide) (by decide) rfl (fun hg_7 => ?_)
                rw [e12]
                refine x_iload_n F dX7_readPart_72 rfl ?_
                refine xj_if_eq (tgt := 80) F dX7_readPart_73 (by decide) (by omega) (fun h_8 => ?_) (fun h_8 => ?_)
                · refine xj_iconst F dX7_readPart_80 ?_
                  refine xj_iadd F dX7_readPart_81 ?_
                  refine x_puti F flX7_148 rfl dX7_readPart_82 (by decide) (by decide) rfl fw7_12 rfl rfl ?_
                  rw [e2]
                  refine x_iload_n F dX7_readPart_85 rfl ?_
                  refine xj_if_eq (tgt := 117) F dX7_readPart_86 (by decide) (by omega) (fun h_9 => ?_) (fun h_9 => ?_)
                  · refine xj_iconst F dX7_readPart_117 ?_
                    refine x_iret F FR dX7_readPart_118 rfl (Nat.le_refl _) (Nat.le_refl _) ?_
                    have hwn : ¬ isW (cdZ M0 s) = true := fun z => absurd (isW_iff.mp z) (by omega)
                    exact rp_fail (by unfold tsT; rw [if_neg hwn]; decide) (by unfold tsT; rw [if_neg hwn]; rfl)
                  · exact absurd h_9 (by decide)
                · exact absurd h_8 (by decide)
              · exact L_X7_readPart_61 (l := l) hY hs hp (isW_iff.mpr (by omega)) rfl F FR _ (Nat.lt_succ_self 0)
set_option maxRecDepth 20000 in
theorem m_X7_readPart {l : Launch} {E : xE} {s : Int} {M0 : xM} (hY : okW M0) (hs : 0 ≤ s ∧ s ≤ 60) (hp : 0 ≤ pa M0 ∧ pa M0 < 12) : XP l E 9 yX7_readPart cX7_readPart 4 (some FieldType.boolean) [vA 68] (spM M0 s) (fun r' M' => rpQ M0 s r' M') := by
  refine xp_start (plainFor_of_name (by decide)) rfl (Nat.le_of_ble_eq_true rfl) ?_
  intro Y F FR
  have e11 : ((spM M0 s).1 68 11).toInt = ln M0 := by rw [spM_k _ _ (by decide)]; rfl
  have e12 : ((spM M0 s).1 68 12).toInt = s := spM_sp M0 (by omega)
  have hln := hY.1
  have e74 : (spM M0 s).1 74 = M0.1 74 := spM_row _ _ (by decide)
  refine x_aload_n F dX7_readPart_0 rfl ?_
  refine xj_geti F flX7_148 rfl dX7_readPart_1 (by decide) (by decide) rfl (fun hg_1 => ?_)
  refine x_aload_n F dX7_readPart_4 rfl ?_
  refine xj_geti F flX7_145 rfl dX7_readPart_5 (by decide) (by decide) rfl (fun hg_2 => ?_)
  rw [e12, e11]
  refine xj_icmp_ge (tgt := 23) F dX7_readPart_8 (by decide) (by omega) (fun h_3 => ?_) (fun h_3 => ?_)
  · refine xj_iconst F dX7_readPart_23 ?_
    have g := L_X7_readPart_24 (l := l) hY hs hp F FR _ (Nat.lt_succ_self 0)
    first
      | (rw [show cdZ M0 s = 0 from if_neg (by omega)] at g; exact g)
      | (rw [show cdZ M0 s = (M0.1 74 s.toNat).toInt from if_pos ⟨by omega, by omega, by omega⟩] at g; exact g)
  · refine x_aload_n F dX7_readPart_11 rfl ?_
    refine x_getc (v := 74) F flX7_25 rfl dX7_readPart_12 (by decide) (by decide) rfl rfl ?_
    refine x_aload_n F dX7_readPart_15 rfl ?_
    refine xj_geti F flX7_148 rfl dX7_readPart_16 (by decide) (by decide) rfl (fun hg_4 => ?_)
    rw [e12]
    refine xj_lald2 F rfl dX7_readPart_19 (by omega) (fun hg_5 => ?_)
    rw [e74]
    refine x_goto (tgt := 24) F dX7_readPart_20 (by decide) ?_
    have g := L_X7_readPart_24 (l := l) hY hs hp F FR _ (Nat.lt_succ_self 0)
    first
      | (rw [show cdZ M0 s = 0 from if_neg (by omega)] at g; exact g)
      | (rw [show cdZ M0 s = (M0.1 74 s.toNat).toInt from if_pos ⟨by omega, by omega, by omega⟩] at g; exact g)
