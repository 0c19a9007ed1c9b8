/-! THE MODEL reads a part of a text -/
theorem pf_w {l : List Bool} (h : al l = true) {n : Int} (hn : (l.length : Int) = n) : pf l = n := (pf_al h).trans hn
theorem twT_len (M : xM) (s b c d : Int) : ((twT M s b c d).length : Int) = if d = 0 then 2 else 3 := by
  unfold twT
  split <;> rfl
theorem wdT_pf_b (M : xM) (s c : Int) : 0 ≤ pf (wdT M s c) := (pf_b _).1
theorem al_in3 {M : xM} {s b c d : Int} (h : al (twT M s b c d) = true) (hb : 1 ≤ b) (hc : 1 ≤ c) (hd : 1 ≤ d) : 0 ≤ s ∧ s + 3 ≤ ln M := by
  unfold twT at h
  rw [if_neg (by omega)] at h
  simp only [al, Bool.and_eq_true] at h
  have h1 := rgB_in h.1 hb
  have h3 := rgB_in h.2.2.1 hd
  omega
theorem al_in2 {M : xM} {s b c d : Int} (h : al (twT M s b c d) = true) (hb : 1 ≤ b) (hc : 1 ≤ c) : 0 ≤ s ∧ s + 2 ≤ ln M := by
  unfold twT at h
  simp only [al, Bool.and_eq_true] at h
  have h1 := rgB_in h.1 hb
  have h3 := rgB_in h.2.1 hc
  omega
set_option maxRecDepth 20000 in
theorem m_X7_readWord {l : Launch} {E : xE} {s c : Int} {M0 : xM} (hY : okW M0) (hs : 0 ≤ s ∧ s ≤ 60) (hc : rg c) : XF l E 6 yX7_readWord cX7_readWord 2 (some FieldType.boolean) [vA 68, vI (jI c)] (spM M0 s) (vI (jb (al (wdT M0 s c) = true))) ((spM M0 (s + pf (wdT M0 s c)))) := by
  refine xp_start (plainFor_of_name (by decide)) rfl (Nat.le_of_ble_eq_true rfl) ?_
  intro Y F FR
  refine x_iload_n F dX7_readWord_0 rfl ?_
  by_cases h_1 : c = 104
  · refine xj_tabIn (off := 118) (tgt := 119) F dX7_readWord_1 (by omega) (by omega) (by rw [h_1]; rfl) (by decide) (by omega) ?_
    refine x_aload_n F dX7_readWord_119 rfl ?_
    refine xj_bipush F dX7_readWord_120 (by decide) ?_
    refine xj_bipush F dX7_readWord_122 (by decide) ?_
    refine xj_bipush F dX7_readWord_124 (by decide) ?_
    refine x_V3 F (m_X7_takesWord (M0 := M0) (s := s) hY hs (by decide) (by decide) (by decide)) mlX7_160 mvX7_takesWord rfl dX7_readWord_126 (by decide) rfl ⟨Nat.le_of_ble_eq_true rfl, Nat.le_of_ble_eq_true rfl⟩ ⟨Nat.zero_le _, Nat.zero_le _⟩ (Nat.le_of_ble_eq_true rfl) ?_
    refine x_iret F FR dX7_readWord_129 (jb_nar _) (Nat.le_refl _) (Nat.le_refl _) ?_
    first
      | (have zzw : wdT M0 s c = twT M0 s 111 105 110 := (by unfold wdT; rw [if_pos (by omega)]); exact ⟨by rw [zzw], by rw [zzw]⟩)
      | (have zzw : wdT M0 s c = twT M0 s 119 97 112 := (by unfold wdT; rw [if_neg (by omega), if_pos (by omega)]); exact ⟨by rw [zzw], by rw [zzw]⟩)
      | (have zzw : wdT M0 s c = twT M0 s 117 114 110 := (by unfold wdT; rw [if_neg (by omega), if_neg (by omega), if_pos (by omega)]); exact ⟨by rw [zzw], by rw [zzw]⟩)
      | (have zzw : wdT M0 s c = twT M0 s 111 119 0 := (by unfold wdT; rw [if_neg (by omega), if_neg (by omega), if_neg (by omega), if_pos (by omega)]); exact ⟨by rw [zzw], by rw [zzw]⟩)
      | (have zzw : wdT M0 s c = twT M0 s 105 103 104 := (by unfold wdT; rw [if_neg (by omega), if_neg (by omega), if_neg (by omega), if_neg (by omega), if_pos (by omega)]); exact ⟨by rw [zzw], by rw [zzw]⟩)
      | (have zzw : wdT M0 s c = twT M0 s 111 105 99 ++ [rgB M0 (s + 3) 101 101] := (by unfold wdT; rw [if_neg (by omega), if_neg (by omega), if_neg (by omega), if_neg (by omega), if_neg (by omega), if_pos (by omega)]); exact ⟨by rw [zzw, jb_f (show ¬ al (twT M0 s 111 105 99 ++ [rgB M0 (s + 3) 101 101]) = true by rw [al_ap, Bool.eq_false_iff.mpr zza]; exact fun z => Bool.false_ne_true z)], by rw [zzw, pf_ap, if_neg zza]⟩)
      | (have zzw : wdT M0 s c = twT M0 s 111 105 99 ++ [rgB M0 (s + 3) 101 101] := (by unfold wdT; rw [if_neg (by omega), if_neg (by omega), if_neg (by omega), if_neg (by omega), if_neg (by omega), if_pos (by omega)]); exact ⟨by rw [zzw, jb_f (show ¬ al (twT M0 s 111 105 99 ++ [rgB M0 (s + 3) 101 101]) = true by rw [al_ap, zzb, al_f zzn]; decide)], by rw [zzw, pf_ap, if_pos zzb, pf_f zzn, b01_f zzn, show (((twT M0 s 111 105 99).length : Int)) = 3 from twT_len _ _ _ _ _]; exact congrArg (spM M0) (by omega)⟩)
      | (have zzw : wdT M0 s c = twT M0 s 111 105 99 ++ [rgB M0 (s + 3) 101 101] := (by unfold wdT; rw [if_neg (by omega), if_neg (by omega), if_neg (by omega), if_neg (by omega), if_neg (by omega), if_pos (by omega)]); exact ⟨by rw [zzw, jb_t (show al (twT M0 s 111 105 99 ++ [rgB M0 (s + 3) 101 101]) = true by rw [al_ap, zzb, al_t zzp]; rfl)], by rw [zzw, pf_ap, if_pos zzb, pf_t zzp, b01_t zzp, show (((twT M0 s 111 105 99).length : Int)) = 3 from twT_len _ _ _ _ _]; exact congrArg (spM M0) (by show s + 3 + 1 = s + (3 + (1 + 0)); omega)⟩)
      | (have zzw : wdT M0 s c = [false] := (by unfold wdT; rw [if_neg (by omega), if_neg (by omega), if_neg (by omega), if_neg (by omega), if_neg (by omega), if_neg (by omega)]); exact ⟨by rw [zzw, jb_f (show ¬ al [false] = true by decide)], by rw [zzw]; exact congrArg (spM M0) (by show s = s + 0; omega)⟩)
  by_cases h_2 : c = 105
  · refine xj_tabIn (off := 157) (tgt := 158) F dX7_readWord_1 (by omega) (by omega) (by rw [h_2]; rfl) (by decide) (by omega) ?_
    refine xj_iconst F dX7_readWord_158 ?_
    refine x_iret F FR dX7_readWord_159 rfl (Nat.le_refl _) (Nat.le_refl _) ?_
    first
      | (have zzw : wdT M0 s c = twT M0 s 111 105 110 := (by unfold wdT; rw [if_pos (by omega)]); exact ⟨by rw [zzw], by rw [zzw]⟩)
      | (have zzw : wdT M0 s c = twT M0 s 119 97 112 := (by unfold wdT; rw [if_neg (by omega), if_pos (by omega)]); exact ⟨by rw [zzw], by rw [zzw]⟩)
      | (have zzw : wdT M0 s c = twT M0 s 117 114 110 := (by unfold wdT; rw [if_neg (by omega), if_neg (by omega), if_pos (by omega)]); exact ⟨by rw [zzw], by rw [zzw]⟩)
      | (have zzw : wdT M0 s c = twT M0 s 111 119 0 := (by unfold wdT; rw [if_neg (by omega), if_neg (by omega), if_neg (by omega), if_pos (by omega)]); exact ⟨by rw [zzw], by rw [zzw]⟩)
      | (have zzw : wdT M0 s c = twT M0 s 105 103 104 := (by unfold wdT; rw [if_neg (by omega), if_neg (by omega), if_neg (by omega), if_neg (by omega), if_pos (by omega)]); exact ⟨by rw [zzw], by rw [zzw]⟩)
      | (have zzw : wdT M0 s c = twT M0 s 111 105 99 ++ [rgB M0 (s + 3) 101 101] := (by unfold wdT; rw [if_neg (by omega), if_neg (by omega), if_neg (by omega), if_neg (by omega), if_neg (by omega), if_pos (by omega)]); exact ⟨by rw [zzw, jb_f (show ¬ al (twT M0 s 111 105 99 ++ [rgB M0 (s + 3) 101 101]) = true by rw [al_ap, Bool.eq_false_iff.mpr zza]; exact fun z => Bool.false_ne_true z)], by rw [zzw, pf_ap, if_neg zza]⟩)
      | (have zzw : wdT M0 s c = twT M0 s 111 105 99 ++ [rgB M0 (s + 3) 101 101] := (by unfold wdT; rw [if_neg (by omega), if_neg (by omega), if_neg (by omega), if_neg (by omega), if_neg (by omega), if_pos (by omega)]); exact ⟨by rw [zzw, jb_f (show ¬ al (twT M0 s 111 105 99 ++ [rgB M0 (s + 3) 101 101]) = true by rw [al_ap, zzb, al_f zzn]; decide)], by rw [zzw, pf_ap, if_pos zzb, pf_f zzn, b01_f zzn, show (((twT M0 s 111 105 99).length : Int)) = 3 from twT_len _ _ _ _ _]; exact congrArg (spM M0) (by omega)⟩)
      | (have zzw : wdT M0 s c = twT M0 s 111 105 99 ++ [rgB M0 (s + 3) 101 101] := (by unfold wdT; rw [if_neg (by omega), if_neg (by omega), if_neg (by omega), if_neg (by omega), if_neg (by omega), if_pos (by omega)]); exact ⟨by rw [zzw, jb_t (show al (twT M0 s 111 105 99 ++ [rgB M0 (s + 3) 101 101]) = true by rw [al_ap, zzb, al_t zzp]; rfl)], by rw [zzw, pf_ap, if_pos zzb, pf_t zzp, b01_t zzp, show (((twT M0 s 111 105 99).length : Int)) = 3 from twT_len _ _ _ _ _]; exact congrArg (spM M0) (by show s + 3 + 1 = s + (3 + (1 + 0)); omega)⟩)
      | (have zzw : wdT M0 s c = [false] := (by unfold wdT; rw [if_neg (by omega), if_neg (by omega), if_neg (by omega), if_neg (by omega), if_neg (by omega), if_neg (by omega)]); exact ⟨by rw [zzw, jb_f (show ¬ al [false] = true by decide)], by rw [zzw]; exact congrArg (spM M0) (by show s = s + 0; omega)⟩)
  by_cases h_3 : c = 106
  · refine xj_tabIn (off := 75) (tgt := 76) F dX7_readWord_1 (by omega) (by omega) (by rw [h_3]; rfl) (by decide) (by omega) ?_
    refine x_aload_n F dX7_readWord_76 rfl ?_
    refine xj_bipush F dX7_readWord_77 (by decide) ?_
    refine xj_bipush F dX7_readWord_79 (by decide) ?_
    refine xj_bipush F dX7_readWord_81 (by decide) ?_
    refine x_V3 F (m_X7_takesWord (M0 := M0) (s := s) hY hs (by decide) (by decide) (by decide)) mlX7_160 mvX7_takesWord rfl dX7_readWord_83 (by decide) rfl ⟨Nat.le_of_ble_eq_true rfl, Nat.le_of_ble_eq_true rfl⟩ ⟨Nat.zero_le _, Nat.zero_le _⟩ (Nat.le_of_ble_eq_true rfl) ?_
    refine x_iret F FR dX7_readWord_86 (jb_nar _) (Nat.le_refl _) (Nat.le_refl _) ?_
    first
      | (have zzw : wdT M0 s c = twT M0 s 111 105 110 := (by unfold wdT; rw [if_pos (by omega)]); exact ⟨by rw [zzw], by rw [zzw]⟩)
      | (have zzw : wdT M0 s c = twT M0 s 119 97 112 := (by unfold wdT; rw [if_neg (by omega), if_pos (by omega)]); exact ⟨by rw [zzw], by rw [zzw]⟩)
      | (have zzw : wdT M0 s c = twT M0 s 117 114 110 := (by unfold wdT; rw [if_neg (by omega), if_neg (by omega), if_pos (by omega)]); exact ⟨by rw [zzw], by rw [zzw]⟩)
      | (have zzw : wdT M0 s c = twT M0 s 111 119 0 := (by unfold wdT; rw [if_neg (by omega), if_neg (by omega), if_neg (by omega), if_pos (by omega)]); exact ⟨by rw [zzw], by rw [zzw]⟩)
      | (have zzw : wdT M0 s c = twT M0 s 105 103 104 := (by unfold wdT; rw [if_neg (by omega), if_neg (by omega), if_neg (by omega), if_neg (by omega), if_pos (by omega)]); exact ⟨by rw [zzw], by rw [zzw]⟩)
      | (have zzw : wdT M0 s c = twT M0 s 111 105 99 ++ [rgB M0 (s + 3) 101 101] := (by unfold wdT; rw [if_neg (by omega), if_neg (by omega), if_neg (by omega), if_neg (by omega), if_neg (by omega), if_pos (by omega)]); exact ⟨by rw [zzw, jb_f (show ¬ al (twT M0 s 111 105 99 ++ [rgB M0 (s + 3) 101 101]) = true by rw [al_ap, Bool.eq_false_iff.mpr zza]; exact fun z => Bool.false_ne_true z)], by rw [zzw, pf_ap, if_neg zza]⟩)
      | (have zzw : wdT M0 s c = twT M0 s 111 105 99 ++ [rgB M0 (s + 3) 101 101] := (by unfold wdT; rw [if_neg (by omega), if_neg (by omega), if_neg (by omega), if_neg (by omega), if_neg (by omega), if_pos (by omega)]); exact ⟨by rw [zzw, jb_f (show ¬ al (twT M0 s 111 105 99 ++ [rgB M0 (s + 3) 101 101]) = true by rw [al_ap, zzb, al_f zzn]; decide)], by rw [zzw, pf_ap, if_pos zzb, pf_f zzn, b01_f zzn, show (((twT M0 s 111 105 99).length : Int)) = 3 from twT_len _ _ _ _ _]; exact congrArg (spM M0) (by omega)⟩)
      | (have zzw : wdT M0 s c = twT M0 s 111 105 99 ++ [rgB M0 (s + 3) 101 101] := (by unfold wdT; rw [if_neg (by omega), if_neg (by omega), if_neg (by omega), if_neg (by omega), if_neg (by omega), if_pos (by omega)]); exact ⟨by rw [zzw, jb_t (show al (twT M0 s 111 105 99 ++ [rgB M0 (s + 3) 101 101]) = true by rw [al_ap, zzb, al_t zzp]; rfl)], by rw [zzw, pf_ap, if_pos zzb, pf_t zzp, b01_t zzp, show (((twT M0 s 111 105 99).length : Int)) = 3 from twT_len _ _ _ _ _]; exact congrArg (spM M0) (by show s + 3 + 1 = s + (3 + (1 + 0)); omega)⟩)
      | (have zzw : wdT M0 s c = [false] := (by unfold wdT; rw [if_neg (by omega), if_neg (by omega), if_neg (by omega), if_neg (by omega), if_neg (by omega), if_neg (by omega)]); exact ⟨by rw [zzw, jb_f (show ¬ al [false] = true by decide)], by rw [zzw]; exact congrArg (spM M0) (by show s = s + 0; omega)⟩)
  by_cases h_4 : c = 107
  · refine xj_tabIn (off := 157) (tgt := 158) F dX7_readWord_1 (by omega) (by omega) (by rw [h_4]; rfl) (by decide) (by omega) ?_
    refine xj_iconst F dX7_readWord_158 ?_
    refine x_iret F FR dX7_readWord_159 rfl (Nat.le_refl _) (Nat.le_refl _) ?_
    first
      | (have zzw : wdT M0 s c = twT M0 s 111 105 110 := (by unfold wdT; rw [if_pos (by omega)]); exact ⟨by rw [zzw], by rw [zzw]⟩)
      | (have zzw : wdT M0 s c = twT M0 s 119 97 112 := (by unfold wdT; rw [if_neg (by omega), if_pos (by omega)]); exact ⟨by rw [zzw], by rw [zzw]⟩)
      | (have zzw : wdT M0 s c = twT M0 s 117 114 110 := (by unfold wdT; rw [if_neg (by omega), if_neg (by omega), if_pos (by omega)]); exact ⟨by rw [zzw], by rw [zzw]⟩)
      | (have zzw : wdT M0 s c = twT M0 s 111 119 0 := (by unfold wdT; rw [if_neg (by omega), if_neg (by omega), if_neg (by omega), if_pos (by omega)]); exact ⟨by rw [zzw], by rw [zzw]⟩)
      | (have zzw : wdT M0 s c = twT M0 s 105 103 104 := (by unfold wdT; rw [if_neg (by omega), if_neg (by omega), if_neg (by omega), if_neg (by omega), if_pos (by omega)]); exact ⟨by rw [zzw], by rw [zzw]⟩)
      | (have zzw : wdT M0 s c = twT M0 s 111 105 99 ++ [rgB M0 (s + 3) 101 101] := (by unfold wdT; rw [if_neg (by omega), if_neg (by omega), if_neg (by omega), if_neg (by omega), if_neg (by omega), if_pos (by omega)]); exact ⟨by rw [zzw, jb_f (show ¬ al (twT M0 s 111 105 99 ++ [rgB M0 (s + 3) 101 101]) = true by rw [al_ap, Bool.eq_false_iff.mpr zza]; exact fun z => Bool.false_ne_true z)], by rw [zzw, pf_ap, if_neg zza]⟩)
      | (have zzw : wdT M0 s c = twT M0 s 111 105 99 ++ [rgB M0 (s + 3) 101 101] := (by unfold wdT; rw [if_neg (by omega), if_neg (by omega), if_neg (by omega), if_neg (by omega), if_neg (by omega), if_pos (by omega)]); exact ⟨by rw [zzw, jb_f (show ¬ al (twT M0 s 111 105 99 ++ [rgB M0 (s + 3) 101 101]) = true by rw [al_ap, zzb, al_f zzn]; decide)], by rw [zzw, pf_ap, if_pos zzb, pf_f zzn, b01_f zzn, show (((twT M0 s 111 105 99).length : Int)) = 3 from twT_len _ _ _ _ _]; exact congrArg (spM M0) (by omega)⟩)
      | (have zzw : wdT M0 s c = twT M0 s 111 105 99 ++ [rgB M0 (s + 3) 101 101] := (by unfold wdT; rw [if_neg (by omega), if_neg (by omega), if_neg (by omega), if_neg (by omega), if_neg (by omega), if_pos (by omega)]); exact ⟨by rw [zzw, jb_t (show al (twT M0 s 111 105 99 ++ [rgB M0 (s + 3) 101 101]) = true by rw [al_ap, zzb, al_t zzp]; rfl)], by rw [zzw, pf_ap, if_pos zzb, pf_t zzp, b01_t zzp, show (((twT M0 s 111 105 99).length : Int)) = 3 from twT_len _ _ _ _ _]; exact congrArg (spM M0) (by show s + 3 + 1 = s + (3 + (1 + 0)); omega)⟩)
      | (have zzw : wdT M0 s c = [false] := (by unfold wdT; rw [if_neg (by omega), if_neg (by omega), if_neg (by omega), if_neg (by omega), if_neg (by omega), if_neg (by omega)]); exact ⟨by rw [zzw, jb_f (show ¬ al [false] = true by decide)], by rw [zzw]; exact congrArg (spM M0) (by show s = s + 0; omega)⟩)
  by_cases h_5 : c = 108
  · refine xj_tabIn (off := 108) (tgt := 109) F dX7_readWord_1 (by omega) (by omega) (by rw [h_5]; rfl) (by decide) (by omega) ?_
    refine x_aload_n F dX7_readWord_109 rfl ?_
    refine xj_bipush F dX7_readWord_110 (by decide) ?_
    refine xj_bipush F dX7_readWord_112 (by decide) ?_
    refine xj_iconst F dX7_readWord_114 ?_
    refine x_V3 F (m_X7_takesWord (M0 := M0) (s := s) hY hs (by decide) (by decide) (by decide)) mlX7_160 mvX7_takesWord rfl dX7_readWord_115 (by decide) rfl ⟨Nat.le_of_ble_eq_true rfl, Nat.le_of_ble_eq_true rfl⟩ ⟨Nat.zero_le _, Nat.zero_le _⟩ (Nat.le_of_ble_eq_true rfl) ?_
    refine x_iret F FR dX7_readWord_118 (jb_nar _) (Nat.le_refl _) (Nat.le_refl _) ?_
    first
      | (have zzw : wdT M0 s c = twT M0 s 111 105 110 := (by unfold wdT; rw [if_pos (by omega)]); exact ⟨by rw [zzw], by rw [zzw]⟩)
      | (have zzw : wdT M0 s c = twT M0 s 119 97 112 := (by unfold wdT; rw [if_neg (by omega), if_pos (by omega)]); exact ⟨by rw [zzw], by rw [zzw]⟩)
      | (have zzw : wdT M0 s c = twT M0 s 117 114 110 := (by unfold wdT; rw [if_neg (by omega), if_neg (by omega), if_pos (by omega)]); exact ⟨by rw [zzw], by rw [zzw]⟩)
      | (have zzw : wdT M0 s c = twT M0 s 111 119 0 := (by unfold wdT; rw [if_neg (by omega), if_neg (by omega), if_neg (by omega), if_pos (by omega)]); exact ⟨by rw [zzw], by rw [zzw]⟩)
      | (have zzw : wdT M0 s c = twT M0 s 105 103 104 := (by unfold wdT; rw [if_neg (by omega), if_neg (by omega), if_neg (by omega), if_neg (by omega), if_pos (by omega)]); exact ⟨by rw [zzw], by rw [zzw]⟩)
      | (have zzw : wdT M0 s c = twT M0 s 111 105 99 ++ [rgB M0 (s + 3) 101 101] := (by unfold wdT; rw [if_neg (by omega), if_neg (by omega), if_neg (by omega), if_neg (by omega), if_neg (by omega), if_pos (by omega)]); exact ⟨by rw [zzw, jb_f (show ¬ al (twT M0 s 111 105 99 ++ [rgB M0 (s + 3) 101 101]) = true by rw [al_ap, Bool.eq_false_iff.mpr zza]; exact fun z => Bool.false_ne_true z)], by rw [zzw, pf_ap, if_neg zza]⟩)
      | (have zzw : wdT M0 s c = twT M0 s 111 105 99 ++ [rgB M0 (s + 3) 101 101] := (by unfold wdT; rw [if_neg (by omega), if_neg (by omega), if_neg (by omega), if_neg (by omega), if_neg (by omega), if_pos (by omega)]); exact ⟨by rw [zzw, jb_f (show ¬ al (twT M0 s 111 105 99 ++ [rgB M0 (s + 3) 101 101]) = true by rw [al_ap, zzb, al_f zzn]; decide)], by rw [zzw, pf_ap, if_pos zzb, pf_f zzn, b01_f zzn, show (((twT M0 s 111 105 99).length : Int)) = 3 from twT_len _ _ _ _ _]; exact congrArg (spM M0) (by omega)⟩)
      | (have zzw : wdT M0 s c = twT M0 s 111 105 99 ++ [rgB M0 (s + 3) 101 101] := (by unfold wdT; rw [if_neg (by omega), if_neg (by omega), if_neg (by omega), if_neg (by omega), if_neg (by omega), if_pos (by omega)]); exact ⟨by rw [zzw, jb_t (show al (twT M0 s 111 105 99 ++ [rgB M0 (s + 3) 101 101]) = true by rw [al_ap, zzb, al_t zzp]; rfl)], by rw [zzw, pf_ap, if_pos zzb, pf_t zzp, b01_t zzp, show (((twT M0 s 111 105 99).length : Int)) = 3 from twT_len _ _ _ _ _]; exact congrArg (spM M0) (by show s + 3 + 1 = s + (3 + (1 + 0)); omega)⟩)
      | (have zzw : wdT M0 s c = [false] := (by unfold wdT; rw [if_neg (by omega), if_neg (by omega), if_neg (by omega), if_neg (by omega), if_neg (by omega), if_neg (by omega)]); exact ⟨by rw [zzw, jb_f (show ¬ al [false] = true by decide)], by rw [zzw]; exact congrArg (spM M0) (by show s = s + 0; omega)⟩)
  by_cases h_6 : c = 109
  · refine xj_tabIn (off := 157) (tgt := 158) F dX7_readWord_1 (by omega) (by omega) (by rw [h_6]; rfl) (by decide) (by omega) ?_
    refine xj_iconst F dX7_readWord_158 ?_
    refine x_iret F FR dX7_readWord_159 rfl (Nat.le_refl _) (Nat.le_refl _) ?_
    first
      | (have zzw : wdT M0 s c = twT M0 s 111 105 110 := (by unfold wdT; rw [if_pos (by omega)]); exact ⟨by rw [zzw], by rw [zzw]⟩)
      | (have zzw : wdT M0 s c = twT M0 s 119 97 112 := (by unfold wdT; rw [if_neg (by omega), if_pos (by omega)]); exact ⟨by rw [zzw], by rw [zzw]⟩)
      | (have zzw : wdT M0 s c = twT M0 s 117 114 110 := (by unfold wdT; rw [if_neg (by omega), if_neg (by omega), if_pos (by omega)]); exact ⟨by rw [zzw], by rw [zzw]⟩)
      | (have zzw : wdT M0 s c = twT M0 s 111 119 0 := (by unfold wdT; rw [if_neg (by omega), if_neg (by omega), if_neg (by omega), if_pos (by omega)]); exact ⟨by rw [zzw], by rw [zzw]⟩)
      | (have zzw : wdT M0 s c = twT M0 s 105 103 104 := (by unfold wdT; rw [if_neg (by omega), if_neg (by omega), if_neg (by omega), if_neg (by omega), if_pos (by omega)]); exact ⟨by rw [zzw], by rw [zzw]⟩)
      | (have zzw : wdT M0 s c = twT M0 s 111 105 99 ++ [rgB M0 (s + 3) 101 101] := (by unfold wdT; rw [if_neg (by omega), if_neg (by omega), if_neg (by omega), if_neg (by omega), if_neg (by omega), if_pos (by omega)]); exact ⟨by rw [zzw, jb_f (show ¬ al (twT M0 s 111 105 99 ++ [rgB M0 (s + 3) 101 101]) = true by rw [al_ap, Bool.eq_false_iff.mpr zza]; exact fun z => Bool.false_ne_true z)], by rw [zzw, pf_ap, if_neg zza]⟩)
      | (have zzw : wdT M0 s c = twT M0 s 111 105 99 ++ [rgB M0 (s + 3) 101 101] := (by unfold wdT; rw [if_neg (by omega), if_neg (by omega), if_neg (by omega), if_neg (by omega), if_neg (by omega), if_pos (by omega)]); exact ⟨by rw [zzw, jb_f (show ¬ al (twT M0 s 111 105 99 ++ [rgB M0 (s + 3) 101 101]) = true by rw [al_ap, zzb, al_f zzn]; decide)], by rw [zzw, pf_ap, if_pos zzb, pf_f zzn, b01_f zzn, show (((twT M0 s 111 105 99).length : Int)) = 3 from twT_len _ _ _ _ _]; exact congrArg (spM M0) (by omega)⟩)
      | (have zzw : wdT M0 s c = twT M0 s 111 105 99 ++ [rgB M0 (s + 3) 101 101] := (by unfold wdT; rw [if_neg (by omega), if_neg (by omega), if_neg (by omega), if_neg (by omega), if_neg (by omega), if_pos (by omega)]); exact ⟨by rw [zzw, jb_t (show al (twT M0 s 111 105 99 ++ [rgB M0 (s + 3) 101 101]) = true by rw [al_ap, zzb, al_t zzp]; rfl)], by rw [zzw, pf_ap, if_pos zzb, pf_t zzp, b01_t zzp, show (((twT M0 s 111 105 99).length : Int)) = 3 from twT_len _ _ _ _ _]; exact congrArg (spM M0) (by show s + 3 + 1 = s + (3 + (1 + 0)); omega)⟩)
      | (have zzw : wdT M0 s c = [false] := (by unfold wdT; rw [if_neg (by omega), if_neg (by omega), if_neg (by omega), if_neg (by omega), if_neg (by omega), if_neg (by omega)]); exact ⟨by rw [zzw, jb_f (show ¬ al [false] = true by decide)], by rw [zzw]; exact congrArg (spM M0) (by show s = s + 0; omega)⟩)
  by_cases h_7 : c = 110
  · refine xj_tabIn (off := 157) (tgt := 158) F dX7_readWord_1 (by omega) (by omega) (by rw [h_7]; rfl) (by decide) (by omega) ?_
    refine xj_iconst F dX7_readWord_158 ?_
    refine x_iret F FR dX7_readWord_159 rfl (Nat.le_refl _) (Nat.le_refl _) ?_
    first
      | (have zzw : wdT M0 s c = twT M0 s 111 105 110 := (by unfold wdT; rw [if_pos (by omega)]); exact ⟨by rw [zzw], by rw [zzw]⟩)
      | (have zzw : wdT M0 s c = twT M0 s 119 97 112 := (by unfold wdT; rw [if_neg (by omega), if_pos (by omega)]); exact ⟨by rw [zzw], by rw [zzw]⟩)
      | (have zzw : wdT M0 s c = twT M0 s 117 114 110 := (by unfold wdT; rw [if_neg (by omega), if_neg (by omega), if_pos (by omega)]); exact ⟨by rw [zzw], by rw [zzw]⟩)
      | (have zzw : wdT M0 s c = twT M0 s 111 119 0 := (by unfold wdT; rw [if_neg (by omega), if_neg (by omega), if_neg (by omega), if_pos (by omega)]); exact ⟨by rw [zzw], by rw [zzw]⟩)
      | (have zzw : wdT M0 s c = twT M0 s 105 103 104 := (by unfold wdT; rw [if_neg (by omega), if_neg (by omega), if_neg (by omega), if_neg (by omega), if_pos (by omega)]); exact ⟨by rw [zzw], by rw [zzw]⟩)
      | (have zzw : wdT M0 s c = twT M0 s 111 105 99 ++ [rgB M0 (s + 3) 101 101] := (by unfold wdT; rw [if_neg (by omega), if_neg (by omega), if_neg (by omega), if_neg (by omega), if_neg (by omega), if_pos (by omega)]); exact ⟨by rw [zzw, jb_f (show ¬ al (twT M0 s 111 105 99 ++ [rgB M0 (s + 3) 101 101]) = true by rw [al_ap, Bool.eq_false_iff.mpr zza]; exact fun z => Bool.false_ne_true z)], by rw [zzw, pf_ap, if_neg zza]⟩)
      | (have zzw : wdT M0 s c = twT M0 s 111 105 99 ++ [rgB M0 (s + 3) 101 101] := (by unfold wdT; rw [if_neg (by omega), if_neg (by omega), if_neg (by omega), if_neg (by omega), if_neg (by omega), if_pos (by omega)]); exact ⟨by rw [zzw, jb_f (show ¬ al (twT M0 s 111 105 99 ++ [rgB M0 (s + 3) 101 101]) = true by rw [al_ap, zzb, al_f zzn]; decide)], by rw [zzw, pf_ap, if_pos zzb, pf_f zzn, b01_f zzn, show (((twT M0 s 111 105 99).length : Int)) = 3 from twT_len _ _ _ _ _]; exact congrArg (spM M0) (by omega)⟩)
      | (have zzw : wdT M0 s c = twT M0 s 111 105 99 ++ [rgB M0 (s + 3) 101 101] := (by unfold wdT; rw [if_neg (by omega), if_neg (by omega), if_neg (by omega), if_neg (by omega), if_neg (by omega), if_pos (by omega)]); exact ⟨by rw [zzw, jb_t (show al (twT M0 s 111 105 99 ++ [rgB M0 (s + 3) 101 101]) = true by rw [al_ap, zzb, al_t zzp]; rfl)], by rw [zzw, pf_ap, if_pos zzb, pf_t zzp, b01_t zzp, show (((twT M0 s 111 105 99).length : Int)) = 3 from twT_len _ _ _ _ _]; exact congrArg (spM M0) (by show s + 3 + 1 = s + (3 + (1 + 0)); omega)⟩)
      | (have zzw : wdT M0 s c = [false] := (by unfold wdT; rw [if_neg (by omega), if_neg (by omega), if_neg (by omega), if_neg (by omega), if_neg (by omega), if_neg (by omega)]); exact ⟨by rw [zzw, jb_f (show ¬ al [false] = true by decide)], by rw [zzw]; exact congrArg (spM M0) (by show s = s + 0; omega)⟩)
  by_cases h_8 : c = 111
  · refine xj_tabIn (off := 157) (tgt := 158) F dX7_readWord_1 (by omega) (by omega) (by rw [h_8]; rfl) (by decide) (by omega) ?_
    refine xj_iconst F dX7_readWord_158 ?_
    refine x_iret F FR dX7_readWord_159 rfl (Nat.le_refl _) (Nat.le_refl _) ?_
    first
      | (have zzw : wdT M0 s c = twT M0 s 111 105 110 := (by unfold wdT; rw [if_pos (by omega)]); exact ⟨by rw [zzw], by rw [zzw]⟩)
      | (have zzw : wdT M0 s c = twT M0 s 119 97 112 := (by unfold wdT; rw [if_neg (by omega), if_pos (by omega)]); exact ⟨by rw [zzw], by rw [zzw]⟩)
      | (have zzw : wdT M0 s c = twT M0 s 117 114 110 := (by unfold wdT; rw [if_neg (by omega), if_neg (by omega), if_pos (by omega)]); exact ⟨by rw [zzw], by rw [zzw]⟩)
      | (have zzw : wdT M0 s c = twT M0 s 111 119 0 := (by unfold wdT; rw [if_neg (by omega), if_neg (by omega), if_neg (by omega), if_pos (by omega)]); exact ⟨by rw [zzw], by rw [zzw]⟩)
      | (have zzw : wdT M0 s c = twT M0 s 105 103 104 := (by unfold wdT; rw [if_neg (by omega), if_neg (by omega), if_neg (by omega), if_neg (by omega), if_pos (by omega)]); exact ⟨by rw [zzw], by rw [zzw]⟩)
      | (have zzw : wdT M0 s c = twT M0 s 111 105 99 ++ [rgB M0 (s + 3) 101 101] := (by unfold wdT; rw [if_neg (by omega), if_neg (by omega), if_neg (by omega), if_neg (by omega), if_neg (by omega), if_pos (by omega)]); exact ⟨by rw [zzw, jb_f (show ¬ al (twT M0 s 111 105 99 ++ [rgB M0 (s + 3) 101 101]) = true by rw [al_ap, Bool.eq_false_iff.mpr zza]; exact fun z => Bool.false_ne_true z)], by rw [zzw, pf_ap, if_neg zza]⟩)
      | (have zzw : wdT M0 s c = twT M0 s 111 105 99 ++ [rgB M0 (s + 3) 101 101] := (by unfold wdT; rw [if_neg (by omega), if_neg (by omega), if_neg (by omega), if_neg (by omega), if_neg (by omega), if_pos (by omega)]); exact ⟨by rw [zzw, jb_f (show ¬ al (twT M0 s 111 105 99 ++ [rgB M0 (s + 3) 101 101]) = true by rw [al_ap, zzb, al_f zzn]; decide)], by rw [zzw, pf_ap, if_pos zzb, pf_f zzn, b01_f zzn, show (((twT M0 s 111 105 99).length : Int)) = 3 from twT_len _ _ _ _ _]; exact congrArg (spM M0) (by omega)⟩)
      | (have zzw : wdT M0 s c = twT M0 s 111 105 99 ++ [rgB M0 (s + 3) 101 101] := (by unfold wdT; rw [if_neg (by omega), if_neg (by omega), if_neg (by omega), if_neg (by omega), if_neg (by omega), if_pos (by omega)]); exact ⟨by rw [zzw, jb_t (show al (twT M0 s 111 105 99 ++ [rgB M0 (s + 3) 101 101]) = true by rw [al_ap, zzb, al_t zzp]; rfl)], by rw [zzw, pf_ap, if_pos zzb, pf_t zzp, b01_t zzp, show (((twT M0 s 111 105 99).length : Int)) = 3 from twT_len _ _ _ _ _]; exact congrArg (spM M0) (by show s + 3 + 1 = s + (3 + (1 + 0)); omega)⟩)
      | (have zzw : wdT M0 s c = [false] := (by unfold wdT; rw [if_neg (by omega), if_neg (by omega), if_neg (by omega), if_neg (by omega), if_neg (by omega), if_neg (by omega)]); exact ⟨by rw [zzw, jb_f (show ¬ al [false] = true by decide)], by rw [zzw]; exact congrArg (spM M0) (by show s = s + 0; omega)⟩)
  by_cases h_9 : c = 112
  · refine xj_tabIn (off := 157) (tgt := 158) F dX7_readWord_1 (by omega) (by omega) (by rw [h_9]; rfl) (by decide) (by omega) ?_
    refine xj_iconst F dX7_readWord_158 ?_
    refine x_iret F FR dX7_readWord_159 rfl (Nat.le_refl _) (Nat.le_refl _) ?_
    first
      | (have zzw : wdT M0 s c = twT M0 s 111 105 110 := (by unfold wdT; rw [if_pos (by omega)]); exact ⟨by rw [zzw], by rw [zzw]⟩)
      | (have zzw : wdT M0 s c = twT M0 s 119 97 112 := (by unfold wdT; rw [if_neg (by omega), if_pos (by omega)]); exact ⟨by rw [zzw], by rw [zzw]⟩)
      | (have zzw : wdT M0 s c = twT M0 s 117 114 110 := (by unfold wdT; rw [if_neg (by omega), if_neg (by omega), if_pos (by omega)]); exact ⟨by rw [zzw], by rw [zzw]⟩)
      | (have zzw : wdT M0 s c = twT M0 s 111 119 0 := (by unfold wdT; rw [if_neg (by omega), if_neg (by omega), if_neg (by omega), if_pos (by omega)]); exact ⟨by rw [zzw], by rw [zzw]⟩)
      | (have zzw : wdT M0 s c = twT M0 s 105 103 104 := (by unfold wdT; rw [if_neg (by omega), if_neg (by omega), if_neg (by omega), if_neg (by omega), if_pos (by omega)]); exact ⟨by rw [zzw], by rw [zzw]⟩)
      | (have zzw : wdT M0 s c = twT M0 s 111 105 99 ++ [rgB M0 (s + 3) 101 101] := (by unfold wdT; rw [if_neg (by omega), if_neg (by omega), if_neg (by omega), if_neg (by omega), if_neg (by omega), if_pos (by omega)]); exact ⟨by rw [zzw, jb_f (show ¬ al (twT M0 s 111 105 99 ++ [rgB M0 (s + 3) 101 101]) = true by rw [al_ap, Bool.eq_false_iff.mpr zza]; exact fun z => Bool.false_ne_true z)], by rw [zzw, pf_ap, if_neg zza]⟩)
      | (have zzw : wdT M0 s c = twT M0 s 111 105 99 ++ [rgB M0 (s + 3) 101 101] := (by unfold wdT; rw [if_neg (by omega), if_neg (by omega), if_neg (by omega), if_neg (by omega), if_neg (by omega), if_pos (by omega)]); exact ⟨by rw [zzw, jb_f (show ¬ al (twT M0 s 111 105 99 ++ [rgB M0 (s + 3) 101 101]) = true by rw [al_ap, zzb, al_f zzn]; decide)], by rw [zzw, pf_ap, if_pos zzb, pf_f zzn, b01_f zzn, show (((twT M0 s 111 105 99).length : Int)) = 3 from twT_len _ _ _ _ _]; exact congrArg (spM M0) (by omega)⟩)
      | (have zzw : wdT M0 s c = twT M0 s 111 105 99 ++ [rgB M0 (s + 3) 101 101] := (by unfold wdT; rw [if_neg (by omega), if_neg (by omega), if_neg (by omega), if_neg (by omega), if_neg (by omega), if_pos (by omega)]); exact ⟨by rw [zzw, jb_t (show al (twT M0 s 111 105 99 ++ [rgB M0 (s + 3) 101 101]) = true by rw [al_ap, zzb, al_t zzp]; rfl)], by rw [zzw, pf_ap, if_pos zzb, pf_t zzp, b01_t zzp, show (((twT M0 s 111 105 99).length : Int)) = 3 from twT_len _ _ _ _ _]; exact congrArg (spM M0) (by show s + 3 + 1 = s + (3 + (1 + 0)); omega)⟩)
      | (have zzw : wdT M0 s c = [false] := (by unfold wdT; rw [if_neg (by omega), if_neg (by omega), if_neg (by omega), if_neg (by omega), if_neg (by omega), if_neg (by omega)]); exact ⟨by rw [zzw, jb_f (show ¬ al [false] = true by decide)], by rw [zzw]; exact congrArg (spM M0) (by show s = s + 0; omega)⟩)
  by_cases h_10 : c = 113
  · refine xj_tabIn (off := 157) (tgt := 158) F dX7_readWord_1 (by omega) (by omega) (by rw [h_10]; rfl) (by decide) (by omega) ?_
    refine xj_iconst F dX7_readWord_158 ?_
    refine x_iret F FR dX7_readWord_159 rfl (Nat.le_refl _) (Nat.le_refl _) ?_
    first
      | (have zzw : wdT M0 s c = twT M0 s 111 105 110 := (by unfold wdT; rw [if_pos (by omega)]); exact ⟨by rw [zzw], by rw [zzw]⟩)
      | (have zzw : wdT M0 s c = twT M0 s 119 97 112 := (by unfold wdT; rw [if_neg (by omega), if_pos (by omega)]); exact ⟨by rw [zzw], by rw [zzw]⟩)
      | (have zzw : wdT M0 s c = twT M0 s 117 114 110 := (by unfold wdT; rw [if_neg (by omega), if_neg (by omega), if_pos (by omega)]); exact ⟨by rw [zzw], by rw [zzw]⟩)
      | (have zzw : wdT M0 s c = twT M0 s 111 119 0 := (by unfold wdT; rw [if_neg (by omega), if_neg (by omega), if_neg (by omega), if_pos (by omega)]); exact ⟨by rw [zzw], by rw [zzw]⟩)
      | (have zzw : wdT M0 s c = twT M0 s 105 103 104 := (by unfold wdT; rw [if_neg (by omega), if_neg (by omega), if_neg (by omega), if_neg (by omega), if_pos (by omega)]); exact ⟨by rw [zzw], by rw [zzw]⟩)
      | (have zzw : wdT M0 s c = twT M0 s 111 105 99 ++ [rgB M0 (s + 3) 101 101] := (by unfold wdT; rw [if_neg (by omega), if_neg (by omega), if_neg (by omega), if_neg (by omega), if_neg (by omega), if_pos (by omega)]); exact ⟨by rw [zzw, jb_f (show ¬ al (twT M0 s 111 105 99 ++ [rgB M0 (s + 3) 101 101]) = true by rw [al_ap, Bool.eq_false_iff.mpr zza]; exact fun z => Bool.false_ne_true z)], by rw [zzw, pf_ap, if_neg zza]⟩)
      | (have zzw : wdT M0 s c = twT M0 s 111 105 99 ++ [rgB M0 (s + 3) 101 101] := (by unfold wdT; rw [if_neg (by omega), if_neg (by omega), if_neg (by omega), if_neg (by omega), if_neg (by omega), if_pos (by omega)]); exact ⟨by rw [zzw, jb_f (show ¬ al (twT M0 s 111 105 99 ++ [rgB M0 (s + 3) 101 101]) = true by rw [al_ap, zzb, al_f zzn]; decide)], by rw [zzw, pf_ap, if_pos zzb, pf_f zzn, b01_f zzn, show (((twT M0 s 111 105 99).length : Int)) = 3 from twT_len _ _ _ _ _]; exact congrArg (spM M0) (by omega)⟩)
      | (have zzw : wdT M0 s c = twT M0 s 111 105 99 ++ [rgB M0 (s + 3) 101 101] := (by unfold wdT; rw [if_neg (by omega), if_neg (by omega), if_neg (by omega), if_neg (by omega), if_neg (by omega), if_pos (by omega)]); exact ⟨by rw [zzw, jb_t (show al (twT M0 s 111 105 99 ++ [rgB M0 (s + 3) 101 101]) = true by rw [al_ap, zzb, al_t zzp]; rfl)], by rw [zzw, pf_ap, if_pos zzb, pf_t zzp, b01_t zzp, show (((twT M0 s 111 105 99).length : Int)) = 3 from twT_len _ _ _ _ _]; exact congrArg (spM M0) (by show s + 3 + 1 = s + (3 + (1 + 0)); omega)⟩)
      | (have zzw : wdT M0 s c = [false] := (by unfold wdT; rw [if_neg (by omega), if_neg (by omega), if_neg (by omega), if_neg (by omega), if_neg (by omega), if_neg (by omega)]); exact ⟨by rw [zzw, jb_f (show ¬ al [false] = true by decide)], by rw [zzw]; exact congrArg (spM M0) (by show s = s + 0; omega)⟩)
  by_cases h_11 : c = 114
  · refine xj_tabIn (off := 157) (tgt := 158) F dX7_readWord_1 (by omega) (by omega) (by rw [h_11]; rfl) (by decide) (by omega) ?_
    refine xj_iconst F dX7_readWord_158 ?_
    refine x_iret F FR dX7_readWord_159 rfl (Nat.le_refl _) (Nat.le_refl _) ?_
    first
      | (have zzw : wdT M0 s c = twT M0 s 111 105 110 := (by unfold wdT; rw [if_pos (by omega)]); exact ⟨by rw [zzw], by rw [zzw]⟩)
      | (have zzw : wdT M0 s c = twT M0 s 119 97 112 := (by unfold wdT; rw [if_neg (by omega), if_pos (by omega)]); exact ⟨by rw [zzw], by rw [zzw]⟩)
      | (have zzw : wdT M0 s c = twT M0 s 117 114 110 := (by unfold wdT; rw [if_neg (by omega), if_neg (by omega), if_pos (by omega)]); exact ⟨by rw [zzw], by rw [zzw]⟩)
      | (have zzw : wdT M0 s c = twT M0 s 111 119 0 := (by unfold wdT; rw [if_neg (by omega), if_neg (by omega), if_neg (by omega), if_pos (by omega)]); exact ⟨by rw [zzw], by rw [zzw]⟩)
      | (have zzw : wdT M0 s c = twT M0 s 105 103 104 := (by unfold wdT; rw [if_neg (by omega), if_neg (by omega), if_neg (by omega), if_neg (by omega), if_pos (by omega)]); exact ⟨by rw [zzw], by rw [zzw]⟩)
      | (have zzw : wdT M0 s c = twT M0 s 111 105 99 ++ [rgB M0 (s + 3) 101 101] := (by unfold wdT; rw [if_neg (by omega), if_neg (by omega), if_neg (by omega), if_neg (by omega), if_neg (by omega), if_pos (by omega)]); exact ⟨by rw [zzw, jb_f (show ¬ al (twT M0 s 111 105 99 ++ [rgB M0 (s + 3) 101 101]) = true by rw [al_ap, Bool.eq_false_iff.mpr zza]; exact fun z => Bool.false_ne_true z)], by rw [zzw, pf_ap, if_neg zza]⟩)
      | (have zzw : wdT M0 s c = twT M0 s 111 105 99 ++ [rgB M0 (s + 3) 101 101] := (by unfold wdT; rw [if_neg (by omega), if_neg (by omega), if_neg (by omega), if_neg (by omega), if_neg (by omega), if_pos (by omega)]); exact ⟨by rw [zzw, jb_f (show ¬ al (twT M0 s 111 105 99 ++ [rgB M0 (s + 3) 101 101]) = true by rw [al_ap, zzb, al_f zzn]; decide)], by rw [zzw, pf_ap, if_pos zzb, pf_f zzn, b01_f zzn, show (((twT M0 s 111 105 99).length : Int)) = 3 from twT_len _ _ _ _ _]; exact congrArg (spM M0) (by omega)⟩)
      | (have zzw : wdT M0 s c = twT M0 s 111 105 99 ++ [rgB M0 (s + 3) 101 101] := (by unfold wdT; rw [if_neg (by omega), if_neg (by omega), if_neg (by omega), if_neg (by omega), if_neg (by omega), if_pos (by omega)]); exact ⟨by rw [zzw, jb_t (show al (twT M0 s 111 105 99 ++ [rgB M0 (s + 3) 101 101]) = true by rw [al_ap, zzb, al_t zzp]; rfl)], by rw [zzw, pf_ap, if_pos zzb, pf_t zzp, b01_t zzp, show (((twT M0 s 111 105 99).length : Int)) = 3 from twT_len _ _ _ _ _]; exact congrArg (spM M0) (by show s + 3 + 1 = s + (3 + (1 + 0)); omega)⟩)
      | (have zzw : wdT M0 s c = [false] := (by unfold wdT; rw [if_neg (by omega), if_neg (by omega), if_neg (by omega), if_neg (by omega), if_neg (by omega), if_neg (by omega)]); exact ⟨by rw [zzw, jb_f (show ¬ al [false] = true by decide)], by rw [zzw]; exact congrArg (spM M0) (by show s = s + 0; omega)⟩)
  by_cases h_12 : c = 115
  · refine xj_tabIn (off := 86) (tgt := 87) F dX7_readWord_1 (by omega) (by omega) (by rw [h_12]; rfl) (by decide) (by omega) ?_
    refine x_aload_n F dX7_readWord_87 rfl ?_
    refine xj_bipush F dX7_readWord_88 (by decide) ?_
    refine xj_bipush F dX7_readWord_90 (by decide) ?_
    refine xj_bipush F dX7_readWord_92 (by decide) ?_
    refine x_V3 F (m_X7_takesWord (M0 := M0) (s := s) hY hs (by decide) (by decide) (by decide)) mlX7_160 mvX7_takesWord rfl dX7_readWord_94 (by decide) rfl ⟨Nat.le_of_ble_eq_true rfl, Nat.le_of_ble_eq_true rfl⟩ ⟨Nat.zero_le _, Nat.zero_le _⟩ (Nat.le_of_ble_eq_true rfl) ?_
    refine x_iret F FR dX7_readWord_97 (jb_nar _) (Nat.le_refl _) (Nat.le_refl _) ?_
    first
      | (have zzw : wdT M0 s c = twT M0 s 111 105 110 := (by unfold wdT; rw [if_pos (by omega)]); exact ⟨by rw [zzw], by rw [zzw]⟩)
      | (have zzw : wdT M0 s c = twT M0 s 119 97 112 := (by unfold wdT; rw [if_neg (by omega), if_pos (by omega)]); exact ⟨by rw [zzw], by rw [zzw]⟩)
      | (have zzw : wdT M0 s c = twT M0 s 117 114 110 := (by unfold wdT; rw [if_neg (by omega), if_neg (by omega), if_pos (by omega)]); exact ⟨by rw [zzw], by rw [zzw]⟩)
      | (have zzw : wdT M0 s c = twT M0 s 111 119 0 := (by unfold wdT; rw [if_neg (by omega), if_neg (by omega), if_neg (by omega), if_pos (by omega)]); exact ⟨by rw [zzw], by rw [zzw]⟩)
      | (have zzw : wdT M0 s c = twT M0 s 105 103 104 := (by unfold wdT; rw [if_neg (by omega), if_neg (by omega), if_neg (by omega), if_neg (by omega), if_pos (by omega)]); exact ⟨by rw [zzw], by rw [zzw]⟩)
      | (have zzw : wdT M0 s c = twT M0 s 111 105 99 ++ [rgB M0 (s + 3) 101 101] := (by unfold wdT; rw [if_neg (by omega), if_neg (by omega), if_neg (by omega), if_neg (by omega), if_neg (by omega), if_pos (by omega)]); exact ⟨by rw [zzw, jb_f (show ¬ al (twT M0 s 111 105 99 ++ [rgB M0 (s + 3) 101 101]) = true by rw [al_ap, Bool.eq_false_iff.mpr zza]; exact fun z => Bool.false_ne_true z)], by rw [zzw, pf_ap, if_neg zza]⟩)
      | (have zzw : wdT M0 s c = twT M0 s 111 105 99 ++ [rgB M0 (s + 3) 101 101] := (by unfold wdT; rw [if_neg (by omega), if_neg (by omega), if_neg (by omega), if_neg (by omega), if_neg (by omega), if_pos (by omega)]); exact ⟨by rw [zzw, jb_f (show ¬ al (twT M0 s 111 105 99 ++ [rgB M0 (s + 3) 101 101]) = true by rw [al_ap, zzb, al_f zzn]; decide)], by rw [zzw, pf_ap, if_pos zzb, pf_f zzn, b01_f zzn, show (((twT M0 s 111 105 99).length : Int)) = 3 from twT_len _ _ _ _ _]; exact congrArg (spM M0) (by omega)⟩)
      | (have zzw : wdT M0 s c = twT M0 s 111 105 99 ++ [rgB M0 (s + 3) 101 101] := (by unfold wdT; rw [if_neg (by omega), if_neg (by omega), if_neg (by omega), if_neg (by omega), if_neg (by omega), if_pos (by omega)]); exact ⟨by rw [zzw, jb_t (show al (twT M0 s 111 105 99 ++ [rgB M0 (s + 3) 101 101]) = true by rw [al_ap, zzb, al_t zzp]; rfl)], by rw [zzw, pf_ap, if_pos zzb, pf_t zzp, b01_t zzp, show (((twT M0 s 111 105 99).length : Int)) = 3 from twT_len _ _ _ _ _]; exact congrArg (spM M0) (by show s + 3 + 1 = s + (3 + (1 + 0)); omega)⟩)
      | (have zzw : wdT M0 s c = [false] := (by unfold wdT; rw [if_neg (by omega), if_neg (by omega), if_neg (by omega), if_neg (by omega), if_neg (by omega), if_neg (by omega)]); exact ⟨by rw [zzw, jb_f (show ¬ al [false] = true by decide)], by rw [zzw]; exact congrArg (spM M0) (by show s = s + 0; omega)⟩)
  by_cases h_13 : c = 116
  · refine xj_tabIn (off := 97) (tgt := 98) F dX7_readWord_1 (by omega) (by omega) (by rw [h_13]; rfl) (by decide) (by omega) ?_
    refine x_aload_n F dX7_readWord_98 rfl ?_
    refine xj_bipush F dX7_readWord_99 (by decide) ?_
    refine xj_bipush F dX7_readWord_101 (by decide) ?_
    refine xj_bipush F dX7_readWord_103 (by decide) ?_
    refine x_V3 F (m_X7_takesWord (M0 := M0) (s := s) hY hs (by decide) (by decide) (by decide)) mlX7_160 mvX7_takesWord rfl dX7_readWord_105 (by decide) rfl ⟨Nat.le_of_ble_eq_true rfl, Nat.le_of_ble_eq_true rfl⟩ ⟨Nat.zero_le _, Nat.zero_le _⟩ (Nat.le_of_ble_eq_true rfl) ?_
    refine x_iret F FR dX7_readWord_108 (jb_nar _) (Nat.le_refl _) (Nat.le_refl _) ?_
    first
      | (have zzw : wdT M0 s c = twT M0 s 111 105 110 := (by unfold wdT; rw [if_pos (by omega)]); exact ⟨by rw [zzw], by rw [zzw]⟩)
      | (have zzw : wdT M0 s c = twT M0 s 119 97 112 := (by unfold wdT; rw [if_neg (by omega), if_pos (by omega)]); exact ⟨by rw [zzw], by rw [zzw]⟩)
      | (have zzw : wdT M0 s c = twT M0 s 117 114 110 := (by unfold wdT; rw [if_neg (by omega), if_neg (by omega), if_pos (by omega)]); exact ⟨by rw [zzw], by rw [zzw]⟩)
      | (have zzw : wdT M0 s c = twT M0 s 111 119 0 := (by unfold wdT; rw [if_neg (by omega), if_neg (by omega), if_neg (by omega), if_pos (by omega)]); exact ⟨by rw [zzw], by rw [zzw]⟩)
      | (have zzw : wdT M0 s c = twT M0 s 105 103 104 := (by unfold wdT; rw [if_neg (by omega), if_neg (by omega), if_neg (by omega), if_neg (by omega), if_pos (by omega)]); exact ⟨by rw [zzw], by rw [zzw]⟩)
      | (have zzw : wdT M0 s c = twT M0 s 111 105 99 ++ [rgB M0 (s + 3) 101 101] := (by unfold wdT; rw [if_neg (by omega), if_neg (by omega), if_neg (by omega), if_neg (by omega), if_neg (by omega), if_pos (by omega)]); exact ⟨by rw [zzw, jb_f (show ¬ al (twT M0 s 111 105 99 ++ [rgB M0 (s + 3) 101 101]) = true by rw [al_ap, Bool.eq_false_iff.mpr zza]; exact fun z => Bool.false_ne_true z)], by rw [zzw, pf_ap, if_neg zza]⟩)
      | (have zzw : wdT M0 s c = twT M0 s 111 105 99 ++ [rgB M0 (s + 3) 101 101] := (by unfold wdT; rw [if_neg (by omega), if_neg (by omega), if_neg (by omega), if_neg (by omega), if_neg (by omega), if_pos (by omega)]); exact ⟨by rw [zzw, jb_f (show ¬ al (twT M0 s 111 105 99 ++ [rgB M0 (s + 3) 101 101]) = true by rw [al_ap, zzb, al_f zzn]; decide)], by rw [zzw, pf_ap, if_pos zzb, pf_f zzn, b01_f zzn, show (((twT M0 s 111 105 99).length : Int)) = 3 from twT_len _ _ _ _ _]; exact congrArg (spM M0) (by omega)⟩)
      | (have zzw : wdT M0 s c = twT M0 s 111 105 99 ++ [rgB M0 (s + 3) 101 101] := (by unfold wdT; rw [if_neg (by omega), if_neg (by omega), if_neg (by omega), if_neg (by omega), if_neg (by omega), if_pos (by omega)]); exact ⟨by rw [zzw, jb_t (show al (twT M0 s 111 105 99 ++ [rgB M0 (s + 3) 101 101]) = true by rw [al_ap, zzb, al_t zzp]; rfl)], by rw [zzw, pf_ap, if_pos zzb, pf_t zzp, b01_t zzp, show (((twT M0 s 111 105 99).length : Int)) = 3 from twT_len _ _ _ _ _]; exact congrArg (spM M0) (by show s + 3 + 1 = s + (3 + (1 + 0)); omega)⟩)
      | (have zzw : wdT M0 s c = [false] := (by unfold wdT; rw [if_neg (by omega), if_neg (by omega), if_neg (by omega), if_neg (by omega), if_neg (by omega), if_neg (by omega)]); exact ⟨by rw [zzw, jb_f (show ¬ al [false] = true by decide)], by rw [zzw]; exact congrArg (spM M0) (by show s = s + 0; omega)⟩)
  by_cases h_14 : c = 117
  · refine xj_tabIn (off := 157) (tgt := 158) F dX7_readWord_1 (by omega) (by omega) (by rw [h_14]; rfl) (by decide) (by omega) ?_
    refine xj_iconst F dX7_readWord_158 ?_
    refine x_iret F FR dX7_readWord_159 rfl (Nat.le_refl _) (Nat.le_refl _) ?_
    first
      | (have zzw : wdT M0 s c = twT M0 s 111 105 110 := (by unfold wdT; rw [if_pos (by omega)]); exact ⟨by rw [zzw], by rw [zzw]⟩)
      | (have zzw : wdT M0 s c = twT M0 s 119 97 112 := (by unfold wdT; rw [if_neg (by omega), if_pos (by omega)]); exact ⟨by rw [zzw], by rw [zzw]⟩)
      | (have zzw : wdT M0 s c = twT M0 s 117 114 110 := (by unfold wdT; rw [if_neg (by omega), if_neg (by omega), if_pos (by omega)]); exact ⟨by rw [zzw], by rw [zzw]⟩)
      | (have zzw : wdT M0 s c = twT M0 s 111 119 0 := (by unfold wdT; rw [if_neg (by omega), if_neg (by omega), if_neg (by omega), if_pos (by omega)]); exact ⟨by rw [zzw], by rw [zzw]⟩)
      | (have zzw : wdT M0 s c = twT M0 s 105 103 104 := (by unfold wdT; rw [if_neg (by omega), if_neg (by omega), if_neg (by omega), if_neg (by omega), if_pos (by omega)]); exact ⟨by rw [zzw], by rw [zzw]⟩)
      | (have zzw : wdT M0 s c = twT M0 s 111 105 99 ++ [rgB M0 (s + 3) 101 101] := (by unfold wdT; rw [if_neg (by omega), if_neg (by omega), if_neg (by omega), if_neg (by omega), if_neg (by omega), if_pos (by omega)]); exact ⟨by rw [zzw, jb_f (show ¬ al (twT M0 s 111 105 99 ++ [rgB M0 (s + 3) 101 101]) = true by rw [al_ap, Bool.eq_false_iff.mpr zza]; exact fun z => Bool.false_ne_true z)], by rw [zzw, pf_ap, if_neg zza]⟩)
      | (have zzw : wdT M0 s c = twT M0 s 111 105 99 ++ [rgB M0 (s + 3) 101 101] := (by unfold wdT; rw [if_neg (by omega), if_neg (by omega), if_neg (by omega), if_neg (by omega), if_neg (by omega), if_pos (by omega)]); exact ⟨by rw [zzw, jb_f (show ¬ al (twT M0 s 111 105 99 ++ [rgB M0 (s + 3) 101 101]) = true by rw [al_ap, zzb, al_f zzn]; decide)], by rw [zzw, pf_ap, if_pos zzb, pf_f zzn, b01_f zzn, show (((twT M0 s 111 105 99).length : Int)) = 3 from twT_len _ _ _ _ _]; exact congrArg (spM M0) (by omega)⟩)
      | (have zzw : wdT M0 s c = twT M0 s 111 105 99 ++ [rgB M0 (s + 3) 101 101] := (by unfold wdT; rw [if_neg (by omega), if_neg (by omega), if_neg (by omega), if_neg (by omega), if_neg (by omega), if_pos (by omega)]); exact ⟨by rw [zzw, jb_t (show al (twT M0 s 111 105 99 ++ [rgB M0 (s + 3) 101 101]) = true by rw [al_ap, zzb, al_t zzp]; rfl)], by rw [zzw, pf_ap, if_pos zzb, pf_t zzp, b01_t zzp, show (((twT M0 s 111 105 99).length : Int)) = 3 from twT_len _ _ _ _ _]; exact congrArg (spM M0) (by show s + 3 + 1 = s + (3 + (1 + 0)); omega)⟩)
      | (have zzw : wdT M0 s c = [false] := (by unfold wdT; rw [if_neg (by omega), if_neg (by omega), if_neg (by omega), if_neg (by omega), if_neg (by omega), if_neg (by omega)]); exact ⟨by rw [zzw, jb_f (show ¬ al [false] = true by decide)], by rw [zzw]; exact congrArg (spM M0) (by show s = s + 0; omega)⟩)
  by_cases h_15 : c = 118
  · refine xj_tabIn (off := 129) (tgt := 130) F dX7_readWord_1 (by omega) (by omega) (by rw [h_15]; rfl) (by decide) (by omega) ?_
    refine x_aload_n F dX7_readWord_130 rfl ?_
    refine xj_bipush F dX7_readWord_131 (by decide) ?_
    refine xj_bipush F dX7_readWord_133 (by decide) ?_
    refine xj_bipush F dX7_readWord_135 (by decide) ?_
    refine x_V3 F (m_X7_takesWord (M0 := M0) (s := s) hY hs (by decide) (by decide) (by decide)) mlX7_160 mvX7_takesWord rfl dX7_readWord_137 (by decide) rfl ⟨Nat.le_of_ble_eq_true rfl, Nat.le_of_ble_eq_true rfl⟩ ⟨Nat.zero_le _, Nat.zero_le _⟩ (Nat.le_of_ble_eq_true rfl) ?_
    refine xb_if_eq (tgt := 156) F dX7_readWord_140 (by decide) (fun h_16 => ?_) (fun h_16 => ?_)
    · have zza := h_16
      refine xj_iconst F dX7_readWord_156 ?_
      refine x_iret F FR dX7_readWord_157 rfl (Nat.le_refl _) (Nat.le_refl _) ?_
      first
        | (have zzw : wdT M0 s c = twT M0 s 111 105 110 := (by unfold wdT; rw [if_pos (by omega)]); exact ⟨by rw [zzw], by rw [zzw]⟩)
        | (have zzw : wdT M0 s c = twT M0 s 119 97 112 := (by unfold wdT; rw [if_neg (by omega), if_pos (by omega)]); exact ⟨by rw [zzw], by rw [zzw]⟩)
        | (have zzw : wdT M0 s c = twT M0 s 117 114 110 := (by unfold wdT; rw [if_neg (by omega), if_neg (by omega), if_pos (by omega)]); exact ⟨by rw [zzw], by rw [zzw]⟩)
        | (have zzw : wdT M0 s c = twT M0 s 111 119 0 := (by unfold wdT; rw [if_neg (by omega), if_neg (by omega), if_neg (by omega), if_pos (by omega)]); exact ⟨by rw [zzw], by rw [zzw]⟩)
        | (have zzw : wdT M0 s c = twT M0 s 105 103 104 := (by unfold wdT; rw [if_neg (by omega), if_neg (by omega), if_neg (by omega), if_neg (by omega), if_pos (by omega)]); exact ⟨by rw [zzw], by rw [zzw]⟩)
        | (have zzw : wdT M0 s c = twT M0 s 111 105 99 ++ [rgB M0 (s + 3) 101 101] := (by unfold wdT; rw [if_neg (by omega), if_neg (by omega), if_neg (by omega), if_neg (by omega), if_neg (by omega), if_pos (by omega)]); exact ⟨by rw [zzw, jb_f (show ¬ al (twT M0 s 111 105 99 ++ [rgB M0 (s + 3) 101 101]) = true by rw [al_ap, Bool.eq_false_iff.mpr zza]; exact fun z => Bool.false_ne_true z)], by rw [zzw, pf_ap, if_neg zza]⟩)
        | (have zzw : wdT M0 s c = twT M0 s 111 105 99 ++ [rgB M0 (s + 3) 101 101] := (by unfold wdT; rw [if_neg (by omega), if_neg (by omega), if_neg (by omega), if_neg (by omega), if_neg (by omega), if_pos (by omega)]); exact ⟨by rw [zzw, jb_f (show ¬ al (twT M0 s 111 105 99 ++ [rgB M0 (s + 3) 101 101]) = true by rw [al_ap, zzb, al_f zzn]; decide)], by rw [zzw, pf_ap, if_pos zzb, pf_f zzn, b01_f zzn, show (((twT M0 s 111 105 99).length : Int)) = 3 from twT_len _ _ _ _ _]; exact congrArg (spM M0) (by omega)⟩)
        | (have zzw : wdT M0 s c = twT M0 s 111 105 99 ++ [rgB M0 (s + 3) 101 101] := (by unfold wdT; rw [if_neg (by omega), if_neg (by omega), if_neg (by omega), if_neg (by omega), if_neg (by omega), if_pos (by omega)]); exact ⟨by rw [zzw, jb_t (show al (twT M0 s 111 105 99 ++ [rgB M0 (s + 3) 101 101]) = true by rw [al_ap, zzb, al_t zzp]; rfl)], by rw [zzw, pf_ap, if_pos zzb, pf_t zzp, b01_t zzp, show (((twT M0 s 111 105 99).length : Int)) = 3 from twT_len _ _ _ _ _]; exact congrArg (spM M0) (by show s + 3 + 1 = s + (3 + (1 + 0)); omega)⟩)
        | (have zzw : wdT M0 s c = [false] := (by unfold wdT; rw [if_neg (by omega), if_neg (by omega), if_neg (by omega), if_neg (by omega), if_neg (by omega), if_neg (by omega)]); exact ⟨by rw [zzw, jb_f (show ¬ al [false] = true by decide)], by rw [zzw]; exact congrArg (spM M0) (by show s = s + 0; omega)⟩)
    · have zzb := h_16
      have zz3 := pf_w zzb (twT_len M0 s 111 105 99)
      rw [if_neg (by decide)] at zz3
      have zl3 : s + 3 ≤ 60 := (by have := hY.1; have := al_in3 zzb (by decide) (by decide) (by decide); omega)
      rw [zz3]
      refine x_aload_n F dX7_readWord_143 rfl ?_
      refine xj_bipush F dX7_readWord_144 (by decide) ?_
      refine x_V1 F (m_X7_takesSign (M0 := M0) (s := s + 3) hY (by omega) (by decide)) mlX7_157 mvX7_takesSign rfl dX7_readWord_146 (by decide) rfl ⟨Nat.le_of_ble_eq_true rfl, Nat.le_of_ble_eq_true rfl⟩ ⟨Nat.zero_le _, Nat.zero_le _⟩ (Nat.le_of_ble_eq_true rfl) ?_
      refine xb_if_eq (tgt := 156) F dX7_readWord_149 (by decide) (fun h_17 => ?_) (fun h_17 => ?_)
      · have zzn := h_17
        refine xj_iconst F dX7_readWord_156 ?_
        refine x_iret F FR dX7_readWord_157 rfl (Nat.le_refl _) (Nat.le_refl _) ?_
        first
          | (have zzw : wdT M0 s c = twT M0 s 111 105 110 := (by unfold wdT; rw [if_pos (by omega)]); exact ⟨by rw [zzw], by rw [zzw]⟩)
          | (have zzw : wdT M0 s c = twT M0 s 119 97 112 := (by unfold wdT; rw [if_neg (by omega), if_pos (by omega)]); exact ⟨by rw [zzw], by rw [zzw]⟩)
          | (have zzw : wdT M0 s c = twT M0 s 117 114 110 := (by unfold wdT; rw [if_neg (by omega), if_neg (by omega), if_pos (by omega)]); exact ⟨by rw [zzw], by rw [zzw]⟩)
          | (have zzw : wdT M0 s c = twT M0 s 111 119 0 := (by unfold wdT; rw [if_neg (by omega), if_neg (by omega), if_neg (by omega), if_pos (by omega)]); exact ⟨by rw [zzw], by rw [zzw]⟩)
          | (have zzw : wdT M0 s c = twT M0 s 105 103 104 := (by unfold wdT; rw [if_neg (by omega), if_neg (by omega), if_neg (by omega), if_neg (by omega), if_pos (by omega)]); exact ⟨by rw [zzw], by rw [zzw]⟩)
          | (have zzw : wdT M0 s c = twT M0 s 111 105 99 ++ [rgB M0 (s + 3) 101 101] := (by unfold wdT; rw [if_neg (by omega), if_neg (by omega), if_neg (by omega), if_neg (by omega), if_neg (by omega), if_pos (by omega)]); exact ⟨by rw [zzw, jb_f (show ¬ al (twT M0 s 111 105 99 ++ [rgB M0 (s + 3) 101 101]) = true by rw [al_ap, Bool.eq_false_iff.mpr zza]; exact fun z => Bool.false_ne_true z)], by rw [zzw, pf_ap, if_neg zza]⟩)
          | (have zzw : wdT M0 s c = twT M0 s 111 105 99 ++ [rgB M0 (s + 3) 101 101] := (by unfold wdT; rw [if_neg (by omega), if_neg (by omega), if_neg (by omega), if_neg (by omega), if_neg (by omega), if_pos (by omega)]); exact ⟨by rw [zzw, jb_f (show ¬ al (twT M0 s 111 105 99 ++ [rgB M0 (s + 3) 101 101]) = true by rw [al_ap, zzb, al_f zzn]; decide)], by rw [zzw, pf_ap, if_pos zzb, pf_f zzn, b01_f zzn, show (((twT M0 s 111 105 99).length : Int)) = 3 from twT_len _ _ _ _ _]; exact congrArg (spM M0) (by omega)⟩)
          | (have zzw : wdT M0 s c = twT M0 s 111 105 99 ++ [rgB M0 (s + 3) 101 101] := (by unfold wdT; rw [if_neg (by omega), if_neg (by omega), if_neg (by omega), if_neg (by omega), if_neg (by omega), if_pos (by omega)]); exact ⟨by rw [zzw, jb_t (show al (twT M0 s 111 105 99 ++ [rgB M0 (s + 3) 101 101]) = true by rw [al_ap, zzb, al_t zzp]; rfl)], by rw [zzw, pf_ap, if_pos zzb, pf_t zzp, b01_t zzp, show (((twT M0 s 111 105 99).length : Int)) = 3 from twT_len _ _ _ _ _]; exact congrArg (spM M0) (by show s + 3 + 1 = s + (3 + (1 + 0)); omega)⟩)
          | (have zzw : wdT M0 s c = [false] := (by unfold wdT; rw [if_neg (by omega), if_neg (by omega), if_neg (by omega), if_neg (by omega), if_neg (by omega), if_neg (by omega)]); exact ⟨by rw [zzw, jb_f (show ¬ al [false] = true by decide)], by rw [zzw]; exact congrArg (spM M0) (by show s = s + 0; omega)⟩)
      · have zzp := h_17
        refine xj_iconst F dX7_readWord_152 ?_
        refine x_goto (tgt := 157) F dX7_readWord_153 (by decide) ?_
        refine x_iret F FR dX7_readWord_157 rfl (Nat.le_refl _) (Nat.le_refl _) ?_
        first
          | (have zzw : wdT M0 s c = twT M0 s 111 105 110 := (by unfold wdT; rw [if_pos (by omega)]); exact ⟨by rw [zzw], by rw [zzw]⟩)
          | (have zzw : wdT M0 s c = twT M0 s 119 97 112 := (by unfold wdT; rw [if_neg (by omega), if_pos (by omega)]); exact ⟨by rw [zzw], by rw [zzw]⟩)
          | (have zzw : wdT M0 s c = twT M0 s 117 114 110 := (by unfold wdT; rw [if_neg (by omega), if_neg (by omega), if_pos (by omega)]); exact ⟨by rw [zzw], by rw [zzw]⟩)
          | (have zzw : wdT M0 s c = twT M0 s 111 119 0 := (by unfold wdT; rw [if_neg (by omega), if_neg (by omega), if_neg (by omega), if_pos (by omega)]); exact ⟨by rw [zzw], by rw [zzw]⟩)
          | (have zzw : wdT M0 s c = twT M0 s 105 103 104 := (by unfold wdT; rw [if_neg (by omega), if_neg (by omega), if_neg (by omega), if_neg (by omega), if_pos (by omega)]); exact ⟨by rw [zzw], by rw [zzw]⟩)
          | (have zzw : wdT M0 s c = twT M0 s 111 105 99 ++ [rgB M0 (s + 3) 101 101] := (by unfold wdT; rw [if_neg (by omega), if_neg (by omega), if_neg (by omega), if_neg (by omega), if_neg (by omega), if_pos (by omega)]); exact ⟨by rw [zzw, jb_f (show ¬ al (twT M0 s 111 105 99 ++ [rgB M0 (s + 3) 101 101]) = true by rw [al_ap, Bool.eq_false_iff.mpr zza]; exact fun z => Bool.false_ne_true z)], by rw [zzw, pf_ap, if_neg zza]⟩)
          | (have zzw : wdT M0 s c = twT M0 s 111 105 99 ++ [rgB M0 (s + 3) 101 101] := (by unfold wdT; rw [if_neg (by omega), if_neg (by omega), if_neg (by omega), if_neg (by omega), if_neg (by omega), if_pos (by omega)]); exact ⟨by rw [zzw, jb_f (show ¬ al (twT M0 s 111 105 99 ++ [rgB M0 (s + 3) 101 101]) = true by rw [al_ap, zzb, al_f zzn]; decide)], by rw [zzw, pf_ap, if_pos zzb, pf_f zzn, b01_f zzn, show (((twT M0 s 111 105 99).length : Int)) = 3 from twT_len _ _ _ _ _]; exact congrArg (spM M0) (by omega)⟩)
          | (have zzw : wdT M0 s c = twT M0 s 111 105 99 ++ [rgB M0 (s + 3) 101 101] := (by unfold wdT; rw [if_neg (by omega), if_neg (by omega), if_neg (by omega), if_neg (by omega), if_neg (by omega), if_pos (by omega)]); exact ⟨by rw [zzw, jb_t (show al (twT M0 s 111 105 99 ++ [rgB M0 (s + 3) 101 101]) = true by rw [al_ap, zzb, al_t zzp]; rfl)], by rw [zzw, pf_ap, if_pos zzb, pf_t zzp, b01_t zzp, show (((twT M0 s 111 105 99).length : Int)) = 3 from twT_len _ _ _ _ _]; exact congrArg (spM M0) (by show s + 3 + 1 = s + (3 + (1 + 0)); omega)⟩)
          | (have zzw : wdT M0 s c = [false] := (by unfold wdT; rw [if_neg (by omega), if_neg (by omega), if_neg (by omega), if_neg (by omega), if_neg (by omega), if_neg (by omega)]); exact ⟨by rw [zzw, jb_f (show ¬ al [false] = true by decide)], by rw [zzw]; exact congrArg (spM M0) (by show s = s + 0; omega)⟩)
  refine xj_tabOut (tgt := 158) F dX7_readWord_1 (by omega) (by decide) (by omega) ?_
  refine xj_iconst F dX7_readWord_158 ?_
  refine x_iret F FR dX7_readWord_159 rfl (Nat.le_refl _) (Nat.le_refl _) ?_
  first
    | (have zzw : wdT M0 s c = twT M0 s 111 105 110 := (by unfold wdT; rw [if_pos (by omega)]); exact ⟨by rw [zzw], by rw [zzw]⟩)
    | (have zzw : wdT M0 s c = twT M0 s 119 97 112 := (by unfold wdT; rw [if_neg (by omega), if_pos (by omega)]); exact ⟨by rw [zzw], by rw [zzw]⟩)
    | (have zzw : wdT M0 s c = twT M0 s 117 114 110 := (by unfold wdT; rw [if_neg (by omega), if_neg (by omega), if_pos (by omega)]); exact ⟨by rw [zzw], by rw [zzw]⟩)
    | (have zzw : wdT M0 s c = twT M0 s 111 119 0 := (by unfold wdT; rw [if_neg (by omega), if_neg (by omega), if_neg (by omega), if_pos (by omega)]); exact ⟨by rw [zzw], by rw [zzw]⟩)
    | (have zzw : wdT M0 s c = twT M0 s 105 103 104 := (by unfold wdT; rw [if_neg (by omega), if_neg (by omega), if_neg (by omega), if_neg (by omega), if_pos (by omega)]); exact ⟨by rw [zzw], by rw [zzw]⟩)
    | (have zzw : wdT M0 s c = twT M0 s 111 105 99 ++ [rgB M0 (s + 3) 101 101] := (by unfold wdT; rw [if_neg (by omega), if_neg (by omega), if_neg (by omega), if_neg (by omega), if_neg (by omega), if_pos (by omega)]); exact ⟨by rw [zzw, jb_f (show ¬ al (twT M0 s 111 105 99 ++ [rgB M0 (s + 3) 101 101]) = true by rw [al_ap, Bool.eq_false_iff.mpr zza]; exact fun z => Bool.false_ne_true z)], by rw [zzw, pf_ap, if_neg zza]⟩)
    | (have zzw : wdT M0 s c = twT M0 s 111 105 99 ++ [rgB M0 (s + 3) 101 101] := (by unfold wdT; rw [if_neg (by omega), if_neg (by omega), if_neg (by omega), if_neg (by omega), if_neg (by omega), if_pos (by omega)]); exact ⟨by rw [zzw, jb_f (show ¬ al (twT M0 s 111 105 99 ++ [rgB M0 (s + 3) 101 101]) = true by rw [al_ap, zzb, al_f zzn]; decide)], by rw [zzw, pf_ap, if_pos zzb, pf_f zzn, b01_f zzn, show (((twT M0 s 111 105 99).length : Int)) = 3 from twT_len _ _ _ _ _]; exact congrArg (spM M0) (by omega)⟩)
    | (have zzw : wdT M0 s c = twT M0 s 111 105 99 ++ [rgB M0 (s + 3) 101 101] := (by unfold wdT; rw [if_neg (by omega), if_neg (by omega), if_neg (by omega), if_neg (by omega), if_neg (by omega), if_pos (by omega)]); exact ⟨by rw [zzw, jb_t (show al (twT M0 s 111 105 99 ++ [rgB M0 (s + 3) 101 101]) = true by rw [al_ap, zzb, al_t zzp]; rfl)], by rw [zzw, pf_ap, if_pos zzb, pf_t zzp, b01_t zzp, show (((twT M0 s 111 105 99).length : Int)) = 3 from twT_len _ _ _ _ _]; exact congrArg (spM M0) (by show s + 3 + 1 = s + (3 + (1 + 0)); omega)⟩)
    | (have zzw : wdT M0 s c = [false] := (by unfold wdT; rw [if_neg (by omega), if_neg (by omega), if_neg (by omega), if_neg (by omega), if_neg (by omega), if_neg (by omega)]); exact ⟨by rw [zzw, jb_f (show ¬ al [false] = true by decide)], by rw [zzw]; exact congrArg (spM M0) (by show s = s + 0; omega)⟩)
set_option maxRecDepth 20000 in
theorem m_X7_digit {l : Launch} {E : xE} {s b : Int} {M0 : xM} (hY : okW M0) (hs : 0 ≤ s ∧ s ≤ 60) (hb : 1 ≤ b ∧ b ≤ 3) (hsb : 0 ≤ s - b ∧ s - b < ln M0) : XF l E 1 yX7_digit cX7_digit 2 (some FieldType.int) [vA 68, vI (jI b)] (spM M0 s) (vI (jI (cdZ M0 (s - b) - 48))) ((spM M0 s)) := by
  refine xp_start (plainFor_of_name (by decide)) rfl (Nat.le_of_ble_eq_true rfl) ?_
  intro Y F FR
  have e11 : ((spM M0 s).1 68 11).toInt = ln M0 := by rw [spM_k _ _ (by decide)]; rfl
  have e12 : ((spM M0 s).1 68 12).toInt = s := spM_sp M0 (by omega)
  have hln := hY.1
  have e74 : (spM M0 s).1 74 = M0.1 74 := spM_row _ _ (by decide)
  refine x_aload_n F dX7_digit_0 rfl ?_
  refine x_getc (v := 74) F flX7_25 rfl dX7_digit_1 (by decide) (by decide) rfl rfl ?_
  refine x_aload_n F dX7_digit_4 rfl ?_
  refine xj_geti F flX7_148 rfl dX7_digit_5 (by decide) (by decide) rfl (fun hg_1 => ?_)
  rw [e12]
  refine x_iload_n F dX7_digit_8 rfl ?_
  refine xj_isub F dX7_digit_9 ?_
  refine xj_lald2 F rfl dX7_digit_10 (by omega) (fun hg_2 => ?_)
  rw [e74]
  refine xj_bipush F dX7_digit_11 (by decide) ?_
  refine xj_isub F dX7_digit_13 ?_
  refine x_iret F FR dX7_digit_14 rfl (Nat.le_refl _) (Nat.le_refl _) ?_
  exact ⟨vj2 (by unfold cdZ; rw [if_pos ⟨by omega, by omega, by omega⟩]), rfl⟩
def htT (M : xM) (s : Int) : List Bool := [rgB M s 49 50, rgB M (s + 1) 48 (if cdZ M s = 50 then 50 else 57), rgB M (s + 1 + 1) 48 (if cdZ M s = 50 ∧ cdZ M (s + 1) = 50 then 48 else 57)]
def htV (M : xM) (s : Int) : Int := 100 * (cdZ M s - 48) + 10 * (cdZ M (s + 1) - 48) + (cdZ M (s + 1 + 1) - 48)
def htM (M : xM) (s : Int) : xM := if al (htT M s) = true then upI M 77 (pa M).toNat (jI (htV M s)) else M
set_option maxRecDepth 20000 in
theorem m_X7_readHeight {l : Launch} {E : xE} {s : Int} {M0 : xM} (hY : okW M0) (hs : 0 ≤ s ∧ s ≤ 60) (hp : 0 ≤ pa M0 ∧ pa M0 < 12) : XF l E 8 yX7_readHeight cX7_readHeight 3 (some FieldType.boolean) [vA 68] (spM M0 s) (vI (jb (al (htT M0 s) = true))) ((spM (htM M0 s) (s + pf (htT M0 s)))) := by
  refine xp_start (plainFor_of_name (by decide)) rfl (Nat.le_of_ble_eq_true rfl) ?_
  intro Y F FR
  have hln := hY.1
  have ez1 : cdZ M0 (s + 1 - 1) = cdZ M0 s := congrArg _ (by omega)
  have ez2 : cdZ M0 (s + 1 + 1 - 1) = cdZ M0 (s + 1) := congrArg _ (by omega)
  have ze13 : ((spM M0 (s + 1 + 1 + 1)).1 68 13).toInt = pa M0 := (by rw [spM_k _ _ (by decide)]; rfl)
  refine x_aload_n F dX7_readHeight_0 rfl ?_
  refine xj_bipush F dX7_readHeight_1 (by decide) ?_
  refine xj_bipush F dX7_readHeight_3 (by decide) ?_
  refine x_V2 F (m_X7_takes (M0 := M0) (s := s) hY hs (by decide) (by decide)) mlX7_154 mvX7_takes rfl dX7_readHeight_5 (by decide) rfl ⟨Nat.le_of_ble_eq_true rfl, Nat.le_of_ble_eq_true rfl⟩ ⟨Nat.zero_le _, Nat.zero_le _⟩ (Nat.le_of_ble_eq_true rfl) ?_
  refine xb_if_ne (tgt := 13) F dX7_readHeight_8 (by decide) (fun h_1 => ?_) (fun h_1 => ?_)
  · have zp1 := h_1
    have zi1 := rgB_in zp1 (by decide)
    rw [b01_t zp1]
    refine x_aload_n F dX7_readHeight_13 rfl ?_
    refine xj_iconst F dX7_readHeight_14 ?_
    refine x_V1 F (m_X7_digit (M0 := M0) (s := (s + 1)) hY (by omega) (by decide) (by omega)) mlX7_163 mvX7_digit rfl dX7_readHeight_15 (by decide) rfl ⟨Nat.le_of_ble_eq_true rfl, Nat.le_of_ble_eq_true rfl⟩ ⟨Nat.zero_le _, Nat.zero_le _⟩ (Nat.le_of_ble_eq_true rfl) ?_
    refine xj_iconst F dX7_readHeight_18 ?_
    refine xj_icmp_ne (tgt := 26) F dX7_readHeight_19 (by decide) (by omega) (fun h_2 => ?_) (fun h_2 => ?_)
    · refine xj_iconst F dX7_readHeight_26 ?_
      refine x_istore_n F dX7_readHeight_27 (by decide) ?_
      refine x_aload_n F dX7_readHeight_28 rfl ?_
      refine xj_bipush F dX7_readHeight_29 (by decide) ?_
      refine x_iload_n F dX7_readHeight_31 rfl ?_
      refine xj_if_eq (tgt := 40) F dX7_readHeight_32 (by decide) (by omega) (fun h_3 => ?_) (fun h_3 => ?_)
      · refine xj_bipush F dX7_readHeight_40 (by decide) ?_
        refine x_V2 F (m_X7_takes (M0 := M0) (s := (s + 1)) hY (by omega) (by decide) (by decide)) mlX7_154 mvX7_takes rfl dX7_readHeight_42 (by decide) rfl ⟨Nat.le_of_ble_eq_true rfl, Nat.le_of_ble_eq_true rfl⟩ ⟨Nat.zero_le _, Nat.zero_le _⟩ (Nat.le_of_ble_eq_true rfl) ?_
        refine xb_if_ne (tgt := 50) F dX7_readHeight_45 (by decide) (fun h_4 => ?_) (fun h_4 => ?_)
        · have zp2 := h_4
          have zi2 := rgB_in zp2 (by decide)
          rw [b01_t zp2]
          refine x_iload_n F dX7_readHeight_50 rfl ?_
          refine xj_if_eq (tgt := 67) F dX7_readHeight_51 (by decide) (by omega) (fun h_5 => ?_) (fun h_5 => ?_)
          · refine xj_iconst F dX7_readHeight_67 ?_
            refine x_istore_n F dX7_readHeight_68 (by decide) ?_
            refine x_aload_n F dX7_readHeight_69 rfl ?_
            refine xj_bipush F dX7_readHeight_70 (by decide) ?_
            refine x_iload_n F dX7_readHeight_72 rfl ?_
            refine xj_if_eq (tgt := 81) F dX7_readHeight_73 (by decide) (by omega) (fun h_6 => ?_) (fun h_6 => ?_)
            · refine xj_bipush F dX7_readHeight_81 (by decide) ?_
              refine x_V2 F (m_X7_takes (M0 := M0) (s := (s + 1 + 1)) hY (by omega) (by decide) (by decide)) mlX7_154 mvX7_takes rfl dX7_readHeight_83 (by decide) rfl ⟨Nat.le_of_ble_eq_true rfl, Nat.le_of_ble_eq_true rfl⟩ ⟨Nat.zero_le _, Nat.zero_le _⟩ (Nat.le_of_ble_eq_true rfl) ?_
              refine xb_if_ne (tgt := 91) F dX7_readHeight_86 (by decide) (fun h_7 => ?_) (fun h_7 => ?_)
              · have zp3 := h_7
                have zi3 := rgB_in zp3 (by decide)
                rw [b01_t zp3]
                refine x_aload_n F dX7_readHeight_91 rfl ?_
                refine x_getc (v := 77) F flX7_34 rfl dX7_readHeight_92 (by decide) (by decide) rfl rfl ?_
                refine x_aload_n F dX7_readHeight_95 rfl ?_
                refine xj_geti F flX7_166 rfl dX7_readHeight_96 (by decide) (by decide) rfl (fun hg_8 => ?_)
                refine xj_bipush F dX7_readHeight_99 (by decide) ?_
                refine x_aload_n F dX7_readHeight_101 rfl ?_
                refine xj_iconst F dX7_readHeight_102 ?_
                refine x_V1 F (m_X7_digit (M0 := M0) (s := (s + 1 + 1 + 1)) hY (by omega) (by decide) (by omega)) mlX7_163 mvX7_digit rfl dX7_readHeight_103 (by decide) rfl ⟨Nat.le_of_ble_eq_true rfl, Nat.le_of_ble_eq_true rfl⟩ ⟨Nat.zero_le _, Nat.zero_le _⟩ (Nat.le_of_ble_eq_true rfl) ?_
                refine xj_imul F dX7_readHeight_106 ?_
                refine xj_bipush F dX7_readHeight_107 (by decide) ?_
                refine x_aload_n F dX7_readHeight_109 rfl ?_
                refine xj_iconst F dX7_readHeight_110 ?_
                refine x_V1 F (m_X7_digit (M0 := M0) (s := (s + 1 + 1 + 1)) hY (by omega) (by decide) (by omega)) mlX7_163 mvX7_digit rfl dX7_readHeight_111 (by decide) rfl ⟨Nat.le_of_ble_eq_true rfl, Nat.le_of_ble_eq_true rfl⟩ ⟨Nat.zero_le _, Nat.zero_le _⟩ (Nat.le_of_ble_eq_true rfl) ?_
                refine xj_imul F dX7_readHeight_114 ?_
                refine xj_iadd F dX7_readHeight_115 ?_
                refine x_aload_n F dX7_readHeight_116 rfl ?_
                refine xj_iconst F dX7_readHeight_117 ?_
                refine x_V1 F (m_X7_digit (M0 := M0) (s := (s + 1 + 1 + 1)) hY (by omega) (by decide) (by omega)) mlX7_163 mvX7_digit rfl dX7_readHeight_118 (by decide) rfl ⟨Nat.le_of_ble_eq_true rfl, Nat.le_of_ble_eq_true rfl⟩ ⟨Nat.zero_le _, Nat.zero_le _⟩ (Nat.le_of_ble_eq_true rfl) ?_
                refine xj_iadd F dX7_readHeight_121 ?_
                refine xj_iast F rfl dX7_readHeight_122 (by omega) ?_
                refine xj_iconst F dX7_readHeight_123 ?_
                refine x_iret F FR dX7_readHeight_124 rfl (Nat.le_refl _) (Nat.le_refl _) ?_
                first
                  | (have zna : ¬ al (htT M0 s) = true := (by unfold htT; rw [al_f zn1]; decide); exact ⟨by rw [jb_f zna], by unfold htM; rw [if_neg zna]; unfold htT; rw [pf_f zn1, b01_f zn1]⟩)
                  | (have zna : ¬ al (htT M0 s) = true := (by unfold htT; rw [al_t zp1, al_f (show ¬ rgB M0 (s + 1) 48 (if cdZ M0 s = 50 then 50 else 57) = true by (first | rw [if_pos (by omega)] | rw [if_neg (by omega)]); exact zn2)]; decide); exact ⟨by rw [jb_f zna], by unfold htM; rw [if_neg zna]; unfold htT; rw [pf_t zp1, pf_f (show ¬ rgB M0 (s + 1) 48 (if cdZ M0 s = 50 then 50 else 57) = true by (first | rw [if_pos (by omega)] | rw [if_neg (by omega)]); exact zn2), b01_f zn2]; exact congrArg (spM M0) (by omega)⟩)
                  | (have zna : ¬ al (htT M0 s) = true := (by unfold htT; rw [al_t zp1, al_t (show rgB M0 (s + 1) 48 (if cdZ M0 s = 50 then 50 else 57) = true by (first | rw [if_pos (by omega)] | rw [if_neg (by omega)]); exact zp2), al_f (show ¬ rgB M0 (s + 1 + 1) 48 (if cdZ M0 s = 50 ∧ cdZ M0 (s + 1) = 50 then 48 else 57) = true by (first | rw [if_pos (by omega)] | rw [if_neg (by omega)]); exact zn3)]; decide); exact ⟨by rw [jb_f zna], by unfold htM; rw [if_neg zna]; unfold htT; rw [pf_t zp1, pf_t (show rgB M0 (s + 1) 48 (if cdZ M0 s = 50 then 50 else 57) = true by (first | rw [if_pos (by omega)] | rw [if_neg (by omega)]); exact zp2), pf_f (show ¬ rgB M0 (s + 1 + 1) 48 (if cdZ M0 s = 50 ∧ cdZ M0 (s + 1) = 50 then 48 else 57) = true by (first | rw [if_pos (by omega)] | rw [if_neg (by omega)]); exact zn3), b01_f zn3]; exact congrArg (spM M0) (by omega)⟩)
                  | (have zna : al (htT M0 s) = true := (by unfold htT; rw [al_t zp1, al_t (show rgB M0 (s + 1) 48 (if cdZ M0 s = 50 then 50 else 57) = true by (first | rw [if_pos (by omega)] | rw [if_neg (by omega)]); exact zp2), al_t (show rgB M0 (s + 1 + 1) 48 (if cdZ M0 s = 50 ∧ cdZ M0 (s + 1) = 50 then 48 else 57) = true by (first | rw [if_pos (by omega)] | rw [if_neg (by omega)]); exact zp3)]; rfl); exact ⟨by rw [jb_t zna], by unfold htM; rw [if_pos zna]; unfold htT; rw [pf_t zp1, pf_t (show rgB M0 (s + 1) 48 (if cdZ M0 s = 50 then 50 else 57) = true by (first | rw [if_pos (by omega)] | rw [if_neg (by omega)]); exact zp2), pf_t (show rgB M0 (s + 1 + 1) 48 (if cdZ M0 s = 50 ∧ cdZ M0 (s + 1) = 50 then 48 else 57) = true by (first | rw [if_pos (by omega)] | rw [if_neg (by omega)]); exact zp3), spM_up _ _ (by decide)]; show spM (upI M0 77 _ _) _ = spM (upI M0 77 _ _) (s + (1 + (1 + (1 + 0)))); rw [show s + (1 + (1 + (1 + 0))) = s + 1 + 1 + 1 by omega, ze13, show htV M0 s = 100 * (cdZ M0 (s + 1 + 1 + 1 - 3) - 48) + 10 * (cdZ M0 (s + 1 + 1 + 1 - 2) - 48) + (cdZ M0 (s + 1 + 1 + 1 - 1) - 48) by unfold htV; rw [show s + 1 + 1 + 1 - 3 = s by omega, show s + 1 + 1 + 1 - 2 = s + 1 by omega, show s + 1 + 1 + 1 - 1 = s + 1 + 1 by omega]]⟩)
              · have zn3 := h_7
                refine xj_iconst F dX7_readHeight_89 ?_
                refine x_iret F FR dX7_readHeight_90 rfl (Nat.le_refl _) (Nat.le_refl _) ?_
                first
                  | (have zna : ¬ al (htT M0 s) = true := (by unfold htT; rw [al_f zn1]; decide); exact ⟨by rw [jb_f zna], by unfold htM; rw [if_neg zna]; unfold htT; rw [pf_f zn1, b01_f zn1]⟩)
                  | (have zna : ¬ al (htT M0 s) = true := (by unfold htT; rw [al_t zp1, al_f (show ¬ rgB M0 (s + 1) 48 (if cdZ M0 s = 50 then 50 else 57) = true by (first | rw [if_pos (by omega)] | rw [if_neg (by omega)]); exact zn2)]; decide); exact ⟨by rw [jb_f zna], by unfold htM; rw [if_neg zna]; unfold htT; rw [pf_t zp1, pf_f (show ¬ rgB M0 (s + 1) 48 (if cdZ M0 s = 50 then 50 else 57) = true by (first | rw [if_pos (by omega)] | rw [if_neg (by omega)]); exact zn2), b01_f zn2]; exact congrArg (spM M0) (by omega)⟩)
                  | (have zna : ¬ al (htT M0 s) = true := (by unfold htT; rw [al_t zp1, al_t (show rgB M0 (s + 1) 48 (if cdZ M0 s = 50 then 50 else 57) = true by (first | rw [if_pos (by omega)] | rw [if_neg (by omega)]); exact zp2), al_f (show ¬ rgB M0 (s + 1 + 1) 48 (if cdZ M0 s = 50 ∧ cdZ M0 (s + 1) = 50 then 48 else 57) = true by (first | rw [if_pos (by omega)] | rw [if_neg (by omega)]); exact zn3)]; decide); exact ⟨by rw [jb_f zna], by unfold htM; rw [if_neg zna]; unfold htT; rw [pf_t zp1, pf_t (show rgB M0 (s + 1) 48 (if cdZ M0 s = 50 then 50 else 57) = true by (first | rw [if_pos (by omega)] | rw [if_neg (by omega)]); exact zp2), pf_f (show ¬ rgB M0 (s + 1 + 1) 48 (if cdZ M0 s = 50 ∧ cdZ M0 (s + 1) = 50 then 48 else 57) = true by (first | rw [if_pos (by omega)] | rw [if_neg (by omega)]); exact zn3), b01_f zn3]; exact congrArg (spM M0) (by omega)⟩)
                  | (have zna : al (htT M0 s) = true := (by unfold htT; rw [al_t zp1, al_t (show rgB M0 (s + 1) 48 (if cdZ M0 s = 50 then 50 else 57) = true by (first | rw [if_pos (by omega)] | rw [if_neg (by omega)]); exact zp2), al_t (show rgB M0 (s + 1 + 1) 48 (if cdZ M0 s = 50 ∧ cdZ M0 (s + 1) = 50 then 48 else 57) = true by (first | rw [if_pos (by omega)] | rw [if_neg (by omega)]); exact zp3)]; rfl); exact ⟨by rw [jb_t zna], by unfold htM; rw [if_pos zna]; unfold htT; rw [pf_t zp1, pf_t (show rgB M0 (s + 1) 48 (if cdZ M0 s = 50 then 50 else 57) = true by (first | rw [if_pos (by omega)] | rw [if_neg (by omega)]); exact zp2), pf_t (show rgB M0 (s + 1 + 1) 48 (if cdZ M0 s = 50 ∧ cdZ M0 (s + 1) = 50 then 48 else 57) = true by (first | rw [if_pos (by omega)] | rw [if_neg (by omega)]); exact zp3), spM_up _ _ (by decide)]; show spM (upI M0 77 _ _) _ = spM (upI M0 77 _ _) (s + (1 + (1 + (1 + 0)))); rw [show s + (1 + (1 + (1 + 0))) = s + 1 + 1 + 1 by omega, ze13, show htV M0 s = 100 * (cdZ M0 (s + 1 + 1 + 1 - 3) - 48) + 10 * (cdZ M0 (s + 1 + 1 + 1 - 2) - 48) + (cdZ M0 (s + 1 + 1 + 1 - 1) - 48) by unfold htV; rw [show s + 1 + 1 + 1 - 3 = s by omega, show s + 1 + 1 + 1 - 2 = s + 1 by omega, show s + 1 + 1 + 1 - 1 = s + 1 + 1 by omega]]⟩)
            · exact absurd h_6 (by decide)
          · exact absurd h_5 (by decide)
        · have zn2 := h_4
          refine xj_iconst F dX7_readHeight_48 ?_
          refine x_iret F FR dX7_readHeight_49 rfl (Nat.le_refl _) (Nat.le_refl _) ?_
          first
            | (have zna : ¬ al (htT M0 s) = true := (by unfold htT; rw [al_f zn1]; decide); exact ⟨by rw [jb_f zna], by unfold htM; rw [if_neg zna]; unfold htT; rw [pf_f zn1, b01_f zn1]⟩)
            | (have zna : ¬ al (htT M0 s) = true := (by unfold htT; rw [al_t zp1, al_f (show ¬ rgB M0 (s + 1) 48 (if cdZ M0 s = 50 then 50 else 57) = true by (first | rw [if_pos (by omega)] | rw [if_neg (by omega)]); exact zn2)]; decide); exact ⟨by rw [jb_f zna], by unfold htM; rw [if_neg zna]; unfold htT; rw [pf_t zp1, pf_f (show ¬ rgB M0 (s + 1) 48 (if cdZ M0 s = 50 then 50 else 57) = true by (first | rw [if_pos (by omega)] | rw [if_neg (by omega)]); exact zn2), b01_f zn2]; exact congrArg (spM M0) (by omega)⟩)
            | (have zna : ¬ al (htT M0 s) = true := (by unfold htT; rw [al_t zp1, al_t (show rgB M0 (s + 1) 48 (if cdZ M0 s = 50 then 50 else 57) = true by (first | rw [if_pos (by omega)] | rw [if_neg (by omega)]); exact zp2), al_f (show ¬ rgB M0 (s + 1 + 1) 48 (if cdZ M0 s = 50 ∧ cdZ M0 (s + 1) = 50 then 48 else 57) = true by (first | rw [if_pos (by omega)] | rw [if_neg (by omega)]); exact zn3)]; decide); exact ⟨by rw [jb_f zna], by unfold htM; rw [if_neg zna]; unfold htT; rw [pf_t zp1, pf_t (show rgB M0 (s + 1) 48 (if cdZ M0 s = 50 then 50 else 57) = true by (first | rw [if_pos (by omega)] | rw [if_neg (by omega)]); exact zp2), pf_f (show ¬ rgB M0 (s + 1 + 1) 48 (if cdZ M0 s = 50 ∧ cdZ M0 (s + 1) = 50 then 48 else 57) = true by (first | rw [if_pos (by omega)] | rw [if_neg (by omega)]); exact zn3), b01_f zn3]; exact congrArg (spM M0) (by omega)⟩)
            | (have zna : al (htT M0 s) = true := (by unfold htT; rw [al_t zp1, al_t (show rgB M0 (s + 1) 48 (if cdZ M0 s = 50 then 50 else 57) = true by (first | rw [if_pos (by omega)] | rw [if_neg (by omega)]); exact zp2), al_t (show rgB M0 (s + 1 + 1) 48 (if cdZ M0 s = 50 ∧ cdZ M0 (s + 1) = 50 then 48 else 57) = true by (first | rw [if_pos (by omega)] | rw [if_neg (by omega)]); exact zp3)]; rfl); exact ⟨by rw [jb_t zna], by unfold htM; rw [if_pos zna]; unfold htT; rw [pf_t zp1, pf_t (show rgB M0 (s + 1) 48 (if cdZ M0 s = 50 then 50 else 57) = true by (first | rw [if_pos (by omega)] | rw [if_neg (by omega)]); exact zp2), pf_t (show rgB M0 (s + 1 + 1) 48 (if cdZ M0 s = 50 ∧ cdZ M0 (s + 1) = 50 then 48 else 57) = true by (first | rw [if_pos (by omega)] | rw [if_neg (by omega)]); exact zp3), spM_up _ _ (by decide)]; show spM (upI M0 77 _ _) _ = spM (upI M0 77 _ _) (s + (1 + (1 + (1 + 0)))); rw [show s + (1 + (1 + (1 + 0))) = s + 1 + 1 + 1 by omega, ze13, show htV M0 s = 100 * (cdZ M0 (s + 1 + 1 + 1 - 3) - 48) + 10 * (cdZ M0 (s + 1 + 1 + 1 - 2) - 48) + (cdZ M0 (s + 1 + 1 + 1 - 1) - 48) by unfold htV; rw [show s + 1 + 1 + 1 - 3 = s by omega, show s + 1 + 1 + 1 - 2 = s + 1 by omega, show s + 1 + 1 + 1 - 1 = s + 1 + 1 by omega]]⟩)
      · exact absurd h_3 (by decide)
    · refine xj_iconst F dX7_readHeight_22 ?_
      refine x_goto (tgt := 27) F dX7_readHeight_23 (by decide) ?_
      refine x_istore_n F dX7_readHeight_27 (by decide) ?_
      refine x_aload_n F dX7_readHeight_28 rfl ?_
      refine xj_bipush F dX7_readHeight_29 (by decide) ?_
      refine x_iload_n F dX7_readHeight_31 rfl ?_
      refine xj_if_eq (tgt := 40) F dX7_readHeight_32 (by decide) (by omega) (fun h_9 => ?_) (fun h_9 => ?_)
      · exact absurd h_9 (by decide)
      · refine xj_bipush F dX7_readHeight_35 (by decide) ?_
        refine x_goto (tgt := 42) F dX7_readHeight_37 (by decide) ?_
        refine x_V2 F (m_X7_takes (M0 := M0) (s := (s + 1)) hY (by omega) (by decide) (by decide)) mlX7_154 mvX7_takes rfl dX7_readHeight_42 (by decide) rfl ⟨Nat.le_of_ble_eq_true rfl, Nat.le_of_ble_eq_true rfl⟩ ⟨Nat.zero_le _, Nat.zero_le _⟩ (Nat.le_of_ble_eq_true rfl) ?_
        refine xb_if_ne (tgt := 50) F dX7_readHeight_45 (by decide) (fun h_10 => ?_) (fun h_10 => ?_)
        · have zp2 := h_10
          have zi2 := rgB_in zp2 (by decide)
          rw [b01_t zp2]
          refine x_iload_n F dX7_readHeight_50 rfl ?_
          refine xj_if_eq (tgt := 67) F dX7_readHeight_51 (by decide) (by omega) (fun h_11 => ?_) (fun h_11 => ?_)
          · exact absurd h_11 (by decide)
          · refine x_aload_n F dX7_readHeight_54 rfl ?_
            refine xj_iconst F dX7_readHeight_55 ?_
            refine x_V1 F (m_X7_digit (M0 := M0) (s := (s + 1 + 1)) hY (by omega) (by decide) (by omega)) mlX7_163 mvX7_digit rfl dX7_readHeight_56 (by decide) rfl ⟨Nat.le_of_ble_eq_true rfl, Nat.le_of_ble_eq_true rfl⟩ ⟨Nat.zero_le _, Nat.zero_le _⟩ (Nat.le_of_ble_eq_true rfl) ?_
            refine xj_iconst F dX7_readHeight_59 ?_
            refine xj_icmp_ne (tgt := 67) F dX7_readHeight_60 (by decide) (by omega) (fun h_12 => ?_) (fun h_12 => ?_)
            · refine xj_iconst F dX7_readHeight_67 ?_
              refine x_istore_n F dX7_readHeight_68 (by decide) ?_
              refine x_aload_n F dX7_readHeight_69 rfl ?_
              refine xj_bipush F dX7_readHeight_70 (by decide) ?_
              refine x_iload_n F dX7_readHeight_72 rfl ?_
              refine xj_if_eq (tgt := 81) F dX7_readHeight_73 (by decide) (by omega) (fun h_13 => ?_) (fun h_13 => ?_)
              · refine xj_bipush F dX7_readHeight_81 (by decide) ?_
                refine x_V2 F (m_X7_takes (M0 := M0) (s := (s + 1 + 1)) hY (by omega) (by decide) (by decide)) mlX7_154 mvX7_takes rfl dX7_readHeight_83 (by decide) rfl ⟨Nat.le_of_ble_eq_true rfl, Nat.le_of_ble_eq_true rfl⟩ ⟨Nat.zero_le _, Nat.zero_le _⟩ (Nat.le_of_ble_eq_true rfl) ?_
                refine xb_if_ne (tgt := 91) F dX7_readHeight_86 (by decide) (fun h_14 => ?_) (fun h_14 => ?_)
                · have zp3 := h_14
                  have zi3 := rgB_in zp3 (by decide)
                  rw [b01_t zp3]
                  refine x_aload_n F dX7_readHeight_91 rfl ?_
                  refine x_getc (v := 77) F flX7_34 rfl dX7_readHeight_92 (by decide) (by decide) rfl rfl ?_
                  refine x_aload_n F dX7_readHeight_95 rfl ?_
                  refine xj_geti F flX7_166 rfl dX7_readHeight_96 (by decide) (by decide) rfl (fun hg_15 => ?_)
                  refine xj_bipush F dX7_readHeight_99 (by decide) ?_
                  refine x_aload_n F dX7_readHeight_101 rfl ?_
                  refine xj_iconst F dX7_readHeight_102 ?_
                  refine x_V1 F (m_X7_digit (M0 := M0) (s := (s + 1 + 1 + 1)) hY (by omega) (by decide) (by omega)) mlX7_163 mvX7_digit rfl dX7_readHeight_103 (by decide) rfl ⟨Nat.le_of_ble_eq_true rfl, Nat.le_of_ble_eq_true rfl⟩ ⟨Nat.zero_le _, Nat.zero_le _⟩ (Nat.le_of_ble_eq_true rfl) ?_
                  refine xj_imul F dX7_readHeight_106 ?_
                  refine xj_bipush F dX7_readHeight_107 (by decide) ?_
                  refine x_aload_n F dX7_readHeight_109 rfl ?_
                  refine xj_iconst F dX7_readHeight_110 ?_
                  refine x_V1 F (m_X7_digit (M0 := M0) (s := (s + 1 + 1 + 1)) hY (by omega) (by decide) (by omega)) mlX7_163 mvX7_digit rfl dX7_readHeight_111 (by decide) rfl ⟨Nat.le_of_ble_eq_true rfl, Nat.le_of_ble_eq_true rfl⟩ ⟨Nat.zero_le _, Nat.zero_le _⟩ (Nat.le_of_ble_eq_true rfl) ?_
                  refine xj_imul F dX7_readHeight_114 ?_
                  refine xj_iadd F dX7_readHeight_115 ?_
                  refine x_aload_n F dX7_readHeight_116 rfl ?_
                  refine xj_iconst F dX7_readHeight_117 ?_
                  refine x_V1 F (m_X7_digit (M0 := M0) (s := (s + 1 + 1 + 1)) hY (by omega) (by decide) (by omega)) mlX7_163 mvX7_digit rfl dX7_readHeight_118 (by decide) rfl ⟨Nat.le_of_ble_eq_true rfl, Nat.le_of_ble_eq_true rfl⟩ ⟨Nat.zero_le _, Nat.zero_le _⟩ (Nat.le_of_ble_eq_true rfl) ?_
                  refine xj_iadd F dX7_readHeight_121 ?_
                  refine xj_iast F rfl dX7_readHeight_122 (by omega) ?_
                  refine xj_iconst F dX7_readHeight_123 ?_
                  refine x_iret F FR dX7_readHeight_124 rfl (Nat.le_refl _) (Nat.le_refl _) ?_
                  first
                    | (have zna : ¬ al (htT M0 s) = true := (by unfold htT; rw [al_f zn1]; decide); exact ⟨by rw [jb_f zna], by unfold htM; rw [if_neg zna]; unfold htT; rw [pf_f zn1, b01_f zn1]⟩)
                    | (have zna : ¬ al (htT M0 s) = true := (by unfold htT; rw [al_t zp1, al_f (show ¬ rgB M0 (s + 1) 48 (if cdZ M0 s = 50 then 50 else 57) = true by (first | rw [if_pos (by omega)] | rw [if_neg (by omega)]); exact zn2)]; decide); exact ⟨by rw [jb_f zna], by unfold htM; rw [if_neg zna]; unfold htT; rw [pf_t zp1, pf_f (show ¬ rgB M0 (s + 1) 48 (if cdZ M0 s = 50 then 50 else 57) = true by (first | rw [if_pos (by omega)] | rw [if_neg (by omega)]); exact zn2), b01_f zn2]; exact congrArg (spM M0) (by omega)⟩)
                    | (have zna : ¬ al (htT M0 s) = true := (by unfold htT; rw [al_t zp1, al_t (show rgB M0 (s + 1) 48 (if cdZ M0 s = 50 then 50 else 57) = true by (first | rw [if_pos (by omega)] | rw [if_neg (by omega)]); exact zp2), al_f (show ¬ rgB M0 (s + 1 + 1) 48 (if cdZ M0 s = 50 ∧ cdZ M0 (s + 1) = 50 then 48 else 57) = true by (first | rw [if_pos (by omega)] | rw [if_neg (by omega)]); exact zn3)]; decide); exact ⟨by rw [jb_f zna], by unfold htM; rw [if_neg zna]; unfold htT; rw [pf_t zp1, pf_t (show rgB M0 (s + 1) 48 (if cdZ M0 s = 50 then 50 else 57) = true by (first | rw [if_pos (by omega)] | rw [if_neg (by omega)]); exact zp2), pf_f (show ¬ rgB M0 (s + 1 + 1) 48 (if cdZ M0 s = 50 ∧ cdZ M0 (s + 1) = 50 then 48 else 57) = true by (first | rw [if_pos (by omega)] | rw [if_neg (by omega)]); exact zn3), b01_f zn3]; exact congrArg (spM M0) (by omega)⟩)
                    | (have zna : al (htT M0 s) = true := (by unfold htT; rw [al_t zp1, al_t (show rgB M0 (s + 1) 48 (if cdZ M0 s = 50 then 50 else 57) = true by (first | rw [if_pos (by omega)] | rw [if_neg (by omega)]); exact zp2), al_t (show rgB M0 (s + 1 + 1) 48 (if cdZ M0 s = 50 ∧ cdZ M0 (s + 1) = 50 then 48 else 57) = true by (first | rw [if_pos (by omega)] | rw [if_neg (by omega)]); exact zp3)]; rfl); exact ⟨by rw [jb_t zna], by unfold htM; rw [if_pos zna]; unfold htT; rw [pf_t zp1, pf_t (show rgB M0 (s + 1) 48 (if cdZ M0 s = 50 then 50 else 57) = true by (first | rw [if_pos (by omega)] | rw [if_neg (by omega)]); exact zp2), pf_t (show rgB M0 (s + 1 + 1) 48 (if cdZ M0 s = 50 ∧ cdZ M0 (s + 1) = 50 then 48 else 57) = true by (first | rw [if_pos (by omega)] | rw [if_neg (by omega)]); exact zp3), spM_up _ _ (by decide)]; show spM (upI M0 77 _ _) _ = spM (upI M0 77 _ _) (s + (1 + (1 + (1 + 0)))); rw [show s + (1 + (1 + (1 + 0))) = s + 1 + 1 + 1 by omega, ze13, show htV M0 s = 100 * (cdZ M0 (s + 1 + 1 + 1 - 3) - 48) + 10 * (cdZ M0 (s + 1 + 1 + 1 - 2) - 48) + (cdZ M0 (s + 1 + 1 + 1 - 1) - 48) by unfold htV; rw [show s + 1 + 1 + 1 - 3 = s by omega, show s + 1 + 1 + 1 - 2 = s + 1 by omega, show s + 1 + 1 + 1 - 1 = s + 1 + 1 by omega]]⟩)
                · have zn3 := h_14
                  refine xj_iconst F dX7_readHeight_89 ?_
                  refine x_iret F FR dX7_readHeight_90 rfl (Nat.le_refl _) (Nat.le_refl _) ?_
                  first
                    | (have zna : ¬ al (htT M0 s) = true := (by unfold htT; rw [al_f zn1]; decide); exact ⟨by rw [jb_f zna], by unfold htM; rw [if_neg zna]; unfold htT; rw [pf_f zn1, b01_f zn1]⟩)
                    | (have zna : ¬ al (htT M0 s) = true := (by unfold htT; rw [al_t zp1, al_f (show ¬ rgB M0 (s + 1) 48 (if cdZ M0 s = 50 then 50 else 57) = true by (first | rw [if_pos (by omega)] | rw [if_neg (by omega)]); exact zn2)]; decide); exact ⟨by rw [jb_f zna], by unfold htM; rw [if_neg zna]; unfold htT; rw [pf_t zp1, pf_f (show ¬ rgB M0 (s + 1) 48 (if cdZ M0 s = 50 then 50 else 57) = true by (first | rw [if_pos (by omega)] | rw [if_neg (by omega)]); exact zn2), b01_f zn2]; exact congrArg (spM M0) (by omega)⟩)
                    | (have zna : ¬ al (htT M0 s) = true := (by unfold htT; rw [al_t zp1, al_t (show rgB M0 (s + 1) 48 (if cdZ M0 s = 50 then 50 else 57) = true by (first | rw [if_pos (by omega)] | rw [if_neg (by omega)]); exact zp2), al_f (show ¬ rgB M0 (s + 1 + 1) 48 (if cdZ M0 s = 50 ∧ cdZ M0 (s + 1) = 50 then 48 else 57) = true by (first | rw [if_pos (by omega)] | rw [if_neg (by omega)]); exact zn3)]; decide); exact ⟨by rw [jb_f zna], by unfold htM; rw [if_neg zna]; unfold htT; rw [pf_t zp1, pf_t (show rgB M0 (s + 1) 48 (if cdZ M0 s = 50 then 50 else 57) = true by (first | rw [if_pos (by omega)] | rw [if_neg (by omega)]); exact zp2), pf_f (show ¬ rgB M0 (s + 1 + 1) 48 (if cdZ M0 s = 50 ∧ cdZ M0 (s + 1) = 50 then 48 else 57) = true by (first | rw [if_pos (by omega)] | rw [if_neg (by omega)]); exact zn3), b01_f zn3]; exact congrArg (spM M0) (by omega)⟩)
                    | (have zna : al (htT M0 s) = true := (by unfold htT; rw [al_t zp1, al_t (show rgB M0 (s + 1) 48 (if cdZ M0 s = 50 then 50 else 57) = true by (first | rw [if_pos (by omega)] | rw [if_neg (by omega)]); exact zp2), al_t (show rgB M0 (s + 1 + 1) 48 (if cdZ M0 s = 50 ∧ cdZ M0 (s + 1) = 50 then 48 else 57) = true by (first | rw [if_pos (by omega)] | rw [if_neg (by omega)]); exact zp3)]; rfl); exact ⟨by rw [jb_t zna], by unfold htM; rw [if_pos zna]; unfold htT; rw [pf_t zp1, pf_t (show rgB M0 (s + 1) 48 (if cdZ M0 s = 50 then 50 else 57) = true by (first | rw [if_pos (by omega)] | rw [if_neg (by omega)]); exact zp2), pf_t (show rgB M0 (s + 1 + 1) 48 (if cdZ M0 s = 50 ∧ cdZ M0 (s + 1) = 50 then 48 else 57) = true by (first | rw [if_pos (by omega)] | rw [if_neg (by omega)]); exact zp3), spM_up _ _ (by decide)]; show spM (upI M0 77 _ _) _ = spM (upI M0 77 _ _) (s + (1 + (1 + (1 + 0)))); rw [show s + (1 + (1 + (1 + 0))) = s + 1 + 1 + 1 by omega, ze13, show htV M0 s = 100 * (cdZ M0 (s + 1 + 1 + 1 - 3) - 48) + 10 * (cdZ M0 (s + 1 + 1 + 1 - 2) - 48) + (cdZ M0 (s + 1 + 1 + 1 - 1) - 48) by unfold htV; rw [show s + 1 + 1 + 1 - 3 = s by omega, show s + 1 + 1 + 1 - 2 = s + 1 by omega, show s + 1 + 1 + 1 - 1 = s + 1 + 1 by omega]]⟩)
              · exact absurd h_13 (by decide)
            · refine xj_iconst F dX7_readHeight_63 ?_
              refine x_goto (tgt := 68) F dX7_readHeight_64 (by decide) ?_
              refine x_istore_n F dX7_readHeight_68 (by decide) ?_
              refine x_aload_n F dX7_readHeight_69 rfl ?_
              refine xj_bipush F dX7_readHeight_70 (by decide) ?_
              refine x_iload_n F dX7_readHeight_72 rfl ?_
              refine xj_if_eq (tgt := 81) F dX7_readHeight_73 (by decide) (by omega) (fun h_16 => ?_) (fun h_16 => ?_)
              · exact absurd h_16 (by decide)
              · refine xj_bipush F dX7_readHeight_76 (by decide) ?_
                refine x_goto (tgt := 83) F dX7_readHeight_78 (by decide) ?_
                refine x_V2 F (m_X7_takes (M0 := M0) (s := (s + 1 + 1)) hY (by omega) (by decide) (by decide)) mlX7_154 mvX7_takes rfl dX7_readHeight_83 (by decide) rfl ⟨Nat.le_of_ble_eq_true rfl, Nat.le_of_ble_eq_true rfl⟩ ⟨Nat.zero_le _, Nat.zero_le _⟩ (Nat.le_of_ble_eq_true rfl) ?_
                refine xb_if_ne (tgt := 91) F dX7_readHeight_86 (by decide) (fun h_17 => ?_) (fun h_17 => ?_)
                · have zp3 := h_17
                  have zi3 := rgB_in zp3 (by decide)
                  rw [b01_t zp3]
                  refine x_aload_n F dX7_readHeight_91 rfl ?_
                  refine x_getc (v := 77) F flX7_34 rfl dX7_readHeight_92 (by decide) (by decide) rfl rfl ?_
                  refine x_aload_n F dX7_readHeight_95 rfl ?_
                  refine xj_geti F flX7_166 rfl dX7_readHeight_96 (by decide) (by decide) rfl (fun hg_18 => ?_)
                  refine xj_bipush F dX7_readHeight_99 (by decide) ?_
                  refine x_aload_n F dX7_readHeight_101 rfl ?_
                  refine xj_iconst F dX7_readHeight_102 ?_
                  refine x_V1 F (m_X7_digit (M0 := M0) (s := (s + 1 + 1 + 1)) hY (by omega) (by decide) (by omega)) mlX7_163 mvX7_digit rfl dX7_readHeight_103 (by decide) rfl ⟨Nat.le_of_ble_eq_true rfl, Nat.le_of_ble_eq_true rfl⟩ ⟨Nat.zero_le _, Nat.zero_le _⟩ (Nat.le_of_ble_eq_true rfl) ?_
                  refine xj_imul F dX7_readHeight_106 ?_
                  refine xj_bipush F dX7_readHeight_107 (by decide) ?_
                  refine x_aload_n F dX7_readHeight_109 rfl ?_
                  refine xj_iconst F dX7_readHeight_110 ?_
                  refine x_V1 F (m_X7_digit (M0 := M0) (s := (s + 1 + 1 + 1)) hY (by omega) (by decide) (by omega)) mlX7_163 mvX7_digit rfl dX7_readHeight_111 (by decide) rfl ⟨Nat.le_of_ble_eq_true rfl, Nat.le_of_ble_eq_true rfl⟩ ⟨Nat.zero_le _, Nat.zero_le _⟩ (Nat.le_of_ble_eq_true rfl) ?_
                  refine xj_imul F dX7_readHeight_114 ?_
                  refine xj_iadd F dX7_readHeight_115 ?_
                  refine x_aload_n F dX7_readHeight_116 rfl ?_
                  refine xj_iconst F dX7_readHeight_117 ?_
                  refine x_V1 F (m_X7_digit (M0 := M0) (s := (s + 1 + 1 + 1)) hY (by omega) (by decide) (by omega)) mlX7_163 mvX7_digit rfl dX7_readHeight_118 (by decide) rfl ⟨Nat.le_of_ble_eq_true rfl, Nat.le_of_ble_eq_true rfl⟩ ⟨Nat.zero_le _, Nat.zero_le _⟩ (Nat.le_of_ble_eq_true rfl) ?_
                  refine xj_iadd F dX7_readHeight_121 ?_
                  refine xj_iast F rfl dX7_readHeight_122 (by omega) ?_
                  refine xj_iconst F dX7_readHeight_123 ?_
                  refine x_iret F FR dX7_readHeight_124 rfl (Nat.le_refl _) (Nat.le_refl _) ?_
                  first
                    | (have zna : ¬ al (htT M0 s) = true := (by unfold htT; rw [al_f zn1]; decide); exact ⟨by rw [jb_f zna], by unfold htM; rw [if_neg zna]; unfold htT; rw [pf_f zn1, b01_f zn1]⟩)
                    | (have zna : ¬ al (htT M0 s) = true := (by unfold htT; rw [al_t zp1, al_f (show ¬ rgB M0 (s + 1) 48 (if cdZ M0 s = 50 then 50 else 57) = true by (first | rw [if_pos (by omega)] | rw [if_neg (by omega)]); exact zn2)]; decide); exact ⟨by rw [jb_f zna], by unfold htM; rw [if_neg zna]; unfold htT; rw [pf_t zp1, pf_f (show ¬ rgB M0 (s + 1) 48 (if cdZ M0 s = 50 then 50 else 57) = true by (first | rw [if_pos (by omega)] | rw [if_neg (by omega)]); exact zn2), b01_f zn2]; exact congrArg (spM M0) (by omega)⟩)
                    | (have zna : ¬ al (htT M0 s) = true := (by unfold htT; rw [al_t zp1, al_t (show rgB M0 (s + 1) 48 (if cdZ M0 s = 50 then 50 else 57) = true by (first | rw [if_pos (by omega)] | rw [if_neg (by omega)]); exact zp2), al_f (show ¬ rgB M0 (s + 1 + 1) 48 (if cdZ M0 s = 50 ∧ cdZ M0 (s + 1) = 50 then 48 else 57) = true by (first | rw [if_pos (by omega)] | rw [if_neg (by omega)]); exact zn3)]; decide); exact ⟨by rw [jb_f zna], by unfold htM; rw [if_neg zna]; unfold htT; rw [pf_t zp1, pf_t (show rgB M0 (s + 1) 48 (if cdZ M0 s = 50 then 50 else 57) = true by (first | rw [if_pos (by omega)] | rw [if_neg (by omega)]); exact zp2), pf_f (show ¬ rgB M0 (s + 1 + 1) 48 (if cdZ M0 s = 50 ∧ cdZ M0 (s + 1) = 50 then 48 else 57) = true by (first | rw [if_pos (by omega)] | rw [if_neg (by omega)]); exact zn3), b01_f zn3]; exact congrArg (spM M0) (by omega)⟩)
                    | (have zna : al (htT M0 s) = true := (by unfold htT; rw [al_t zp1, al_t (show rgB M0 (s + 1) 48 (if cdZ M0 s = 50 then 50 else 57) = true by (first | rw [if_pos (by omega)] | rw [if_neg (by omega)]); exact zp2), al_t (show rgB M0 (s + 1 + 1) 48 (if cdZ M0 s = 50 ∧ cdZ M0 (s + 1) = 50 then 48 else 57) = true by (first | rw [if_pos (by omega)] | rw [if_neg (by omega)]); exact zp3)]; rfl); exact ⟨by rw [jb_t zna], by unfold htM; rw [if_pos zna]; unfold htT; rw [pf_t zp1, pf_t (show rgB M0 (s + 1) 48 (if cdZ M0 s = 50 then 50 else 57) = true by (first | rw [if_pos (by omega)] | rw [if_neg (by omega)]); exact zp2), pf_t (show rgB M0 (s + 1 + 1) 48 (if cdZ M0 s = 50 ∧ cdZ M0 (s + 1) = 50 then 48 else 57) = true by (first | rw [if_pos (by omega)] | rw [if_neg (by omega)]); exact zp3), spM_up _ _ (by decide)]; show spM (upI M0 77 _ _) _ = spM (upI M0 77 _ _) (s + (1 + (1 + (1 + 0)))); rw [show s + (1 + (1 + (1 + 0))) = s + 1 + 1 + 1 by omega, ze13, show htV M0 s = 100 * (cdZ M0 (s + 1 + 1 + 1 - 3) - 48) + 10 * (cdZ M0 (s + 1 + 1 + 1 - 2) - 48) + (cdZ M0 (s + 1 + 1 + 1 - 1) - 48) by unfold htV; rw [show s + 1 + 1 + 1 - 3 = s by omega, show s + 1 + 1 + 1 - 2 = s + 1 by omega, show s + 1 + 1 + 1 - 1 = s + 1 + 1 by omega]]⟩)
                · have zn3 := h_17
                  refine xj_iconst F dX7_readHeight_89 ?_
                  refine x_iret F FR dX7_readHeight_90 rfl (Nat.le_refl _) (Nat.le_refl _) ?_
                  first
                    | (have zna : ¬ al (htT M0 s) = true := (by unfold htT; rw [al_f zn1]; decide); exact ⟨by rw [jb_f zna], by unfold htM; rw [if_neg zna]; unfold htT; rw [pf_f zn1, b01_f zn1]⟩)
                    | (have zna : ¬ al (htT M0 s) = true := (by unfold htT; rw [al_t zp1, al_f (show ¬ rgB M0 (s + 1) 48 (if cdZ M0 s = 50 then 50 else 57) = true by (first | rw [if_pos (by omega)] | rw [if_neg (by omega)]); exact zn2)]; decide); exact ⟨by rw [jb_f zna], by unfold htM; rw [if_neg zna]; unfold htT; rw [pf_t zp1, pf_f (show ¬ rgB M0 (s + 1) 48 (if cdZ M0 s = 50 then 50 else 57) = true by (first | rw [if_pos (by omega)] | rw [if_neg (by omega)]); exact zn2), b01_f zn2]; exact congrArg (spM M0) (by omega)⟩)
                    | (have zna : ¬ al (htT M0 s) = true := (by unfold htT; rw [al_t zp1, al_t (show rgB M0 (s + 1) 48 (if cdZ M0 s = 50 then 50 else 57) = true by (first | rw [if_pos (by omega)] | rw [if_neg (by omega)]); exact zp2), al_f (show ¬ rgB M0 (s + 1 + 1) 48 (if cdZ M0 s = 50 ∧ cdZ M0 (s + 1) = 50 then 48 else 57) = true by (first | rw [if_pos (by omega)] | rw [if_neg (by omega)]); exact zn3)]; decide); exact ⟨by rw [jb_f zna], by unfold htM; rw [if_neg zna]; unfold htT; rw [pf_t zp1, pf_t (show rgB M0 (s + 1) 48 (if cdZ M0 s = 50 then 50 else 57) = true by (first | rw [if_pos (by omega)] | rw [if_neg (by omega)]); exact zp2), pf_f (show ¬ rgB M0 (s + 1 + 1) 48 (if cdZ M0 s = 50 ∧ cdZ M0 (s + 1) = 50 then 48 else 57) = true by (first | rw [if_pos (by omega)] | rw [if_neg (by omega)]); exact zn3), b01_f zn3]; exact congrArg (spM M0) (by omega)⟩)
                    | (have zna : al (htT M0 s) = true := (by unfold htT; rw [al_t zp1, al_t (show rgB M0 (s + 1) 48 (if cdZ M0 s = 50 then 50 else 57) = true by (first | rw [if_pos (by omega)] | rw [if_neg (by omega)]); exact zp2), al_t (show rgB M0 (s + 1 + 1) 48 (if cdZ M0 s = 50 ∧ cdZ M0 (s + 1) = 50 then 48 else 57) = true by (first | rw [if_pos (by omega)] | rw [if_neg (by omega)]); exact zp3)]; rfl); exact ⟨by rw [jb_t zna], by unfold htM; rw [if_pos zna]; unfold htT; rw [pf_t zp1, pf_t (show rgB M0 (s + 1) 48 (if cdZ M0 s = 50 then 50 else 57) = true by (first | rw [if_pos (by omega)] | rw [if_neg (by omega)]); exact zp2), pf_t (show rgB M0 (s + 1 + 1) 48 (if cdZ M0 s = 50 ∧ cdZ M0 (s + 1) = 50 then 48 else 57) = true by (first | rw [if_pos (by omega)] | rw [if_neg (by omega)]); exact zp3), spM_up _ _ (by decide)]; show spM (upI M0 77 _ _) _ = spM (upI M0 77 _ _) (s + (1 + (1 + (1 + 0)))); rw [show s + (1 + (1 + (1 + 0))) = s + 1 + 1 + 1 by omega, ze13, show htV M0 s = 100 * (cdZ M0 (s + 1 + 1 + 1 - 3) - 48) + 10 * (cdZ M0 (s + 1 + 1 + 1 - 2) - 48) + (cdZ M0 (s + 1 + 1 + 1 - 1) - 48) by unfold htV; rw [show s + 1 + 1 + 1 - 3 = s by omega, show s + 1 + 1 + 1 - 2 = s + 1 by omega, show s + 1 + 1 + 1 - 1 = s + 1 + 1 by omega]]⟩)
        · have zn2 := h_10
          refine xj_iconst F dX7_readHeight_48 ?_
          refine x_iret F FR dX7_readHeight_49 rfl (Nat.le_refl _) (Nat.le_refl _) ?_
          first
            | (have zna : ¬ al (htT M0 s) = true := (by unfold htT; rw [al_f zn1]; decide); exact ⟨by rw [jb_f zna], by unfold htM; rw [if_neg zna]; unfold htT; rw [pf_f zn1, b01_f zn1]⟩)
            | (have zna : ¬ al (htT M0 s) = true := (by unfold htT; rw [al_t zp1, al_f (show ¬ rgB M0 (s + 1) 48 (if cdZ M0 s = 50 then 50 else 57) = true by (first | rw [if_pos (by omega)] | rw [if_neg (by omega)]); exact zn2)]; decide); exact ⟨by rw [jb_f zna], by unfold htM; rw [if_neg zna]; unfold htT; rw [pf_t zp1, pf_f (show ¬ rgB M0 (s + 1) 48 (if cdZ M0 s = 50 then 50 else 57) = true by (first | rw [if_pos (by omega)] | rw [if_neg (by omega)]); exact zn2), b01_f zn2]; exact congrArg (spM M0) (by omega)⟩)
            | (have zna : ¬ al (htT M0 s) = true := (by unfold htT; rw [al_t zp1, al_t (show rgB M0 (s + 1) 48 (if cdZ M0 s = 50 then 50 else 57) = true by (first | rw [if_pos (by omega)] | rw [if_neg (by omega)]); exact zp2), al_f (show ¬ rgB M0 (s + 1 + 1) 48 (if cdZ M0 s = 50 ∧ cdZ M0 (s + 1) = 50 then 48 else 57) = true by (first | rw [if_pos (by omega)] | rw [if_neg (by omega)]); exact zn3)]; decide); exact ⟨by rw [jb_f zna], by unfold htM; rw [if_neg zna]; unfold htT; rw [pf_t zp1, pf_t (show rgB M0 (s + 1) 48 (if cdZ M0 s = 50 then 50 else 57) = true by (first | rw [if_pos (by omega)] | rw [if_neg (by omega)]); exact zp2), pf_f (show ¬ rgB M0 (s + 1 + 1) 48 (if cdZ M0 s = 50 ∧ cdZ M0 (s + 1) = 50 then 48 else 57) = true by (first | rw [if_pos (by omega)] | rw [if_neg (by omega)]); exact zn3), b01_f zn3]; exact congrArg (spM M0) (by omega)⟩)
            | (have zna : al (htT M0 s) = true := (by unfold htT; rw [al_t zp1, al_t (show rgB M0 (s + 1) 48 (if cdZ M0 s = 50 then 50 else 57) = true by (first | rw [if_pos (by omega)] | rw [if_neg (by omega)]); exact zp2), al_t (show rgB M0 (s + 1 + 1) 48 (if cdZ M0 s = 50 ∧ cdZ M0 (s + 1) = 50 then 48 else 57) = true by (first | rw [if_pos (by omega)] | rw [if_neg (by omega)]); exact zp3)]; rfl); exact ⟨by rw [jb_t zna], by unfold htM; rw [if_pos zna]; unfold htT; rw [pf_t zp1, pf_t (show rgB M0 (s + 1) 48 (if cdZ M0 s = 50 then 50 else 57) = true by (first | rw [if_pos (by omega)] | rw [if_neg (by omega)]); exact zp2), pf_t (show rgB M0 (s + 1 + 1) 48 (if cdZ M0 s = 50 ∧ cdZ M0 (s + 1) = 50 then 48 else 57) = true by (first | rw [if_pos (by omega)] | rw [if_neg (by omega)]); exact zp3), spM_up _ _ (by decide)]; show spM (upI M0 77 _ _) _ = spM (upI M0 77 _ _) (s + (1 + (1 + (1 + 0)))); rw [show s + (1 + (1 + (1 + 0))) = s + 1 + 1 + 1 by omega, ze13, show htV M0 s = 100 * (cdZ M0 (s + 1 + 1 + 1 - 3) - 48) + 10 * (cdZ M0 (s + 1 + 1 + 1 - 2) - 48) + (cdZ M0 (s + 1 + 1 + 1 - 1) - 48) by unfold htV; rw [show s + 1 + 1 + 1 - 3 = s by omega, show s + 1 + 1 + 1 - 2 = s + 1 by omega, show s + 1 + 1 + 1 - 1 = s + 1 + 1 by omega]]⟩)
  · have zn1 := h_1
    refine xj_iconst F dX7_readHeight_11 ?_
    refine x_iret F FR dX7_readHeight_12 rfl (Nat.le_refl _) (Nat.le_refl _) ?_
    first
      | (have zna : ¬ al (htT M0 s) = true := (by unfold htT; rw [al_f zn1]; decide); exact ⟨by rw [jb_f zna], by unfold htM; rw [if_neg zna]; unfold htT; rw [pf_f zn1, b01_f zn1]⟩)
      | (have zna : ¬ al (htT M0 s) = true := (by unfold htT; rw [al_t zp1, al_f (show ¬ rgB M0 (s + 1) 48 (if cdZ M0 s = 50 then 50 else 57) = true by (first | rw [if_pos (by omega)] | rw [if_neg (by omega)]); exact zn2)]; decide); exact ⟨by rw [jb_f zna], by unfold htM; rw [if_neg zna]; unfold htT; rw [pf_t zp1, pf_f (show ¬ rgB M0 (s + 1) 48 (if cdZ M0 s = 50 then 50 else 57) = true by (first | rw [if_pos (by omega)] | rw [if_neg (by omega)]); exact zn2), b01_f zn2]; exact congrArg (spM M0) (by omega)⟩)
      | (have zna : ¬ al (htT M0 s) = true := (by unfold htT; rw [al_t zp1, al_t (show rgB M0 (s + 1) 48 (if cdZ M0 s = 50 then 50 else 57) = true by (first | rw [if_pos (by omega)] | rw [if_neg (by omega)]); exact zp2), al_f (show ¬ rgB M0 (s + 1 + 1) 48 (if cdZ M0 s = 50 ∧ cdZ M0 (s + 1) = 50 then 48 else 57) = true by (first | rw [if_pos (by omega)] | rw [if_neg (by omega)]); exact zn3)]; decide); exact ⟨by rw [jb_f zna], by unfold htM; rw [if_neg zna]; unfold htT; rw [pf_t zp1, pf_t (show rgB M0 (s + 1) 48 (if cdZ M0 s = 50 then 50 else 57) = true by (first | rw [if_pos (by omega)] | rw [if_neg (by omega)]); exact zp2), pf_f (show ¬ rgB M0 (s + 1 + 1) 48 (if cdZ M0 s = 50 ∧ cdZ M0 (s + 1) = 50 then 48 else 57) = true by (first | rw [if_pos (by omega)] | rw [if_neg (by omega)]); exact zn3), b01_f zn3]; exact congrArg (spM M0) (by omega)⟩)
      | (have zna : al (htT M0 s) = true := (by unfold htT; rw [al_t zp1, al_t (show rgB M0 (s + 1) 48 (if cdZ M0 s = 50 then 50 else 57) = true by (first | rw [if_pos (by omega)] | rw [if_neg (by omega)]); exact zp2), al_t (show rgB M0 (s + 1 + 1) 48 (if cdZ M0 s = 50 ∧ cdZ M0 (s + 1) = 50 then 48 else 57) = true by (first | rw [if_pos (by omega)] | rw [if_neg (by omega)]); exact zp3)]; rfl); exact ⟨by rw [jb_t zna], by unfold htM; rw [if_pos zna]; unfold htT; rw [pf_t zp1, pf_t (show rgB M0 (s + 1) 48 (if cdZ M0 s = 50 then 50 else 57) = true by (first | rw [if_pos (by omega)] | rw [if_neg (by omega)]); exact zp2), pf_t (show rgB M0 (s + 1 + 1) 48 (if cdZ M0 s = 50 ∧ cdZ M0 (s + 1) = 50 then 48 else 57) = true by (first | rw [if_pos (by omega)] | rw [if_neg (by omega)]); exact zp3), spM_up _ _ (by decide)]; show spM (upI M0 77 _ _) _ = spM (upI M0 77 _ _) (s + (1 + (1 + (1 + 0)))); rw [show s + (1 + (1 + (1 + 0))) = s + 1 + 1 + 1 by omega, ze13, show htV M0 s = 100 * (cdZ M0 (s + 1 + 1 + 1 - 3) - 48) + 10 * (cdZ M0 (s + 1 + 1 + 1 - 2) - 48) + (cdZ M0 (s + 1 + 1 + 1 - 1) - 48) by unfold htV; rw [show s + 1 + 1 + 1 - 3 = s by omega, show s + 1 + 1 + 1 - 2 = s + 1 by omega, show s + 1 + 1 + 1 - 1 = s + 1 + 1 by omega]]⟩)
