/-! THE MODEL reads voices, places -/
def vcZ (c : Int) : Int := if c = 98 then 0 else if c = 116 then 1 else if c = 97 then 2 else if c = 115 then 3 else -1
def vcB (M : xM) (s : Int) : Bool := decide (0 ≤ vcZ (cdZ M s))
def vcM (M : xM) (s : Int) : xM := upI M 78 (pa M).toNat (jI (vcZ (cdZ M s)))
theorem vcZ_b (c : Int) : -1 ≤ vcZ c ∧ vcZ c ≤ 3 := by unfold vcZ; (repeat' split) <;> omega
theorem okW_up {M : xM} {a k : Nat} {x : Int32} (h : okW M) (ha : a ≠ 74) (h2 : a ≠ 68 ∨ k ≠ 11) : okW (upI M a k x) := by
  have e : (upI M a k x).1 68 11 = M.1 68 11 := by rw [upI_1, if_neg (by omega)]
  unfold okW ln
  rw [e, upI_row (b := 74) (fun z => ha z.symm)]
  exact h
theorem pa_up {M : xM} {a k : Nat} {x : Int32} (h2 : a ≠ 68 ∨ k ≠ 13) : pa (upI M a k x) = pa M := by
  unfold pa
  rw [upI_1, if_neg (by omega)]
theorem rgB_up {M : xM} {a k : Nat} {x : Int32} (ha : a ≠ 74) (h2 : a ≠ 68 ∨ k ≠ 11) (s b c : Int) : rgB (upI M a k x) s b c = rgB M s b c := by
  unfold rgB
  rw [cdZ_up ha h2]
set_option maxRecDepth 20000 in
theorem L_X7_readVoice_75 {l : Launch} {E : xE} {s v : Int} {M0 M1 : xM} (hs : 0 ≤ s ∧ s < 61) (hv : -1 ≤ v ∧ v ≤ 3) (h13 : (M1.1 68 13).toInt = pa M0) (hp : 0 ≤ pa M0 ∧ pa M0 < 12) (h78 : (M1.1 78 (pa M0).toNat).toInt = v) {Y : xY} (F : xFix E (xA E) Y cX7_readVoice yX7_readVoice.cls 2) (FR : xRet E Y (some FieldType.boolean) 0 0 (fun r' M'' => r' = vI (jb (decide (0 ≤ v) = true)) ∧ M'' = spM M1 (s + b01 (decide (0 ≤ v)))) (fun _ _ => False)) : ∀ (k : Nat) (y : Int32), 0 < k → WP l E (xRm 8 0 0) (xA E) Y 0 0 75 [vA 68, vI y] [] (spM M1 s) := by
  intro k
  induction k with
  | zero => intro y  hk; exact absurd hk (Nat.not_lt_zero _)
  | succ k ih =>
    intro y  hk
    have e12 : ((spM M1 s).1 68 12).toInt = s := spM_sp M1 (by omega)
    have e13 : ∀ t, ((spM M1 t).1 68 13).toInt = pa M0 := fun t => (by rw [spM_k _ _ (by decide)]; exact h13)
    have e78 : ∀ t, ((spM M1 t).1 78 (pa M0).toNat).toInt = v := fun t => (by rw [spM_row _ _ (by decide)]; exact h78)
    have e2 : ∀ x, upI (spM M1 s) 68 12 (jI x) = spM M1 x := fun x => spM_spM M1 s x
    refine x_aload_n F dX7_readVoice_75 rfl ?_
    refine x_dup F dX7_readVoice_76 rfl ?_
    refine xj_geti F flX7_148 rfl dX7_readVoice_77 (by decide) (by decide) rfl (fun hg_1 => ?_)
    rw [e12]
    refine x_aload_n F dX7_readVoice_80 rfl ?_
    refine x_getc (v := 78) F flX7_37 rfl dX7_readVoice_81 (by decide) (by decide) rfl rfl ?_
    refine x_aload_n F dX7_readVoice_84 rfl ?_
    refine xj_geti F flX7_166 rfl dX7_readVoice_85 (by decide) (by decide) rfl (fun hg_2 => ?_)
    rw [e13]
    refine xj_lald2 F rfl dX7_readVoice_88 (by omega) (fun hg_3 => ?_)
    rw [e78]
    refine xj_iconst F dX7_readVoice_89 ?_
    refine xj_icmp_ne (tgt := 97) F dX7_readVoice_90 (by decide) (by omega) (fun h_4 => ?_) (fun h_4 => ?_)
    · refine xj_iconst F dX7_readVoice_97 ?_
      refine xj_iadd F dX7_readVoice_98 ?_
      refine x_puti F flX7_148 rfl dX7_readVoice_99 (by decide) (by decide) rfl fw7_12 rfl rfl ?_
      have zz9 : 0 ≤ (0 : Int) := (by decide)
      rw [e2]
      refine x_aload_n F dX7_readVoice_102 rfl ?_
      refine x_getc (v := 78) F flX7_37 rfl dX7_readVoice_103 (by decide) (by decide) rfl rfl ?_
      refine x_aload_n F dX7_readVoice_106 rfl ?_
      refine xj_geti F flX7_166 rfl dX7_readVoice_107 (by decide) (by decide) rfl (fun hg_5 => ?_)
      rw [e13]
      refine xj_lald2 F rfl dX7_readVoice_110 (by omega) (fun hg_6 => ?_)
      rw [e78]
      refine xj_iconst F dX7_readVoice_111 ?_
      refine xj_icmp_eq (tgt := 119) F dX7_readVoice_112 (by decide) (by omega) (fun h_7 => ?_) (fun h_7 => ?_)
      · refine xj_iconst F dX7_readVoice_119 ?_
        refine x_iret F FR dX7_readVoice_120 rfl (Nat.le_refl _) (Nat.le_refl _) ?_
        first
          | (exfalso; omega)
          | exact ⟨by rw [jb_t (decide_eq_true (by omega))], by rw [b01_t (decide_eq_true (by omega))]⟩
          | exact ⟨by rw [jb_f (fun z => absurd (of_decide_eq_true z) (by omega))], by rw [b01_f (fun z => absurd (of_decide_eq_true z) (by omega))]⟩
      · refine xj_iconst F dX7_readVoice_115 ?_
        refine x_goto (tgt := 120) F dX7_readVoice_116 (by decide) ?_
        refine x_iret F FR dX7_readVoice_120 rfl (Nat.le_refl _) (Nat.le_refl _) ?_
        first
          | (exfalso; omega)
          | exact ⟨by rw [jb_t (decide_eq_true (by omega))], by rw [b01_t (decide_eq_true (by omega))]⟩
          | exact ⟨by rw [jb_f (fun z => absurd (of_decide_eq_true z) (by omega))], by rw [b01_f (fun z => absurd (of_decide_eq_true z) (by omega))]⟩
    · refine xj_iconst F dX7_readVoice_93 ?_
      refine x_goto (tgt := 98) F dX7_readVoice_94 (by decide) ?_
      refine xj_iadd F dX7_readVoice_98 ?_
      refine x_puti F flX7_148 rfl dX7_readVoice_99 (by decide) (by decide) rfl fw7_12 rfl rfl ?_
      have zz9 : 0 ≤ (0 : Int) := (by decide)
      rw [e2]
      refine x_aload_n F dX7_readVoice_102 rfl ?_
      refine x_getc (v := 78) F flX7_37 rfl dX7_readVoice_103 (by decide) (by decide) rfl rfl ?_
      refine x_aload_n F dX7_readVoice_106 rfl ?_
      refine xj_geti F flX7_166 rfl dX7_readVoice_107 (by decide) (by decide) rfl (fun hg_8 => ?_)
      rw [e13]
      refine xj_lald2 F rfl dX7_readVoice_110 (by omega) (fun hg_9 => ?_)
      rw [e78]
      refine xj_iconst F dX7_readVoice_111 ?_
      refine xj_icmp_eq (tgt := 119) F dX7_readVoice_112 (by decide) (by omega) (fun h_10 => ?_) (fun h_10 => ?_)
      · refine xj_iconst F dX7_readVoice_119 ?_
        refine x_iret F FR dX7_readVoice_120 rfl (Nat.le_refl _) (Nat.le_refl _) ?_
        first
          | (exfalso; omega)
          | exact ⟨by rw [jb_t (decide_eq_true (by omega))], by rw [b01_t (decide_eq_true (by omega))]⟩
          | exact ⟨by rw [jb_f (fun z => absurd (of_decide_eq_true z) (by omega))], by rw [b01_f (fun z => absurd (of_decide_eq_true z) (by omega))]⟩
      · refine xj_iconst F dX7_readVoice_115 ?_
        refine x_goto (tgt := 120) F dX7_readVoice_116 (by decide) ?_
        refine x_iret F FR dX7_readVoice_120 rfl (Nat.le_refl _) (Nat.le_refl _) ?_
        first
          | (exfalso; omega)
          | exact ⟨by rw [jb_t (decide_eq_true (by omega))], by rw [b01_t (decide_eq_true (by omega))]⟩
          | exact ⟨by rw [jb_f (fun z => absurd (of_decide_eq_true z) (by omega))], by rw [b01_f (fun z => absurd (of_decide_eq_true z) (by omega))]⟩
set_option maxRecDepth 20000 in
theorem L_X7_readVoice_24 {l : Launch} {E : xE} {s : Int} {M0 : xM} (hY : okW M0) (hs : 0 ≤ s ∧ s ≤ 60) (hp : 0 ≤ pa M0 ∧ pa M0 < 12) {Y : xY} (F : xFix E (xA E) Y cX7_readVoice yX7_readVoice.cls 2) (FR : xRet E Y (some FieldType.boolean) 0 0 (fun r' M'' => r' = vI (jb (vcB M0 s = true)) ∧ M'' = (spM (vcM M0 s) (s + b01 (vcB M0 s)))) (fun _ _ => False)) : ∀ (k : Nat) (y : xV), 0 < k → WP l E (xRm 8 0 0) (xA E) Y 0 0 24 [vA 68, y] [vI (jI (cdZ M0 s))] (spM M0 s) := by
  intro k
  induction k with
  | zero => intro y  hk; exact absurd hk (Nat.not_lt_zero _)
  | succ k ih =>
    intro y  hk
    have hcb := cdZ_b hY s
    have e13 : ((spM M0 s).1 68 13).toInt = pa M0 := (by rw [spM_k _ _ (by decide)]; rfl)
    have zz78 : ((vcM M0 s).1 78 (pa M0).toNat).toInt = vcZ (cdZ M0 s) := (by have := vcZ_b (cdZ M0 s); unfold vcM; rw [upI_1, if_pos ⟨rfl, rfl⟩, jI_toInt (by omega)])
    have g := L_X7_readVoice_75 (l := l) (E := E) (s := s) (M0 := M0) (M1 := vcM M0 s) (v := vcZ (cdZ M0 s)) (by omega) (vcZ_b _) (pa_up (Or.inl (by decide))) hp zz78 F FR _ (jI (cdZ M0 s)) (Nat.lt_succ_self 0)
    unfold vcM at g
    rw [← spM_up _ _ (by decide)] at g
    refine x_istore_n F dX7_readVoice_24 (by decide) ?_
    refine x_aload_n F dX7_readVoice_25 rfl ?_
    refine x_getc (v := 78) F flX7_37 rfl dX7_readVoice_26 (by decide) (by decide) rfl rfl ?_
    refine x_aload_n F dX7_readVoice_29 rfl ?_
    refine xj_geti F flX7_166 rfl dX7_readVoice_30 (by decide) (by decide) rfl (fun hg_1 => ?_)
    rw [e13]
    refine x_iload_n F dX7_readVoice_33 rfl ?_
    refine xj_bipush F dX7_readVoice_34 (by decide) ?_
    refine xj_icmp_ne (tgt := 43) F dX7_readVoice_36 (by decide) (by omega) (fun h_2 => ?_) (fun h_2 => ?_)
    · refine x_iload_n F dX7_readVoice_43 rfl ?_
      refine xj_bipush F dX7_readVoice_44 (by decide) ?_
      refine xj_icmp_ne (tgt := 53) F dX7_readVoice_46 (by decide) (by omega) (fun h_3 => ?_) (fun h_3 => ?_)
      · refine x_iload_n F dX7_readVoice_53 rfl ?_
        refine xj_bipush F dX7_readVoice_54 (by decide) ?_
        refine xj_icmp_ne (tgt := 63) F dX7_readVoice_56 (by decide) (by omega) (fun h_4 => ?_) (fun h_4 => ?_)
        · refine x_iload_n F dX7_readVoice_63 rfl ?_
          refine xj_bipush F dX7_readVoice_64 (by decide) ?_
          refine xj_icmp_ne (tgt := 73) F dX7_readVoice_66 (by decide) (by omega) (fun h_5 => ?_) (fun h_5 => ?_)
          · refine xj_iconst F dX7_readVoice_73 ?_
            refine xj_iast F rfl dX7_readVoice_74 (by omega) ?_
            first
              | (rw [show vcZ (cdZ M0 s) = 0 by unfold vcZ; rw [if_pos (by omega)]] at g; exact g)
              | (rw [show vcZ (cdZ M0 s) = 1 by unfold vcZ; rw [if_neg (by omega), if_pos (by omega)]] at g; exact g)
              | (rw [show vcZ (cdZ M0 s) = 2 by unfold vcZ; rw [if_neg (by omega), if_neg (by omega), if_pos (by omega)]] at g; exact g)
              | (rw [show vcZ (cdZ M0 s) = 3 by unfold vcZ; rw [if_neg (by omega), if_neg (by omega), if_neg (by omega), if_pos (by omega)]] at g; exact g)
              | (rw [show vcZ (cdZ M0 s) = -1 by unfold vcZ; rw [if_neg (by omega), if_neg (by omega), if_neg (by omega), if_neg (by omega)]] at g; exact g)
          · refine xj_iconst F dX7_readVoice_69 ?_
            refine x_goto (tgt := 74) F dX7_readVoice_70 (by decide) ?_
            refine xj_iast F rfl dX7_readVoice_74 (by omega) ?_
            first
              | (rw [show vcZ (cdZ M0 s) = 0 by unfold vcZ; rw [if_pos (by omega)]] at g; exact g)
              | (rw [show vcZ (cdZ M0 s) = 1 by unfold vcZ; rw [if_neg (by omega), if_pos (by omega)]] at g; exact g)
              | (rw [show vcZ (cdZ M0 s) = 2 by unfold vcZ; rw [if_neg (by omega), if_neg (by omega), if_pos (by omega)]] at g; exact g)
              | (rw [show vcZ (cdZ M0 s) = 3 by unfold vcZ; rw [if_neg (by omega), if_neg (by omega), if_neg (by omega), if_pos (by omega)]] at g; exact g)
              | (rw [show vcZ (cdZ M0 s) = -1 by unfold vcZ; rw [if_neg (by omega), if_neg (by omega), if_neg (by omega), if_neg (by omega)]] at g; exact g)
        · refine xj_iconst F dX7_readVoice_59 ?_
          refine x_goto (tgt := 74) F dX7_readVoice_60 (by decide) ?_
          refine xj_iast F rfl dX7_readVoice_74 (by omega) ?_
          first
            | (rw [show vcZ (cdZ M0 s) = 0 by unfold vcZ; rw [if_pos (by omega)]] at g; exact g)
            | (rw [show vcZ (cdZ M0 s) = 1 by unfold vcZ; rw [if_neg (by omega), if_pos (by omega)]] at g; exact g)
            | (rw [show vcZ (cdZ M0 s) = 2 by unfold vcZ; rw [if_neg (by omega), if_neg (by omega), if_pos (by omega)]] at g; exact g)
            | (rw [show vcZ (cdZ M0 s) = 3 by unfold vcZ; rw [if_neg (by omega), if_neg (by omega), if_neg (by omega), if_pos (by omega)]] at g; exact g)
            | (rw [show vcZ (cdZ M0 s) = -1 by unfold vcZ; rw [if_neg (by omega), if_neg (by omega), if_neg (by omega), if_neg (by omega)]] at g; exact g)
      · refine xj_iconst F dX7_readVoice_49 ?_
        refine x_goto (tgt := 74) F dX7_readVoice_50 (by decide) ?_
        refine xj_iast F rfl dX7_readVoice_74 (by omega) ?_
        first
          | (rw [show vcZ (cdZ M0 s) = 0 by unfold vcZ; rw [if_pos (by omega)]] at g; exact g)
          | (rw [show vcZ (cdZ M0 s) = 1 by unfold vcZ; rw [if_neg (by omega), if_pos (by omega)]] at g; exact g)
          | (rw [show vcZ (cdZ M0 s) = 2 by unfold vcZ; rw [if_neg (by omega), if_neg (by omega), if_pos (by omega)]] at g; exact g)
          | (rw [show vcZ (cdZ M0 s) = 3 by unfold vcZ; rw [if_neg (by omega), if_neg (by omega), if_neg (by omega), if_pos (by omega)]] at g; exact g)
          | (rw [show vcZ (cdZ M0 s) = -1 by unfold vcZ; rw [if_neg (by omega), if_neg (by omega), if_neg (by omega), if_neg (by omega)]] at g; exact g)
    · refine xj_iconst F dX7_readVoice_39 ?_
      refine x_goto (tgt := 74) F dX7_readVoice_40 (by decide) ?_
      refine xj_iast F rfl dX7_readVoice_74 (by omega) ?_
      first
        | (rw [show vcZ (cdZ M0 s) = 0 by unfold vcZ; rw [if_pos (by omega)]] at g; exact g)
        | (rw [show vcZ (cdZ M0 s) = 1 by unfold vcZ; rw [if_neg (by omega), if_pos (by omega)]] at g; exact g)
        | (rw [show vcZ (cdZ M0 s) = 2 by unfold vcZ; rw [if_neg (by omega), if_neg (by omega), if_pos (by omega)]] at g; exact g)
        | (rw [show vcZ (cdZ M0 s) = 3 by unfold vcZ; rw [if_neg (by omega), if_neg (by omega), if_neg (by omega), if_pos (by omega)]] at g; exact g)
        | (rw [show vcZ (cdZ M0 s) = -1 by unfold vcZ; rw [if_neg (by omega), if_neg (by omega), if_neg (by omega), if_neg (by omega)]] at g; exact g)
set_option maxRecDepth 20000 in
theorem m_X7_readVoice {l : Launch} {E : xE} {s : Int} {M0 : xM} (hY : okW M0) (hs : 0 ≤ s ∧ s ≤ 60) (hp : 0 ≤ pa M0 ∧ pa M0 < 12) : XF l E 8 yX7_readVoice cX7_readVoice 2 (some FieldType.boolean) [vA 68] (spM M0 s) (vI (jb (vcB M0 s = true))) ((spM (vcM M0 s) (s + b01 (vcB M0 s)))) := by
  refine xp_start (plainFor_of_name (by decide)) rfl (Nat.le_of_ble_eq_true rfl) ?_
  intro Y F FR
  have e11 : ((spM M0 s).1 68 11).toInt = ln M0 := by rw [spM_k _ _ (by decide)]; rfl
  have e12 : ((spM M0 s).1 68 12).toInt = s := spM_sp M0 (by omega)
  have hln := hY.1
  have e74 : (spM M0 s).1 74 = M0.1 74 := spM_row _ _ (by decide)
  refine x_aload_n F dX7_readVoice_0 rfl ?_
  refine xj_geti F flX7_148 rfl dX7_readVoice_1 (by decide) (by decide) rfl (fun hg_1 => ?_)
  refine x_aload_n F dX7_readVoice_4 rfl ?_
  refine xj_geti F flX7_145 rfl dX7_readVoice_5 (by decide) (by decide) rfl (fun hg_2 => ?_)
  rw [e12, e11]
  refine xj_icmp_ge (tgt := 23) F dX7_readVoice_8 (by decide) (by omega) (fun h_3 => ?_) (fun h_3 => ?_)
  · refine xj_iconst F dX7_readVoice_23 ?_
    have g := fun y9 => L_X7_readVoice_24 (l := l) hY hs hp F FR _ y9 (Nat.lt_succ_self 0)
    first
      | (rw [show cdZ M0 s = 0 from if_neg (by omega)] at g; exact g _)
      | (rw [show cdZ M0 s = (M0.1 74 s.toNat).toInt from if_pos ⟨by omega, by omega, by omega⟩] at g; exact g _)
  · refine x_aload_n F dX7_readVoice_11 rfl ?_
    refine x_getc (v := 74) F flX7_25 rfl dX7_readVoice_12 (by decide) (by decide) rfl rfl ?_
    refine x_aload_n F dX7_readVoice_15 rfl ?_
    refine xj_geti F flX7_148 rfl dX7_readVoice_16 (by decide) (by decide) rfl (fun hg_4 => ?_)
    rw [e12]
    refine xj_lald2 F rfl dX7_readVoice_19 (by omega) (fun hg_5 => ?_)
    rw [e74]
    refine x_goto (tgt := 24) F dX7_readVoice_20 (by decide) ?_
    have g := fun y9 => L_X7_readVoice_24 (l := l) hY hs hp F FR _ y9 (Nat.lt_succ_self 0)
    first
      | (rw [show cdZ M0 s = 0 from if_neg (by omega)] at g; exact g _)
      | (rw [show cdZ M0 s = (M0.1 74 s.toNat).toInt from if_pos ⟨by omega, by omega, by omega⟩] at g; exact g _)
def plT (M : xM) (s : Int) : List Bool := [rgB M s 48 53, rgB M (s + 1) 48 53]
def plM (M : xM) (s : Int) : xM := if rgB M s 48 53 = true then (if rgB M (s + 1) 48 53 = true then upI (upI M 77 (pa M).toNat (jI (cdZ M s - 48))) 78 (pa M).toNat (jI (cdZ M (s + 1) - 48)) else upI M 77 (pa M).toNat (jI (cdZ M s - 48))) else M
set_option maxRecDepth 20000 in
theorem m_X7_readPlaces {l : Launch} {E : xE} {s : Int} {M0 : xM} (hY : okW M0) (hs : 0 ≤ s ∧ s ≤ 60) (hp : 0 ≤ pa M0 ∧ pa M0 < 12) : XF l E 8 yX7_readPlaces cX7_readPlaces 1 (some FieldType.boolean) [vA 68] (spM M0 s) (vI (jb (al (plT M0 s) = true))) ((spM (plM M0 s) (s + pf (plT M0 s)))) := by
  refine xp_start (plainFor_of_name (by decide)) rfl (Nat.le_of_ble_eq_true rfl) ?_
  intro Y F FR
  have hln := hY.1
  have e13 : ∀ (N : xM) t, ((spM N t).1 68 13).toInt = pa N := fun N t => (by rw [spM_k _ _ (by decide)]; rfl)
  have ez1 : cdZ M0 (s + 1 - 1) = cdZ M0 s := congrArg _ (by omega)
  have hY1 : okW (upI M0 77 (pa M0).toNat (jI (cdZ M0 s - 48))) := okW_up hY (by decide) (Or.inl (by decide))
  have hp1 : pa (upI M0 77 (pa M0).toNat (jI (cdZ M0 s - 48))) = pa M0 := pa_up (Or.inl (by decide))
  have hr1 : rgB (upI M0 77 (pa M0).toNat (jI (cdZ M0 s - 48))) (s + 1) 48 53 = rgB M0 (s + 1) 48 53 := rgB_up (by decide) (Or.inl (by decide)) _ _ _
  have hc1 : cdZ (upI M0 77 (pa M0).toNat (jI (cdZ M0 s - 48))) (s + 1 + 1 - 1) = cdZ M0 (s + 1) := (cdZ_up (by decide) (Or.inl (by decide)) _).trans (congrArg _ (by omega))
  refine x_aload_n F dX7_readPlaces_0 rfl ?_
  refine xj_bipush F dX7_readPlaces_1 (by decide) ?_
  refine xj_bipush F dX7_readPlaces_3 (by decide) ?_
  refine x_V2 F (m_X7_takes (M0 := M0) (s := s) hY hs (by decide) (by decide)) mlX7_154 mvX7_takes rfl dX7_readPlaces_5 (by decide) rfl ⟨Nat.le_of_ble_eq_true rfl, Nat.le_of_ble_eq_true rfl⟩ ⟨Nat.zero_le _, Nat.zero_le _⟩ (Nat.le_of_ble_eq_true rfl) ?_
  refine xb_if_ne (tgt := 13) F dX7_readPlaces_8 (by decide) (fun h_1 => ?_) (fun h_1 => ?_)
  · have zp1 := h_1
    have zi1 := rgB_in zp1 (by decide)
    rw [b01_t zp1]
    refine x_aload_n F dX7_readPlaces_13 rfl ?_
    refine x_getc (v := 77) F flX7_34 rfl dX7_readPlaces_14 (by decide) (by decide) rfl rfl ?_
    refine x_aload_n F dX7_readPlaces_17 rfl ?_
    refine xj_geti F flX7_166 rfl dX7_readPlaces_18 (by decide) (by decide) rfl (fun hg_2 => ?_)
    rw [e13]
    refine x_aload_n F dX7_readPlaces_21 rfl ?_
    refine xj_iconst F dX7_readPlaces_22 ?_
    refine x_V1 F (m_X7_digit (M0 := M0) (s := s + 1) hY (by omega) (by decide) (by omega)) mlX7_163 mvX7_digit rfl dX7_readPlaces_23 (by decide) rfl ⟨Nat.le_of_ble_eq_true rfl, Nat.le_of_ble_eq_true rfl⟩ ⟨Nat.zero_le _, Nat.zero_le _⟩ (Nat.le_of_ble_eq_true rfl) ?_
    refine xj_iast F rfl dX7_readPlaces_26 (by omega) ?_
    rw [ez1, spM_up _ _ (by decide)]
    refine x_aload_n F dX7_readPlaces_27 rfl ?_
    refine xj_bipush F dX7_readPlaces_28 (by decide) ?_
    refine xj_bipush F dX7_readPlaces_30 (by decide) ?_
    refine x_V2 F (m_X7_takes (M0 := (upI M0 77 (pa M0).toNat (jI (cdZ M0 s - 48)))) (s := s + 1) hY1 (by omega) (by decide) (by decide)) mlX7_154 mvX7_takes rfl dX7_readPlaces_32 (by decide) rfl ⟨Nat.le_of_ble_eq_true rfl, Nat.le_of_ble_eq_true rfl⟩ ⟨Nat.zero_le _, Nat.zero_le _⟩ (Nat.le_of_ble_eq_true rfl) ?_
    rw [hr1]
    refine xb_if_ne (tgt := 40) F dX7_readPlaces_35 (by decide) (fun h_3 => ?_) (fun h_3 => ?_)
    · have zp2 := h_3
      have zi2 := rgB_in zp2 (by decide)
      rw [b01_t zp2]
      refine x_aload_n F dX7_readPlaces_40 rfl ?_
      refine x_getc (v := 78) F flX7_37 rfl dX7_readPlaces_41 (by decide) (by decide) rfl rfl ?_
      refine x_aload_n F dX7_readPlaces_44 rfl ?_
      refine xj_geti F flX7_166 rfl dX7_readPlaces_45 (by decide) (by decide) rfl (fun hg_4 => ?_)
      rw [e13, hp1]
      refine x_aload_n F dX7_readPlaces_48 rfl ?_
      refine xj_iconst F dX7_readPlaces_49 ?_
      refine x_V1 F (m_X7_digit (M0 := (upI M0 77 (pa M0).toNat (jI (cdZ M0 s - 48)))) (s := s + 1 + 1) hY1 (by omega) (by decide) (by have : ln (upI M0 77 (pa M0).toNat (jI (cdZ M0 s - 48))) = ln M0 := rfl; omega)) mlX7_163 mvX7_digit rfl dX7_readPlaces_50 (by decide) rfl ⟨Nat.le_of_ble_eq_true rfl, Nat.le_of_ble_eq_true rfl⟩ ⟨Nat.zero_le _, Nat.zero_le _⟩ (Nat.le_of_ble_eq_true rfl) ?_
      refine xj_iast F rfl dX7_readPlaces_53 (by omega) ?_
      rw [hc1, spM_up _ _ (by decide)]
      refine xj_iconst F dX7_readPlaces_54 ?_
      refine x_iret F FR dX7_readPlaces_55 rfl (Nat.le_refl _) (Nat.le_refl _) ?_
      first
        | exact ⟨by rw [jb_f (show ¬ al (plT M0 s) = true by unfold plT; rw [al_f zn1]; decide)], by unfold plM; rw [if_neg zn1]; unfold plT; rw [pf_f zn1, b01_f zn1]⟩
        | exact ⟨by rw [jb_f (show ¬ al (plT M0 s) = true by unfold plT; rw [al_t zp1, al_f zn2]; decide)], by unfold plM; rw [if_pos zp1, if_neg zn2]; unfold plT; rw [pf_t zp1, pf_f zn2, b01_f zn2]; exact congrArg (spM _) (by omega)⟩
        | exact ⟨by rw [jb_t (show al (plT M0 s) = true by unfold plT; rw [al_t zp1, al_t zp2]; rfl)], by unfold plM; rw [if_pos zp1, if_pos zp2]; unfold plT; rw [pf_t zp1, pf_t zp2]; exact congrArg (spM _) (by show s + 1 + 1 = s + (1 + (1 + 0)); omega)⟩
    · have zn2 := h_3
      refine xj_iconst F dX7_readPlaces_38 ?_
      refine x_iret F FR dX7_readPlaces_39 rfl (Nat.le_refl _) (Nat.le_refl _) ?_
      first
        | exact ⟨by rw [jb_f (show ¬ al (plT M0 s) = true by unfold plT; rw [al_f zn1]; decide)], by unfold plM; rw [if_neg zn1]; unfold plT; rw [pf_f zn1, b01_f zn1]⟩
        | exact ⟨by rw [jb_f (show ¬ al (plT M0 s) = true by unfold plT; rw [al_t zp1, al_f zn2]; decide)], by unfold plM; rw [if_pos zp1, if_neg zn2]; unfold plT; rw [pf_t zp1, pf_f zn2, b01_f zn2]; exact congrArg (spM _) (by omega)⟩
        | exact ⟨by rw [jb_t (show al (plT M0 s) = true by unfold plT; rw [al_t zp1, al_t zp2]; rfl)], by unfold plM; rw [if_pos zp1, if_pos zp2]; unfold plT; rw [pf_t zp1, pf_t zp2]; exact congrArg (spM _) (by show s + 1 + 1 = s + (1 + (1 + 0)); omega)⟩
  · have zn1 := h_1
    refine xj_iconst F dX7_readPlaces_11 ?_
    refine x_iret F FR dX7_readPlaces_12 rfl (Nat.le_refl _) (Nat.le_refl _) ?_
    first
      | exact ⟨by rw [jb_f (show ¬ al (plT M0 s) = true by unfold plT; rw [al_f zn1]; decide)], by unfold plM; rw [if_neg zn1]; unfold plT; rw [pf_f zn1, b01_f zn1]⟩
      | exact ⟨by rw [jb_f (show ¬ al (plT M0 s) = true by unfold plT; rw [al_t zp1, al_f zn2]; decide)], by unfold plM; rw [if_pos zp1, if_neg zn2]; unfold plT; rw [pf_t zp1, pf_f zn2, b01_f zn2]; exact congrArg (spM _) (by omega)⟩
      | exact ⟨by rw [jb_t (show al (plT M0 s) = true by unfold plT; rw [al_t zp1, al_t zp2]; rfl)], by unfold plM; rw [if_pos zp1, if_pos zp2]; unfold plT; rw [pf_t zp1, pf_t zp2]; exact congrArg (spM _) (by show s + 1 + 1 = s + (1 + (1 + 0)); omega)⟩
