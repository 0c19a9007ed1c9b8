/-! THE MODEL, what it writes -/
theorem zI_up (M : xM) {a : Int} {k : Int} {x : Int32} (ha : 0 ≤ a) (hk : 0 ≤ k) : zI (upI M 69 a.toNat x) k = if k = a then x.toInt else zI M k := by
  unfold zI
  rw [upI_1]
  by_cases h : k = a
  · subst h; rw [if_pos ⟨rfl, rfl⟩, if_pos rfl]
  · rw [if_neg (fun z => h (by omega)), if_neg h]
theorem zI_lo {M : xM} {a : Int} {k : Int} {x : Int32} (ha : 4 ≤ a) (hk : 0 ≤ k ∧ k < 4) : zI (upI M 69 a.toNat x) k = zI M k := by rw [zI_up M (by omega) hk.1, if_neg (by omega)]
theorem cpZ_lo {M : xM} {a b k : Int} (hb : 0 ≤ b) (hk : 0 ≤ k ∧ k < 4) : zI (cpZ M a b) k = zI M k := by
  unfold cpZ
  dsimp only
  rw [zI_lo (by omega) hk, zI_lo (by omega) hk, zI_lo (by omega) hk]
theorem exZ_lo {M : xM} {a b k : Int} (ha : 0 ≤ a) (hb : 0 ≤ b) (hk : 0 ≤ k ∧ k < 4) : zI (exZ M a b) k = zI M k := by
  unfold exZ
  rw [zI_lo (by omega) hk, zI_lo (by omega) hk, zI_lo (by omega) hk, cpZ_lo ha hk]
/-- places of an array copied, one after another -/
def cpK (M : xM) (a ao b bo n : Nat) : xM := (fun e j => if e = b ∧ bo ≤ j ∧ j < bo + n then M.1 a (ao + (j - bo)) else M.1 e j, M.2)
theorem cpK_0 (M : xM) (a ao b bo : Nat) : cpK M a ao b bo 0 = M := by
  refine Prod.ext (funext fun e => funext fun j => ?_) rfl
  show (if e = b ∧ bo ≤ j ∧ j < bo + 0 then _ else _) = _
  rw [if_neg (by omega)]
theorem cpK_row {M : xM} {a ao b bo n e : Nat} (h : e ≠ b) : (cpK M a ao b bo n).1 e = M.1 e := by
  funext j
  show (if e = b ∧ bo ≤ j ∧ j < bo + n then _ else _) = _
  rw [if_neg (fun z => h z.1)]
theorem cpK_step {M : xM} {a ao b bo n : Nat} (h : a ≠ b ∨ bo ≤ ao) : upI (cpK M a ao b bo n) b (bo + n) (jI ((cpK M a ao b bo n).1 a (ao + n)).toInt) = cpK M a ao b bo (n + 1) := by
  refine Prod.ext (funext fun e => funext fun j => ?_) rfl
  have ha : (cpK M a ao b bo n).1 a (ao + n) = M.1 a (ao + n) := by
    show (if a = b ∧ bo ≤ ao + n ∧ ao + n < bo + n then _ else _) = _
    rw [if_neg (by omega)]
  rw [upI_1, ha, jI_of]
  show _ = (if e = b ∧ bo ≤ j ∧ j < bo + (n + 1) then _ else _)
  by_cases h1 : e = b ∧ j = bo + n
  · rw [if_pos h1, if_pos (by omega), show ao + (j - bo) = ao + n by omega]
  · rw [if_neg h1]
    show (if e = b ∧ bo ≤ j ∧ j < bo + n then _ else _) = _
    by_cases h2 : e = b ∧ bo ≤ j ∧ j < bo + n
    · rw [if_pos h2, if_pos (by omega)]
    · rw [if_neg h2, if_neg (by omega)]
def svS (M : xM) : xM := if (M.1 68 2).toInt = 6 then upI (cpK M 70 81 70 0 405) 68 2 (jI 5) else M
def svZ (M : xM) : xM :=
  let M1 := svS M
  let M2 := cpK M1 69 0 70 (81 * (M1.1 68 2).toInt).toNat 81
  upI M2 68 2 (jI ((M1.1 68 2).toInt + 1))
set_option maxRecDepth 20000 in
theorem L_X7_save_51 {l : Launch} {E : xE} {M M1 : xM} (hs1 : 0 ≤ (M1.1 68 2).toInt ∧ (M1.1 68 2).toInt ≤ 5) (hM1 : svS M = M1) {Y : xY} (F : xFix E (xA E) Y cX7_save yX7_save.cls 2) (FR : xRet E Y none 0 0 (fun r' M'' => r' = vU ∧ M'' = (svZ M)) (fun _ _ => False)) : ∀ (k : Nat) (n : Nat), n ≤ 81 → 81 - n < k → WP l E (xRm 1 0 0) (xA E) Y 0 0 51 [vA 68, vI (jI (n : Int))] [] (cpK M1 69 0 70 (81 * (M1.1 68 2).toInt).toNat n) := by
  intro k
  induction k with
  | zero => intro n hn hk; exact absurd hk (Nat.not_lt_zero _)
  | succ k ih =>
    intro n hn hk
    have e0 : ((cpK M1 69 0 70 (81 * (M1.1 68 2).toInt).toNat n).1 68 2) = M1.1 68 2 := congrFun (cpK_row (by decide)) 2
    refine x_iload_n F dX7_save_51 rfl ?_
    refine xj_bipush F dX7_save_52 (by decide) ?_
    refine xj_icmp_ge (tgt := 83) F dX7_save_54 (by decide) (by omega) (fun h_1 => ?_) (fun h_1 => ?_)
    · refine x_aload_n F dX7_save_83 rfl ?_
      refine x_dup F dX7_save_84 rfl ?_
      refine xj_geti F flX7_52 rfl dX7_save_85 (by decide) (by decide) rfl (fun hg_2 => ?_)
      refine xj_iconst F dX7_save_88 ?_
      refine xj_iadd F dX7_save_89 ?_
      refine x_puti F flX7_52 rfl dX7_save_90 (by decide) (by decide) rfl fw7_2 rfl rfl ?_
      refine x_vret F FR dX7_save_93 (Nat.le_refl _) (Nat.le_refl _) ?_
      have e : n = 81 := by omega
      subst e
      exact ⟨rfl, by unfold svZ; rw [hM1, e0]⟩
    · refine x_aload_n F dX7_save_57 rfl ?_
      refine x_getc (v := 70) F flX7_13 rfl dX7_save_58 (by decide) (by decide) rfl rfl ?_
      refine xj_bipush F dX7_save_61 (by decide) ?_
      refine x_aload_n F dX7_save_63 rfl ?_
      refine xj_geti F flX7_52 rfl dX7_save_64 (by decide) (by decide) rfl (fun hg_3 => ?_)
      rw [e0]
      refine xj_imul F dX7_save_67 ?_
      refine x_iload_n F dX7_save_68 rfl ?_
      refine xj_iadd F dX7_save_69 ?_
      refine x_aload_n F dX7_save_70 rfl ?_
      refine x_getc (v := 69) F flX7_7 rfl dX7_save_71 (by decide) (by decide) rfl rfl ?_
      refine x_iload_n F dX7_save_74 rfl ?_
      refine xj_lald2 F rfl dX7_save_75 (by omega) (fun hg_4 => ?_)
      refine xj_iast F rfl dX7_save_76 (by omega) ?_
      refine xj_iinc F dX7_save_77 rfl ?_
      refine x_goto (tgt := 51) F dX7_save_80 (by decide) ?_
      have e1 : (81 * (M1.1 68 2).toInt + (n : Int)).toNat = (81 * (M1.1 68 2).toInt).toNat + n := by omega
      have e2 : ((n : Int)).toNat = 0 + n := by omega
      rw [e1, e2, cpK_step (Or.inl (by decide))]
      exact ih (n + 1) (by omega) (by omega)
set_option maxRecDepth 20000 in
theorem L_X7_save_11 {l : Launch} {E : xE} {M : xM} (h6 : (M.1 68 2).toInt = 6) {Y : xY} (F : xFix E (xA E) Y cX7_save yX7_save.cls 2) (FR : xRet E Y none 0 0 (fun r' M'' => r' = vU ∧ M'' = (svZ M)) (fun _ _ => False)) : ∀ (k : Nat) (n : Nat), n ≤ 405 → 405 - n < k → WP l E (xRm 1 0 0) (xA E) Y 0 0 11 [vA 68, vI (jI (n : Int))] [] (cpK M 70 81 70 0 n) := by
  intro k
  induction k with
  | zero => intro n hn hk; exact absurd hk (Nat.not_lt_zero _)
  | succ k ih =>
    intro n hn hk
    have e0 : ((cpK M 70 81 70 0 n).1 68 2) = M.1 68 2 := congrFun (cpK_row (by decide)) 2
    refine x_iload_n F dX7_save_11 rfl ?_
    refine xj_sipush F dX7_save_12 (by decide) ?_
    refine xj_icmp_ge (tgt := 39) F dX7_save_15 (by decide) (by omega) (fun h_1 => ?_) (fun h_1 => ?_)
    · refine x_aload_n F dX7_save_39 rfl ?_
      refine x_dup F dX7_save_40 rfl ?_
      refine xj_geti F flX7_52 rfl dX7_save_41 (by decide) (by decide) rfl (fun hg_2 => ?_)
      refine xj_iconst F dX7_save_44 ?_
      refine xj_isub F dX7_save_45 ?_
      refine x_puti F flX7_52 rfl dX7_save_46 (by decide) (by decide) rfl fw7_2 rfl rfl ?_
      refine xj_iconst F dX7_save_49 ?_
      refine x_istore_n F dX7_save_50 (by decide) ?_
      have e : n = 405 := by omega
      subst e
      have es : svS M = upI (cpK M 70 81 70 0 405) 68 2 (jI 5) := by unfold svS; rw [if_pos h6]
      rw [e0, h6]
      have g := L_X7_save_51 (M := M) (M1 := upI (cpK M 70 81 70 0 405) 68 2 (jI 5)) (l := l) (by rw [upI_1, if_pos ⟨rfl, rfl⟩]; decide) es F FR _ 0 (by omega) (Nat.lt_succ_self _)
      rw [cpK_0] at g
      exact g
    · refine x_aload_n F dX7_save_18 rfl ?_
      refine x_getc (v := 70) F flX7_13 rfl dX7_save_19 (by decide) (by decide) rfl rfl ?_
      refine x_iload_n F dX7_save_22 rfl ?_
      refine x_aload_n F dX7_save_23 rfl ?_
      refine x_getc (v := 70) F flX7_13 rfl dX7_save_24 (by decide) (by decide) rfl rfl ?_
      refine x_iload_n F dX7_save_27 rfl ?_
      refine xj_bipush F dX7_save_28 (by decide) ?_
      refine xj_iadd F dX7_save_30 ?_
      refine xj_lald2 F rfl dX7_save_31 (by omega) (fun hg_3 => ?_)
      refine xj_iast F rfl dX7_save_32 (by omega) ?_
      refine xj_iinc F dX7_save_33 rfl ?_
      refine x_goto (tgt := 11) F dX7_save_36 (by decide) ?_
      have e1 : ((n : Int)).toNat = 0 + n := by omega
      have e2 : ((n : Int) + 81).toNat = 81 + n := by omega
      rw [e1, e2, cpK_step (Or.inr (by decide))]
      exact ih (n + 1) (by omega) (by omega)
set_option maxRecDepth 20000 in
theorem m_X7_save {l : Launch} {E : xE} {M : xM} (hs : 0 ≤ (M.1 68 2).toInt ∧ (M.1 68 2).toInt ≤ 6) : XF l E 1 yX7_save cX7_save 2 none [vA 68] M (vU) ((svZ M)) := by
  refine xp_start (plainFor_of_name (by decide)) rfl (Nat.le_of_ble_eq_true rfl) ?_
  intro Y F FR
  refine x_aload_n F dX7_save_0 rfl ?_
  refine xj_geti F flX7_52 rfl dX7_save_1 (by decide) (by decide) rfl (fun hg_1 => ?_)
  refine xj_bipush F dX7_save_4 (by decide) ?_
  refine xj_icmp_ne (tgt := 49) F dX7_save_6 (by decide) (by omega) (fun h_2 => ?_) (fun h_2 => ?_)
  · refine xj_iconst F dX7_save_49 ?_
    refine x_istore_n F dX7_save_50 (by decide) ?_
    have g := L_X7_save_51 (M := M) (M1 := M) (l := l) (by omega) (by unfold svS; rw [if_neg (by omega)]) F FR _ 0 (by omega) (Nat.lt_succ_self _)
    rw [cpK_0] at g
    exact g
  · refine xj_iconst F dX7_save_9 ?_
    refine x_istore_n F dX7_save_10 (by decide) ?_
    have g := L_X7_save_11 (M := M) (l := l) (by omega) F FR _ 0 (by omega) (Nat.lt_succ_self _)
    rw [cpK_0] at g
    exact g
set_option maxRecDepth 20000 in
theorem L_X7_keep {l : Launch} {E : xE} {M : xM} {Y : xY} (F : xFix E (xA E) Y cX7_keep yX7_keep.cls 2) (FR : xRet E Y (some FieldType.int) 0 0 (fun r' M'' => r' = vI (jI (zI M 0 + zI M 1 + zI M 2 + zI M 3)) ∧ M'' = (upI (cpK (upI M 68 5 (jI 0)) 69 0 71 0 81) 68 4 (jI 1))) (fun _ _ => False)) : ∀ (k : Nat) (n : Nat), n ≤ 81 → 81 - n < k → WP l E (xRm 2 0 0) (xA E) Y 0 0 7 [vA 68, vI (jI (n : Int))] [] (cpK (upI M 68 5 (jI 0)) 69 0 71 0 n) := by
  intro k
  induction k with
  | zero => intro n hn hk; exact absurd hk (Nat.not_lt_zero _)
  | succ k ih =>
    intro n hn hk
    refine x_iload_n F dX7_keep_7 rfl ?_
    refine xj_bipush F dX7_keep_8 (by decide) ?_
    refine xj_icmp_ge (tgt := 31) F dX7_keep_10 (by decide) (by omega) (fun h_1 => ?_) (fun h_1 => ?_)
    · refine x_aload_n F dX7_keep_31 rfl ?_
      refine xj_iconst F dX7_keep_32 ?_
      refine x_puti F flX7_59 rfl dX7_keep_33 (by decide) (by decide) rfl fw7_4 rfl rfl ?_
      refine x_aload_n F dX7_keep_36 rfl ?_
      refine x_V0 F (m_X7_singers) mlX7_63 mvX7_singers rfl dX7_keep_37 (by decide) rfl ⟨Nat.le_of_ble_eq_true rfl, Nat.le_of_ble_eq_true rfl⟩ ⟨Nat.zero_le _, Nat.zero_le _⟩ (Nat.le_of_ble_eq_true rfl) ?_
      refine x_iret F FR dX7_keep_40 rfl (Nat.le_refl _) (Nat.le_refl _) ?_
      have e : n = 81 := by omega
      subst e
      refine ⟨?_, rfl⟩
      have e9 : ∀ k, zI (upI (cpK (upI M 68 5 (jI 0)) 69 0 71 0 81) 68 4 (jI 1)) k = zI M k := fun k => by unfold zI; rw [upI_row (by decide), cpK_row (by decide), upI_row (by decide)]
      rw [e9, e9, e9, e9]
    · refine x_aload_n F dX7_keep_13 rfl ?_
      refine x_getc (v := 71) F flX7_16 rfl dX7_keep_14 (by decide) (by decide) rfl rfl ?_
      refine x_iload_n F dX7_keep_17 rfl ?_
      refine x_aload_n F dX7_keep_18 rfl ?_
      refine x_getc (v := 69) F flX7_7 rfl dX7_keep_19 (by decide) (by decide) rfl rfl ?_
      refine x_iload_n F dX7_keep_22 rfl ?_
      refine xj_lald2 F rfl dX7_keep_23 (by omega) (fun hg_2 => ?_)
      refine xj_iast F rfl dX7_keep_24 (by omega) ?_
      refine xj_iinc F dX7_keep_25 rfl ?_
      refine x_goto (tgt := 7) F dX7_keep_28 (by decide) ?_
      have e1 : ((n : Int)).toNat = 0 + n := by omega
      rw [e1, cpK_step (Or.inl (by decide))]
      exact ih (n + 1) (by omega) (by omega)
set_option maxRecDepth 20000 in
theorem m_X7_keep {l : Launch} {E : xE} {M : xM} : XF l E 2 yX7_keep cX7_keep 2 (some FieldType.int) [vA 68] M (vI (jI (zI M 0 + zI M 1 + zI M 2 + zI M 3))) ((upI (cpK (upI M 68 5 (jI 0)) 69 0 71 0 81) 68 4 (jI 1))) := by
  refine xp_start (plainFor_of_name (by decide)) rfl (Nat.le_of_ble_eq_true rfl) ?_
  intro Y F FR
  refine x_aload_n F dX7_keep_0 rfl ?_
  refine xj_iconst F dX7_keep_1 ?_
  refine x_puti F flX7_40 rfl dX7_keep_2 (by decide) (by decide) rfl fw7_5 rfl rfl ?_
  refine xj_iconst F dX7_keep_5 ?_
  refine x_istore_n F dX7_keep_6 (by decide) ?_
  have g := L_X7_keep (M := M) (l := l) F FR _ 0 (by omega) (Nat.lt_succ_self _)
  rw [cpK_0] at g
  exact g
def jnZ (M : xM) (r h v : Int) : xM :=
  let i := 6 * r + zI M r
  let M1 := upI M 69 (4 + i).toNat (jI (zI M 78))
  let M2 := upI M1 69 (28 + i).toNat (jI h)
  let M3 := upI M2 69 (52 + i).toNat (jI v)
  let M4 := upI M3 69 r.toNat (jI (zI M3 r + 1))
  upI M4 69 (78 : Int).toNat (jI (zI M4 78 + 1))
set_option maxRecDepth 20000 in
theorem m_X7_joinNow {l : Launch} {E : xE} {r h v : Int} {M : xM} (hr : 0 ≤ r ∧ r < 4) (hs : 0 ≤ zI M r ∧ zI M r < 6) : XF l E 1 yX7_joinNow cX7_joinNow 5 (some FieldType.int) [vA 68, vI (jI r), vI (jI h), vI (jI v)] M (vI (jI (zI (jnZ M r h v) 78 - 1))) ((jnZ M r h v)) := by
  refine xp_start (plainFor_of_name (by decide)) rfl (Nat.le_of_ble_eq_true rfl) ?_
  intro Y F FR
  have ez : (M.1 69 r.toNat).toInt = zI M r := rfl
  refine xj_bipush F dX7_joinNow_0 (by decide) ?_
  refine x_iload_n F dX7_joinNow_2 rfl ?_
  refine xj_imul F dX7_joinNow_3 ?_
  refine x_aload_n F dX7_joinNow_4 rfl ?_
  refine x_getc (v := 69) F flX7_7 rfl dX7_joinNow_5 (by decide) (by decide) rfl rfl ?_
  refine xj_iconst F dX7_joinNow_8 ?_
  refine x_iload_n F dX7_joinNow_9 rfl ?_
  refine xj_iadd F dX7_joinNow_10 ?_
  rw [Int.zero_add r]
  refine xj_lald2 F rfl dX7_joinNow_11 (by omega) (fun hg_1 => ?_)
  refine xj_iadd F dX7_joinNow_12 ?_
  refine x_istore F dX7_joinNow_13 (by decide) ?_
  refine x_aload_n F dX7_joinNow_15 rfl ?_
  refine x_getc (v := 69) F flX7_7 rfl dX7_joinNow_16 (by decide) (by decide) rfl rfl ?_
  refine xj_iconst F dX7_joinNow_19 ?_
  refine x_iload F dX7_joinNow_20 rfl ?_
  refine xj_iadd F dX7_joinNow_22 ?_
  refine x_aload_n F dX7_joinNow_23 rfl ?_
  refine x_getc (v := 69) F flX7_7 rfl dX7_joinNow_24 (by decide) (by decide) rfl rfl ?_
  refine xj_bipush F dX7_joinNow_27 (by decide) ?_
  refine xj_lald2 F rfl dX7_joinNow_29 (by omega) (fun hg_2 => ?_)
  refine xj_iast F rfl dX7_joinNow_30 (by omega) ?_
  refine x_aload_n F dX7_joinNow_31 rfl ?_
  refine x_getc (v := 69) F flX7_7 rfl dX7_joinNow_32 (by decide) (by decide) rfl rfl ?_
  refine xj_bipush F dX7_joinNow_35 (by decide) ?_
  refine x_iload F dX7_joinNow_37 rfl ?_
  refine xj_iadd F dX7_joinNow_39 ?_
  refine x_iload_n F dX7_joinNow_40 rfl ?_
  refine xj_iast F rfl dX7_joinNow_41 (by omega) ?_
  refine x_aload_n F dX7_joinNow_42 rfl ?_
  refine x_getc (v := 69) F flX7_7 rfl dX7_joinNow_43 (by decide) (by decide) rfl rfl ?_
  refine xj_bipush F dX7_joinNow_46 (by decide) ?_
  refine x_iload F dX7_joinNow_48 rfl ?_
  refine xj_iadd F dX7_joinNow_50 ?_
  refine x_iload_n F dX7_joinNow_51 rfl ?_
  refine xj_iast F rfl dX7_joinNow_52 (by omega) ?_
  refine x_aload_n F dX7_joinNow_53 rfl ?_
  refine x_getc (v := 69) F flX7_7 rfl dX7_joinNow_54 (by decide) (by decide) rfl rfl ?_
  refine xj_iconst F dX7_joinNow_57 ?_
  refine x_iload_n F dX7_joinNow_58 rfl ?_
  refine xj_iadd F dX7_joinNow_59 ?_
  rw [Int.zero_add r]
  refine x_dup2 F dX7_joinNow_60 rfl rfl ?_
  refine xj_lald2 F rfl dX7_joinNow_61 (by omega) (fun hg_3 => ?_)
  refine xj_iconst F dX7_joinNow_62 ?_
  refine xj_iadd F dX7_joinNow_63 ?_
  refine xj_iast F rfl dX7_joinNow_64 (by omega) ?_
  refine x_aload_n F dX7_joinNow_65 rfl ?_
  refine x_getc (v := 69) F flX7_7 rfl dX7_joinNow_66 (by decide) (by decide) rfl rfl ?_
  refine xj_bipush F dX7_joinNow_69 (by decide) ?_
  refine x_dup2 F dX7_joinNow_71 rfl rfl ?_
  refine xj_lald2 F rfl dX7_joinNow_72 (by omega) (fun hg_4 => ?_)
  refine xj_iconst F dX7_joinNow_73 ?_
  refine xj_iadd F dX7_joinNow_74 ?_
  refine xj_iast F rfl dX7_joinNow_75 (by omega) ?_
  refine x_aload_n F dX7_joinNow_76 rfl ?_
  refine x_getc (v := 69) F flX7_7 rfl dX7_joinNow_77 (by decide) (by decide) rfl rfl ?_
  refine xj_bipush F dX7_joinNow_80 (by decide) ?_
  refine xj_lald2 F rfl dX7_joinNow_82 (by omega) (fun hg_5 => ?_)
  refine xj_iconst F dX7_joinNow_83 ?_
  refine xj_isub F dX7_joinNow_84 ?_
  refine x_iret F FR dX7_joinNow_85 rfl (Nat.le_refl _) (Nat.le_refl _) ?_
  exact ⟨rfl, rfl⟩
def rmL (M : xM) (r p : Int) : Nat → xM
  | 0 => M
  | n + 1 => cpZ (rmL M r p n) (6 * r + (p + n) + 1) (6 * r + (p + n))
def rmZ (M : xM) (r p : Int) : xM := clZ (rmL (upI M 69 r.toNat (jI (zI M r - 1))) r p (zI M r - 1 - p).toNat) (6 * r + (zI M r - 1))
theorem rmL_lo {M : xM} {r p k : Int} (hr : 0 ≤ r) (hp : 0 ≤ p) (hk : 0 ≤ k ∧ k < 4) : ∀ n, zI (rmL M r p n) k = zI M k
  | 0 => rfl
  | n + 1 => by simp only [rmL]; rw [cpZ_lo (by omega) hk, rmL_lo hr hp hk n]
def trZ (M : xM) (r : Int) : Nat → xM
  | 0 => M
  | n + 1 => exZ (trZ M r n) (6 * r + n) (6 * r + zI M r - 1 - n)
theorem trZ_lo {M : xM} {r k : Int} (hr : 0 ≤ r) (hk : 0 ≤ k ∧ k < 4) : ∀ n : Nat, (n : Int) ≤ zI M r - 1 + 1 → zI (trZ M r n) k = zI M k
  | 0, _ => rfl
  | n + 1, h => by simp only [trZ]; rw [exZ_lo (by omega) (by omega) hk, trZ_lo hr hk n (by omega)]
set_option maxRecDepth 20000 in
theorem L_X7_removeNow {l : Launch} {E : xE} {r p : Int} {M : xM} (hr : 0 ≤ r ∧ r < 4) (hs : 1 ≤ zI M r ∧ zI M r ≤ 6) (hp : 0 ≤ p ∧ p < zI M r) {Y : xY} (F : xFix E (xA E) Y cX7_removeNow yX7_removeNow.cls 4) (FR : xRet E Y none 0 0 (fun r' M'' => r' = vU ∧ M'' = (rmZ M r p)) (fun _ _ => False)) : ∀ (k : Nat) (n : Nat), p + (n : Int) ≤ zI M r - 1 → (zI M r - 1 - p - n).toNat < k → WP l E (xRm 2 0 0) (xA E) Y 0 0 14 [vA 68, vI (jI r), vI (jI p), vI (jI (p + (n : Int)))] [] (rmL (upI M 69 r.toNat (jI (zI M r - 1))) r p n) := by
  intro k
  induction k with
  | zero => intro n hn hk; exact absurd hk (Nat.not_lt_zero _)
  | succ k ih =>
    intro n hn hk
    have hz1 : zI (upI M 69 r.toNat (jI (zI M r - 1))) r = zI M r - 1 := by rw [zI_up M hr.1 hr.1, if_pos rfl, jI_toInt (by omega)]
    have hz : ((rmL (upI M 69 r.toNat (jI (zI M r - 1))) r p n).1 69 r.toNat).toInt = zI M r - 1 := (rmL_lo hr.1 hp.1 hr n).trans hz1
    refine x_iload_n F dX7_removeNow_14 rfl ?_
    refine x_aload_n F dX7_removeNow_15 rfl ?_
    refine x_getc (v := 69) F flX7_7 rfl dX7_removeNow_16 (by decide) (by decide) rfl rfl ?_
    refine xj_iconst F dX7_removeNow_19 ?_
    refine x_iload_n F dX7_removeNow_20 rfl ?_
    refine xj_iadd F dX7_removeNow_21 ?_
    rw [Int.zero_add r]
    refine xj_lald2 F rfl dX7_removeNow_22 (by omega) (fun hg_1 => ?_)
    refine xj_icmp_ge (tgt := 50) F dX7_removeNow_23 (by decide) (by omega) (fun h_2 => ?_) (fun h_2 => ?_)
    · refine x_aload_n F dX7_removeNow_50 rfl ?_
      refine xj_bipush F dX7_removeNow_51 (by decide) ?_
      refine x_iload_n F dX7_removeNow_53 rfl ?_
      refine xj_imul F dX7_removeNow_54 ?_
      refine x_aload_n F dX7_removeNow_55 rfl ?_
      refine x_getc (v := 69) F flX7_7 rfl dX7_removeNow_56 (by decide) (by decide) rfl rfl ?_
      refine xj_iconst F dX7_removeNow_59 ?_
      refine x_iload_n F dX7_removeNow_60 rfl ?_
      refine xj_iadd F dX7_removeNow_61 ?_
      rw [Int.zero_add r]
      refine xj_lald2 F rfl dX7_removeNow_62 (by omega) (fun hg_3 => ?_)
      refine xj_iadd F dX7_removeNow_63 ?_
      rw [show 6 * r + ((rmL (upI M 69 r.toNat (jI (zI M r - 1))) r p n).1 69 r.toNat).toInt = 6 * r + (zI M r - 1) by rw [hz]]
      refine x_V1 F (m_X7_clear (by first | assumption | omega | decide)) mlX7_106 mvX7_clear rfl dX7_removeNow_64 (by decide) rfl ⟨Nat.le_of_ble_eq_true rfl, Nat.le_of_ble_eq_true rfl⟩ ⟨Nat.zero_le _, Nat.zero_le _⟩ (Nat.le_of_ble_eq_true rfl) ?_
      refine x_vret F FR dX7_removeNow_67 (Nat.le_refl _) (Nat.le_refl _) ?_
      have e : n = (zI M r - 1 - p).toNat := by omega
      subst e
      exact ⟨rfl, rfl⟩
    · refine x_aload_n F dX7_removeNow_26 rfl ?_
      refine xj_bipush F dX7_removeNow_27 (by decide) ?_
      refine x_iload_n F dX7_removeNow_29 rfl ?_
      refine xj_imul F dX7_removeNow_30 ?_
      refine x_iload_n F dX7_removeNow_31 rfl ?_
      refine xj_iadd F dX7_removeNow_32 ?_
      refine xj_iconst F dX7_removeNow_33 ?_
      refine xj_iadd F dX7_removeNow_34 ?_
      refine xj_bipush F dX7_removeNow_35 (by decide) ?_
      refine x_iload_n F dX7_removeNow_37 rfl ?_
      refine xj_imul F dX7_removeNow_38 ?_
      refine x_iload_n F dX7_removeNow_39 rfl ?_
      refine xj_iadd F dX7_removeNow_40 ?_
      refine x_V2 F (m_X7_copy (by omega) (by omega)) mlX7_103 mvX7_copy rfl dX7_removeNow_41 (by decide) rfl ⟨Nat.le_of_ble_eq_true rfl, Nat.le_of_ble_eq_true rfl⟩ ⟨Nat.zero_le _, Nat.zero_le _⟩ (Nat.le_of_ble_eq_true rfl) ?_
      refine xj_iinc F dX7_removeNow_44 rfl ?_
      refine x_goto (tgt := 14) F dX7_removeNow_47 (by decide) ?_
      have g := ih (n + 1) (by omega) (by omega)
      simp only [rmL] at g
      rw [show p + ((n + 1 : Nat) : Int) = p + n + 1 by omega, show 6 * r + (p + (n : Int)) = 6 * r + (p + n) from rfl] at g
      exact g
set_option maxRecDepth 20000 in
theorem m_X7_removeNow {l : Launch} {E : xE} {r p : Int} {M : xM} (hr : 0 ≤ r ∧ r < 4) (hs : 1 ≤ zI M r ∧ zI M r ≤ 6) (hp : 0 ≤ p ∧ p < zI M r) : XF l E 2 yX7_removeNow cX7_removeNow 4 none [vA 68, vI (jI r), vI (jI p)] M (vU) ((rmZ M r p)) := by
  refine xp_start (plainFor_of_name (by decide)) rfl (Nat.le_of_ble_eq_true rfl) ?_
  intro Y F FR
  refine x_aload_n F dX7_removeNow_0 rfl ?_
  refine x_getc (v := 69) F flX7_7 rfl dX7_removeNow_1 (by decide) (by decide) rfl rfl ?_
  refine xj_iconst F dX7_removeNow_4 ?_
  refine x_iload_n F dX7_removeNow_5 rfl ?_
  refine xj_iadd F dX7_removeNow_6 ?_
  rw [Int.zero_add r]
  refine x_dup2 F dX7_removeNow_7 rfl rfl ?_
  refine xj_lald2 F rfl dX7_removeNow_8 (by omega) (fun hg_1 => ?_)
  refine xj_iconst F dX7_removeNow_9 ?_
  refine xj_isub F dX7_removeNow_10 ?_
  refine xj_iast F rfl dX7_removeNow_11 (by omega) ?_
  refine x_iload_n F dX7_removeNow_12 rfl ?_
  refine x_istore_n F dX7_removeNow_13 (by decide) ?_
  have g := L_X7_removeNow (M := M) (l := l) hr hs hp F FR _ 0 (by omega) (Nat.lt_succ_self _)
  rw [show p + ((0 : Nat) : Int) = p by omega] at g
  exact g
set_option maxRecDepth 20000 in
theorem L_X7_turnNow {l : Launch} {E : xE} {r : Int} {M : xM} (hr : 0 ≤ r ∧ r < 4) (hs : 0 ≤ zI M r ∧ zI M r ≤ 6) {Y : xY} (F : xFix E (xA E) Y cX7_turnNow yX7_turnNow.cls 3) (FR : xRet E Y none 0 0 (fun r' M'' => r' = vU ∧ M'' = (trZ M r (zI M r / 2).toNat)) (fun _ _ => False)) : ∀ (k : Nat) (n : Nat), (n : Int) ≤ zI M r / 2 → (zI M r - n).toNat < k → WP l E (xRm 3 0 0) (xA E) Y 0 0 2 [vA 68, vI (jI r), vI (jI (n : Int))] [] (trZ M r n) := by
  intro k
  induction k with
  | zero => intro n hn hk; exact absurd hk (Nat.not_lt_zero _)
  | succ k ih =>
    intro n hn hk
    have hz : ((trZ M r n).1 69 r.toNat).toInt = zI M r := trZ_lo hr.1 hr n (by omega)
    refine x_iload_n F dX7_turnNow_2 rfl ?_
    refine x_aload_n F dX7_turnNow_3 rfl ?_
    refine x_getc (v := 69) F flX7_7 rfl dX7_turnNow_4 (by decide) (by decide) rfl rfl ?_
    refine xj_iconst F dX7_turnNow_7 ?_
    refine x_iload_n F dX7_turnNow_8 rfl ?_
    refine xj_iadd F dX7_turnNow_9 ?_
    rw [Int.zero_add r]
    refine xj_lald2 F rfl dX7_turnNow_10 (by omega) (fun hg_1 => ?_)
    refine xj_iconst F dX7_turnNow_11 ?_
    refine xj_idiv F dX7_turnNow_12 (by omega) ?_
    refine xj_icmp_ge (tgt := 49) F dX7_turnNow_13 (by decide) (by omega) (fun h_2 => ?_) (fun h_2 => ?_)
    · refine x_vret F FR dX7_turnNow_49 (Nat.le_refl _) (Nat.le_refl _) ?_
      have e : n = (zI M r / 2).toNat := by omega
      subst e
      exact ⟨rfl, rfl⟩
    · refine x_aload_n F dX7_turnNow_16 rfl ?_
      refine xj_bipush F dX7_turnNow_17 (by decide) ?_
      refine x_iload_n F dX7_turnNow_19 rfl ?_
      refine xj_imul F dX7_turnNow_20 ?_
      refine x_iload_n F dX7_turnNow_21 rfl ?_
      refine xj_iadd F dX7_turnNow_22 ?_
      refine xj_bipush F dX7_turnNow_23 (by decide) ?_
      refine x_iload_n F dX7_turnNow_25 rfl ?_
      refine xj_imul F dX7_turnNow_26 ?_
      refine x_aload_n F dX7_turnNow_27 rfl ?_
      refine x_getc (v := 69) F flX7_7 rfl dX7_turnNow_28 (by decide) (by decide) rfl rfl ?_
      refine xj_iconst F dX7_turnNow_31 ?_
      refine x_iload_n F dX7_turnNow_32 rfl ?_
      refine xj_iadd F dX7_turnNow_33 ?_
      rw [Int.zero_add r]
      refine xj_lald2 F rfl dX7_turnNow_34 (by omega) (fun hg_3 => ?_)
      refine xj_iadd F dX7_turnNow_35 ?_
      refine xj_iconst F dX7_turnNow_36 ?_
      refine xj_isub F dX7_turnNow_37 ?_
      refine x_iload_n F dX7_turnNow_38 rfl ?_
      refine xj_isub F dX7_turnNow_39 ?_
      rw [hz]
      refine x_V2 F (m_X7_exchange (by omega) (by omega)) mlX7_110 mvX7_exchange rfl dX7_turnNow_40 (by decide) rfl ⟨Nat.le_of_ble_eq_true rfl, Nat.le_of_ble_eq_true rfl⟩ ⟨Nat.zero_le _, Nat.zero_le _⟩ (Nat.le_of_ble_eq_true rfl) ?_
      refine xj_iinc F dX7_turnNow_43 rfl ?_
      refine x_goto (tgt := 2) F dX7_turnNow_46 (by decide) ?_
      have g := ih (n + 1) (by omega) (by omega)
      simp only [trZ] at g
      exact g
set_option maxRecDepth 20000 in
theorem m_X7_turnNow {l : Launch} {E : xE} {r : Int} {M : xM} (hr : 0 ≤ r ∧ r < 4) (hs : 0 ≤ zI M r ∧ zI M r ≤ 6) : XF l E 3 yX7_turnNow cX7_turnNow 3 none [vA 68, vI (jI r)] M (vU) ((trZ M r (zI M r / 2).toNat)) := by
  refine xp_start (plainFor_of_name (by decide)) rfl (Nat.le_of_ble_eq_true rfl) ?_
  intro Y F FR
  refine xj_iconst F dX7_turnNow_0 ?_
  refine x_istore_n F dX7_turnNow_1 (by decide) ?_
  exact L_X7_turnNow hr hs F FR _ 0 (by omega) (Nat.lt_succ_self _)
def ibB (M : xM) (a b how : Int) : Bool := if how = 2 then decide (zI M (52 + b) < zI M (52 + a)) else if how = 0 then decide (zI M (28 + b) < zI M (28 + a)) else decide (zI M (28 + a) < zI M (28 + b))
def bbZ (r how : Int) : Nat → xM → xM
  | 0, M => M
  | n + 1, M => if ibB (bbZ r how n M) (6 * r + n) (6 * r + n + 1) how = true then exZ (bbZ r how n M) (6 * r + n) (6 * r + n + 1) else bbZ r how n M
theorem bbZ_lo {M : xM} {r how k : Int} (hr : 0 ≤ r) (hk : 0 ≤ k ∧ k < 4) : ∀ n : Nat, zI (bbZ r how n M) k = zI M k
  | 0 => rfl
  | n + 1 => by
    simp only [bbZ]
    split
    · rw [exZ_lo (by omega) (by omega) hk, bbZ_lo hr hk n]
    · exact bbZ_lo hr hk n
def soZ (M : xM) (r how : Int) : Nat → xM
  | 0 => M
  | n + 1 => bbZ r how (zI M r - 1).toNat (soZ M r how n)
theorem soZ_lo {M : xM} {r how k : Int} (hr : 0 ≤ r) (hk : 0 ≤ k ∧ k < 4) : ∀ n : Nat, zI (soZ M r how n) k = zI M k
  | 0 => rfl
  | n + 1 => by simp only [soZ]; rw [bbZ_lo hr hk, soZ_lo hr hk n]
set_option maxRecDepth 20000 in
theorem m_X7_isBehind {l : Launch} {E : xE} {a b how : Int} {M : xM} (ha : 0 ≤ a ∧ a < 24) (hb : 0 ≤ b ∧ b < 24) (hw : 0 ≤ how ∧ how ≤ 2) : XF l E 1 yX7_isBehind cX7_isBehind 4 (some FieldType.boolean) [vA 68, vI (jI a), vI (jI b), vI (jI how)] M (vI (jb (ibB M a b how = true))) (M) := by
  refine xp_start (plainFor_of_name (by decide)) rfl (Nat.le_of_ble_eq_true rfl) ?_
  intro Y F FR
  have e28_a : (M.1 69 (28 + a).toNat).toInt = zI M (28 + a) := rfl
  have e28_b : (M.1 69 (28 + b).toNat).toInt = zI M (28 + b) := rfl
  have e52_a : (M.1 69 (52 + a).toNat).toInt = zI M (52 + a) := rfl
  have e52_b : (M.1 69 (52 + b).toNat).toInt = zI M (52 + b) := rfl
  refine x_iload_n F dX7_isBehind_0 rfl ?_
  refine xj_iconst F dX7_isBehind_1 ?_
  refine xj_icmp_ne (tgt := 34) F dX7_isBehind_2 (by decide) (by omega) (fun h_1 => ?_) (fun h_1 => ?_)
  · refine x_iload_n F dX7_isBehind_34 rfl ?_
    refine xj_if_ne (tgt := 67) F dX7_isBehind_35 (by decide) (by omega) (fun h_2 => ?_) (fun h_2 => ?_)
    · refine x_aload_n F dX7_isBehind_67 rfl ?_
      refine x_getc (v := 69) F flX7_7 rfl dX7_isBehind_68 (by decide) (by decide) rfl rfl ?_
      refine xj_bipush F dX7_isBehind_71 (by decide) ?_
      refine x_iload_n F dX7_isBehind_73 rfl ?_
      refine xj_iadd F dX7_isBehind_74 ?_
      refine xj_lald2 F rfl dX7_isBehind_75 (by omega) (fun hg_3 => ?_)
      refine x_aload_n F dX7_isBehind_76 rfl ?_
      refine x_getc (v := 69) F flX7_7 rfl dX7_isBehind_77 (by decide) (by decide) rfl rfl ?_
      refine xj_bipush F dX7_isBehind_80 (by decide) ?_
      refine x_iload_n F dX7_isBehind_82 rfl ?_
      refine xj_iadd F dX7_isBehind_83 ?_
      refine xj_lald2 F rfl dX7_isBehind_84 (by omega) (fun hg_4 => ?_)
      refine xj_icmp_ge (tgt := 92) F dX7_isBehind_85 (by decide) (by omega) (fun h_5 => ?_) (fun h_5 => ?_)
      · refine xj_iconst F dX7_isBehind_92 ?_
        refine x_iret F FR dX7_isBehind_93 rfl (Nat.le_refl _) (Nat.le_refl _) ?_
        first
          | exact ⟨congrArg vI (jb_t (by unfold ibB; rw [if_pos (by omega)]; exact decide_eq_true (by omega))).symm, rfl⟩
          | exact ⟨congrArg vI (jb_f (by unfold ibB; rw [if_pos (by omega)]; exact fun z => absurd (of_decide_eq_true z) (by omega))).symm, rfl⟩
          | exact ⟨congrArg vI (jb_t (by unfold ibB; rw [if_neg (by omega), if_pos (by omega)]; exact decide_eq_true (by omega))).symm, rfl⟩
          | exact ⟨congrArg vI (jb_f (by unfold ibB; rw [if_neg (by omega), if_pos (by omega)]; exact fun z => absurd (of_decide_eq_true z) (by omega))).symm, rfl⟩
          | exact ⟨congrArg vI (jb_t (by unfold ibB; rw [if_neg (by omega), if_neg (by omega)]; exact decide_eq_true (by omega))).symm, rfl⟩
          | exact ⟨congrArg vI (jb_f (by unfold ibB; rw [if_neg (by omega), if_neg (by omega)]; exact fun z => absurd (of_decide_eq_true z) (by omega))).symm, rfl⟩
      · refine xj_iconst F dX7_isBehind_88 ?_
        refine x_goto (tgt := 93) F dX7_isBehind_89 (by decide) ?_
        refine x_iret F FR dX7_isBehind_93 rfl (Nat.le_refl _) (Nat.le_refl _) ?_
        first
          | exact ⟨congrArg vI (jb_t (by unfold ibB; rw [if_pos (by omega)]; exact decide_eq_true (by omega))).symm, rfl⟩
          | exact ⟨congrArg vI (jb_f (by unfold ibB; rw [if_pos (by omega)]; exact fun z => absurd (of_decide_eq_true z) (by omega))).symm, rfl⟩
          | exact ⟨congrArg vI (jb_t (by unfold ibB; rw [if_neg (by omega), if_pos (by omega)]; exact decide_eq_true (by omega))).symm, rfl⟩
          | exact ⟨congrArg vI (jb_f (by unfold ibB; rw [if_neg (by omega), if_pos (by omega)]; exact fun z => absurd (of_decide_eq_true z) (by omega))).symm, rfl⟩
          | exact ⟨congrArg vI (jb_t (by unfold ibB; rw [if_neg (by omega), if_neg (by omega)]; exact decide_eq_true (by omega))).symm, rfl⟩
          | exact ⟨congrArg vI (jb_f (by unfold ibB; rw [if_neg (by omega), if_neg (by omega)]; exact fun z => absurd (of_decide_eq_true z) (by omega))).symm, rfl⟩
    · refine x_aload_n F dX7_isBehind_38 rfl ?_
      refine x_getc (v := 69) F flX7_7 rfl dX7_isBehind_39 (by decide) (by decide) rfl rfl ?_
      refine xj_bipush F dX7_isBehind_42 (by decide) ?_
      refine x_iload_n F dX7_isBehind_44 rfl ?_
      refine xj_iadd F dX7_isBehind_45 ?_
      refine xj_lald2 F rfl dX7_isBehind_46 (by omega) (fun hg_6 => ?_)
      refine x_aload_n F dX7_isBehind_47 rfl ?_
      refine x_getc (v := 69) F flX7_7 rfl dX7_isBehind_48 (by decide) (by decide) rfl rfl ?_
      refine xj_bipush F dX7_isBehind_51 (by decide) ?_
      refine x_iload_n F dX7_isBehind_53 rfl ?_
      refine xj_iadd F dX7_isBehind_54 ?_
      refine xj_lald2 F rfl dX7_isBehind_55 (by omega) (fun hg_7 => ?_)
      refine xj_icmp_le (tgt := 63) F dX7_isBehind_56 (by decide) (by omega) (fun h_8 => ?_) (fun h_8 => ?_)
      · refine xj_iconst F dX7_isBehind_63 ?_
        refine x_goto (tgt := 93) F dX7_isBehind_64 (by decide) ?_
        refine x_iret F FR dX7_isBehind_93 rfl (Nat.le_refl _) (Nat.le_refl _) ?_
        first
          | exact ⟨congrArg vI (jb_t (by unfold ibB; rw [if_pos (by omega)]; exact decide_eq_true (by omega))).symm, rfl⟩
          | exact ⟨congrArg vI (jb_f (by unfold ibB; rw [if_pos (by omega)]; exact fun z => absurd (of_decide_eq_true z) (by omega))).symm, rfl⟩
          | exact ⟨congrArg vI (jb_t (by unfold ibB; rw [if_neg (by omega), if_pos (by omega)]; exact decide_eq_true (by omega))).symm, rfl⟩
          | exact ⟨congrArg vI (jb_f (by unfold ibB; rw [if_neg (by omega), if_pos (by omega)]; exact fun z => absurd (of_decide_eq_true z) (by omega))).symm, rfl⟩
          | exact ⟨congrArg vI (jb_t (by unfold ibB; rw [if_neg (by omega), if_neg (by omega)]; exact decide_eq_true (by omega))).symm, rfl⟩
          | exact ⟨congrArg vI (jb_f (by unfold ibB; rw [if_neg (by omega), if_neg (by omega)]; exact fun z => absurd (of_decide_eq_true z) (by omega))).symm, rfl⟩
      · refine xj_iconst F dX7_isBehind_59 ?_
        refine x_goto (tgt := 93) F dX7_isBehind_60 (by decide) ?_
        refine x_iret F FR dX7_isBehind_93 rfl (Nat.le_refl _) (Nat.le_refl _) ?_
        first
          | exact ⟨congrArg vI (jb_t (by unfold ibB; rw [if_pos (by omega)]; exact decide_eq_true (by omega))).symm, rfl⟩
          | exact ⟨congrArg vI (jb_f (by unfold ibB; rw [if_pos (by omega)]; exact fun z => absurd (of_decide_eq_true z) (by omega))).symm, rfl⟩
          | exact ⟨congrArg vI (jb_t (by unfold ibB; rw [if_neg (by omega), if_pos (by omega)]; exact decide_eq_true (by omega))).symm, rfl⟩
          | exact ⟨congrArg vI (jb_f (by unfold ibB; rw [if_neg (by omega), if_pos (by omega)]; exact fun z => absurd (of_decide_eq_true z) (by omega))).symm, rfl⟩
          | exact ⟨congrArg vI (jb_t (by unfold ibB; rw [if_neg (by omega), if_neg (by omega)]; exact decide_eq_true (by omega))).symm, rfl⟩
          | exact ⟨congrArg vI (jb_f (by unfold ibB; rw [if_neg (by omega), if_neg (by omega)]; exact fun z => absurd (of_decide_eq_true z) (by omega))).symm, rfl⟩
  · refine x_aload_n F dX7_isBehind_5 rfl ?_
    refine x_getc (v := 69) F flX7_7 rfl dX7_isBehind_6 (by decide) (by decide) rfl rfl ?_
    refine xj_bipush F dX7_isBehind_9 (by decide) ?_
    refine x_iload_n F dX7_isBehind_11 rfl ?_
    refine xj_iadd F dX7_isBehind_12 ?_
    refine xj_lald2 F rfl dX7_isBehind_13 (by omega) (fun hg_9 => ?_)
    refine x_aload_n F dX7_isBehind_14 rfl ?_
    refine x_getc (v := 69) F flX7_7 rfl dX7_isBehind_15 (by decide) (by decide) rfl rfl ?_
    refine xj_bipush F dX7_isBehind_18 (by decide) ?_
    refine x_iload_n F dX7_isBehind_20 rfl ?_
    refine xj_iadd F dX7_isBehind_21 ?_
    refine xj_lald2 F rfl dX7_isBehind_22 (by omega) (fun hg_10 => ?_)
    refine xj_icmp_le (tgt := 30) F dX7_isBehind_23 (by decide) (by omega) (fun h_11 => ?_) (fun h_11 => ?_)
    · refine xj_iconst F dX7_isBehind_30 ?_
      refine x_goto (tgt := 93) F dX7_isBehind_31 (by decide) ?_
      refine x_iret F FR dX7_isBehind_93 rfl (Nat.le_refl _) (Nat.le_refl _) ?_
      first
        | exact ⟨congrArg vI (jb_t (by unfold ibB; rw [if_pos (by omega)]; exact decide_eq_true (by omega))).symm, rfl⟩
        | exact ⟨congrArg vI (jb_f (by unfold ibB; rw [if_pos (by omega)]; exact fun z => absurd (of_decide_eq_true z) (by omega))).symm, rfl⟩
        | exact ⟨congrArg vI (jb_t (by unfold ibB; rw [if_neg (by omega), if_pos (by omega)]; exact decide_eq_true (by omega))).symm, rfl⟩
        | exact ⟨congrArg vI (jb_f (by unfold ibB; rw [if_neg (by omega), if_pos (by omega)]; exact fun z => absurd (of_decide_eq_true z) (by omega))).symm, rfl⟩
        | exact ⟨congrArg vI (jb_t (by unfold ibB; rw [if_neg (by omega), if_neg (by omega)]; exact decide_eq_true (by omega))).symm, rfl⟩
        | exact ⟨congrArg vI (jb_f (by unfold ibB; rw [if_neg (by omega), if_neg (by omega)]; exact fun z => absurd (of_decide_eq_true z) (by omega))).symm, rfl⟩
    · refine xj_iconst F dX7_isBehind_26 ?_
      refine x_goto (tgt := 93) F dX7_isBehind_27 (by decide) ?_
      refine x_iret F FR dX7_isBehind_93 rfl (Nat.le_refl _) (Nat.le_refl _) ?_
      first
        | exact ⟨congrArg vI (jb_t (by unfold ibB; rw [if_pos (by omega)]; exact decide_eq_true (by omega))).symm, rfl⟩
        | exact ⟨congrArg vI (jb_f (by unfold ibB; rw [if_pos (by omega)]; exact fun z => absurd (of_decide_eq_true z) (by omega))).symm, rfl⟩
        | exact ⟨congrArg vI (jb_t (by unfold ibB; rw [if_neg (by omega), if_pos (by omega)]; exact decide_eq_true (by omega))).symm, rfl⟩
        | exact ⟨congrArg vI (jb_f (by unfold ibB; rw [if_neg (by omega), if_pos (by omega)]; exact fun z => absurd (of_decide_eq_true z) (by omega))).symm, rfl⟩
        | exact ⟨congrArg vI (jb_t (by unfold ibB; rw [if_neg (by omega), if_neg (by omega)]; exact decide_eq_true (by omega))).symm, rfl⟩
        | exact ⟨congrArg vI (jb_f (by unfold ibB; rw [if_neg (by omega), if_neg (by omega)]; exact fun z => absurd (of_decide_eq_true z) (by omega))).symm, rfl⟩
set_option maxRecDepth 20000 in
theorem L_X7_sortNow_20 {l : Launch} {E : xE} {r how : Int} {M : xM} (hr : 0 ≤ r ∧ r < 4) (hs : 0 ≤ zI M r ∧ zI M r ≤ 6) (hw : 0 ≤ how ∧ how ≤ 2) {m : Nat} {Y : xY} (F : xFix E (xA E) Y cX7_sortNow yX7_sortNow.cls 5) (FR : xRet E Y none 0 0 (fun r' M'' => r' = vU ∧ M'' = (soZ M r how (zI M r).toNat)) (fun _ _ => False)) : ∀ (k : Nat) (n : Nat), (n : Int) ≤ max 0 (zI M r - 1) → (∀ (n : Nat) (w : xV), n = (zI M r - 1).toNat → WP l E (xRm 3 0 0) (xA E) Y 0 0 70 [vA 68, vI (jI r), vI (jI how), vI (jI (m : Int)), w] [] (bbZ r how n (soZ M r how m))) → (zI M r - n).toNat < k → WP l E (xRm 3 0 0) (xA E) Y 0 0 20 [vA 68, vI (jI r), vI (jI how), vI (jI (m : Int)), vI (jI (6 * r + (n : Int)))] [] (bbZ r how n (soZ M r how m)) := by
  intro k
  induction k with
  | zero => intro n hn hex hk; exact absurd hk (Nat.not_lt_zero _)
  | succ k ih =>
    intro n hn hex hk
    have hz : ((bbZ r how n (soZ M r how m)).1 69 r.toNat).toInt = zI M r := (bbZ_lo hr.1 hr n).trans (soZ_lo hr.1 hr m)
    refine x_iload F dX7_sortNow_20 rfl ?_
    refine xj_iconst F dX7_sortNow_22 ?_
    refine xj_iadd F dX7_sortNow_23 ?_
    refine xj_bipush F dX7_sortNow_24 (by decide) ?_
    refine x_iload_n F dX7_sortNow_26 rfl ?_
    refine xj_imul F dX7_sortNow_27 ?_
    refine x_aload_n F dX7_sortNow_28 rfl ?_
    refine x_getc (v := 69) F flX7_7 rfl dX7_sortNow_29 (by decide) (by decide) rfl rfl ?_
    refine xj_iconst F dX7_sortNow_32 ?_
    refine x_iload_n F dX7_sortNow_33 rfl ?_
    refine xj_iadd F dX7_sortNow_34 ?_
    rw [Int.zero_add r]
    refine xj_lald2 F rfl dX7_sortNow_35 (by omega) (fun hg_1 => ?_)
    refine xj_iadd F dX7_sortNow_36 ?_
    refine xj_icmp_ge (tgt := 70) F dX7_sortNow_37 (by decide) (by omega) (fun h_2 => ?_) (fun h_2 => ?_)
    · refine hex n _ ?_
      omega
    · refine x_aload_n F dX7_sortNow_40 rfl ?_
      refine x_iload F dX7_sortNow_41 rfl ?_
      refine x_iload F dX7_sortNow_43 rfl ?_
      refine xj_iconst F dX7_sortNow_45 ?_
      refine xj_iadd F dX7_sortNow_46 ?_
      refine x_iload_n F dX7_sortNow_47 rfl ?_
      refine x_V3 F (m_X7_isBehind (by omega) (by omega) (by omega)) mlX7_113 mvX7_isBehind rfl dX7_sortNow_48 (by decide) rfl ⟨Nat.le_of_ble_eq_true rfl, Nat.le_of_ble_eq_true rfl⟩ ⟨Nat.zero_le _, Nat.zero_le _⟩ (Nat.le_of_ble_eq_true rfl) ?_
      refine xb_if_eq (tgt := 64) F dX7_sortNow_51 (by decide) (fun h_3 => ?_) (fun h_3 => ?_)
      · have hst : (bbZ r how (n + 1) (soZ M r how m)) = (bbZ r how n (soZ M r how m)) := by simp only [bbZ]; exact if_neg h_3
        refine xj_iinc F dX7_sortNow_64 rfl ?_
        refine x_goto (tgt := 20) F dX7_sortNow_67 (by decide) ?_
        have g := ih (n + 1) (by omega) hex (by omega)
        rw [hst, show 6 * r + ((n + 1 : Nat) : Int) = 6 * r + n + 1 by omega] at g
        exact g
      · have hst : (bbZ r how (n + 1) (soZ M r how m)) = exZ (bbZ r how n (soZ M r how m)) (6 * r + n) (6 * r + n + 1) := by simp only [bbZ]; exact if_pos h_3
        refine x_aload_n F dX7_sortNow_54 rfl ?_
        refine x_iload F dX7_sortNow_55 rfl ?_
        refine x_iload F dX7_sortNow_57 rfl ?_
        refine xj_iconst F dX7_sortNow_59 ?_
        refine xj_iadd F dX7_sortNow_60 ?_
        refine x_V2 F (m_X7_exchange (by omega) (by omega)) mlX7_110 mvX7_exchange rfl dX7_sortNow_61 (by decide) rfl ⟨Nat.le_of_ble_eq_true rfl, Nat.le_of_ble_eq_true rfl⟩ ⟨Nat.zero_le _, Nat.zero_le _⟩ (Nat.le_of_ble_eq_true rfl) ?_
        refine xj_iinc F dX7_sortNow_64 rfl ?_
        refine x_goto (tgt := 20) F dX7_sortNow_67 (by decide) ?_
        have g := ih (n + 1) (by omega) hex (by omega)
        rw [hst, show 6 * r + ((n + 1 : Nat) : Int) = 6 * r + n + 1 by omega] at g
        exact g
set_option maxRecDepth 20000 in
theorem L_X7_sortNow {l : Launch} {E : xE} {r how : Int} {M : xM} (hr : 0 ≤ r ∧ r < 4) (hs : 0 ≤ zI M r ∧ zI M r ≤ 6) (hw : 0 ≤ how ∧ how ≤ 2) {Y : xY} (F : xFix E (xA E) Y cX7_sortNow yX7_sortNow.cls 5) (FR : xRet E Y none 0 0 (fun r' M'' => r' = vU ∧ M'' = (soZ M r how (zI M r).toNat)) (fun _ _ => False)) : ∀ (k : Nat) (m : Nat) (y : xV), (m : Int) ≤ zI M r → (zI M r - m).toNat < k → WP l E (xRm 3 0 0) (xA E) Y 0 0 2 [vA 68, vI (jI r), vI (jI how), vI (jI (m : Int)), y] [] (soZ M r how m) := by
  intro k
  induction k with
  | zero => intro m y hn hk; exact absurd hk (Nat.not_lt_zero _)
  | succ k ih =>
    intro m y hn hk
    have hz : ((soZ M r how m).1 69 r.toNat).toInt = zI M r := soZ_lo hr.1 hr m
    refine x_iload_n F dX7_sortNow_2 rfl ?_
    refine x_aload_n F dX7_sortNow_3 rfl ?_
    refine x_getc (v := 69) F flX7_7 rfl dX7_sortNow_4 (by decide) (by decide) rfl rfl ?_
    refine xj_iconst F dX7_sortNow_7 ?_
    refine x_iload_n F dX7_sortNow_8 rfl ?_
    refine xj_iadd F dX7_sortNow_9 ?_
    rw [Int.zero_add r]
    refine xj_lald2 F rfl dX7_sortNow_10 (by omega) (fun hg_1 => ?_)
    refine xj_icmp_ge (tgt := 76) F dX7_sortNow_11 (by decide) (by omega) (fun h_2 => ?_) (fun h_2 => ?_)
    · refine x_vret F FR dX7_sortNow_76 (Nat.le_refl _) (Nat.le_refl _) ?_
      have e : m = (zI M r).toNat := by omega
      subst e
      exact ⟨rfl, rfl⟩
    · refine xj_bipush F dX7_sortNow_14 (by decide) ?_
      refine x_iload_n F dX7_sortNow_16 rfl ?_
      refine xj_imul F dX7_sortNow_17 ?_
      refine x_istore F dX7_sortNow_18 (by decide) ?_
      refine (fun g => ?_) (L_X7_sortNow_20 (M := M) (l := l) hr hs hw (m := m) F FR _ 0 (by omega) (fun n w9 hn9 => ?_) (Nat.lt_succ_self _))
      · rw [show 6 * r + ((0 : Nat) : Int) = 6 * r by omega] at g
        exact g
      · subst hn9
        refine xj_iinc F dX7_sortNow_70 rfl ?_
        refine x_goto (tgt := 2) F dX7_sortNow_73 (by decide) ?_
        exact ih (m + 1) w9 (by omega) (by omega)
set_option maxRecDepth 20000 in
theorem m_X7_sortNow {l : Launch} {E : xE} {r how : Int} {M : xM} (hr : 0 ≤ r ∧ r < 4) (hs : 0 ≤ zI M r ∧ zI M r ≤ 6) (hw : 0 ≤ how ∧ how ≤ 2) : XF l E 3 yX7_sortNow cX7_sortNow 5 none [vA 68, vI (jI r), vI (jI how)] M (vU) ((soZ M r how (zI M r).toNat)) := by
  refine xp_start (plainFor_of_name (by decide)) rfl (Nat.le_of_ble_eq_true rfl) ?_
  intro Y F FR
  refine xj_iconst F dX7_sortNow_0 ?_
  refine x_istore_n F dX7_sortNow_1 (by decide) ?_
  exact L_X7_sortNow hr hs hw F FR _ 0 vU (by omega) (Nat.lt_succ_self _)
