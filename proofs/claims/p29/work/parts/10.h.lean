set_option maxRecDepth 20000 in
theorem L_X1_spotOfNumber_9 {l : Launch} {E : xE} {c : Nat} {x : Int} {M : xM} (hC : isCh c) (hS : ∀ r : Int, 0 ≤ szI M c r ∧ szI M c r ≤ 6) (hx : rg x) {r : Int} (hr : 0 ≤ r ∧ r < 4) (hq : fnR M c x 0 4 = fnR M c x r (4 - r).toNat) {Y : xY} (F : xFix E (xA E) Y cX1_spotOfNumber yX1_spotOfNumber.cls 4) (FR : xRet E Y (some FieldType.int) 0 0 (fun r' M'' => r' = vI (jI (fnR M c x 0 4)) ∧ M'' = M) (fun _ _ => False)) : ∀ (k : Nat) (p : Int), 0 ≤ p → p ≤ szI M c r → fnP (nuP M c x r) 0 (szI M c r).toNat = fnP (nuP M c x r) p (szI M c r - p).toNat → (∀ p9 : Int, fnP (nuP M c x r) 0 (szI M c r).toNat = -1 → WP l E (xRm 3 0 0) (xA E) Y 0 0 41 [vA c, vI (jI x), vI (jI r), vI (jI p9)] [] M) → (szI M c r - p).toNat < k → WP l E (xRm 3 0 0) (xA E) Y 0 0 9 [vA c, vI (jI x), vI (jI r), vI (jI p)] [] M := by
  intro k
  induction k with
  | zero => intro p hp hb hf hex hk; exact absurd hk (Nat.not_lt_zero _)
  | succ k ih =>
    intro p hp hb hf hex hk
    have hs := hS r
    refine x_iload_n F dX1_spotOfNumber_9 rfl ?_
    refine x_aload_n F dX1_spotOfNumber_10 rfl ?_
    refine x_iload_n F dX1_spotOfNumber_11 rfl ?_
    refine x_V1 F (m_X1_sizeOf (by first | assumption | omega | decide) (by first | assumption | omega | decide)) mlX1_56 mvX1_sizeOf hC.1 dX1_spotOfNumber_12 (by decide) rfl ⟨Nat.le_of_ble_eq_true rfl, Nat.le_of_ble_eq_true rfl⟩ ⟨Nat.zero_le _, Nat.zero_le _⟩ (Nat.le_of_ble_eq_true rfl) ?_
    have hf_1 := rg_szI M c r
    refine xj_icmp_ge (tgt := 41) F dX1_spotOfNumber_15 (by decide) (by omega) (fun h_2 => ?_) (fun h_2 => ?_)
    · refine hex p ?_
      rw [hf, show (szI M c r - p).toNat = 0 by omega]
      rfl
    · refine x_aload_n F dX1_spotOfNumber_18 rfl ?_
      refine x_iload_n F dX1_spotOfNumber_19 rfl ?_
      refine x_iload_n F dX1_spotOfNumber_20 rfl ?_
      refine x_V2 F (m_X1_numberAt (by first | assumption | omega | decide) (by first | assumption | omega | decide) (by first | assumption | omega | decide)) mlX1_67 mvX1_numberAt hC.1 dX1_spotOfNumber_21 (by decide) rfl ⟨Nat.le_of_ble_eq_true rfl, Nat.le_of_ble_eq_true rfl⟩ ⟨Nat.zero_le _, Nat.zero_le _⟩ (Nat.le_of_ble_eq_true rfl) ?_
      have hf_3 := rg_rdI (M.1 (c + 2)) 24 (spI r p)
      refine x_iload_n F dX1_spotOfNumber_24 rfl ?_
      refine xj_icmp_ne (tgt := 35) F dX1_spotOfNumber_25 (by decide) (by omega) (fun h_4 => ?_) (fun h_4 => ?_)
      · have hne : nuP M c x r p = false := decide_eq_false h_4
        refine xj_iinc F dX1_spotOfNumber_35 rfl ?_
        refine x_goto (tgt := 9) F dX1_spotOfNumber_38 (by decide) ?_
        refine ih (p + 1) (by omega) (by omega) ?_ hex (by omega)
        rw [hf, show (szI M c r - p).toNat = (szI M c r - (p + 1)).toNat + 1 by omega]
        simp only [fnP]
        rw [hne]
        rfl
      · have heq : nuP M c x r p = true := decide_eq_true h_4
        refine xj_bipush F dX1_spotOfNumber_28 (by decide) ?_
        refine x_iload_n F dX1_spotOfNumber_30 rfl ?_
        refine xj_imul F dX1_spotOfNumber_31 ?_
        refine x_iload_n F dX1_spotOfNumber_32 rfl ?_
        refine xj_iadd F dX1_spotOfNumber_33 ?_
        refine x_iret F FR dX1_spotOfNumber_34 rfl (Nat.le_refl _) (Nat.le_refl _) ?_
        refine ⟨vj ?_, rfl⟩
        rw [hq, show (4 - r).toNat = (3 - r).toNat + 1 by omega]
        have hv : fnP (nuP M c x r) 0 (szI M c r).toNat = p := by rw [hf, show (szI M c r - p).toNat = (szI M c r - (p + 1)).toNat + 1 by omega]; simp only [fnP]; rw [if_pos heq]
        simp only [fnR]
        rw [if_neg (by rw [hv]; omega), hv]
set_option maxRecDepth 20000 in
theorem L_X1_spotOfNumber {l : Launch} {E : xE} {c : Nat} {x : Int} {M : xM} (hC : isCh c) (hS : ∀ r : Int, 0 ≤ szI M c r ∧ szI M c r ≤ 6) (hx : rg x) {Y : xY} (F : xFix E (xA E) Y cX1_spotOfNumber yX1_spotOfNumber.cls 4) (FR : xRet E Y (some FieldType.int) 0 0 (fun r' M'' => r' = vI (jI (fnR M c x 0 4)) ∧ M'' = M) (fun _ _ => False)) : ∀ (k : Nat) (r : Int) (y : xV), 0 ≤ r ∧ r ≤ 4 → fnR M c x 0 4 = fnR M c x r (4 - r).toNat → (4 - r).toNat < k → WP l E (xRm 3 0 0) (xA E) Y 0 0 2 [vA c, vI (jI x), vI (jI r), y] [] M := by
  intro k
  induction k with
  | zero => intro r y hr hq hk; exact absurd hk (Nat.not_lt_zero _)
  | succ k ih =>
    intro r y hr hq hk
    refine x_iload_n F dX1_spotOfNumber_2 rfl ?_
    refine xj_iconst F dX1_spotOfNumber_3 ?_
    refine xj_icmp_ge (tgt := 47) F dX1_spotOfNumber_4 (by decide) (by omega) (fun h_1 => ?_) (fun h_1 => ?_)
    · refine xj_iconst F dX1_spotOfNumber_47 ?_
      refine x_iret F FR dX1_spotOfNumber_48 rfl (Nat.le_refl _) (Nat.le_refl _) ?_
      refine ⟨vj ?_, rfl⟩
      rw [hq, show (4 - r).toNat = 0 by omega]
      rfl
    · refine xj_iconst F dX1_spotOfNumber_7 ?_
      refine x_istore_n F dX1_spotOfNumber_8 (by decide) ?_
      have hs := hS r
      refine L_X1_spotOfNumber_9 hC hS hx (by omega) hq F FR _ 0 (by omega) (by omega) (by rw [show szI M c r - 0 = szI M c r by omega]) ?_ (Nat.lt_succ_self _)
      intro p9 hp9
      refine xj_iinc F dX1_spotOfNumber_41 rfl ?_
      refine x_goto (tgt := 2) F dX1_spotOfNumber_44 (by decide) ?_
      refine ih (r + 1) _ (by omega) ?_ (by omega)
      rw [hq, show (4 - r).toNat = (4 - (r + 1)).toNat + 1 by omega]
      simp only [fnR]
      rw [if_pos hp9]
set_option maxRecDepth 20000 in
theorem m_X1_spotOfNumber {l : Launch} {E : xE} {c : Nat} {x : Int} {M : xM} (hC : isCh c) (hS : ∀ r : Int, 0 ≤ szI M c r ∧ szI M c r ≤ 6) (hx : rg x) : XF l E 3 yX1_spotOfNumber cX1_spotOfNumber 4 (some FieldType.int) [vA c, vI (jI x)] M (vI (jI (fnR M c x 0 4))) (M) := by
  refine xp_start (plainFor_of_name (by decide)) rfl (Nat.le_of_ble_eq_true rfl) ?_
  intro Y F FR
  refine xj_iconst F dX1_spotOfNumber_0 ?_
  refine x_istore_n F dX1_spotOfNumber_1 (by decide) ?_
  exact L_X1_spotOfNumber hC hS hx F FR _ 0 vU (by omega) rfl (Nat.lt_succ_self _)
/-! THE HISTORY, cell 16: its fields oldest (1), held (2) -/
theorem fm6 : ∀ n : Nat, n < 13 → 0 ≤ (jI (n : Int) ^^^ jI 6) := by decide +kernel
def okH (M : xM) : Prop := (0 ≤ (M.1 16 1).toInt ∧ (M.1 16 1).toInt < 6) ∧ (0 ≤ (M.1 16 2).toInt ∧ (M.1 16 2).toInt ≤ 6)
/-- the choir's cell of the saved state of this age, 0 the oldest -/
def slN (M : xM) (g : Int) : Nat := 18 + 5 * (((M.1 16 1).toInt + g) % 6).toNat
theorem slN_ch (M : xM) (g : Int) : isCh (slN M g) := by
  have h : ((((M.1 16 1).toInt + g) % 6).toNat) < 6 := by omega
  unfold slN
  generalize (((M.1 16 1).toInt + g) % 6).toNat = n at h
  have : n = 0 ∨ n = 1 ∨ n = 2 ∨ n = 3 ∨ n = 4 ∨ n = 5 := by omega
  rcases this with rfl | rfl | rfl | rfl | rfl | rfl <;> exact ⟨rfl, rfl, rfl, rfl, rfl⟩
def sv0 (M : xM) : xM := if 6 ≤ (M.1 16 2).toInt then upI (upI M 16 1 (jI (((M.1 16 1).toInt + 1) % 6))) 16 2 (jI ((M.1 16 2).toInt - 1)) else M
def svM (M : xM) (b : Nat) : xM :=
  let M1 := sv0 M
  let M2 := bcM M1 (slN M1 (M1.1 16 2).toInt) b
  upI M2 16 2 (jI ((M2.1 16 2).toInt + 1))
def tkM (M : xM) (b : Nat) : xM :=
  if 0 < (M.1 16 2).toInt then
    let M1 := upI M 16 2 (jI ((M.1 16 2).toInt - 1))
    bcM M1 b (slN M1 (M1.1 16 2).toInt)
  else M
set_option maxRecDepth 20000 in
theorem m_J9_floorMod_7cf53 {l : Launch} {E : xE} {a : Int} {M : xM} (ha : 0 ≤ a ∧ a < 13) : XF l E 1 yJ9_floorMod_7cf53 cJ9_floorMod_7cf53 3 (some FieldType.int) [vI (jI a), vI (jI 6)] M (vI (jI (a % 6))) (M) := by
  refine xp_start (by decide +kernel) rfl (Nat.le_of_ble_eq_true rfl) ?_
  intro Y F FR
  refine x_iload_n F dJ9_floorMod_7cf53_0 rfl ?_
  refine x_iload_n F dJ9_floorMod_7cf53_1 rfl ?_
  refine xj_irem F dJ9_floorMod_7cf53_2 (by omega) ?_
  refine x_istore_n F dJ9_floorMod_7cf53_3 (by decide) ?_
  refine x_iload_n F dJ9_floorMod_7cf53_4 rfl ?_
  refine x_iload_n F dJ9_floorMod_7cf53_5 rfl ?_
  have hx : 0 ≤ (jI a ^^^ jI 6) := by have := fm6 a.toNat (by omega); rwa [show ((a.toNat : Nat) : Int) = a by omega] at this
  refine x_ixor F dJ9_floorMod_7cf53_6 ?_
  refine x_if_ge (tgt := 18) F dJ9_floorMod_7cf53_7 (by decide) (fun h_1 => ?_) (fun h_1 => ?_)
  · refine x_iload_n F dJ9_floorMod_7cf53_18 rfl ?_
    refine x_iret F FR dJ9_floorMod_7cf53_19 rfl (Nat.le_refl _) (Nat.le_refl _) ?_
    exact ⟨rfl, rfl⟩
  · exact absurd hx h_1
set_option maxRecDepth 20000 in
theorem m_X3_size {l : Launch} {E : xE} {M : xM} : XF l E 1 yX3_size cX3_size 1 (some FieldType.int) [vA 16] M (vI (jI (M.1 16 2).toInt)) (M) := by
  refine xp_start (plainFor_of_name (by decide)) rfl (Nat.le_of_ble_eq_true rfl) ?_
  intro Y F FR
  refine x_aload_n F dX3_size_0 rfl ?_
  refine xj_geti F flX3_18 rfl dX3_size_1 (by decide) (by decide) rfl (fun hg_1 => ?_)
  refine x_iret F FR dX3_size_4 rfl (Nat.le_refl _) (Nat.le_refl _) ?_
  exact ⟨rfl, rfl⟩
set_option maxRecDepth 20000 in
theorem m_X3_slotAt {l : Launch} {E : xE} {g : Int} {M : xM} (hO : 0 ≤ (M.1 16 1).toInt ∧ (M.1 16 1).toInt < 6) (hg : 0 ≤ g ∧ g ≤ 6) : XF l E 2 yX3_slotAt cX3_slotAt 3 (some (FieldType.object "OddChoir$Choir")) [vA 16, vI (jI g)] M (vA (slN M g)) (M) := by
  refine xp_start (plainFor_of_name (by decide)) rfl (Nat.le_of_ble_eq_true rfl) ?_
  intro Y F FR
  refine x_aload_n F dX3_slotAt_0 rfl ?_
  refine xj_geti F flX3_22 rfl dX3_slotAt_1 (by decide) (by decide) rfl (fun hg_1 => ?_)
  refine x_iload_n F dX3_slotAt_4 rfl ?_
  refine xj_iadd F dX3_slotAt_5 ?_
  refine xj_bipush F dX3_slotAt_6 (by decide) ?_
  refine x_S2 F (m_J9_floorMod_7cf53 (by first | assumption | omega | decide)) mlX3_33 msJ9_floorMod_7cf53 dX3_slotAt_8 ⟨Nat.le_of_ble_eq_true rfl, Nat.le_of_ble_eq_true rfl⟩ ⟨Nat.zero_le _, Nat.zero_le _⟩ (Nat.le_of_ble_eq_true rfl) ?_
  refine x_istore_n F dX3_slotAt_11 (by decide) ?_
  refine x_iload_n F dX3_slotAt_12 rfl ?_
  refine xj_if_lt (tgt := 34) F dX3_slotAt_13 (by decide) (by omega) (fun h_2 => ?_) (fun h_2 => ?_)
  · omega
  · refine x_iload_n F dX3_slotAt_16 rfl ?_
    refine x_aload_n F dX3_slotAt_17 rfl ?_
    refine x_getc (v := 17) F flX3_11 rfl dX3_slotAt_18 (by decide) (by decide) rfl rfl ?_
    refine xj_alen F rfl dX3_slotAt_21 (by decide) ?_
    refine xj_icmp_ge (tgt := 34) F dX3_slotAt_22 (by decide) (by omega) (fun h_3 => ?_) (fun h_3 => ?_)
    · omega
    · refine x_aload_n F dX3_slotAt_25 rfl ?_
      refine x_getc (v := 17) F flX3_11 rfl dX3_slotAt_26 (by decide) (by decide) rfl rfl ?_
      refine x_iload_n F dX3_slotAt_29 rfl ?_
      refine xj_aaldC F rfl dX3_slotAt_30 (by omega) ?_
      refine x_goto (tgt := 35) F dX3_slotAt_31 (by decide) ?_
      refine x_aret F FR dX3_slotAt_35 (Or.inl ⟨_, rfl⟩) (Nat.le_refl _) (Nat.le_refl _) ?_
      exact ⟨rfl, rfl⟩
set_option maxRecDepth 20000 in
theorem X3_save_32 {l : Launch} {E : xE} {b : Nat} {M M1 : xM} (hB : isCh b) (h1 : 0 ≤ (M1.1 16 1).toInt ∧ (M1.1 16 1).toInt < 6) (h2 : 0 ≤ (M1.1 16 2).toInt ∧ (M1.1 16 2).toInt ≤ 5) {Y : xY} (F : xFix E (xA E) Y cX3_save yX3_save.cls 3) (FR : xRet E Y none 0 0 (fun r' M'' => r' = vU ∧ M'' = svM M b) (fun _ _ => False)) (z : xV) (hM1 : sv0 M = M1) : WP l E (xRm 4 0 0) (xA E) Y 0 0 32 [vA 16, vA b, z] [] M1 := by
  refine x_aload_n F dX3_save_32 rfl ?_
  refine x_aload_n F dX3_save_33 rfl ?_
  refine xj_geti F flX3_18 rfl dX3_save_34 (by decide) (by decide) rfl (fun hg_1 => ?_)
  refine x_V1 F (m_X3_slotAt (by first | assumption | omega | decide) (by first | assumption | omega | decide)) mlX3_25 mvX3_slotAt rfl dX3_save_37 (by decide) rfl ⟨Nat.le_of_ble_eq_true rfl, Nat.le_of_ble_eq_true rfl⟩ ⟨Nat.zero_le _, Nat.zero_le _⟩ (Nat.le_of_ble_eq_true rfl) ?_
  refine x_astore_n F dX3_save_40 (by decide) ?_
  refine x_aload_n F dX3_save_41 rfl ?_
  refine x_ifnull (tgt := 60) F dX3_save_42 (by decide) (fun h_2 => ?_) (fun a_3 h_2 => ?_)
  · cases h_2
  · cases h_2
    refine x_aload_n F dX3_save_45 rfl ?_
    refine x_aload_n F dX3_save_46 rfl ?_
    refine x_V1 F (m_X1_become (slN_ch _ _) hB) mlX3_29 mvX1_become (slN_ch _ _).1 dX3_save_47 (by decide) rfl ⟨Nat.le_of_ble_eq_true rfl, Nat.le_of_ble_eq_true rfl⟩ ⟨Nat.zero_le _, Nat.zero_le _⟩ (Nat.le_of_ble_eq_true rfl) ?_
    refine x_aload_n F dX3_save_50 rfl ?_
    refine x_dup F dX3_save_51 rfl ?_
    refine xj_geti F flX3_18 rfl dX3_save_52 (by decide) (by decide) rfl (fun hg_4 => ?_)
    refine xj_iconst F dX3_save_55 ?_
    refine xj_iadd F dX3_save_56 ?_
    refine x_puti F flX3_18 rfl dX3_save_57 (by decide) (by decide) rfl fw3_2 rfl rfl ?_
    refine x_vret F FR dX3_save_60 (Nat.le_refl _) (Nat.le_refl _) ?_
    subst hM1
    exact ⟨rfl, rfl⟩
set_option maxRecDepth 20000 in
theorem m_X3_save {l : Launch} {E : xE} {b : Nat} {M : xM} (hB : isCh b) (hO : okH M) : XF l E 4 yX3_save cX3_save 3 none [vA 16, vA b] M (vU) (svM M b) := by
  refine xp_start (plainFor_of_name (by decide)) rfl (Nat.le_of_ble_eq_true rfl) ?_
  intro Y F FR
  obtain ⟨hO1, hO2⟩ := hO
  refine x_aload_n F dX3_save_0 rfl ?_
  refine xj_geti F flX3_18 rfl dX3_save_1 (by decide) (by decide) rfl (fun hg_1 => ?_)
  refine xj_bipush F dX3_save_4 (by decide) ?_
  refine xj_icmp_lt (tgt := 32) F dX3_save_6 (by decide) (by omega) (fun h_2 => ?_) (fun h_2 => ?_)
  · refine X3_save_32 hB ?_ ?_ F FR _ ?_
    · first
        | (show 0 ≤ ((upI (upI M 16 1 _) 16 2 _).1 16 1).toInt ∧ _; rw [upI_1, if_neg (by omega), upI_1, if_pos (by omega), jI_toInt (by omega)]; omega)
        | exact hO1
    · first
        | (show 0 ≤ ((upI (upI M 16 1 _) 16 2 _).1 16 2).toInt ∧ _; rw [upI_1, if_pos (by omega), jI_toInt (by rw [upI_1, if_neg (by omega)]; omega), upI_1, if_neg (by omega)]; omega)
        | omega
    · first
        | (unfold sv0; rw [if_pos (by omega)]; rfl)
        | (unfold sv0; rw [if_neg (by omega)])
  · refine x_aload_n F dX3_save_9 rfl ?_
    refine x_aload_n F dX3_save_10 rfl ?_
    refine xj_geti F flX3_22 rfl dX3_save_11 (by decide) (by decide) rfl (fun hg_3 => ?_)
    refine xj_iconst F dX3_save_14 ?_
    refine xj_iadd F dX3_save_15 ?_
    refine xj_bipush F dX3_save_16 (by decide) ?_
    refine xj_irem F dX3_save_18 (by omega) ?_
    refine x_puti F flX3_22 rfl dX3_save_19 (by decide) (by decide) rfl fw3_1 rfl rfl ?_
    refine x_aload_n F dX3_save_22 rfl ?_
    refine x_dup F dX3_save_23 rfl ?_
    refine xj_geti F flX3_18 rfl dX3_save_24 (by decide) (by decide) rfl (fun hg_4 => ?_)
    refine xj_iconst F dX3_save_27 ?_
    refine xj_isub F dX3_save_28 ?_
    refine x_puti F flX3_18 rfl dX3_save_29 (by decide) (by decide) rfl fw3_2 rfl rfl ?_
    refine X3_save_32 hB ?_ ?_ F FR _ ?_
    · first
        | (show 0 ≤ ((upI (upI M 16 1 _) 16 2 _).1 16 1).toInt ∧ _; rw [upI_1, if_neg (by omega), upI_1, if_pos (by omega), jI_toInt (by omega)]; omega)
        | exact hO1
    · first
        | (show 0 ≤ ((upI (upI M 16 1 _) 16 2 _).1 16 2).toInt ∧ _; rw [upI_1, if_pos (by omega), jI_toInt (by rw [upI_1, if_neg (by omega)]; omega), upI_1, if_neg (by omega)]; omega)
        | omega
    · first
        | (unfold sv0; rw [if_pos (by omega)]; rfl)
        | (unfold sv0; rw [if_neg (by omega)])
