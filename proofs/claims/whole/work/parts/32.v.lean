/-! THE MODEL: the best swap -/
theorem oaZ_b {M : xM} (hZ : okZ M) : 0 ≤ oaZ M ∧ oaZ M ≤ 24 := by
  have h0 := odZ_b hZ (r := 0) (by decide)
  have h1 := odZ_b hZ (r := 1) (by decide)
  have h2 := odZ_b hZ (r := 2) (by decide)
  have h3 := odZ_b hZ (r := 3) (by decide)
  unfold oaZ
  omega
def bzF (M : xM) (r : Int) (a : Nat) : Nat → Int × Int → Int × Int
  | 0, q => q
  | n + 1, q => if (bzF M r a n q).1 < oaZ (exZ M (6 * r + a) (6 * r + ((a : Int) + 1 + n))) then (oaZ (exZ M (6 * r + a) (6 * r + ((a : Int) + 1 + n))), 6 * a + ((a : Int) + 1 + n)) else bzF M r a n q
def bzG (M : xM) (r : Int) : Nat → Int × Int
  | 0 => (oaZ M, -1)
  | n + 1 => bzF M r n (zI M r - ((n : Int) + 1)).toNat (bzG M r n)
def bzI (M : xM) (r : Int) : Int := (bzG M r (zI M r).toNat).2
set_option maxRecDepth 20000 in
theorem L_X7_bestOf_29 {l : Launch} {E : xE} {r : Int} {M : xM} (hZ : okZ M) (hr : 0 ≤ r ∧ r < 4) {a : Nat} (ha : (a : Int) < zI M r) {Y : xY} (F : xFix E (xA E) Y cX7_bestOf yX7_bestOf.cls 7) (FR : xRet E Y (some FieldType.int) 0 0 (fun r' M'' => r' = vI (jI (bzI M r)) ∧ M'' = M) (fun _ _ => False)) : ∀ (k : Nat) (n : Nat) (w : xV), (n : Int) ≤ zI M r - ((a : Int) + 1) → (0 ≤ (bzF M r a n (bzG M r a)).1 ∧ (bzF M r a n (bzG M r a)).1 ≤ 24) → (∀ (n : Nat) (y w : xV), n = (zI M r - ((a : Int) + 1)).toNat → 0 ≤ (bzF M r a n (bzG M r a)).1 ∧ (bzF M r a n (bzG M r a)).1 ≤ 24 → WP l E (xRm 9 0 0) (xA E) Y 0 0 100 [vA 68, vI (jI r), vI (jI (bzF M r a n (bzG M r a)).2), vI (jI (bzF M r a n (bzG M r a)).1), vI (jI (a : Int)), y, w] [] M) → (zI M r - a - n).toNat < k → WP l E (xRm 9 0 0) (xA E) Y 0 0 29 [vA 68, vI (jI r), vI (jI (bzF M r a n (bzG M r a)).2), vI (jI (bzF M r a n (bzG M r a)).1), vI (jI (a : Int)), vI (jI ((a : Int) + 1 + n)), w] [] M := by
  intro k
  induction k with
  | zero => intro n w hn hq hex hk; exact absurd hk (Nat.not_lt_zero _)
  | succ k ih =>
    intro n w hn hq hex hk
    have hz : 0 ≤ (M.1 69 r.toNat).toInt ∧ (M.1 69 r.toNat).toInt ≤ 6 := hZ.1 r hr.1 hr.2
    have hzz : (M.1 69 r.toNat).toInt = zI M r := rfl
    refine x_iload F dX7_bestOf_29 rfl ?_
    refine x_aload_n F dX7_bestOf_31 rfl ?_
    refine x_getc (v := 69) F flX7_7 rfl dX7_bestOf_32 (by decide) (by decide) rfl rfl ?_
    refine xj_iconst F dX7_bestOf_35 ?_
    refine x_iload_n F dX7_bestOf_36 rfl ?_
    refine xj_iadd F dX7_bestOf_37 ?_
    rw [Int.zero_add r]
    refine xj_lald2 F rfl dX7_bestOf_38 (by omega) (fun hg_1 => ?_)
    refine xj_icmp_ge (tgt := 100) F dX7_bestOf_39 (by decide) (by omega) (fun h_2 => ?_) (fun h_2 => ?_)
    · have e : n = (zI M r - ((a : Int) + 1)).toNat := by omega
      exact hex n _ _ e hq
    · have hn6 : (a : Int) + 1 + n < 6 := by omega
      have hob := oaZ_b (okZ_ex (a := 6 * r + (a : Int)) (b := 6 * r + ((a : Int) + 1 + n)) hZ (by omega) (by omega))
      refine x_aload_n F dX7_bestOf_42 rfl ?_
      refine xj_bipush F dX7_bestOf_43 (by decide) ?_
      refine x_iload_n F dX7_bestOf_45 rfl ?_
      refine xj_imul F dX7_bestOf_46 ?_
      refine x_iload F dX7_bestOf_47 rfl ?_
      refine xj_iadd F dX7_bestOf_49 ?_
      refine xj_bipush F dX7_bestOf_50 (by decide) ?_
      refine x_iload_n F dX7_bestOf_52 rfl ?_
      refine xj_imul F dX7_bestOf_53 ?_
      refine x_iload F dX7_bestOf_54 rfl ?_
      refine xj_iadd F dX7_bestOf_56 ?_
      refine x_V2 F (m_X7_oddIfSwapped hZ (by omega) (by omega)) mlX7_221 mvX7_oddIfSwapped rfl dX7_bestOf_57 (by decide) rfl ⟨Nat.le_of_ble_eq_true rfl, Nat.le_of_ble_eq_true rfl⟩ ⟨Nat.zero_le _, Nat.zero_le _⟩ (Nat.le_of_ble_eq_true rfl) ?_
      refine x_istore F dX7_bestOf_60 (by decide) ?_
      refine x_iload F dX7_bestOf_62 rfl ?_
      refine x_iload_n F dX7_bestOf_64 rfl ?_
      refine xj_icmp_le (tgt := 79) F dX7_bestOf_65 (by decide) (by omega) (fun h_3 => ?_) (fun h_3 => ?_)
      · refine x_iload_n F dX7_bestOf_79 rfl ?_
        refine x_istore_n F dX7_bestOf_80 (by decide) ?_
        refine x_iload F dX7_bestOf_81 rfl ?_
        refine x_iload_n F dX7_bestOf_83 rfl ?_
        refine xj_icmp_le (tgt := 92) F dX7_bestOf_84 (by decide) (by omega) (fun h_4 => ?_) (fun h_4 => ?_)
        · refine x_iload_n F dX7_bestOf_92 rfl ?_
          refine x_istore_n F dX7_bestOf_93 (by decide) ?_
          refine xj_iinc F dX7_bestOf_94 rfl ?_
          refine x_goto (tgt := 29) F dX7_bestOf_97 (by decide) ?_
          first
            | (exfalso; omega)
            | (have hst : (bzF M r a (n + 1) (bzG M r a)) = ((oaZ (exZ M (6 * r + (a : Int)) (6 * r + ((a : Int) + 1 + n)))), 6 * (a : Int) + ((a : Int) + 1 + n)) := (by simp only [bzF]; exact if_pos (by omega)); have g := fun w => ih (n + 1) w (by omega) (by rw [hst]; exact hob) hex (by omega); rw [hst, show (a : Int) + 1 + ((n + 1 : Nat) : Int) = (a : Int) + 1 + n + 1 by omega] at g; exact g _)
            | (have hst : (bzF M r a (n + 1) (bzG M r a)) = (bzF M r a n (bzG M r a)) := (by simp only [bzF]; exact if_neg (by omega)); have g := fun w => ih (n + 1) w (by omega) (by rw [hst]; exact hq) hex (by omega); rw [hst, show (a : Int) + 1 + ((n + 1 : Nat) : Int) = (a : Int) + 1 + n + 1 by omega] at g; exact g _)
        · refine x_iload F dX7_bestOf_87 rfl ?_
          refine x_goto (tgt := 93) F dX7_bestOf_89 (by decide) ?_
          refine x_istore_n F dX7_bestOf_93 (by decide) ?_
          refine xj_iinc F dX7_bestOf_94 rfl ?_
          refine x_goto (tgt := 29) F dX7_bestOf_97 (by decide) ?_
          first
            | (exfalso; omega)
            | (have hst : (bzF M r a (n + 1) (bzG M r a)) = ((oaZ (exZ M (6 * r + (a : Int)) (6 * r + ((a : Int) + 1 + n)))), 6 * (a : Int) + ((a : Int) + 1 + n)) := (by simp only [bzF]; exact if_pos (by omega)); have g := fun w => ih (n + 1) w (by omega) (by rw [hst]; exact hob) hex (by omega); rw [hst, show (a : Int) + 1 + ((n + 1 : Nat) : Int) = (a : Int) + 1 + n + 1 by omega] at g; exact g _)
            | (have hst : (bzF M r a (n + 1) (bzG M r a)) = (bzF M r a n (bzG M r a)) := (by simp only [bzF]; exact if_neg (by omega)); have g := fun w => ih (n + 1) w (by omega) (by rw [hst]; exact hq) hex (by omega); rw [hst, show (a : Int) + 1 + ((n + 1 : Nat) : Int) = (a : Int) + 1 + n + 1 by omega] at g; exact g _)
      · refine xj_bipush F dX7_bestOf_68 (by decide) ?_
        refine x_iload F dX7_bestOf_70 rfl ?_
        refine xj_imul F dX7_bestOf_72 ?_
        refine x_iload F dX7_bestOf_73 rfl ?_
        refine xj_iadd F dX7_bestOf_75 ?_
        refine x_goto (tgt := 80) F dX7_bestOf_76 (by decide) ?_
        refine x_istore_n F dX7_bestOf_80 (by decide) ?_
        refine x_iload F dX7_bestOf_81 rfl ?_
        refine x_iload_n F dX7_bestOf_83 rfl ?_
        refine xj_icmp_le (tgt := 92) F dX7_bestOf_84 (by decide) (by omega) (fun h_5 => ?_) (fun h_5 => ?_)
        · refine x_iload_n F dX7_bestOf_92 rfl ?_
          refine x_istore_n F dX7_bestOf_93 (by decide) ?_
          refine xj_iinc F dX7_bestOf_94 rfl ?_
          refine x_goto (tgt := 29) F dX7_bestOf_97 (by decide) ?_
          first
            | (exfalso; omega)
            | (have hst : (bzF M r a (n + 1) (bzG M r a)) = ((oaZ (exZ M (6 * r + (a : Int)) (6 * r + ((a : Int) + 1 + n)))), 6 * (a : Int) + ((a : Int) + 1 + n)) := (by simp only [bzF]; exact if_pos (by omega)); have g := fun w => ih (n + 1) w (by omega) (by rw [hst]; exact hob) hex (by omega); rw [hst, show (a : Int) + 1 + ((n + 1 : Nat) : Int) = (a : Int) + 1 + n + 1 by omega] at g; exact g _)
            | (have hst : (bzF M r a (n + 1) (bzG M r a)) = (bzF M r a n (bzG M r a)) := (by simp only [bzF]; exact if_neg (by omega)); have g := fun w => ih (n + 1) w (by omega) (by rw [hst]; exact hq) hex (by omega); rw [hst, show (a : Int) + 1 + ((n + 1 : Nat) : Int) = (a : Int) + 1 + n + 1 by omega] at g; exact g _)
        · refine x_iload F dX7_bestOf_87 rfl ?_
          refine x_goto (tgt := 93) F dX7_bestOf_89 (by decide) ?_
          refine x_istore_n F dX7_bestOf_93 (by decide) ?_
          refine xj_iinc F dX7_bestOf_94 rfl ?_
          refine x_goto (tgt := 29) F dX7_bestOf_97 (by decide) ?_
          first
            | (exfalso; omega)
            | (have hst : (bzF M r a (n + 1) (bzG M r a)) = ((oaZ (exZ M (6 * r + (a : Int)) (6 * r + ((a : Int) + 1 + n)))), 6 * (a : Int) + ((a : Int) + 1 + n)) := (by simp only [bzF]; exact if_pos (by omega)); have g := fun w => ih (n + 1) w (by omega) (by rw [hst]; exact hob) hex (by omega); rw [hst, show (a : Int) + 1 + ((n + 1 : Nat) : Int) = (a : Int) + 1 + n + 1 by omega] at g; exact g _)
            | (have hst : (bzF M r a (n + 1) (bzG M r a)) = (bzF M r a n (bzG M r a)) := (by simp only [bzF]; exact if_neg (by omega)); have g := fun w => ih (n + 1) w (by omega) (by rw [hst]; exact hq) hex (by omega); rw [hst, show (a : Int) + 1 + ((n + 1 : Nat) : Int) = (a : Int) + 1 + n + 1 by omega] at g; exact g _)
set_option maxRecDepth 20000 in
theorem L_X7_bestOf {l : Launch} {E : xE} {r : Int} {M : xM} (hZ : okZ M) (hr : 0 ≤ r ∧ r < 4) {Y : xY} (F : xFix E (xA E) Y cX7_bestOf yX7_bestOf.cls 7) (FR : xRet E Y (some FieldType.int) 0 0 (fun r' M'' => r' = vI (jI (bzI M r)) ∧ M'' = M) (fun _ _ => False)) : ∀ (k : Nat) (a : Nat) (y w : xV), (a : Int) ≤ zI M r → (0 ≤ (bzG M r a).1 ∧ (bzG M r a).1 ≤ 24) → (zI M r - a).toNat < k → WP l E (xRm 9 0 0) (xA E) Y 0 0 10 [vA 68, vI (jI r), vI (jI (bzG M r a).2), vI (jI (bzG M r a).1), vI (jI (a : Int)), y, w] [] M := by
  intro k
  induction k with
  | zero => intro a y w hn hq hk; exact absurd hk (Nat.not_lt_zero _)
  | succ k ih =>
    intro a y w hn hq hk
    have hz : 0 ≤ (M.1 69 r.toNat).toInt ∧ (M.1 69 r.toNat).toInt ≤ 6 := hZ.1 r hr.1 hr.2
    have hzz : (M.1 69 r.toNat).toInt = zI M r := rfl
    refine x_iload F dX7_bestOf_10 rfl ?_
    refine x_aload_n F dX7_bestOf_12 rfl ?_
    refine x_getc (v := 69) F flX7_7 rfl dX7_bestOf_13 (by decide) (by decide) rfl rfl ?_
    refine xj_iconst F dX7_bestOf_16 ?_
    refine x_iload_n F dX7_bestOf_17 rfl ?_
    refine xj_iadd F dX7_bestOf_18 ?_
    rw [Int.zero_add r]
    refine xj_lald2 F rfl dX7_bestOf_19 (by omega) (fun hg_1 => ?_)
    refine xj_icmp_ge (tgt := 106) F dX7_bestOf_20 (by decide) (by omega) (fun h_2 => ?_) (fun h_2 => ?_)
    · refine x_iload_n F dX7_bestOf_106 rfl ?_
      refine x_iret F FR dX7_bestOf_107 rfl (Nat.le_refl _) (Nat.le_refl _) ?_
      have e : a = (zI M r).toNat := by omega
      subst e
      exact ⟨rfl, rfl⟩
    · refine x_iload F dX7_bestOf_23 rfl ?_
      refine xj_iconst F dX7_bestOf_25 ?_
      refine xj_iadd F dX7_bestOf_26 ?_
      refine x_istore F dX7_bestOf_27 (by decide) ?_
      have e0 : bzF M r a 0 (bzG M r a) = bzG M r a := rfl
      refine (fun g => ?_) (L_X7_bestOf_29 (l := l) hZ hr (a := a) (by omega) F FR _ 0 w (by omega) (by rw [e0]; exact hq) (fun n y9 w9 hn9 hq9 => ?_) (Nat.lt_succ_self _))
      · rw [e0, show (a : Int) + 1 + ((0 : Nat) : Int) = (a : Int) + 1 by omega] at g
        exact g
      · subst hn9
        refine xj_iinc F dX7_bestOf_100 rfl ?_
        refine x_goto (tgt := 10) F dX7_bestOf_103 (by decide) ?_
        exact ih (a + 1) y9 w9 (by omega) hq9 (by omega)
set_option maxRecDepth 20000 in
theorem m_X7_bestOf {l : Launch} {E : xE} {r : Int} {M : xM} (hZ : okZ M) (hr : 0 ≤ r ∧ r < 4) : XF l E 9 yX7_bestOf cX7_bestOf 7 (some FieldType.int) [vA 68, vI (jI r)] M (vI (jI (bzI M r))) (M) := by
  refine xp_start (plainFor_of_name (by decide)) rfl (Nat.le_of_ble_eq_true rfl) ?_
  intro Y F FR
  have hz : 0 ≤ (M.1 69 r.toNat).toInt ∧ (M.1 69 r.toNat).toInt ≤ 6 := hZ.1 r hr.1 hr.2
  have hzz : (M.1 69 r.toNat).toInt = zI M r := rfl
  refine xj_iconst F dX7_bestOf_0 ?_
  refine x_istore_n F dX7_bestOf_1 (by decide) ?_
  refine x_aload_n F dX7_bestOf_2 rfl ?_
  refine x_V0 F (m_X7_odd (by first | assumption | omega | decide)) mlX7_133 mvX7_odd rfl dX7_bestOf_3 (by decide) rfl ⟨Nat.le_of_ble_eq_true rfl, Nat.le_of_ble_eq_true rfl⟩ ⟨Nat.zero_le _, Nat.zero_le _⟩ (Nat.le_of_ble_eq_true rfl) ?_
  refine x_istore_n F dX7_bestOf_6 (by decide) ?_
  refine xj_iconst F dX7_bestOf_7 ?_
  refine x_istore F dX7_bestOf_8 (by decide) ?_
  exact L_X7_bestOf hZ hr F FR _ 0 vU vU (by omega) (oaZ_b hZ) (Nat.lt_succ_self _)
set_option maxRecDepth 20000 in
theorem m_X7_bestSwap {l : Launch} {E : xE} {r : Int} {M : xM} (hZ : okZ M) (hr : rg r) : XP l E 11 yX7_bestSwap cX7_bestSwap 2 (some FieldType.int) [vA 68, vI (jI r)] M (fun r' M' => (roY r = 0 → r' = vI (jI (bzI (t0 M) r)) ∧ M' = t0 M) ∧ (roY r ≠ 0 → r' = vI (jI 0) ∧ M' = upI (t0 M) 68 5 (jI (roY r)))) := by
  refine xp_start (plainFor_of_name (by decide)) rfl (Nat.le_of_ble_eq_true rfl) ?_
  intro Y F FR
  have hZ0 : okZ (upI M 68 5 (jI 0)) := hZ
  refine x_aload_n F dX7_bestSwap_0 rfl ?_
  refine xj_iconst F dX7_bestSwap_1 ?_
  refine x_puti F flX7_40 rfl dX7_bestSwap_2 (by decide) (by decide) rfl fw7_5 rfl rfl ?_
  refine x_iload_n F dX7_bestSwap_5 rfl ?_
  refine x_S1 F (m_X7_isRow (by first | assumption | omega | decide)) mlX7_48 msX7_isRow dX7_bestSwap_6 ⟨Nat.le_of_ble_eq_true rfl, Nat.le_of_ble_eq_true rfl⟩ ⟨Nat.zero_le _, Nat.zero_le _⟩ (Nat.le_of_ble_eq_true rfl) ?_
  refine xb_if_eq (tgt := 20) F dX7_bestSwap_9 (by decide) (fun h_1 => ?_) (fun h_1 => ?_)
  · refine x_aload_n F dX7_bestSwap_20 rfl ?_
    refine xj_iconst F dX7_bestSwap_21 ?_
    refine x_V1 F (m_X7_fails) mlX7_55 mvX7_fails rfl dX7_bestSwap_22 (by decide) rfl ⟨Nat.le_of_ble_eq_true rfl, Nat.le_of_ble_eq_true rfl⟩ ⟨Nat.zero_le _, Nat.zero_le _⟩ (Nat.le_of_ble_eq_true rfl) ?_
    refine x_iret F FR dX7_bestSwap_25 rfl (Nat.le_refl _) (Nat.le_refl _) ?_
    first
      | (have hX : roY r = 1 := (by unfold roY; (repeat' split) <;> first | rfl | omega); exact ⟨fun z9 => absurd (hX.symm.trans z9) (by decide), fun _ => ⟨rfl, by rw [hX]; rfl⟩⟩)
      | (have hX : roY r = 0 := (by unfold roY; (repeat' split) <;> first | rfl | omega); exact ⟨fun _ => ⟨rfl, rfl⟩, fun z9 => absurd hX z9⟩)
  · refine x_aload_n F dX7_bestSwap_12 rfl ?_
    refine x_iload_n F dX7_bestSwap_13 rfl ?_
    refine x_V1 F (m_X7_bestOf hZ0 (by omega)) mlX7_224 mvX7_bestOf rfl dX7_bestSwap_14 (by decide) rfl ⟨Nat.le_of_ble_eq_true rfl, Nat.le_of_ble_eq_true rfl⟩ ⟨Nat.zero_le _, Nat.zero_le _⟩ (Nat.le_of_ble_eq_true rfl) ?_
    refine x_goto (tgt := 25) F dX7_bestSwap_17 (by decide) ?_
    refine x_iret F FR dX7_bestSwap_25 rfl (Nat.le_refl _) (Nat.le_refl _) ?_
    first
      | (have hX : roY r = 1 := (by unfold roY; (repeat' split) <;> first | rfl | omega); exact ⟨fun z9 => absurd (hX.symm.trans z9) (by decide), fun _ => ⟨rfl, by rw [hX]; rfl⟩⟩)
      | (have hX : roY r = 0 := (by unfold roY; (repeat' split) <;> first | rfl | omega); exact ⟨fun _ => ⟨rfl, rfl⟩, fun z9 => absurd hX z9⟩)
