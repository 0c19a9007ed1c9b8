/-! THE MODEL: if two changed places -/
theorem exZ_at {M : xM} {a b : Int} (ha : 0 ≤ a ∧ a < 24) (hb : 0 ≤ b ∧ b < 24) (e j : Nat) : (exZ M a b).1 e j =
    if e = 69 ∧ (j : Int) = 52 + b then M.1 69 (52 + a).toNat else if e = 69 ∧ (j : Int) = 52 + a then M.1 69 (52 + b).toNat else if e = 69 ∧ (j : Int) = 28 + b then M.1 69 (28 + a).toNat else if e = 69 ∧ (j : Int) = 28 + a then M.1 69 (28 + b).toNat else if e = 69 ∧ (j : Int) = 4 + b then M.1 69 (4 + a).toNat else if e = 69 ∧ (j : Int) = 4 + a then M.1 69 (4 + b).toNat else M.1 e j := by
  have h28 : ∀ (x : Int32), zI (upI M 69 (4 + a).toNat x) (28 + b) = zI M (28 + b) := fun x => by rw [zI_up M (by omega) (by omega), if_neg (by omega)]
  have h52 : ∀ (x y : Int32), zI (upI (upI M 69 (4 + a).toNat x) 69 (28 + a).toNat y) (52 + b) = zI M (52 + b) := fun x y => by rw [zI_up _ (by omega) (by omega), if_neg (by omega), zI_up M (by omega) (by omega), if_neg (by omega)]
  have hj : ∀ k : Int, jI (zI M k) = M.1 69 k.toNat := fun k => jI_of _
  unfold exZ cpZ
  dsimp only
  rw [h28, h52, hj, hj, hj, hj, hj, hj]
  by_cases he : e = 69
  · subst he
    simp only [upI_1, true_and]
    by_cases h1 : (j : Int) = 52 + b
    · rw [if_pos (by omega), if_pos h1]
    rw [if_neg (by omega), if_neg h1]
    by_cases h2 : (j : Int) = 28 + b
    · rw [if_pos (by omega), if_neg (by omega), if_pos h2]
    rw [if_neg (by omega)]
    by_cases h3 : (j : Int) = 4 + b
    · rw [if_pos (by omega), if_neg (by omega), if_neg h2, if_neg (by omega), if_pos h3]
    rw [if_neg (by omega)]
    by_cases h4 : (j : Int) = 52 + a
    · rw [if_pos (by omega), if_pos h4]
    rw [if_neg (by omega), if_neg h4, if_neg h2]
    by_cases h5 : (j : Int) = 28 + a
    · rw [if_pos (by omega), if_pos h5]
    rw [if_neg (by omega), if_neg h5, if_neg h3]
    by_cases h6 : (j : Int) = 4 + a
    · rw [if_pos (by omega), if_pos h6]
    rw [if_neg (by omega), if_neg h6]
  · rw [upI_row he, upI_row he, upI_row he, upI_row he, upI_row he, upI_row he, if_neg (fun z => he z.1), if_neg (fun z => he z.1), if_neg (fun z => he z.1), if_neg (fun z => he z.1), if_neg (fun z => he z.1), if_neg (fun z => he z.1)]
theorem cpZ_2 (M : xM) (a b : Int) : (cpZ M a b).2 = M.2 := rfl
theorem exZ_2 (M : xM) (a b : Int) : (exZ M a b).2 = M.2 := rfl
theorem exZ_zI {M : xM} {a b : Int} (ha : 0 ≤ a ∧ a < 24) (hb : 0 ≤ b ∧ b < 24) {k : Int} (hk : 0 ≤ k) : zI (exZ M a b) k =
    if k = 52 + b then zI M (52 + a) else if k = 52 + a then zI M (52 + b) else if k = 28 + b then zI M (28 + a) else if k = 28 + a then zI M (28 + b) else if k = 4 + b then zI M (4 + a) else if k = 4 + a then zI M (4 + b) else zI M k := by
  unfold zI
  rw [exZ_at ha hb]
  simp only [true_and, show ((k.toNat : Nat) : Int) = k by omega]
  repeat' split
  all_goals rfl
theorem exZ_exZ {M : xM} {a b : Int} (ha : 0 ≤ a ∧ a < 24) (hb : 0 ≤ b ∧ b < 24) : exZ (exZ M a b) a b = M := by
  refine Prod.ext (funext fun e => funext fun j => ?_) rfl
  have inj : ∀ x y : Int32, x.toInt = y.toInt → x = y := fun x y h => by rw [← jI_of x, h, jI_of]
  by_cases he : e = 69
  · subst he
    refine inj _ _ ?_
    have e1 : ∀ N : xM, (N.1 69 j).toInt = zI N (j : Int) := fun N => by unfold zI; rw [show ((j : Int)).toNat = j by omega]
    rw [e1, e1, exZ_zI ha hb (by omega)]
    by_cases h1 : (j : Int) = 52 + b
    · rw [if_pos h1, exZ_zI ha hb (by omega)]
      by_cases hab : a = b
      · subst hab; rw [if_pos rfl, h1]
      · rw [if_neg (by omega), if_pos rfl, h1]
    rw [if_neg h1]
    by_cases h2 : (j : Int) = 52 + a
    · rw [if_pos h2, exZ_zI ha hb (by omega), if_pos rfl, h2]
    rw [if_neg h2]
    by_cases h3 : (j : Int) = 28 + b
    · rw [if_pos h3, exZ_zI ha hb (by omega), if_neg (by omega), if_neg (by omega)]
      by_cases hab : a = b
      · subst hab; rw [if_pos rfl, h3]
      · rw [if_neg (by omega), if_pos rfl, h3]
    rw [if_neg h3]
    by_cases h4 : (j : Int) = 28 + a
    · rw [if_pos h4, exZ_zI ha hb (by omega), if_neg (by omega), if_neg (by omega), if_pos rfl, h4]
    rw [if_neg h4]
    by_cases h5 : (j : Int) = 4 + b
    · rw [if_pos h5, exZ_zI ha hb (by omega), if_neg (by omega), if_neg (by omega), if_neg (by omega), if_neg (by omega)]
      by_cases hab : a = b
      · subst hab; rw [if_pos rfl, h5]
      · rw [if_neg (by omega), if_pos rfl, h5]
    rw [if_neg h5]
    by_cases h6 : (j : Int) = 4 + a
    · rw [if_pos h6, exZ_zI ha hb (by omega), if_neg (by omega), if_neg (by omega), if_neg (by omega), if_neg (by omega), if_pos rfl, h6]
    rw [if_neg h6, exZ_zI ha hb (by omega), if_neg h1, if_neg h2, if_neg h3, if_neg h4, if_neg h5, if_neg h6]
  · have r : ∀ N : xM, (exZ N a b).1 e = N.1 e := fun N => by funext i; rw [exZ_at ha hb]; simp only [he, false_and, if_false]
    rw [r, r]
set_option maxRecDepth 20000 in
theorem m_X7_oddIfSwapped {l : Launch} {E : xE} {a b : Int} {M : xM} (hZ : okZ M) (ha : 0 ≤ a ∧ a < 24) (hb : 0 ≤ b ∧ b < 24) : XF l E 8 yX7_oddIfSwapped cX7_oddIfSwapped 4 (some FieldType.int) [vA 68, vI (jI a), vI (jI b)] M (vI (jI (oaZ (exZ M a b)))) (M) := by
  refine xp_start (plainFor_of_name (by decide)) rfl (Nat.le_of_ble_eq_true rfl) ?_
  intro Y F FR
  refine x_aload_n F dX7_oddIfSwapped_0 rfl ?_
  refine x_iload_n F dX7_oddIfSwapped_1 rfl ?_
  refine x_iload_n F dX7_oddIfSwapped_2 rfl ?_
  refine x_V2 F (m_X7_exchange ha hb) mlX7_110 mvX7_exchange rfl dX7_oddIfSwapped_3 (by decide) rfl ⟨Nat.le_of_ble_eq_true rfl, Nat.le_of_ble_eq_true rfl⟩ ⟨Nat.zero_le _, Nat.zero_le _⟩ (Nat.le_of_ble_eq_true rfl) ?_
  refine x_aload_n F dX7_oddIfSwapped_6 rfl ?_
  refine x_V0 F (m_X7_odd (okZ_ex hZ ha hb)) mlX7_133 mvX7_odd rfl dX7_oddIfSwapped_7 (by decide) rfl ⟨Nat.le_of_ble_eq_true rfl, Nat.le_of_ble_eq_true rfl⟩ ⟨Nat.zero_le _, Nat.zero_le _⟩ (Nat.le_of_ble_eq_true rfl) ?_
  refine x_istore_n F dX7_oddIfSwapped_10 (by decide) ?_
  refine x_aload_n F dX7_oddIfSwapped_11 rfl ?_
  refine x_iload_n F dX7_oddIfSwapped_12 rfl ?_
  refine x_iload_n F dX7_oddIfSwapped_13 rfl ?_
  refine x_V2 F (m_X7_exchange ha hb) mlX7_110 mvX7_exchange rfl dX7_oddIfSwapped_14 (by decide) rfl ⟨Nat.le_of_ble_eq_true rfl, Nat.le_of_ble_eq_true rfl⟩ ⟨Nat.zero_le _, Nat.zero_le _⟩ (Nat.le_of_ble_eq_true rfl) ?_
  refine x_iload_n F dX7_oddIfSwapped_17 rfl ?_
  refine x_iret F FR dX7_oddIfSwapped_18 rfl (Nat.le_refl _) (Nat.le_refl _) ?_
  exact ⟨rfl, exZ_exZ ha hb⟩
set_option maxRecDepth 20000 in
theorem m_X7_ifSwapped {l : Launch} {E : xE} {r p r2 p2 : Int} {M : xM} (hZ : okZ M) (hr : rg r) (hp : rg p) (hr2 : rg r2) (hp2 : rg p2) : XP l E 10 yX7_ifSwapped cX7_ifSwapped 5 (some FieldType.int) [vA 68, vI (jI r), vI (jI p), vI (jI r2), vI (jI p2)] M (fun r' M' => (swY M r p r2 p2 = 0 → r' = vI (jI (oaZ (exZ (t0 M) (6 * r + p) (6 * r2 + p2)))) ∧ M' = t0 M) ∧ (swY M r p r2 p2 ≠ 0 → r' = vI (jI 0) ∧ M' = upI (t0 M) 68 5 (jI (swY M r p r2 p2)))) := by
  refine xp_start (plainFor_of_name (by decide)) rfl (Nat.le_of_ble_eq_true rfl) ?_
  intro Y F FR
  have hZ0 : okZ (upI M 68 5 (jI 0)) := hZ
  refine x_aload_n F dX7_ifSwapped_0 rfl ?_
  refine xj_iconst F dX7_ifSwapped_1 ?_
  refine x_puti F flX7_40 rfl dX7_ifSwapped_2 (by decide) (by decide) rfl fw7_5 rfl rfl ?_
  refine x_aload_n F dX7_ifSwapped_5 rfl ?_
  refine x_iload_n F dX7_ifSwapped_6 rfl ?_
  refine x_iload_n F dX7_ifSwapped_7 rfl ?_
  refine x_V2 F (m_X7_isPlace hZ0 hr hp) mlX7_126 mvX7_isPlace rfl dX7_ifSwapped_8 (by decide) rfl ⟨Nat.le_of_ble_eq_true rfl, Nat.le_of_ble_eq_true rfl⟩ ⟨Nat.zero_le _, Nat.zero_le _⟩ (Nat.le_of_ble_eq_true rfl) ?_
  refine xb_if_eq (tgt := 24) F dX7_ifSwapped_11 (by decide) (fun h_1 => ?_) (fun h_1 => ?_)
  · have hin : ¬ ((0 ≤ r ∧ r ≤ 3) ∧ 0 ≤ p ∧ p < zI M r) := h_1
    refine x_aload_n F dX7_ifSwapped_24 rfl ?_
    refine xj_iconst F dX7_ifSwapped_25 ?_
    refine x_V1 F (m_X7_fails) mlX7_55 mvX7_fails rfl dX7_ifSwapped_26 (by decide) rfl ⟨Nat.le_of_ble_eq_true rfl, Nat.le_of_ble_eq_true rfl⟩ ⟨Nat.zero_le _, Nat.zero_le _⟩ (Nat.le_of_ble_eq_true rfl) ?_
    refine x_iret F FR dX7_ifSwapped_29 rfl (Nat.le_refl _) (Nat.le_refl _) ?_
    first
      | (have hX : swY M r p r2 p2 = 1 := (by unfold swY; (repeat' split) <;> first | rfl | omega); exact ⟨fun z9 => absurd (hX.symm.trans z9) (by decide), fun _ => ⟨rfl, by rw [hX]; rfl⟩⟩)
      | (have hX : swY M r p r2 p2 = 0 := (by unfold swY; (repeat' split) <;> first | rfl | omega); exact ⟨fun _ => ⟨rfl, rfl⟩, fun z9 => absurd hX z9⟩)
  · have hin : (0 ≤ r ∧ r ≤ 3) ∧ 0 ≤ p ∧ p < zI M r := h_1
    refine x_aload_n F dX7_ifSwapped_14 rfl ?_
    refine x_iload_n F dX7_ifSwapped_15 rfl ?_
    refine x_iload F dX7_ifSwapped_16 rfl ?_
    refine x_V2 F (m_X7_isPlace hZ0 hr2 hp2) mlX7_126 mvX7_isPlace rfl dX7_ifSwapped_18 (by decide) rfl ⟨Nat.le_of_ble_eq_true rfl, Nat.le_of_ble_eq_true rfl⟩ ⟨Nat.zero_le _, Nat.zero_le _⟩ (Nat.le_of_ble_eq_true rfl) ?_
    refine xb_if_ne (tgt := 30) F dX7_ifSwapped_21 (by decide) (fun h_2 => ?_) (fun h_2 => ?_)
    · have hin2 : (0 ≤ r2 ∧ r2 ≤ 3) ∧ 0 ≤ p2 ∧ p2 < zI M r2 := h_2
      have hzr := hZ.1 r (by omega) (by omega)
      have hzr2 := hZ.1 r2 (by omega) (by omega)
      refine x_aload_n F dX7_ifSwapped_30 rfl ?_
      refine xj_bipush F dX7_ifSwapped_31 (by decide) ?_
      refine x_iload_n F dX7_ifSwapped_33 rfl ?_
      refine xj_imul F dX7_ifSwapped_34 ?_
      refine x_iload_n F dX7_ifSwapped_35 rfl ?_
      refine xj_iadd F dX7_ifSwapped_36 ?_
      refine xj_bipush F dX7_ifSwapped_37 (by decide) ?_
      refine x_iload_n F dX7_ifSwapped_39 rfl ?_
      refine xj_imul F dX7_ifSwapped_40 ?_
      refine x_iload F dX7_ifSwapped_41 rfl ?_
      refine xj_iadd F dX7_ifSwapped_43 ?_
      refine x_V2 F (m_X7_oddIfSwapped hZ0 (by omega) (by omega)) mlX7_221 mvX7_oddIfSwapped rfl dX7_ifSwapped_44 (by decide) rfl ⟨Nat.le_of_ble_eq_true rfl, Nat.le_of_ble_eq_true rfl⟩ ⟨Nat.zero_le _, Nat.zero_le _⟩ (Nat.le_of_ble_eq_true rfl) ?_
      refine x_iret F FR dX7_ifSwapped_47 rfl (Nat.le_refl _) (Nat.le_refl _) ?_
      first
        | (have hX : swY M r p r2 p2 = 1 := (by unfold swY; (repeat' split) <;> first | rfl | omega); exact ⟨fun z9 => absurd (hX.symm.trans z9) (by decide), fun _ => ⟨rfl, by rw [hX]; rfl⟩⟩)
        | (have hX : swY M r p r2 p2 = 0 := (by unfold swY; (repeat' split) <;> first | rfl | omega); exact ⟨fun _ => ⟨rfl, rfl⟩, fun z9 => absurd hX z9⟩)
    · have hin2 : ¬ ((0 ≤ r2 ∧ r2 ≤ 3) ∧ 0 ≤ p2 ∧ p2 < zI M r2) := h_2
      refine x_aload_n F dX7_ifSwapped_24 rfl ?_
      refine xj_iconst F dX7_ifSwapped_25 ?_
      refine x_V1 F (m_X7_fails) mlX7_55 mvX7_fails rfl dX7_ifSwapped_26 (by decide) rfl ⟨Nat.le_of_ble_eq_true rfl, Nat.le_of_ble_eq_true rfl⟩ ⟨Nat.zero_le _, Nat.zero_le _⟩ (Nat.le_of_ble_eq_true rfl) ?_
      refine x_iret F FR dX7_ifSwapped_29 rfl (Nat.le_refl _) (Nat.le_refl _) ?_
      first
        | (have hX : swY M r p r2 p2 = 1 := (by unfold swY; (repeat' split) <;> first | rfl | omega); exact ⟨fun z9 => absurd (hX.symm.trans z9) (by decide), fun _ => ⟨rfl, by rw [hX]; rfl⟩⟩)
        | (have hX : swY M r p r2 p2 = 0 := (by unfold swY; (repeat' split) <;> first | rfl | omega); exact ⟨fun _ => ⟨rfl, rfl⟩, fun z9 => absurd hX z9⟩)
