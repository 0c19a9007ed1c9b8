/-! THE MODEL'S PUBLIC LOOKS -/
def siY (M : xM) (r p z : Int) : Int := if ¬ ((0 ≤ r ∧ r ≤ 3) ∧ 0 ≤ p ∧ p < zI M r) then 1 else if ¬ (0 ≤ z ∧ z ≤ 7) then 2 else 0
def fiY (x : Int) : Int := if ¬ (0 ≤ x) then 1 else 0
def bwY (a b z : Int) : Int := if ¬ (a ≤ z ∧ z ≤ b) then 1 else 0
def hgY (h : Int) : Int := if ¬ (100 ≤ h ∧ h ≤ 220) then 1 else 0
theorem osZ_t (M : xM) (r p z : Int) : osZ (upI M 68 5 (jI 0)) r p z = osZ M r p z := rfl
set_option maxRecDepth 20000 in
theorem m_X7_find {l : Launch} {E : xE} {x : Int} {M : xM} (hZ : okZ M) (hx : rg x) : XP l E 8 yX7_find cX7_find 2 (some FieldType.int) [vA 68, vI (jI x)] M (fun r' M' => (fiY x = 0 → r' = vI (jI (gpZ (t0 M) x 4)) ∧ M' = t0 M) ∧ (fiY x ≠ 0 → r' = vI (jI 0) ∧ M' = upI (t0 M) 68 5 (jI (fiY x)))) := by
  refine xp_start (plainFor_of_name (by decide)) rfl (Nat.le_of_ble_eq_true rfl) ?_
  intro Y F FR
  have hZ0 : okZ (upI M 68 5 (jI 0)) := hZ
  refine x_aload_n F dX7_find_0 rfl ?_
  refine xj_iconst F dX7_find_1 ?_
  refine x_puti F flX7_40 rfl dX7_find_2 (by decide) (by decide) rfl fw7_5 rfl rfl ?_
  refine x_iload_n F dX7_find_5 rfl ?_
  refine xj_if_ge (tgt := 17) F dX7_find_6 (by decide) (by omega) (fun h_1 => ?_) (fun h_1 => ?_)
  · refine x_aload_n F dX7_find_17 rfl ?_
    refine x_iload_n F dX7_find_18 rfl ?_
    refine x_V1 F (m_X7_placeOf hZ0 hx) mlX7_215 mvX7_placeOf rfl dX7_find_19 (by decide) rfl ⟨Nat.le_of_ble_eq_true rfl, Nat.le_of_ble_eq_true rfl⟩ ⟨Nat.zero_le _, Nat.zero_le _⟩ (Nat.le_of_ble_eq_true rfl) ?_
    refine x_iret F FR dX7_find_22 rfl (Nat.le_refl _) (Nat.le_refl _) ?_
    first
      | (have hX : fiY x = 1 := (by unfold fiY; (repeat' split) <;> first | rfl | omega); exact ⟨fun z9 => absurd (hX.symm.trans z9) (by decide), fun _ => ⟨rfl, by rw [hX]; rfl⟩⟩)
      | (have hX : fiY x = 0 := (by unfold fiY; (repeat' split) <;> first | rfl | omega); exact ⟨fun _ => ⟨rfl, rfl⟩, fun z9 => absurd hX z9⟩)
  · refine x_aload_n F dX7_find_9 rfl ?_
    refine xj_iconst F dX7_find_10 ?_
    refine x_V1 F (m_X7_fails) mlX7_55 mvX7_fails rfl dX7_find_11 (by decide) rfl ⟨Nat.le_of_ble_eq_true rfl, Nat.le_of_ble_eq_true rfl⟩ ⟨Nat.zero_le _, Nat.zero_le _⟩ (Nat.le_of_ble_eq_true rfl) ?_
    refine x_goto (tgt := 22) F dX7_find_14 (by decide) ?_
    refine x_iret F FR dX7_find_22 rfl (Nat.le_refl _) (Nat.le_refl _) ?_
    first
      | (have hX : fiY x = 1 := (by unfold fiY; (repeat' split) <;> first | rfl | omega); exact ⟨fun z9 => absurd (hX.symm.trans z9) (by decide), fun _ => ⟨rfl, by rw [hX]; rfl⟩⟩)
      | (have hX : fiY x = 0 := (by unfold fiY; (repeat' split) <;> first | rfl | omega); exact ⟨fun _ => ⟨rfl, rfl⟩, fun z9 => absurd hX z9⟩)
set_option maxRecDepth 20000 in
theorem m_X7_count {l : Launch} {E : xE} {z : Int} {M : xM} (hZ : okZ M) (hz : rg z) : XP l E 10 yX7_count cX7_count 2 (some FieldType.int) [vA 68, vI (jI z)] M (fun r' M' => (bwY 0 8 z = 0 → r' = vI (jI (noZ (t0 M) z)) ∧ M' = t0 M) ∧ (bwY 0 8 z ≠ 0 → r' = vI (jI 0) ∧ M' = upI (t0 M) 68 5 (jI (bwY 0 8 z)))) := by
  refine xp_start (plainFor_of_name (by decide)) rfl (Nat.le_of_ble_eq_true rfl) ?_
  intro Y F FR
  have hZ0 : okZ (upI M 68 5 (jI 0)) := hZ
  refine x_aload_n F dX7_count_0 rfl ?_
  refine xj_iconst F dX7_count_1 ?_
  refine x_puti F flX7_40 rfl dX7_count_2 (by decide) (by decide) rfl fw7_5 rfl rfl ?_
  refine x_iload_n F dX7_count_5 rfl ?_
  refine xj_iconst F dX7_count_6 ?_
  refine xj_bipush F dX7_count_7 (by decide) ?_
  refine x_S3 F (m_X7_in (by first | assumption | omega | decide) (by first | assumption | omega | decide) (by first | assumption | omega | decide)) mlX7_44 msX7_in dX7_count_9 ⟨Nat.le_of_ble_eq_true rfl, Nat.le_of_ble_eq_true rfl⟩ ⟨Nat.zero_le _, Nat.zero_le _⟩ (Nat.le_of_ble_eq_true rfl) ?_
  refine xb_if_eq (tgt := 23) F dX7_count_12 (by decide) (fun h_1 => ?_) (fun h_1 => ?_)
  · refine x_aload_n F dX7_count_23 rfl ?_
    refine xj_iconst F dX7_count_24 ?_
    refine x_V1 F (m_X7_fails) mlX7_55 mvX7_fails rfl dX7_count_25 (by decide) rfl ⟨Nat.le_of_ble_eq_true rfl, Nat.le_of_ble_eq_true rfl⟩ ⟨Nat.zero_le _, Nat.zero_le _⟩ (Nat.le_of_ble_eq_true rfl) ?_
    refine x_iret F FR dX7_count_28 rfl (Nat.le_refl _) (Nat.le_refl _) ?_
    first
      | (have hX : bwY 0 8 z = 1 := (by unfold bwY; (repeat' split) <;> first | rfl | omega); exact ⟨fun z9 => absurd (hX.symm.trans z9) (by decide), fun _ => ⟨rfl, by rw [hX]; rfl⟩⟩)
      | (have hX : bwY 0 8 z = 0 := (by unfold bwY; (repeat' split) <;> first | rfl | omega); exact ⟨fun _ => ⟨rfl, rfl⟩, fun z9 => absurd hX z9⟩)
  · refine x_aload_n F dX7_count_15 rfl ?_
    refine x_iload_n F dX7_count_16 rfl ?_
    refine x_V1 F (m_X7_number hZ0 (by omega)) mlX7_218 mvX7_number rfl dX7_count_17 (by decide) rfl ⟨Nat.le_of_ble_eq_true rfl, Nat.le_of_ble_eq_true rfl⟩ ⟨Nat.zero_le _, Nat.zero_le _⟩ (Nat.le_of_ble_eq_true rfl) ?_
    refine x_goto (tgt := 28) F dX7_count_20 (by decide) ?_
    refine x_iret F FR dX7_count_28 rfl (Nat.le_refl _) (Nat.le_refl _) ?_
    first
      | (have hX : bwY 0 8 z = 1 := (by unfold bwY; (repeat' split) <;> first | rfl | omega); exact ⟨fun z9 => absurd (hX.symm.trans z9) (by decide), fun _ => ⟨rfl, by rw [hX]; rfl⟩⟩)
      | (have hX : bwY 0 8 z = 0 := (by unfold bwY; (repeat' split) <;> first | rfl | omega); exact ⟨fun _ => ⟨rfl, rfl⟩, fun z9 => absurd hX z9⟩)
set_option maxRecDepth 20000 in
theorem m_X7_singer {l : Launch} {E : xE} {r p z : Int} {M : xM} (hZ : okZ M) (hr : rg r) (hp : rg p) (hz : rg z) : XP l E 10 yX7_singer cX7_singer 4 (some FieldType.int) [vA 68, vI (jI r), vI (jI p), vI (jI z)] M (fun r' M' => (siY M r p z = 0 → r' = vI (jI (osZ (t0 M) r p z)) ∧ M' = t0 M) ∧ (siY M r p z ≠ 0 → r' = vI (jI 0) ∧ M' = upI (t0 M) 68 5 (jI (siY M r p z)))) := by
  refine xp_start (plainFor_of_name (by decide)) rfl (Nat.le_of_ble_eq_true rfl) ?_
  intro Y F FR
  have hZ0 : okZ (upI M 68 5 (jI 0)) := hZ
  refine x_aload_n F dX7_singer_0 rfl ?_
  refine xj_iconst F dX7_singer_1 ?_
  refine x_puti F flX7_40 rfl dX7_singer_2 (by decide) (by decide) rfl fw7_5 rfl rfl ?_
  refine x_aload_n F dX7_singer_5 rfl ?_
  refine x_iload_n F dX7_singer_6 rfl ?_
  refine x_iload_n F dX7_singer_7 rfl ?_
  refine x_V2 F (m_X7_isPlace hZ0 hr hp) mlX7_126 mvX7_isPlace rfl dX7_singer_8 (by decide) rfl ⟨Nat.le_of_ble_eq_true rfl, Nat.le_of_ble_eq_true rfl⟩ ⟨Nat.zero_le _, Nat.zero_le _⟩ (Nat.le_of_ble_eq_true rfl) ?_
  refine xb_if_ne (tgt := 20) F dX7_singer_11 (by decide) (fun h_1 => ?_) (fun h_1 => ?_)
  · have hin : (0 ≤ r ∧ r ≤ 3) ∧ 0 ≤ p ∧ p < zI M r := h_1
    have hzr := hZ.1 r (by omega) (by omega)
    refine x_iload_n F dX7_singer_20 rfl ?_
    refine xj_iconst F dX7_singer_21 ?_
    refine xj_bipush F dX7_singer_22 (by decide) ?_
    refine x_S3 F (m_X7_in (by first | assumption | omega | decide) (by first | assumption | omega | decide) (by first | assumption | omega | decide)) mlX7_44 msX7_in dX7_singer_24 ⟨Nat.le_of_ble_eq_true rfl, Nat.le_of_ble_eq_true rfl⟩ ⟨Nat.zero_le _, Nat.zero_le _⟩ (Nat.le_of_ble_eq_true rfl) ?_
    refine xb_if_eq (tgt := 40) F dX7_singer_27 (by decide) (fun h_2 => ?_) (fun h_2 => ?_)
    · refine x_aload_n F dX7_singer_40 rfl ?_
      refine xj_iconst F dX7_singer_41 ?_
      refine x_V1 F (m_X7_fails) mlX7_55 mvX7_fails rfl dX7_singer_42 (by decide) rfl ⟨Nat.le_of_ble_eq_true rfl, Nat.le_of_ble_eq_true rfl⟩ ⟨Nat.zero_le _, Nat.zero_le _⟩ (Nat.le_of_ble_eq_true rfl) ?_
      refine x_iret F FR dX7_singer_45 rfl (Nat.le_refl _) (Nat.le_refl _) ?_
      first
        | (have hX : siY M r p z = 1 := (by unfold siY; (repeat' split) <;> first | rfl | omega); exact ⟨fun z9 => absurd (hX.symm.trans z9) (by decide), fun _ => ⟨rfl, by rw [hX]; rfl⟩⟩)
        | (have hX : siY M r p z = 2 := (by unfold siY; (repeat' split) <;> first | rfl | omega); exact ⟨fun z9 => absurd (hX.symm.trans z9) (by decide), fun _ => ⟨rfl, by rw [hX]; rfl⟩⟩)
        | (have hX : siY M r p z = 0 := (by unfold siY; (repeat' split) <;> first | rfl | omega); exact ⟨fun _ => ⟨rfl, rfl⟩, fun z9 => absurd hX z9⟩)
    · refine x_aload_n F dX7_singer_30 rfl ?_
      refine x_iload_n F dX7_singer_31 rfl ?_
      refine x_iload_n F dX7_singer_32 rfl ?_
      refine x_iload_n F dX7_singer_33 rfl ?_
      refine x_V3 F (m_X7_ofSinger hZ0 (by omega) (by omega) (by omega)) mlX7_203 mvX7_ofSinger rfl dX7_singer_34 (by decide) rfl ⟨Nat.le_of_ble_eq_true rfl, Nat.le_of_ble_eq_true rfl⟩ ⟨Nat.zero_le _, Nat.zero_le _⟩ (Nat.le_of_ble_eq_true rfl) ?_
      refine x_goto (tgt := 45) F dX7_singer_37 (by decide) ?_
      refine x_iret F FR dX7_singer_45 rfl (Nat.le_refl _) (Nat.le_refl _) ?_
      first
        | (have hX : siY M r p z = 1 := (by unfold siY; (repeat' split) <;> first | rfl | omega); exact ⟨fun z9 => absurd (hX.symm.trans z9) (by decide), fun _ => ⟨rfl, by rw [hX]; rfl⟩⟩)
        | (have hX : siY M r p z = 2 := (by unfold siY; (repeat' split) <;> first | rfl | omega); exact ⟨fun z9 => absurd (hX.symm.trans z9) (by decide), fun _ => ⟨rfl, by rw [hX]; rfl⟩⟩)
        | (have hX : siY M r p z = 0 := (by unfold siY; (repeat' split) <;> first | rfl | omega); exact ⟨fun _ => ⟨rfl, rfl⟩, fun z9 => absurd hX z9⟩)
  · have hin : ¬ ((0 ≤ r ∧ r ≤ 3) ∧ 0 ≤ p ∧ p < zI M r) := h_1
    refine x_aload_n F dX7_singer_14 rfl ?_
    refine xj_iconst F dX7_singer_15 ?_
    refine x_V1 F (m_X7_fails) mlX7_55 mvX7_fails rfl dX7_singer_16 (by decide) rfl ⟨Nat.le_of_ble_eq_true rfl, Nat.le_of_ble_eq_true rfl⟩ ⟨Nat.zero_le _, Nat.zero_le _⟩ (Nat.le_of_ble_eq_true rfl) ?_
    refine x_iret F FR dX7_singer_19 rfl (Nat.le_refl _) (Nat.le_refl _) ?_
    first
      | (have hX : siY M r p z = 1 := (by unfold siY; (repeat' split) <;> first | rfl | omega); exact ⟨fun z9 => absurd (hX.symm.trans z9) (by decide), fun _ => ⟨rfl, by rw [hX]; rfl⟩⟩)
      | (have hX : siY M r p z = 2 := (by unfold siY; (repeat' split) <;> first | rfl | omega); exact ⟨fun z9 => absurd (hX.symm.trans z9) (by decide), fun _ => ⟨rfl, by rw [hX]; rfl⟩⟩)
      | (have hX : siY M r p z = 0 := (by unfold siY; (repeat' split) <;> first | rfl | omega); exact ⟨fun _ => ⟨rfl, rfl⟩, fun z9 => absurd hX z9⟩)
theorem upI_back (M : xM) (a k : Nat) (x : Int32) : upI (upI M a k x) a k (jI (M.1 a k).toInt) = M := by
  refine Prod.ext (funext fun e => funext fun j => ?_) rfl
  rw [upI_1, jI_of]
  by_cases h : e = a ∧ j = k
  · rw [if_pos h, h.1, h.2]
  · rw [if_neg h, upI_1, if_neg h]
def rcZ (M : xM) (z : Int) : xM := upI M 69 (76 : Int).toNat (jI z)
theorem okZ_rc {M : xM} {z : Int} (h : okZ M) (hz : 1 ≤ z ∧ z ≤ 6) : okZ (rcZ M z) := by
  unfold okZ rcZ
  rw [zI_up M (by decide) (by decide), zI_up M (by decide) (by decide), if_pos rfl, if_neg (by decide), jI_toInt (by omega)]
  exact ⟨fun r h0 h1 => by rw [zI_up M (by decide) h0, if_neg (by omega)]; exact h.1 r h0 h1, hz, h.2.2⟩
set_option maxRecDepth 20000 in
theorem m_X7_oddByReach {l : Launch} {E : xE} {z : Int} {M : xM} (hZ : okZ M) (hz : 1 ≤ z ∧ z ≤ 6) : XF l E 8 yX7_oddByReach cX7_oddByReach 4 (some FieldType.int) [vA 68, vI (jI z)] M (vI (jI (oaZ (rcZ M z)))) (M) := by
  refine xp_start (plainFor_of_name (by decide)) rfl (Nat.le_of_ble_eq_true rfl) ?_
  intro Y F FR
  refine x_aload_n F dX7_oddByReach_0 rfl ?_
  refine x_getc (v := 69) F flX7_7 rfl dX7_oddByReach_1 (by decide) (by decide) rfl rfl ?_
  refine xj_bipush F dX7_oddByReach_4 (by decide) ?_
  refine xj_lald2 F rfl dX7_oddByReach_6 (by omega) (fun hg_1 => ?_)
  refine x_istore_n F dX7_oddByReach_7 (by decide) ?_
  refine x_aload_n F dX7_oddByReach_8 rfl ?_
  refine x_getc (v := 69) F flX7_7 rfl dX7_oddByReach_9 (by decide) (by decide) rfl rfl ?_
  refine xj_bipush F dX7_oddByReach_12 (by decide) ?_
  refine x_iload_n F dX7_oddByReach_14 rfl ?_
  refine xj_iast F rfl dX7_oddByReach_15 (by omega) ?_
  refine x_aload_n F dX7_oddByReach_16 rfl ?_
  refine x_V0 F (m_X7_odd (okZ_rc hZ hz)) mlX7_133 mvX7_odd rfl dX7_oddByReach_17 (by decide) rfl ⟨Nat.le_of_ble_eq_true rfl, Nat.le_of_ble_eq_true rfl⟩ ⟨Nat.zero_le _, Nat.zero_le _⟩ (Nat.le_of_ble_eq_true rfl) ?_
  refine x_istore_n F dX7_oddByReach_20 (by decide) ?_
  refine x_aload_n F dX7_oddByReach_21 rfl ?_
  refine x_getc (v := 69) F flX7_7 rfl dX7_oddByReach_22 (by decide) (by decide) rfl rfl ?_
  refine xj_bipush F dX7_oddByReach_25 (by decide) ?_
  refine x_iload_n F dX7_oddByReach_27 rfl ?_
  refine xj_iast F rfl dX7_oddByReach_28 (by omega) ?_
  refine x_iload_n F dX7_oddByReach_29 rfl ?_
  refine x_iret F FR dX7_oddByReach_30 rfl (Nat.le_refl _) (Nat.le_refl _) ?_
  exact ⟨rfl, upI_back M 69 (76 : Int).toNat (jI z)⟩
set_option maxRecDepth 20000 in
theorem m_X7_ifReach {l : Launch} {E : xE} {z : Int} {M : xM} (hZ : okZ M) (hz : rg z) : XP l E 10 yX7_ifReach cX7_ifReach 2 (some FieldType.int) [vA 68, vI (jI z)] M (fun r' M' => (bwY 1 6 z = 0 → r' = vI (jI (oaZ (rcZ (t0 M) z))) ∧ M' = t0 M) ∧ (bwY 1 6 z ≠ 0 → r' = vI (jI 0) ∧ M' = upI (t0 M) 68 5 (jI (bwY 1 6 z)))) := by
  refine xp_start (plainFor_of_name (by decide)) rfl (Nat.le_of_ble_eq_true rfl) ?_
  intro Y F FR
  have hZ0 : okZ (upI M 68 5 (jI 0)) := hZ
  refine x_aload_n F dX7_ifReach_0 rfl ?_
  refine xj_iconst F dX7_ifReach_1 ?_
  refine x_puti F flX7_40 rfl dX7_ifReach_2 (by decide) (by decide) rfl fw7_5 rfl rfl ?_
  refine x_iload_n F dX7_ifReach_5 rfl ?_
  refine xj_iconst F dX7_ifReach_6 ?_
  refine xj_bipush F dX7_ifReach_7 (by decide) ?_
  refine x_S3 F (m_X7_in (by first | assumption | omega | decide) (by first | assumption | omega | decide) (by first | assumption | omega | decide)) mlX7_44 msX7_in dX7_ifReach_9 ⟨Nat.le_of_ble_eq_true rfl, Nat.le_of_ble_eq_true rfl⟩ ⟨Nat.zero_le _, Nat.zero_le _⟩ (Nat.le_of_ble_eq_true rfl) ?_
  refine xb_if_eq (tgt := 23) F dX7_ifReach_12 (by decide) (fun h_1 => ?_) (fun h_1 => ?_)
  · refine x_aload_n F dX7_ifReach_23 rfl ?_
    refine xj_iconst F dX7_ifReach_24 ?_
    refine x_V1 F (m_X7_fails) mlX7_55 mvX7_fails rfl dX7_ifReach_25 (by decide) rfl ⟨Nat.le_of_ble_eq_true rfl, Nat.le_of_ble_eq_true rfl⟩ ⟨Nat.zero_le _, Nat.zero_le _⟩ (Nat.le_of_ble_eq_true rfl) ?_
    refine x_iret F FR dX7_ifReach_28 rfl (Nat.le_refl _) (Nat.le_refl _) ?_
    first
      | (have hX : bwY 1 6 z = 1 := (by unfold bwY; (repeat' split) <;> first | rfl | omega); exact ⟨fun z9 => absurd (hX.symm.trans z9) (by decide), fun _ => ⟨rfl, by rw [hX]; rfl⟩⟩)
      | (have hX : bwY 1 6 z = 0 := (by unfold bwY; (repeat' split) <;> first | rfl | omega); exact ⟨fun _ => ⟨rfl, rfl⟩, fun z9 => absurd hX z9⟩)
  · refine x_aload_n F dX7_ifReach_15 rfl ?_
    refine x_iload_n F dX7_ifReach_16 rfl ?_
    refine x_V1 F (m_X7_oddByReach hZ0 (by omega)) mlX7_233 mvX7_oddByReach rfl dX7_ifReach_17 (by decide) rfl ⟨Nat.le_of_ble_eq_true rfl, Nat.le_of_ble_eq_true rfl⟩ ⟨Nat.zero_le _, Nat.zero_le _⟩ (Nat.le_of_ble_eq_true rfl) ?_
    refine x_goto (tgt := 28) F dX7_ifReach_20 (by decide) ?_
    refine x_iret F FR dX7_ifReach_28 rfl (Nat.le_refl _) (Nat.le_refl _) ?_
    first
      | (have hX : bwY 1 6 z = 1 := (by unfold bwY; (repeat' split) <;> first | rfl | omega); exact ⟨fun z9 => absurd (hX.symm.trans z9) (by decide), fun _ => ⟨rfl, by rw [hX]; rfl⟩⟩)
      | (have hX : bwY 1 6 z = 0 := (by unfold bwY; (repeat' split) <;> first | rfl | omega); exact ⟨fun _ => ⟨rfl, rfl⟩, fun z9 => absurd hX z9⟩)
