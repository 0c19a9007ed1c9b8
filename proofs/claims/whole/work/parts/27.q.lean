/-! THE MODEL'S PUBLIC CHANGES. ..Y: the number that it notes as thrown (as the method's declared exceptions stand), 0 none -/
def t0 (M : xM) : xM := upI M 68 5 (jI 0)
theorem svZ_row {M : xM} {a : Nat} (h : a ≠ 68) (h2 : a ≠ 70) : (svZ M).1 a = M.1 a := by
  have e : (svS M).1 a = M.1 a := by
    unfold svS
    split
    · rw [upI_row h, cpK_row h2]
    · rfl
  unfold svZ
  dsimp only
  rw [upI_row h, cpK_row h2, e]
theorem svZ_zI (M : xM) (k : Int) : zI (svZ M) k = zI M k := by unfold zI; rw [svZ_row (by decide) (by decide)]
theorem okZ_sv {M : xM} (h : okZ M) : okZ (svZ M) := by
  unfold okZ
  rw [svZ_zI, svZ_zI]
  exact ⟨fun r h0 h1 => by rw [svZ_zI]; exact h.1 r h0 h1, h.2⟩
def joY (M : xM) (r h v : Int) : Int := if ¬ (0 ≤ r ∧ r ≤ 3) then 1 else if ¬ (100 ≤ h ∧ h ≤ 220) then 2 else if ¬ (0 ≤ v ∧ v ≤ 3) then 2 else if ¬ (zI M r < 6 ∧ zI M 78 < 999) then 3 else 0
def inZ (M : xM) (r p : Int) : Prop := (0 ≤ r ∧ r ≤ 3) ∧ 0 ≤ p ∧ p < zI M r
def plY (M : xM) (r p : Int) : Int := if ¬ ((0 ≤ r ∧ r ≤ 3) ∧ 0 ≤ p ∧ p < zI M r) then 1 else 0
def roY (r : Int) : Int := if ¬ (0 ≤ r ∧ r ≤ 3) then 1 else 0
def grY (M : xM) (r p h : Int) : Int := if ¬ ((0 ≤ r ∧ r ≤ 3) ∧ 0 ≤ p ∧ p < zI M r) then 1 else if ¬ (100 ≤ h ∧ h ≤ 220) then 2 else 0
def swY (M : xM) (r p r2 p2 : Int) : Int := if ¬ ((0 ≤ r ∧ r ≤ 3) ∧ 0 ≤ p ∧ p < zI M r) then 1 else if ¬ ((0 ≤ r2 ∧ r2 ≤ 3) ∧ 0 ≤ p2 ∧ p2 < zI M r2) then 1 else 0
def crY (M : xM) (r p t : Int) : Int := if ¬ ((0 ≤ r ∧ r ≤ 3) ∧ 0 ≤ p ∧ p < zI M r) then 1 else if ¬ (0 ≤ t ∧ t ≤ 3) then 1 else if ¬ (r ≠ t ∧ zI M t ≠ 6) then 2 else 0
def rwY (r a b z : Int) : Int := if ¬ (0 ≤ r ∧ r ≤ 3) then 1 else if ¬ (a ≤ z ∧ z ≤ b) then 2 else 0
def seY (s x : Int) : Int := if ¬ (0 ≤ s ∧ s ≤ 1) then 1 else if s = 0 ∧ ¬ (1 ≤ x ∧ x ≤ 6) then 2 else if s ≠ 0 ∧ ¬ (0 ≤ x ∧ x ≤ 1) then 2 else 0
def apY (M : xM) (x : Int) : Int := if ¬ (33 ≤ x ∧ x ≤ 126) then 1 else if ¬ ((M.1 68 11).toInt ≠ 60) then 2 else 0
def unY (M : xM) : Int := if ¬ ((M.1 68 2).toInt ≠ 0) then 1 else 0
def reY (M : xM) : Int := if ¬ ((M.1 68 4).toInt ≠ 0) then 1 else 0
def leZ (M : xM) (r p : Int) : xM := upI (rmZ M r p) 69 (79 : Int).toNat (jI (zI (rmZ M r p) 79 + 1))
def swZ (M : xM) (r p r2 p2 : Int) : xM := upI (exZ M (6 * r + p) (6 * r2 + p2)) 69 (80 : Int).toNat (jI (zI (exZ M (6 * r + p) (6 * r2 + p2)) 80 + 1))
def crZ (M : xM) (r p t : Int) : xM :=
  let M1 := cpZ M (6 * r + p) (6 * t + zI M t)
  rmZ (upI M1 69 t.toNat (jI (zI M1 t + 1))) r p
def unZ (M : xM) : xM :=
  let M1 := upI M 68 2 (jI ((M.1 68 2).toInt - 1))
  cpK M1 70 (81 * (M1.1 68 2).toInt).toNat 69 0 81
def apZ (M : xM) (x : Int) : xM := upI (upI M 74 (M.1 68 11).toInt.toNat (jI x)) 68 11 (jI ((M.1 68 11).toInt + 1))
set_option maxRecDepth 20000 in
theorem m_X7_join {l : Launch} {E : xE} {r h v : Int} {M : xM} (hZ : okZ M) (hs : 0 ≤ (M.1 68 2).toInt ∧ (M.1 68 2).toInt ≤ 6) (hr : rg r) (hh : rg h) (hv : rg v) : XP l E 8 yX7_join cX7_join 4 (some FieldType.int) [vA 68, vI (jI r), vI (jI h), vI (jI v)] M (fun r' M' => (joY M r h v = 0 → r' = vI (jI (zI (jnZ (svZ (t0 M)) r h v) 78 - 1)) ∧ M' = jnZ (svZ (t0 M)) r h v) ∧ (joY M r h v ≠ 0 → r' = vI (jI 0) ∧ M' = upI (t0 M) 68 5 (jI (joY M r h v)))) := by
  refine xp_start (plainFor_of_name (by decide)) rfl (Nat.le_of_ble_eq_true rfl) ?_
  intro Y F FR
  have hZ0 : okZ (upI M 68 5 (jI 0)) := hZ
  refine x_aload_n F dX7_join_0 rfl ?_
  refine xj_iconst F dX7_join_1 ?_
  refine x_puti F flX7_40 rfl dX7_join_2 (by decide) (by decide) rfl fw7_5 rfl rfl ?_
  refine x_iload_n F dX7_join_5 rfl ?_
  refine x_S1 F (m_X7_isRow (by first | assumption | omega | decide)) mlX7_48 msX7_isRow dX7_join_6 ⟨Nat.le_of_ble_eq_true rfl, Nat.le_of_ble_eq_true rfl⟩ ⟨Nat.zero_le _, Nat.zero_le _⟩ (Nat.le_of_ble_eq_true rfl) ?_
  refine xb_if_ne (tgt := 18) F dX7_join_9 (by decide) (fun h_1 => ?_) (fun h_1 => ?_)
  · refine x_iload_n F dX7_join_18 rfl ?_
    refine x_S1 F (m_X7_isHeight (by first | assumption | omega | decide)) mlX7_116 msX7_isHeight dX7_join_19 ⟨Nat.le_of_ble_eq_true rfl, Nat.le_of_ble_eq_true rfl⟩ ⟨Nat.zero_le _, Nat.zero_le _⟩ (Nat.le_of_ble_eq_true rfl) ?_
    refine xb_if_eq (tgt := 34) F dX7_join_22 (by decide) (fun h_2 => ?_) (fun h_2 => ?_)
    · refine x_aload_n F dX7_join_34 rfl ?_
      refine xj_iconst F dX7_join_35 ?_
      refine x_V1 F (m_X7_fails) mlX7_55 mvX7_fails rfl dX7_join_36 (by decide) rfl ⟨Nat.le_of_ble_eq_true rfl, Nat.le_of_ble_eq_true rfl⟩ ⟨Nat.zero_le _, Nat.zero_le _⟩ (Nat.le_of_ble_eq_true rfl) ?_
      refine x_iret F FR dX7_join_39 rfl (Nat.le_refl _) (Nat.le_refl _) ?_
      first
        | (have hX : joY M r h v = 1 := (by unfold joY; (repeat' split) <;> first | rfl | omega); exact ⟨fun z9 => absurd (hX.symm.trans z9) (by decide), fun _ => ⟨rfl, by rw [hX]; rfl⟩⟩)
        | (have hX : joY M r h v = 2 := (by unfold joY; (repeat' split) <;> first | rfl | omega); exact ⟨fun z9 => absurd (hX.symm.trans z9) (by decide), fun _ => ⟨rfl, by rw [hX]; rfl⟩⟩)
        | (have hX : joY M r h v = 3 := (by unfold joY; (repeat' split) <;> first | rfl | omega); exact ⟨fun z9 => absurd (hX.symm.trans z9) (by decide), fun _ => ⟨rfl, by rw [hX]; rfl⟩⟩)
        | (have hX : joY M r h v = 0 := (by unfold joY; (repeat' split) <;> first | rfl | omega); exact ⟨fun _ => ⟨rfl, rfl⟩, fun z9 => absurd hX z9⟩)
    · refine x_iload_n F dX7_join_25 rfl ?_
      refine xj_iconst F dX7_join_26 ?_
      refine xj_iconst F dX7_join_27 ?_
      refine x_S3 F (m_X7_in (by first | assumption | omega | decide) (by first | assumption | omega | decide) (by first | assumption | omega | decide)) mlX7_44 msX7_in dX7_join_28 ⟨Nat.le_of_ble_eq_true rfl, Nat.le_of_ble_eq_true rfl⟩ ⟨Nat.zero_le _, Nat.zero_le _⟩ (Nat.le_of_ble_eq_true rfl) ?_
      refine xb_if_ne (tgt := 40) F dX7_join_31 (by decide) (fun h_3 => ?_) (fun h_3 => ?_)
      · refine x_aload_n F dX7_join_40 rfl ?_
        refine x_iload_n F dX7_join_41 rfl ?_
        have e78 : zI (upI M 68 5 (jI 0)) r = zI M r := rfl
        have e79 : zI (upI M 68 5 (jI 0)) 78 = zI M 78 := rfl
        refine x_V1 F (m_X7_hasRoom (by first | assumption | omega | decide)) mlX7_119 mvX7_hasRoom rfl dX7_join_42 (by decide) rfl ⟨Nat.le_of_ble_eq_true rfl, Nat.le_of_ble_eq_true rfl⟩ ⟨Nat.zero_le _, Nat.zero_le _⟩ (Nat.le_of_ble_eq_true rfl) ?_
        refine xb_if_ne (tgt := 54) F dX7_join_45 (by decide) (fun h_4 => ?_) (fun h_4 => ?_)
        · refine x_aload_n F dX7_join_54 rfl ?_
          refine x_V0 F (m_X7_save hs) mlX7_67 mvX7_save rfl dX7_join_55 (by decide) rfl ⟨Nat.le_of_ble_eq_true rfl, Nat.le_of_ble_eq_true rfl⟩ ⟨Nat.zero_le _, Nat.zero_le _⟩ (Nat.le_of_ble_eq_true rfl) ?_
          have hZ2 : okZ (svZ (upI M 68 5 (jI 0))) := okZ_sv hZ0
          have hzs : ∀ k, zI (svZ (upI M 68 5 (jI 0))) k = zI M k := svZ_zI _
          refine x_aload_n F dX7_join_58 rfl ?_
          refine x_iload_n F dX7_join_59 rfl ?_
          refine x_iload_n F dX7_join_60 rfl ?_
          refine x_iload_n F dX7_join_61 rfl ?_
          refine x_V3 F (m_X7_joinNow (by omega) (by rw [hzs]; have := hZ.1 r (by omega) (by omega); omega)) mlX7_122 mvX7_joinNow rfl dX7_join_62 (by decide) rfl ⟨Nat.le_of_ble_eq_true rfl, Nat.le_of_ble_eq_true rfl⟩ ⟨Nat.zero_le _, Nat.zero_le _⟩ (Nat.le_of_ble_eq_true rfl) ?_
          refine x_iret F FR dX7_join_65 rfl (Nat.le_refl _) (Nat.le_refl _) ?_
          first
            | (have hX : joY M r h v = 1 := (by unfold joY; (repeat' split) <;> first | rfl | omega); exact ⟨fun z9 => absurd (hX.symm.trans z9) (by decide), fun _ => ⟨rfl, by rw [hX]; rfl⟩⟩)
            | (have hX : joY M r h v = 2 := (by unfold joY; (repeat' split) <;> first | rfl | omega); exact ⟨fun z9 => absurd (hX.symm.trans z9) (by decide), fun _ => ⟨rfl, by rw [hX]; rfl⟩⟩)
            | (have hX : joY M r h v = 3 := (by unfold joY; (repeat' split) <;> first | rfl | omega); exact ⟨fun z9 => absurd (hX.symm.trans z9) (by decide), fun _ => ⟨rfl, by rw [hX]; rfl⟩⟩)
            | (have hX : joY M r h v = 0 := (by unfold joY; (repeat' split) <;> first | rfl | omega); exact ⟨fun _ => ⟨rfl, rfl⟩, fun z9 => absurd hX z9⟩)
        · refine x_aload_n F dX7_join_48 rfl ?_
          refine xj_iconst F dX7_join_49 ?_
          refine x_V1 F (m_X7_fails) mlX7_55 mvX7_fails rfl dX7_join_50 (by decide) rfl ⟨Nat.le_of_ble_eq_true rfl, Nat.le_of_ble_eq_true rfl⟩ ⟨Nat.zero_le _, Nat.zero_le _⟩ (Nat.le_of_ble_eq_true rfl) ?_
          refine x_iret F FR dX7_join_53 rfl (Nat.le_refl _) (Nat.le_refl _) ?_
          first
            | (have hX : joY M r h v = 1 := (by unfold joY; (repeat' split) <;> first | rfl | omega); exact ⟨fun z9 => absurd (hX.symm.trans z9) (by decide), fun _ => ⟨rfl, by rw [hX]; rfl⟩⟩)
            | (have hX : joY M r h v = 2 := (by unfold joY; (repeat' split) <;> first | rfl | omega); exact ⟨fun z9 => absurd (hX.symm.trans z9) (by decide), fun _ => ⟨rfl, by rw [hX]; rfl⟩⟩)
            | (have hX : joY M r h v = 3 := (by unfold joY; (repeat' split) <;> first | rfl | omega); exact ⟨fun z9 => absurd (hX.symm.trans z9) (by decide), fun _ => ⟨rfl, by rw [hX]; rfl⟩⟩)
            | (have hX : joY M r h v = 0 := (by unfold joY; (repeat' split) <;> first | rfl | omega); exact ⟨fun _ => ⟨rfl, rfl⟩, fun z9 => absurd hX z9⟩)
      · refine x_aload_n F dX7_join_34 rfl ?_
        refine xj_iconst F dX7_join_35 ?_
        refine x_V1 F (m_X7_fails) mlX7_55 mvX7_fails rfl dX7_join_36 (by decide) rfl ⟨Nat.le_of_ble_eq_true rfl, Nat.le_of_ble_eq_true rfl⟩ ⟨Nat.zero_le _, Nat.zero_le _⟩ (Nat.le_of_ble_eq_true rfl) ?_
        refine x_iret F FR dX7_join_39 rfl (Nat.le_refl _) (Nat.le_refl _) ?_
        first
          | (have hX : joY M r h v = 1 := (by unfold joY; (repeat' split) <;> first | rfl | omega); exact ⟨fun z9 => absurd (hX.symm.trans z9) (by decide), fun _ => ⟨rfl, by rw [hX]; rfl⟩⟩)
          | (have hX : joY M r h v = 2 := (by unfold joY; (repeat' split) <;> first | rfl | omega); exact ⟨fun z9 => absurd (hX.symm.trans z9) (by decide), fun _ => ⟨rfl, by rw [hX]; rfl⟩⟩)
          | (have hX : joY M r h v = 3 := (by unfold joY; (repeat' split) <;> first | rfl | omega); exact ⟨fun z9 => absurd (hX.symm.trans z9) (by decide), fun _ => ⟨rfl, by rw [hX]; rfl⟩⟩)
          | (have hX : joY M r h v = 0 := (by unfold joY; (repeat' split) <;> first | rfl | omega); exact ⟨fun _ => ⟨rfl, rfl⟩, fun z9 => absurd hX z9⟩)
  · refine x_aload_n F dX7_join_12 rfl ?_
    refine xj_iconst F dX7_join_13 ?_
    refine x_V1 F (m_X7_fails) mlX7_55 mvX7_fails rfl dX7_join_14 (by decide) rfl ⟨Nat.le_of_ble_eq_true rfl, Nat.le_of_ble_eq_true rfl⟩ ⟨Nat.zero_le _, Nat.zero_le _⟩ (Nat.le_of_ble_eq_true rfl) ?_
    refine x_iret F FR dX7_join_17 rfl (Nat.le_refl _) (Nat.le_refl _) ?_
    first
      | (have hX : joY M r h v = 1 := (by unfold joY; (repeat' split) <;> first | rfl | omega); exact ⟨fun z9 => absurd (hX.symm.trans z9) (by decide), fun _ => ⟨rfl, by rw [hX]; rfl⟩⟩)
      | (have hX : joY M r h v = 2 := (by unfold joY; (repeat' split) <;> first | rfl | omega); exact ⟨fun z9 => absurd (hX.symm.trans z9) (by decide), fun _ => ⟨rfl, by rw [hX]; rfl⟩⟩)
      | (have hX : joY M r h v = 3 := (by unfold joY; (repeat' split) <;> first | rfl | omega); exact ⟨fun z9 => absurd (hX.symm.trans z9) (by decide), fun _ => ⟨rfl, by rw [hX]; rfl⟩⟩)
      | (have hX : joY M r h v = 0 := (by unfold joY; (repeat' split) <;> first | rfl | omega); exact ⟨fun _ => ⟨rfl, rfl⟩, fun z9 => absurd hX z9⟩)
theorem zI_mid {M : xM} {a : Int} {k : Int} {x : Int32} (ha : 4 ≤ a ∧ a < 76) (hk : 76 ≤ k) : zI (upI M 69 a.toNat x) k = zI M k := by rw [zI_up M (by omega) (by omega), if_neg (by omega)]
theorem cpZ_mid {M : xM} {a b k : Int} (hb : 0 ≤ b ∧ b < 24) (hk : 76 ≤ k) : zI (cpZ M a b) k = zI M k := by
  unfold cpZ
  dsimp only
  rw [zI_mid (by omega) hk, zI_mid (by omega) hk, zI_mid (by omega) hk]
theorem exZ_mid {M : xM} {a b k : Int} (ha : 0 ≤ a ∧ a < 24) (hb : 0 ≤ b ∧ b < 24) (hk : 76 ≤ k) : zI (exZ M a b) k = zI M k := by
  unfold exZ
  rw [zI_mid (by omega) hk, zI_mid (by omega) hk, zI_mid (by omega) hk, cpZ_mid ha hk]
theorem okZ_ex {M : xM} {a b : Int} (h : okZ M) (ha : 0 ≤ a ∧ a < 24) (hb : 0 ≤ b ∧ b < 24) : okZ (exZ M a b) := by
  unfold okZ
  rw [exZ_mid ha hb (by decide), exZ_mid ha hb (by decide)]
  exact ⟨fun r h0 h1 => by rw [exZ_lo ha.1 hb.1 ⟨h0, h1⟩]; exact h.1 r h0 h1, h.2⟩
theorem okZ_tr {M : xM} {r : Int} (h : okZ M) (hr : 0 ≤ r ∧ r < 4) : ∀ n : Nat, (n : Int) ≤ zI M r → okZ (trZ M r n)
  | 0, _ => h
  | n + 1, hn => by
    have hz := h.1 r hr.1 hr.2
    simp only [trZ]
    exact okZ_ex (okZ_tr h hr n (by omega)) (by omega) (by omega)
theorem okZ_bb {r how : Int} (hr : 0 ≤ r ∧ r < 4) : ∀ (n : Nat) (M : xM), okZ M → (n : Int) ≤ 5 → okZ (bbZ r how n M)
  | 0, _, h, _ => h
  | n + 1, M, h, hn => by
    simp only [bbZ]
    split
    · exact okZ_ex (okZ_bb hr n M h (by omega)) (by omega) (by omega)
    · exact okZ_bb hr n M h (by omega)
theorem okZ_so {M : xM} {r how : Int} (h : okZ M) (hr : 0 ≤ r ∧ r < 4) : ∀ n : Nat, okZ (soZ M r how n)
  | 0 => h
  | n + 1 => by
    have hz := h.1 r hr.1 hr.2
    simp only [soZ]
    exact okZ_bb hr _ _ (okZ_so h hr n) (by omega)
set_option maxRecDepth 20000 in
theorem m_X7_turn {l : Launch} {E : xE} {r : Int} {M : xM} (hZ : okZ M) (hs : 0 ≤ (M.1 68 2).toInt ∧ (M.1 68 2).toInt ≤ 6) (hr : rg r) : XP l E 8 yX7_turn cX7_turn 2 (some FieldType.int) [vA 68, vI (jI r)] M (fun r' M' => (roY r = 0 → r' = vI (jI (oaZ (trZ (svZ (t0 M)) r (zI (svZ (t0 M)) r / 2).toNat))) ∧ M' = trZ (svZ (t0 M)) r (zI (svZ (t0 M)) r / 2).toNat) ∧ (roY r ≠ 0 → r' = vI (jI 0) ∧ M' = upI (t0 M) 68 5 (jI (roY r)))) := by
  refine xp_start (plainFor_of_name (by decide)) rfl (Nat.le_of_ble_eq_true rfl) ?_
  intro Y F FR
  have hZ0 : okZ (upI M 68 5 (jI 0)) := hZ
  refine x_aload_n F dX7_turn_0 rfl ?_
  refine xj_iconst F dX7_turn_1 ?_
  refine x_puti F flX7_40 rfl dX7_turn_2 (by decide) (by decide) rfl fw7_5 rfl rfl ?_
  refine x_iload_n F dX7_turn_5 rfl ?_
  refine x_S1 F (m_X7_isRow (by first | assumption | omega | decide)) mlX7_48 msX7_isRow dX7_turn_6 ⟨Nat.le_of_ble_eq_true rfl, Nat.le_of_ble_eq_true rfl⟩ ⟨Nat.zero_le _, Nat.zero_le _⟩ (Nat.le_of_ble_eq_true rfl) ?_
  refine xb_if_ne (tgt := 18) F dX7_turn_9 (by decide) (fun h_1 => ?_) (fun h_1 => ?_)
  · refine x_aload_n F dX7_turn_18 rfl ?_
    refine x_V0 F (m_X7_save hs) mlX7_67 mvX7_save rfl dX7_turn_19 (by decide) rfl ⟨Nat.le_of_ble_eq_true rfl, Nat.le_of_ble_eq_true rfl⟩ ⟨Nat.zero_le _, Nat.zero_le _⟩ (Nat.le_of_ble_eq_true rfl) ?_
    have hZ2 : okZ (svZ (upI M 68 5 (jI 0))) := okZ_sv hZ0
    have hzs : ∀ k, zI (svZ (upI M 68 5 (jI 0))) k = zI M k := svZ_zI _
    refine x_aload_n F dX7_turn_22 rfl ?_
    refine x_iload_n F dX7_turn_23 rfl ?_
    refine x_V1 F (m_X7_turnNow (by omega) (hZ2.1 r (by omega) (by omega))) mlX7_136 mvX7_turnNow rfl dX7_turn_24 (by decide) rfl ⟨Nat.le_of_ble_eq_true rfl, Nat.le_of_ble_eq_true rfl⟩ ⟨Nat.zero_le _, Nat.zero_le _⟩ (Nat.le_of_ble_eq_true rfl) ?_
    have hZ3 : okZ (trZ (svZ (upI M 68 5 (jI 0))) r (zI (svZ (upI M 68 5 (jI 0))) r / 2).toNat) := okZ_tr hZ2 (by omega) _ (by have := hZ2.1 r (by omega) (by omega); omega)
    refine x_aload_n F dX7_turn_27 rfl ?_
    refine x_V0 F (m_X7_odd hZ3) mlX7_133 mvX7_odd rfl dX7_turn_28 (by decide) rfl ⟨Nat.le_of_ble_eq_true rfl, Nat.le_of_ble_eq_true rfl⟩ ⟨Nat.zero_le _, Nat.zero_le _⟩ (Nat.le_of_ble_eq_true rfl) ?_
    refine x_iret F FR dX7_turn_31 rfl (Nat.le_refl _) (Nat.le_refl _) ?_
    first
      | (have hX : roY r = 1 := (by unfold roY; (repeat' split) <;> first | rfl | omega); exact ⟨fun z9 => absurd (hX.symm.trans z9) (by decide), fun _ => ⟨rfl, by rw [hX]; rfl⟩⟩)
      | (have hX : roY r = 0 := (by unfold roY; (repeat' split) <;> first | rfl | omega); exact ⟨fun _ => ⟨rfl, rfl⟩, fun z9 => absurd hX z9⟩)
  · refine x_aload_n F dX7_turn_12 rfl ?_
    refine xj_iconst F dX7_turn_13 ?_
    refine x_V1 F (m_X7_fails) mlX7_55 mvX7_fails rfl dX7_turn_14 (by decide) rfl ⟨Nat.le_of_ble_eq_true rfl, Nat.le_of_ble_eq_true rfl⟩ ⟨Nat.zero_le _, Nat.zero_le _⟩ (Nat.le_of_ble_eq_true rfl) ?_
    refine x_iret F FR dX7_turn_17 rfl (Nat.le_refl _) (Nat.le_refl _) ?_
    first
      | (have hX : roY r = 1 := (by unfold roY; (repeat' split) <;> first | rfl | omega); exact ⟨fun z9 => absurd (hX.symm.trans z9) (by decide), fun _ => ⟨rfl, by rw [hX]; rfl⟩⟩)
      | (have hX : roY r = 0 := (by unfold roY; (repeat' split) <;> first | rfl | omega); exact ⟨fun _ => ⟨rfl, rfl⟩, fun z9 => absurd hX z9⟩)
