/-! THE MODEL'S PUBLIC CHANGES. ..Y: the number that it notes as thrown (as the method's declared exceptions stand), 0 none -/
def t0 (M : xM) : xM := upI M 68 5 (jI 0)
theorem svZ_row {M : xM} {a : Nat} (h : a ≠ 68) (h2 : a ≠ 70) : (svZ M).1 a = M.1 a := by
  have e : (svS M).1 a = M.1 a := by
    unfold svS
    split
    · rw [upI_row h, cpK_row h2]
    · rfl
  unfold svZ
  dsimp only
  rw [upI_row h, cpK_row h2, e]
theorem svZ_zI (M : xM) (k : Int) : zI (svZ M) k = zI M k := by unfold zI; rw [svZ_row (by decide) (by decide)]
theorem okZ_sv {M : xM} (h : okZ M) : okZ (svZ M) := by
  unfold okZ
  rw [svZ_zI, svZ_zI]
  exact ⟨fun r h0 h1 => by rw [svZ_zI]; exact h.1 r h0 h1, h.2⟩
def joY (M : xM) (r h v : Int) : Int := if ¬ (0 ≤ r ∧ r ≤ 3) then 1 else if ¬ (100 ≤ h ∧ h ≤ 220) then 2 else if ¬ (0 ≤ v ∧ v ≤ 3) then 2 else if ¬ (zI M r < 6 ∧ zI M 78 < 999) then 3 else 0
def inZ (M : xM) (r p : Int) : Prop := (0 ≤ r ∧ r ≤ 3) ∧ 0 ≤ p ∧ p < zI M r
def plY (M : xM) (r p : Int) : Int := if ¬ ((0 ≤ r ∧ r ≤ 3) ∧ 0 ≤ p ∧ p < zI M r) then 1 else 0
def roY (r : Int) : Int := if ¬ (0 ≤ r ∧ r ≤ 3) then 1 else 0
def grY (M : xM) (r p h : Int) : Int := if ¬ ((0 ≤ r ∧ r ≤ 3) ∧ 0 ≤ p ∧ p < zI M r) then 1 else if ¬ (100 ≤ h ∧ h ≤ 220) then 2 else 0
def swY (M : xM) (r p r2 p2 : Int) : Int := if ¬ ((0 ≤ r ∧ r ≤ 3) ∧ 0 ≤ p ∧ p < zI M r) then 1 else if ¬ ((0 ≤ r2 ∧ r2 ≤ 3) ∧ 0 ≤ p2 ∧ p2 < zI M r2) then 1 else 0
def crY (M : xM) (r p t : Int) : Int := if ¬ ((0 ≤ r ∧ r ≤ 3) ∧ 0 ≤ p ∧ p < zI M r) then 1 else if ¬ (0 ≤ t ∧ t ≤ 3) then 1 else if ¬ (r ≠ t ∧ zI M t ≠ 6) then 2 else 0
def rwY (r a b z : Int) : Int := if ¬ (0 ≤ r ∧ r ≤ 3) then 1 else if ¬ (a ≤ z ∧ z ≤ b) then 2 else 0
def seY (s x : Int) : Int := if ¬ (0 ≤ s ∧ s ≤ 1) then 1 else if s = 0 ∧ ¬ (1 ≤ x ∧ x ≤ 6) then 2 else if s ≠ 0 ∧ ¬ (0 ≤ x ∧ x ≤ 1) then 2 else 0
def apY (M : xM) (x : Int) : Int := if ¬ (33 ≤ x ∧ x ≤ 126) then 1 else if ¬ ((M.1 68 11).toInt ≠ 60) then 2 else 0
def unY (M : xM) : Int := if ¬ ((M.1 68 2).toInt ≠ 0) then 1 else 0
def reY (M : xM) : Int := if ¬ ((M.1 68 4).toInt ≠ 0) then 1 else 0
def leZ (M : xM) (r p : Int) : xM := upI (rmZ M r p) 69 (79 : Int).toNat (jI (zI (rmZ M r p) 79 + 1))
def swZ (M : xM) (r p r2 p2 : Int) : xM := upI (exZ M (6 * r + p) (6 * r2 + p2)) 69 (80 : Int).toNat (jI (zI (exZ M (6 * r + p) (6 * r2 + p2)) 80 + 1))
def crZ (M : xM) (r p t : Int) : xM :=
  let M1 := cpZ M (6 * r + p) (6 * t + zI M t)
  rmZ (upI M1 69 t.toNat (jI (zI M1 t + 1))) r p
def unZ (M : xM) : xM :=
  let M1 := upI M 68 2 (jI ((M.1 68 2).toInt - 1))
  cpK M1 70 (81 * (M1.1 68 2).toInt).toNat 69 0 81
def apZ (M : xM) (x : Int) : xM := upI (upI M 74 (M.1 68 11).toInt.toNat (jI x)) 68 11 (jI ((M.1 68 11).toInt + 1))
set_option maxRecDepth 20000 in
theorem m_X7_join {l : Launch} {E : xE} {r h v : Int} {M : xM} (hZ : okZ M) (hs : 0 ≤ (M.1 68 2).toInt ∧ (M.1 68 2).toInt ≤ 6) (hr : rg r) (hh : rg h) (hv : rg v) : XP l E 8 yX7_join cX7_join 4 (some FieldType.int) [vA 68, vI (jI r), vI (jI h), vI (jI v)] M (fun r' M' => (joY M r h v = 0 → r' = vI (jI (zI (jnZ (svZ (t0 M)) r h v) 78 - 1)) ∧ M' = jnZ (svZ (t0 M)) r h v) ∧ (joY M r h v ≠ 0 → r' = vI (jI 0) ∧ M' = upI (t0 M) 68 5 (jI (joY M r h v)))) := by
  refine xp_start (plainFor_of_name (by decide)) rfl (Nat.le_of_ble_eq_true rfl) ?_
  intro Y F FR
  have hZ0 : okZ (upI M 68 5 (jI 0)) := hZ
  refine x_aload_n F dX7_join_0 rfl ?_
  refine xj_iconst F dX7_join_1 ?_
  refine x_puti F flX7_40 rfl dX7_join_2 (by decide) (by decide) rfl fw7_5 rfl rfl ?_
  refine x_iload_n F dX7_join_5 rfl ?_
  refine x_S1 F (m_X7_isRow (by first | assumption | omega | decide)) mlX7_48 msX7_isRow dX7_join_6 ⟨Nat.le_of_ble_eq_true rfl, Nat.le_of_ble_eq_true rfl⟩ ⟨Nat.zero_le _, Nat.zero_le _⟩ (Nat.le_of_ble_eq_true rfl) ?_
  refine xb_if_ne (tgt := 18) F dX7_join_9 (by decide) (fun h_1 => ?_) (fun h_1 => ?_)
  · refine x_iload_n F dX7_join_18 rfl ?_
    refine x_S1 F (m_X7_isHeight (by first | assumption | omega | decide)) mlX7_116 msX7_isHeight dX7_join_19 ⟨Nat.le_of_ble_eq_true rfl, Nat.le_of_ble_eq_true rfl⟩ ⟨Nat.zero_le _, Nat.zero_le _⟩ (Nat.le_of_ble_eq_true rfl) ?_
    refine xb_if_eq (tgt := 34) F dX7_join_22 (by decide) (fun h_2 => ?_) (fun h_2 => ?_)
    · refine x_aload_n F dX7_join_34 rfl ?_
      refine xj_iconst F dX7_join_35 ?_
      refine x_V1 F (m_X7_fails) mlX7_55 mvX7_fails rfl dX7_join_36 (by decide) rfl ⟨Nat.le_of_ble_eq_true rfl, Nat.le_of_ble_eq_true rfl⟩ ⟨Nat.zero_le _, Nat.zero_le _⟩ (Nat.le_of_ble_eq_true rfl) ?_
      refine x_iret F FR dX7_join_39 rfl (Nat.le_refl _) (Nat.le_refl _) ?_
      first
        | (have hX : joY M r h v = 1 := (by unfold joY; (repeat' split) <;> first | rfl | omega); exact ⟨fun z9 => absurd (hX.symm.trans z9) (by decide), fun _ => ⟨rfl, by rw [hX]; rfl⟩⟩)
        | (have hX : joY M r h v = 2 := (by unfold joY; (repeat' split) <;> first | rfl | omega); exact ⟨fun z9 => absurd (hX.symm.trans z9) (by decide), fun _ => ⟨rfl, by rw [hX]; rfl⟩⟩)
        | (have hX : joY M r h v = 3 := (by unfold joY; (repeat' split) <;> first | rfl | omega); exact ⟨fun z9 => absurd (hX.symm.trans z9) (by decide), fun _ => ⟨rfl, by rw [hX]; rfl⟩⟩)
        | (have hX : joY M r h v = 0 := (by unfold joY; (repeat' split) <;> first | rfl | omega); exact ⟨fun _ => ⟨rfl, rfl⟩, fun z9 => absurd hX z9⟩)
    · refine x_iload_n F dX7_join_25 rfl ?_
      refine xj_iconst F dX7_join_26 ?_
      refine xj_iconst F dX7_join_27 ?_
      refine x_S3 F (m_X7_in (by first | assumption | omega | decide) (by first | assumption | omega | decide) (by first | assumption | omega | decide)) mlX7_44 msX7_in dX7_join_28 ⟨Nat.le_of_ble_eq_true rfl, Nat.le_of_ble_eq_true rfl⟩ ⟨Nat.zero_le _, Nat.zero_le _⟩ (Nat.le_of_ble_eq_true rfl) ?_
      refine xb_if_ne (tgt := 40) F dX7_join_31 (by decide) (fun h_3 => ?_) (fun h_3 => ?_)
      · refine x_aload_n F dX7_join_40 rfl ?_
        refine x_iload_n F dX7_join_41 rfl ?_
        have e78 : zI (upI M 68 5 (jI 0)) r = zI M r := rfl
        have e79 : zI (upI M 68 5 (jI 0)) 78 = zI M 78 := rfl
        refine x_V1 F (m_X7_hasRoom (by first | assumption | omega | decide)) mlX7_119 mvX7_hasRoom rfl dX7_join_42 (by decide) rfl ⟨Nat.le_of_ble_eq_true rfl, Nat.le_of_ble_eq_true rfl⟩ ⟨Nat.zero_le _, Nat.zero_le _⟩ (Nat.le_of_ble_eq_true rfl) ?_
        refine xb_if_ne (tgt := 54) F dX7_join_45 (by decide) (fun h_4 => ?_) (fun h_4 => ?_)
        · refine x_aload_n F dX7_join_54 rfl ?_
          refine x_V0 F (m_X7_save hs) mlX7_67 mvX7_save rfl dX7_join_55 (by decide) rfl ⟨Nat.le_of_ble_eq_true rfl, Nat.le_of_ble_eq_true rfl⟩ ⟨Nat.zero_le _, Nat.zero_le _⟩ (Nat.le_of_ble_eq_true rfl) ?_
          have hZ2 : okZ (svZ (upI M 68 5 (jI 0))) := okZ_sv hZ0
          have hzs : ∀ k, zI (svZ (upI M 68 5 (jI 0))) k = zI M k := svZ_zI _
          refine x_aload_n F dX7_join_58 rfl ?_
          refine x_iload_n F dX7_join_59 rfl ?_
          refine x_iload_n F dX7_join_60 rfl ?_
          refine x_iload_n F dX7_join_61 rfl ?_
          refine x_V3 F (m_X7_joinNow (by omega) (by rw [hzs]; have := hZ.1 r (by omega) (by omega); omega)) mlX7_122 mvX7_joinNow rfl dX7_join_62 (by decide) rfl ⟨Nat.le_of_ble_eq_true rfl, Nat.le_of_ble_eq_true rfl⟩ ⟨Nat.zero_le _, Nat.zero_le _⟩ (Nat.le_of_ble_eq_true rfl) ?_
          refine x_iret F FR dX7_join_65 rfl (Nat.le_refl _) (Nat.le_refl _) ?_
          first
            | (have hX : joY M r h v = 1 := (by unfold joY; (repeat' split) <;> first | rfl | omega); exact ⟨fun z9 => absurd (hX.symm.trans z9) (by decide), fun _ => ⟨rfl, by rw [hX]; rfl⟩⟩)
            | (have hX : joY M r h v = 2 := (by unfold joY; (repeat' split) <;> first | rfl | omega); exact ⟨fun z9 => absurd (hX.symm.trans z9) (by decide), fun _ => ⟨rfl, by rw [hX]; rfl⟩⟩)
            | (have hX : joY M r h v = 3 := (by unfold joY; (repeat' split) <;> first | rfl | omega); exact ⟨fun z9 => absurd (hX.symm.trans z9) (by decide), fun _ => ⟨rfl, by rw [hX]; rfl⟩⟩)
            | (have hX : joY M r h v = 0 := (by unfold joY; (repeat' split) <;> first | rfl | omega); exact ⟨fun _ => ⟨rfl, rfl⟩, fun z9 => absurd hX z9⟩)
        · refine x_aload_n F dX7_join_48 rfl ?_
          refine xj_iconst F dX7_join_49 ?_
          refine x_V1 F (m_X7_fails) mlX7_55 mvX7_fails rfl dX7_join_50 (by decide) rfl ⟨Nat.le_of_ble_eq_true rfl, Nat.le_of_ble_eq_true rfl⟩ ⟨Nat.zero_le _, Nat.zero_le _⟩ (Nat.le_of_ble_eq_true rfl) ?_
          refine x_iret F FR dX7_join_53 rfl (Nat.le_refl _) (Nat.le_refl _) ?_
          first
            | (have hX : joY M r h v = 1 := (by unfold joY; (repeat' split) <;> first | rfl | omega); exact ⟨fun z9 => absurd (hX.symm.trans z9) (by decide), fun _ => ⟨rfl, by rw [hX]; rfl⟩⟩)
            | (have hX : joY M r h v = 2 := (by unfold joY; (repeat' split) <;> first | rfl | omega); exact ⟨fun z9 => absurd (hX.symm.trans z9) (by decide), fun _ => ⟨rfl, by rw [hX]; rfl⟩⟩)
            | (have hX : joY M r h v = 3 := (by unfold joY; (repeat' split) <;> first | rfl | omega); exact ⟨fun z9 => absurd (hX.symm.trans z9) (by decide), fun _ => ⟨rfl, by rw [hX]; rfl⟩⟩)
            | (have hX : joY M r h v = 0 := (by unfold joY; (repeat' split) <;> first | rfl | omega); exact ⟨fun _ => ⟨rfl, rfl⟩, fun z9 => absurd hX z9⟩)
      · refine x_aload_n F dX7_join_34 rfl ?_
        refine xj_iconst F dX7_join_35 ?_
        refine x_V1 F (m_X7_fails) mlX7_55 mvX7_fails rfl dX7_join_36 (by decide) rfl ⟨Nat.le_of_ble_eq_true rfl, Nat.le_of_ble_eq_true rfl⟩ ⟨Nat.zero_le _, Nat.zero_le _⟩ (Nat.le_of_ble_eq_true rfl) ?_
        refine x_iret F FR dX7_join_39 rfl (Nat.le_refl _) (Nat.le_refl _) ?_
        first
          | (have hX : joY M r h v = 1 := (by unfold joY; (repeat' split) <;> first | rfl | omega); exact ⟨fun z9 => absurd (hX.symm.trans z9) (by decide), fun _ => ⟨rfl, by rw [hX]; rfl⟩⟩)
          | (have hX : joY M r h v = 2 := (by unfold joY; (repeat' split) <;> first | rfl | omega); exact ⟨fun z9 => absurd (hX.symm.trans z9) (by decide), fun _ => ⟨rfl, by rw [hX]; rfl⟩⟩)
          | (have hX : joY M r h v = 3 := (by unfold joY; (repeat' split) <;> first | rfl | omega); exact ⟨fun z9 => absurd (hX.symm.trans z9) (by decide), fun _ => ⟨rfl, by rw [hX]; rfl⟩⟩)
          | (have hX : joY M r h v = 0 := (by unfold joY; (repeat' split) <;> first | rfl | omega); exact ⟨fun _ => ⟨rfl, rfl⟩, fun z9 => absurd hX z9⟩)
  · refine x_aload_n F dX7_join_12 rfl ?_
    refine xj_iconst F dX7_join_13 ?_
    refine x_V1 F (m_X7_fails) mlX7_55 mvX7_fails rfl dX7_join_14 (by decide) rfl ⟨Nat.le_of_ble_eq_true rfl, Nat.le_of_ble_eq_true rfl⟩ ⟨Nat.zero_le _, Nat.zero_le _⟩ (Nat.le_of_ble_eq_true rfl) ?_
    refine x_iret F FR dX7_join_17 rfl (Nat.le_refl _) (Nat.le_refl _) ?_
    first
      | (have hX : joY M r h v = 1 := (by unfold joY; (repeat' split) <;> first | rfl | omega); exact ⟨fun z9 => absurd (hX.symm.trans z9) (by decide), fun _ => ⟨rfl, by rw [hX]; rfl⟩⟩)
      | (have hX : joY M r h v = 2 := (by unfold joY; (repeat' split) <;> first | rfl | omega); exact ⟨fun z9 => absurd (hX.symm.trans z9) (by decide), fun _ => ⟨rfl, by rw [hX]; rfl⟩⟩)
      | (have hX : joY M r h v = 3 := (by unfold joY; (repeat' split) <;> first | rfl | omega); exact ⟨fun z9 => absurd (hX.symm.trans z9) (by decide), fun _ => ⟨rfl, by rw [hX]; rfl⟩⟩)
      | (have hX : joY M r h v = 0 := (by unfold joY; (repeat' split) <;> first | rfl | omega); exact ⟨fun _ => ⟨rfl, rfl⟩, fun z9 => absurd hX z9⟩)
theorem zI_mid {M : xM} {a : Int} {k : Int} {x : Int32} (ha : 4 ≤ a ∧ a < 76) (hk : 76 ≤ k) : zI (upI M 69 a.toNat x) k = zI M k := by rw [zI_up M (by omega) (by omega), if_neg (by omega)]
theorem cpZ_mid {M : xM} {a b k : Int} (hb : 0 ≤ b ∧ b < 24) (hk : 76 ≤ k) : zI (cpZ M a b) k = zI M k := by
  unfold cpZ
  dsimp only
  rw [zI_mid (by omega) hk, zI_mid (by omega) hk, zI_mid (by omega) hk]
theorem exZ_mid {M : xM} {a b k : Int} (ha : 0 ≤ a ∧ a < 24) (hb : 0 ≤ b ∧ b < 24) (hk : 76 ≤ k) : zI (exZ M a b) k = zI M k := by
  unfold exZ
  rw [zI_mid (by omega) hk, zI_mid (by omega) hk, zI_mid (by omega) hk, cpZ_mid ha hk]
theorem okZ_ex {M : xM} {a b : Int} (h : okZ M) (ha : 0 ≤ a ∧ a < 24) (hb : 0 ≤ b ∧ b < 24) : okZ (exZ M a b) := by
  unfold okZ
  rw [exZ_mid ha hb (by decide), exZ_mid ha hb (by decide)]
  exact ⟨fun r h0 h1 => by rw [exZ_lo ha.1 hb.1 ⟨h0, h1⟩]; exact h.1 r h0 h1, h.2⟩
theorem okZ_tr {M : xM} {r : Int} (h : okZ M) (hr : 0 ≤ r ∧ r < 4) : ∀ n : Nat, (n : Int) ≤ zI M r → okZ (trZ M r n)
  | 0, _ => h
  | n + 1, hn => by
    have hz := h.1 r hr.1 hr.2
    simp only [trZ]
    exact okZ_ex (okZ_tr h hr n (by omega)) (by omega) (by omega)
theorem okZ_bb {r how : Int} (hr : 0 ≤ r ∧ r < 4) : ∀ (n : Nat) (M : xM), okZ M → (n : Int) ≤ 5 → okZ (bbZ r how n M)
  | 0, _, h, _ => h
  | n + 1, M, h, hn => by
    simp only [bbZ]
    split
    · exact okZ_ex (okZ_bb hr n M h (by omega)) (by omega) (by omega)
    · exact okZ_bb hr n M h (by omega)
theorem okZ_so {M : xM} {r how : Int} (h : okZ M) (hr : 0 ≤ r ∧ r < 4) : ∀ n : Nat, okZ (soZ M r how n)
  | 0 => h
  | n + 1 => by
    have hz := h.1 r hr.1 hr.2
    simp only [soZ]
    exact okZ_bb hr _ _ (okZ_so h hr n) (by omega)
set_option maxRecDepth 20000 in
theorem m_X7_turn {l : Launch} {E : xE} {r : Int} {M : xM} (hZ : okZ M) (hs : 0 ≤ (M.1 68 2).toInt ∧ (M.1 68 2).toInt ≤ 6) (hr : rg r) : XP l E 8 yX7_turn cX7_turn 2 (some FieldType.int) [vA 68, vI (jI r)] M (fun r' M' => (roY r = 0 → r' = vI (jI (oaZ (trZ (svZ (t0 M)) r (zI (svZ (t0 M)) r / 2).toNat))) ∧ M' = trZ (svZ (t0 M)) r (zI (svZ (t0 M)) r / 2).toNat) ∧ (roY r ≠ 0 → r' = vI (jI 0) ∧ M' = upI (t0 M) 68 5 (jI (roY r)))) := by
  refine xp_start (plainFor_of_name (by decide)) rfl (Nat.le_of_ble_eq_true rfl) ?_
  intro Y F FR
  have hZ0 : okZ (upI M 68 5 (jI 0)) := hZ
  refine x_aload_n F dX7_turn_0 rfl ?_
  refine xj_iconst F dX7_turn_1 ?_
  refine x_puti F flX7_40 rfl dX7_turn_2 (by decide) (by decide) rfl fw7_5 rfl rfl ?_
  refine x_iload_n F dX7_turn_5 rfl ?_
  refine x_S1 F (m_X7_isRow (by first | assumption | omega | decide)) mlX7_48 msX7_isRow dX7_turn_6 ⟨Nat.le_of_ble_eq_true rfl, Nat.le_of_ble_eq_true rfl⟩ ⟨Nat.zero_le _, Nat.zero_le _⟩ (Nat.le_of_ble_eq_true rfl) ?_
  refine xb_if_ne (tgt := 18) F dX7_turn_9 (by decide) (fun h_1 => ?_) (fun h_1 => ?_)
  · refine x_aload_n F dX7_turn_18 rfl ?_
    refine x_V0 F (m_X7_save hs) mlX7_67 mvX7_save rfl dX7_turn_19 (by decide) rfl ⟨Nat.le_of_ble_eq_true rfl, Nat.le_of_ble_eq_true rfl⟩ ⟨Nat.zero_le _, Nat.zero_le _⟩ (Nat.le_of_ble_eq_true rfl) ?_
    have hZ2 : okZ (svZ (upI M 68 5 (jI 0))) := okZ_sv hZ0
    have hzs : ∀ k, zI (svZ (upI M 68 5 (jI 0))) k = zI M k := svZ_zI _
    refine x_aload_n F dX7_turn_22 rfl ?_
    refine x_iload_n F dX7_turn_23 rfl ?_
    refine x_V1 F (m_X7_turnNow (by omega) (hZ2.1 r (by omega) (by omega))) mlX7_136 mvX7_turnNow rfl dX7_turn_24 (by decide) rfl ⟨Nat.le_of_ble_eq_true rfl, Nat.le_of_ble_eq_true rfl⟩ ⟨Nat.zero_le _, Nat.zero_le _⟩ (Nat.le_of_ble_eq_true rfl) ?_
    have hZ3 : okZ (trZ (svZ (upI M 68 5 (jI 0))) r (zI (svZ (upI M 68 5 (jI 0))) r / 2).toNat) := okZ_tr hZ2 (by omega) _ (by have := hZ2.1 r (by omega) (by omega); omega)
    refine x_aload_n F dX7_turn_27 rfl ?_
    refine x_V0 F (m_X7_odd hZ3) mlX7_133 mvX7_odd rfl dX7_turn_28 (by decide) rfl ⟨Nat.le_of_ble_eq_true rfl, Nat.le_of_ble_eq_true rfl⟩ ⟨Nat.zero_le _, Nat.zero_le _⟩ (Nat.le_of_ble_eq_true rfl) ?_
    refine x_iret F FR dX7_turn_31 rfl (Nat.le_refl _) (Nat.le_refl _) ?_
    first
      | (have hX : roY r = 1 := (by unfold roY; (repeat' split) <;> first | rfl | omega); exact ⟨fun z9 => absurd (hX.symm.trans z9) (by decide), fun _ => ⟨rfl, by rw [hX]; rfl⟩⟩)
      | (have hX : roY r = 0 := (by unfold roY; (repeat' split) <;> first | rfl | omega); exact ⟨fun _ => ⟨rfl, rfl⟩, fun z9 => absurd hX z9⟩)
  · refine x_aload_n F dX7_turn_12 rfl ?_
    refine xj_iconst F dX7_turn_13 ?_
    refine x_V1 F (m_X7_fails) mlX7_55 mvX7_fails rfl dX7_turn_14 (by decide) rfl ⟨Nat.le_of_ble_eq_true rfl, Nat.le_of_ble_eq_true rfl⟩ ⟨Nat.zero_le _, Nat.zero_le _⟩ (Nat.le_of_ble_eq_true rfl) ?_
    refine x_iret F FR dX7_turn_17 rfl (Nat.le_refl _) (Nat.le_refl _) ?_
    first
      | (have hX : roY r = 1 := (by unfold roY; (repeat' split) <;> first | rfl | omega); exact ⟨fun z9 => absurd (hX.symm.trans z9) (by decide), fun _ => ⟨rfl, by rw [hX]; rfl⟩⟩)
      | (have hX : roY r = 0 := (by unfold roY; (repeat' split) <;> first | rfl | omega); exact ⟨fun _ => ⟨rfl, rfl⟩, fun z9 => absurd hX z9⟩)
set_option maxRecDepth 20000 in
theorem m_X7_leave {l : Launch} {E : xE} {r p : Int} {M : xM} (hZ : okZ M) (hs : 0 ≤ (M.1 68 2).toInt ∧ (M.1 68 2).toInt ≤ 6) (hr : rg r) (hp : rg p) : XP l E 8 yX7_leave cX7_leave 4 (some FieldType.int) [vA 68, vI (jI r), vI (jI p)] M (fun r' M' => (plY M r p = 0 → r' = vI (jI (zI (svZ (t0 M)) (4 + 6 * r + p))) ∧ M' = leZ (svZ (t0 M)) r p) ∧ (plY M r p ≠ 0 → r' = vI (jI 0) ∧ M' = upI (t0 M) 68 5 (jI (plY M r p)))) := by
  refine xp_start (plainFor_of_name (by decide)) rfl (Nat.le_of_ble_eq_true rfl) ?_
  intro Y F FR
  have hZ0 : okZ (upI M 68 5 (jI 0)) := hZ
  refine x_aload_n F dX7_leave_0 rfl ?_
  refine xj_iconst F dX7_leave_1 ?_
  refine x_puti F flX7_40 rfl dX7_leave_2 (by decide) (by decide) rfl fw7_5 rfl rfl ?_
  refine x_aload_n F dX7_leave_5 rfl ?_
  refine x_iload_n F dX7_leave_6 rfl ?_
  refine x_iload_n F dX7_leave_7 rfl ?_
  refine x_V2 F (m_X7_isPlace hZ0 hr hp) mlX7_126 mvX7_isPlace rfl dX7_leave_8 (by decide) rfl ⟨Nat.le_of_ble_eq_true rfl, Nat.le_of_ble_eq_true rfl⟩ ⟨Nat.zero_le _, Nat.zero_le _⟩ (Nat.le_of_ble_eq_true rfl) ?_
  refine xb_if_ne (tgt := 20) F dX7_leave_11 (by decide) (fun h_1 => ?_) (fun h_1 => ?_)
  · have hin : (0 ≤ r ∧ r ≤ 3) ∧ 0 ≤ p ∧ p < zI M r := h_1
    refine x_aload_n F dX7_leave_20 rfl ?_
    refine x_V0 F (m_X7_save hs) mlX7_67 mvX7_save rfl dX7_leave_21 (by decide) rfl ⟨Nat.le_of_ble_eq_true rfl, Nat.le_of_ble_eq_true rfl⟩ ⟨Nat.zero_le _, Nat.zero_le _⟩ (Nat.le_of_ble_eq_true rfl) ?_
    have hZ2 : okZ (svZ (upI M 68 5 (jI 0))) := okZ_sv hZ0
    have hzs : ∀ k, zI (svZ (upI M 68 5 (jI 0))) k = zI M k := svZ_zI _
    have hzr := hZ.1 r (by omega) (by omega)
    refine x_aload_n F dX7_leave_24 rfl ?_
    refine x_getc (v := 69) F flX7_7 rfl dX7_leave_25 (by decide) (by decide) rfl rfl ?_
    refine xj_iconst F dX7_leave_28 ?_
    refine xj_bipush F dX7_leave_29 (by decide) ?_
    refine x_iload_n F dX7_leave_31 rfl ?_
    refine xj_imul F dX7_leave_32 ?_
    refine xj_iadd F dX7_leave_33 ?_
    refine x_iload_n F dX7_leave_34 rfl ?_
    refine xj_iadd F dX7_leave_35 ?_
    refine xj_lald2 F rfl dX7_leave_36 (by omega) (fun hg_2 => ?_)
    refine x_istore_n F dX7_leave_37 (by decide) ?_
    refine x_aload_n F dX7_leave_38 rfl ?_
    refine x_iload_n F dX7_leave_39 rfl ?_
    refine x_iload_n F dX7_leave_40 rfl ?_
    refine x_V2 F (m_X7_removeNow (by omega) (by rw [hzs]; omega) (by rw [hzs]; omega)) mlX7_130 mvX7_removeNow rfl dX7_leave_41 (by decide) rfl ⟨Nat.le_of_ble_eq_true rfl, Nat.le_of_ble_eq_true rfl⟩ ⟨Nat.zero_le _, Nat.zero_le _⟩ (Nat.le_of_ble_eq_true rfl) ?_
    refine x_aload_n F dX7_leave_44 rfl ?_
    refine x_getc (v := 69) F flX7_7 rfl dX7_leave_45 (by decide) (by decide) rfl rfl ?_
    refine xj_bipush F dX7_leave_48 (by decide) ?_
    refine x_dup2 F dX7_leave_50 rfl rfl ?_
    refine xj_lald2 F rfl dX7_leave_51 (by omega) (fun hg_3 => ?_)
    refine xj_iconst F dX7_leave_52 ?_
    refine xj_iadd F dX7_leave_53 ?_
    refine xj_iast F rfl dX7_leave_54 (by omega) ?_
    refine x_iload_n F dX7_leave_55 rfl ?_
    refine x_iret F FR dX7_leave_56 rfl (Nat.le_refl _) (Nat.le_refl _) ?_
    first
      | (have hX : plY M r p = 1 := (by unfold plY; (repeat' split) <;> first | rfl | omega); exact ⟨fun z9 => absurd (hX.symm.trans z9) (by decide), fun _ => ⟨rfl, by rw [hX]; rfl⟩⟩)
      | (have hX : plY M r p = 0 := (by unfold plY; (repeat' split) <;> first | rfl | omega); exact ⟨fun _ => ⟨rfl, rfl⟩, fun z9 => absurd hX z9⟩)
  · have hin : ¬ ((0 ≤ r ∧ r ≤ 3) ∧ 0 ≤ p ∧ p < zI M r) := h_1
    refine x_aload_n F dX7_leave_14 rfl ?_
    refine xj_iconst F dX7_leave_15 ?_
    refine x_V1 F (m_X7_fails) mlX7_55 mvX7_fails rfl dX7_leave_16 (by decide) rfl ⟨Nat.le_of_ble_eq_true rfl, Nat.le_of_ble_eq_true rfl⟩ ⟨Nat.zero_le _, Nat.zero_le _⟩ (Nat.le_of_ble_eq_true rfl) ?_
    refine x_iret F FR dX7_leave_19 rfl (Nat.le_refl _) (Nat.le_refl _) ?_
    first
      | (have hX : plY M r p = 1 := (by unfold plY; (repeat' split) <;> first | rfl | omega); exact ⟨fun z9 => absurd (hX.symm.trans z9) (by decide), fun _ => ⟨rfl, by rw [hX]; rfl⟩⟩)
      | (have hX : plY M r p = 0 := (by unfold plY; (repeat' split) <;> first | rfl | omega); exact ⟨fun _ => ⟨rfl, rfl⟩, fun z9 => absurd hX z9⟩)
set_option maxRecDepth 20000 in
theorem m_X7_grow {l : Launch} {E : xE} {r p h : Int} {M : xM} (hZ : okZ M) (hs : 0 ≤ (M.1 68 2).toInt ∧ (M.1 68 2).toInt ≤ 6) (hr : rg r) (hp : rg p) (hh : rg h) : XP l E 8 yX7_grow cX7_grow 5 (some FieldType.int) [vA 68, vI (jI r), vI (jI p), vI (jI h)] M (fun r' M' => (grY M r p h = 0 → r' = vI (jI (zI (svZ (t0 M)) (28 + 6 * r + p))) ∧ M' = upI (svZ (t0 M)) 69 (28 + 6 * r + p).toNat (jI h)) ∧ (grY M r p h ≠ 0 → r' = vI (jI 0) ∧ M' = upI (t0 M) 68 5 (jI (grY M r p h)))) := by
  refine xp_start (plainFor_of_name (by decide)) rfl (Nat.le_of_ble_eq_true rfl) ?_
  intro Y F FR
  have hZ0 : okZ (upI M 68 5 (jI 0)) := hZ
  refine x_aload_n F dX7_grow_0 rfl ?_
  refine xj_iconst F dX7_grow_1 ?_
  refine x_puti F flX7_40 rfl dX7_grow_2 (by decide) (by decide) rfl fw7_5 rfl rfl ?_
  refine x_aload_n F dX7_grow_5 rfl ?_
  refine x_iload_n F dX7_grow_6 rfl ?_
  refine x_iload_n F dX7_grow_7 rfl ?_
  refine x_V2 F (m_X7_isPlace hZ0 hr hp) mlX7_126 mvX7_isPlace rfl dX7_grow_8 (by decide) rfl ⟨Nat.le_of_ble_eq_true rfl, Nat.le_of_ble_eq_true rfl⟩ ⟨Nat.zero_le _, Nat.zero_le _⟩ (Nat.le_of_ble_eq_true rfl) ?_
  refine xb_if_ne (tgt := 20) F dX7_grow_11 (by decide) (fun h_1 => ?_) (fun h_1 => ?_)
  · have hin : (0 ≤ r ∧ r ≤ 3) ∧ 0 ≤ p ∧ p < zI M r := h_1
    refine x_iload_n F dX7_grow_20 rfl ?_
    refine x_S1 F (m_X7_isHeight (by first | assumption | omega | decide)) mlX7_116 msX7_isHeight dX7_grow_21 ⟨Nat.le_of_ble_eq_true rfl, Nat.le_of_ble_eq_true rfl⟩ ⟨Nat.zero_le _, Nat.zero_le _⟩ (Nat.le_of_ble_eq_true rfl) ?_
    refine xb_if_ne (tgt := 33) F dX7_grow_24 (by decide) (fun h_2 => ?_) (fun h_2 => ?_)
    · refine x_aload_n F dX7_grow_33 rfl ?_
      refine x_V0 F (m_X7_save hs) mlX7_67 mvX7_save rfl dX7_grow_34 (by decide) rfl ⟨Nat.le_of_ble_eq_true rfl, Nat.le_of_ble_eq_true rfl⟩ ⟨Nat.zero_le _, Nat.zero_le _⟩ (Nat.le_of_ble_eq_true rfl) ?_
      have hZ2 : okZ (svZ (upI M 68 5 (jI 0))) := okZ_sv hZ0
      have hzs : ∀ k, zI (svZ (upI M 68 5 (jI 0))) k = zI M k := svZ_zI _
      have hzr := hZ.1 r (by omega) (by omega)
      refine x_aload_n F dX7_grow_37 rfl ?_
      refine x_iload_n F dX7_grow_38 rfl ?_
      refine x_iload_n F dX7_grow_39 rfl ?_
      refine x_V2 F (m_X7_heightAt (by omega) (by omega)) mlX7_77 mvX7_heightAt rfl dX7_grow_40 (by decide) rfl ⟨Nat.le_of_ble_eq_true rfl, Nat.le_of_ble_eq_true rfl⟩ ⟨Nat.zero_le _, Nat.zero_le _⟩ (Nat.le_of_ble_eq_true rfl) ?_
      have hf_3 := rg_zI (svZ (upI M 68 5 (jI 0))) (28 + 6 * r + p)
      refine x_istore F dX7_grow_43 (by decide) ?_
      refine x_aload_n F dX7_grow_45 rfl ?_
      refine x_getc (v := 69) F flX7_7 rfl dX7_grow_46 (by decide) (by decide) rfl rfl ?_
      refine xj_bipush F dX7_grow_49 (by decide) ?_
      refine xj_bipush F dX7_grow_51 (by decide) ?_
      refine x_iload_n F dX7_grow_53 rfl ?_
      refine xj_imul F dX7_grow_54 ?_
      refine xj_iadd F dX7_grow_55 ?_
      refine x_iload_n F dX7_grow_56 rfl ?_
      refine xj_iadd F dX7_grow_57 ?_
      refine x_iload_n F dX7_grow_58 rfl ?_
      refine xj_iast F rfl dX7_grow_59 (by omega) ?_
      refine x_iload F dX7_grow_60 rfl ?_
      refine x_iret F FR dX7_grow_62 rfl (Nat.le_refl _) (Nat.le_refl _) ?_
      first
        | (have hX : grY M r p h = 1 := (by unfold grY; (repeat' split) <;> first | rfl | omega); exact ⟨fun z9 => absurd (hX.symm.trans z9) (by decide), fun _ => ⟨rfl, by rw [hX]; rfl⟩⟩)
        | (have hX : grY M r p h = 2 := (by unfold grY; (repeat' split) <;> first | rfl | omega); exact ⟨fun z9 => absurd (hX.symm.trans z9) (by decide), fun _ => ⟨rfl, by rw [hX]; rfl⟩⟩)
        | (have hX : grY M r p h = 0 := (by unfold grY; (repeat' split) <;> first | rfl | omega); exact ⟨fun _ => ⟨rfl, rfl⟩, fun z9 => absurd hX z9⟩)
    · refine x_aload_n F dX7_grow_27 rfl ?_
      refine xj_iconst F dX7_grow_28 ?_
      refine x_V1 F (m_X7_fails) mlX7_55 mvX7_fails rfl dX7_grow_29 (by decide) rfl ⟨Nat.le_of_ble_eq_true rfl, Nat.le_of_ble_eq_true rfl⟩ ⟨Nat.zero_le _, Nat.zero_le _⟩ (Nat.le_of_ble_eq_true rfl) ?_
      refine x_iret F FR dX7_grow_32 rfl (Nat.le_refl _) (Nat.le_refl _) ?_
      first
        | (have hX : grY M r p h = 1 := (by unfold grY; (repeat' split) <;> first | rfl | omega); exact ⟨fun z9 => absurd (hX.symm.trans z9) (by decide), fun _ => ⟨rfl, by rw [hX]; rfl⟩⟩)
        | (have hX : grY M r p h = 2 := (by unfold grY; (repeat' split) <;> first | rfl | omega); exact ⟨fun z9 => absurd (hX.symm.trans z9) (by decide), fun _ => ⟨rfl, by rw [hX]; rfl⟩⟩)
        | (have hX : grY M r p h = 0 := (by unfold grY; (repeat' split) <;> first | rfl | omega); exact ⟨fun _ => ⟨rfl, rfl⟩, fun z9 => absurd hX z9⟩)
  · have hin : ¬ ((0 ≤ r ∧ r ≤ 3) ∧ 0 ≤ p ∧ p < zI M r) := h_1
    refine x_aload_n F dX7_grow_14 rfl ?_
    refine xj_iconst F dX7_grow_15 ?_
    refine x_V1 F (m_X7_fails) mlX7_55 mvX7_fails rfl dX7_grow_16 (by decide) rfl ⟨Nat.le_of_ble_eq_true rfl, Nat.le_of_ble_eq_true rfl⟩ ⟨Nat.zero_le _, Nat.zero_le _⟩ (Nat.le_of_ble_eq_true rfl) ?_
    refine x_iret F FR dX7_grow_19 rfl (Nat.le_refl _) (Nat.le_refl _) ?_
    first
      | (have hX : grY M r p h = 1 := (by unfold grY; (repeat' split) <;> first | rfl | omega); exact ⟨fun z9 => absurd (hX.symm.trans z9) (by decide), fun _ => ⟨rfl, by rw [hX]; rfl⟩⟩)
      | (have hX : grY M r p h = 2 := (by unfold grY; (repeat' split) <;> first | rfl | omega); exact ⟨fun z9 => absurd (hX.symm.trans z9) (by decide), fun _ => ⟨rfl, by rw [hX]; rfl⟩⟩)
      | (have hX : grY M r p h = 0 := (by unfold grY; (repeat' split) <;> first | rfl | omega); exact ⟨fun _ => ⟨rfl, rfl⟩, fun z9 => absurd hX z9⟩)
theorem okZ_hi {M : xM} {a : Int} {x : Int32} (h : okZ M) (ha : 78 ≤ a) : okZ (upI M 69 a.toNat x) := by
  unfold okZ
  rw [zI_up M (by omega) (by decide), zI_up M (by omega) (by decide), if_neg (by omega), if_neg (by omega)]
  exact ⟨fun r h0 h1 => by rw [zI_up M (by omega) h0, if_neg (by omega)]; exact h.1 r h0 h1, h.2⟩
theorem okZ_sw {M : xM} {r p r2 p2 : Int} (h : okZ M) (ha : 0 ≤ 6 * r + p ∧ 6 * r + p < 24) (hb : 0 ≤ 6 * r2 + p2 ∧ 6 * r2 + p2 < 24) : okZ (swZ M r p r2 p2) := okZ_hi (okZ_ex h ha hb) (by decide)
set_option maxRecDepth 20000 in
theorem m_X7_swap {l : Launch} {E : xE} {r p r2 p2 : Int} {M : xM} (hZ : okZ M) (hs : 0 ≤ (M.1 68 2).toInt ∧ (M.1 68 2).toInt ≤ 6) (hr : rg r) (hp : rg p) (hr2 : rg r2) (hp2 : rg p2) : XP l E 8 yX7_swap cX7_swap 5 (some FieldType.int) [vA 68, vI (jI r), vI (jI p), vI (jI r2), vI (jI p2)] M (fun r' M' => (swY M r p r2 p2 = 0 → r' = vI (jI (oaZ (swZ (svZ (t0 M)) r p r2 p2))) ∧ M' = swZ (svZ (t0 M)) r p r2 p2) ∧ (swY M r p r2 p2 ≠ 0 → r' = vI (jI 0) ∧ M' = upI (t0 M) 68 5 (jI (swY M r p r2 p2)))) := by
  refine xp_start (plainFor_of_name (by decide)) rfl (Nat.le_of_ble_eq_true rfl) ?_
  intro Y F FR
  have hZ0 : okZ (upI M 68 5 (jI 0)) := hZ
  refine x_aload_n F dX7_swap_0 rfl ?_
  refine xj_iconst F dX7_swap_1 ?_
  refine x_puti F flX7_40 rfl dX7_swap_2 (by decide) (by decide) rfl fw7_5 rfl rfl ?_
  refine x_aload_n F dX7_swap_5 rfl ?_
  refine x_iload_n F dX7_swap_6 rfl ?_
  refine x_iload_n F dX7_swap_7 rfl ?_
  refine x_V2 F (m_X7_isPlace hZ0 hr hp) mlX7_126 mvX7_isPlace rfl dX7_swap_8 (by decide) rfl ⟨Nat.le_of_ble_eq_true rfl, Nat.le_of_ble_eq_true rfl⟩ ⟨Nat.zero_le _, Nat.zero_le _⟩ (Nat.le_of_ble_eq_true rfl) ?_
  refine xb_if_eq (tgt := 24) F dX7_swap_11 (by decide) (fun h_1 => ?_) (fun h_1 => ?_)
  · have hin : ¬ ((0 ≤ r ∧ r ≤ 3) ∧ 0 ≤ p ∧ p < zI M r) := h_1
    refine x_aload_n F dX7_swap_24 rfl ?_
    refine xj_iconst F dX7_swap_25 ?_
    refine x_V1 F (m_X7_fails) mlX7_55 mvX7_fails rfl dX7_swap_26 (by decide) rfl ⟨Nat.le_of_ble_eq_true rfl, Nat.le_of_ble_eq_true rfl⟩ ⟨Nat.zero_le _, Nat.zero_le _⟩ (Nat.le_of_ble_eq_true rfl) ?_
    refine x_iret F FR dX7_swap_29 rfl (Nat.le_refl _) (Nat.le_refl _) ?_
    first
      | (have hX : swY M r p r2 p2 = 1 := (by unfold swY; (repeat' split) <;> first | rfl | omega); exact ⟨fun z9 => absurd (hX.symm.trans z9) (by decide), fun _ => ⟨rfl, by rw [hX]; rfl⟩⟩)
      | (have hX : swY M r p r2 p2 = 0 := (by unfold swY; (repeat' split) <;> first | rfl | omega); exact ⟨fun _ => ⟨rfl, rfl⟩, fun z9 => absurd hX z9⟩)
  · have hin : (0 ≤ r ∧ r ≤ 3) ∧ 0 ≤ p ∧ p < zI M r := h_1
    refine x_aload_n F dX7_swap_14 rfl ?_
    refine x_iload_n F dX7_swap_15 rfl ?_
    refine x_iload F dX7_swap_16 rfl ?_
    refine x_V2 F (m_X7_isPlace hZ0 hr2 hp2) mlX7_126 mvX7_isPlace rfl dX7_swap_18 (by decide) rfl ⟨Nat.le_of_ble_eq_true rfl, Nat.le_of_ble_eq_true rfl⟩ ⟨Nat.zero_le _, Nat.zero_le _⟩ (Nat.le_of_ble_eq_true rfl) ?_
    refine xb_if_ne (tgt := 30) F dX7_swap_21 (by decide) (fun h_2 => ?_) (fun h_2 => ?_)
    · have hin2 : (0 ≤ r2 ∧ r2 ≤ 3) ∧ 0 ≤ p2 ∧ p2 < zI M r2 := h_2
      refine x_aload_n F dX7_swap_30 rfl ?_
      refine x_V0 F (m_X7_save hs) mlX7_67 mvX7_save rfl dX7_swap_31 (by decide) rfl ⟨Nat.le_of_ble_eq_true rfl, Nat.le_of_ble_eq_true rfl⟩ ⟨Nat.zero_le _, Nat.zero_le _⟩ (Nat.le_of_ble_eq_true rfl) ?_
      have hZ2 : okZ (svZ (upI M 68 5 (jI 0))) := okZ_sv hZ0
      have hzs : ∀ k, zI (svZ (upI M 68 5 (jI 0))) k = zI M k := svZ_zI _
      have hzr := hZ.1 r (by omega) (by omega)
      have hzr2 := hZ.1 r2 (by omega) (by omega)
      refine x_aload_n F dX7_swap_34 rfl ?_
      refine xj_bipush F dX7_swap_35 (by decide) ?_
      refine x_iload_n F dX7_swap_37 rfl ?_
      refine xj_imul F dX7_swap_38 ?_
      refine x_iload_n F dX7_swap_39 rfl ?_
      refine xj_iadd F dX7_swap_40 ?_
      refine xj_bipush F dX7_swap_41 (by decide) ?_
      refine x_iload_n F dX7_swap_43 rfl ?_
      refine xj_imul F dX7_swap_44 ?_
      refine x_iload F dX7_swap_45 rfl ?_
      refine xj_iadd F dX7_swap_47 ?_
      refine x_V2 F (m_X7_exchange (by omega) (by omega)) mlX7_110 mvX7_exchange rfl dX7_swap_48 (by decide) rfl ⟨Nat.le_of_ble_eq_true rfl, Nat.le_of_ble_eq_true rfl⟩ ⟨Nat.zero_le _, Nat.zero_le _⟩ (Nat.le_of_ble_eq_true rfl) ?_
      refine x_aload_n F dX7_swap_51 rfl ?_
      refine x_getc (v := 69) F flX7_7 rfl dX7_swap_52 (by decide) (by decide) rfl rfl ?_
      refine xj_bipush F dX7_swap_55 (by decide) ?_
      refine x_dup2 F dX7_swap_57 rfl rfl ?_
      refine xj_lald2 F rfl dX7_swap_58 (by omega) (fun hg_3 => ?_)
      refine xj_iconst F dX7_swap_59 ?_
      refine xj_iadd F dX7_swap_60 ?_
      refine xj_iast F rfl dX7_swap_61 (by omega) ?_
      have hZ3 : okZ (swZ (svZ (upI M 68 5 (jI 0))) r p r2 p2) := okZ_sw hZ2 (by omega) (by omega)
      refine x_aload_n F dX7_swap_62 rfl ?_
      refine x_V0 F (m_X7_odd hZ3) mlX7_133 mvX7_odd rfl dX7_swap_63 (by decide) rfl ⟨Nat.le_of_ble_eq_true rfl, Nat.le_of_ble_eq_true rfl⟩ ⟨Nat.zero_le _, Nat.zero_le _⟩ (Nat.le_of_ble_eq_true rfl) ?_
      refine x_iret F FR dX7_swap_66 rfl (Nat.le_refl _) (Nat.le_refl _) ?_
      first
        | (have hX : swY M r p r2 p2 = 1 := (by unfold swY; (repeat' split) <;> first | rfl | omega); exact ⟨fun z9 => absurd (hX.symm.trans z9) (by decide), fun _ => ⟨rfl, by rw [hX]; rfl⟩⟩)
        | (have hX : swY M r p r2 p2 = 0 := (by unfold swY; (repeat' split) <;> first | rfl | omega); exact ⟨fun _ => ⟨rfl, rfl⟩, fun z9 => absurd hX z9⟩)
    · have hin2 : ¬ ((0 ≤ r2 ∧ r2 ≤ 3) ∧ 0 ≤ p2 ∧ p2 < zI M r2) := h_2
      refine x_aload_n F dX7_swap_24 rfl ?_
      refine xj_iconst F dX7_swap_25 ?_
      refine x_V1 F (m_X7_fails) mlX7_55 mvX7_fails rfl dX7_swap_26 (by decide) rfl ⟨Nat.le_of_ble_eq_true rfl, Nat.le_of_ble_eq_true rfl⟩ ⟨Nat.zero_le _, Nat.zero_le _⟩ (Nat.le_of_ble_eq_true rfl) ?_
      refine x_iret F FR dX7_swap_29 rfl (Nat.le_refl _) (Nat.le_refl _) ?_
      first
        | (have hX : swY M r p r2 p2 = 1 := (by unfold swY; (repeat' split) <;> first | rfl | omega); exact ⟨fun z9 => absurd (hX.symm.trans z9) (by decide), fun _ => ⟨rfl, by rw [hX]; rfl⟩⟩)
        | (have hX : swY M r p r2 p2 = 0 := (by unfold swY; (repeat' split) <;> first | rfl | omega); exact ⟨fun _ => ⟨rfl, rfl⟩, fun z9 => absurd hX z9⟩)
set_option maxRecDepth 20000 in
theorem m_X7_sort {l : Launch} {E : xE} {r z : Int} {M : xM} (hZ : okZ M) (hs : 0 ≤ (M.1 68 2).toInt ∧ (M.1 68 2).toInt ≤ 6) (hr : rg r) (hz : rg z) : XP l E 8 yX7_sort cX7_sort 3 (some FieldType.int) [vA 68, vI (jI r), vI (jI z)] M (fun r' M' => (rwY r 0 2 z = 0 → r' = vI (jI (dcZ (soZ (svZ (t0 M)) r z (zI (svZ (t0 M)) r).toNat) r)) ∧ M' = soZ (svZ (t0 M)) r z (zI (svZ (t0 M)) r).toNat) ∧ (rwY r 0 2 z ≠ 0 → r' = vI (jI 0) ∧ M' = upI (t0 M) 68 5 (jI (rwY r 0 2 z)))) := by
  refine xp_start (plainFor_of_name (by decide)) rfl (Nat.le_of_ble_eq_true rfl) ?_
  intro Y F FR
  have hZ0 : okZ (upI M 68 5 (jI 0)) := hZ
  refine x_aload_n F dX7_sort_0 rfl ?_
  refine xj_iconst F dX7_sort_1 ?_
  refine x_puti F flX7_40 rfl dX7_sort_2 (by decide) (by decide) rfl fw7_5 rfl rfl ?_
  refine x_iload_n F dX7_sort_5 rfl ?_
  refine x_S1 F (m_X7_isRow (by first | assumption | omega | decide)) mlX7_48 msX7_isRow dX7_sort_6 ⟨Nat.le_of_ble_eq_true rfl, Nat.le_of_ble_eq_true rfl⟩ ⟨Nat.zero_le _, Nat.zero_le _⟩ (Nat.le_of_ble_eq_true rfl) ?_
  refine xb_if_ne (tgt := 18) F dX7_sort_9 (by decide) (fun h_1 => ?_) (fun h_1 => ?_)
  · refine x_iload_n F dX7_sort_18 rfl ?_
    refine xj_iconst F dX7_sort_19 ?_
    refine xj_iconst F dX7_sort_20 ?_
    refine x_S3 F (m_X7_in (by first | assumption | omega | decide) (by first | assumption | omega | decide) (by first | assumption | omega | decide)) mlX7_44 msX7_in dX7_sort_21 ⟨Nat.le_of_ble_eq_true rfl, Nat.le_of_ble_eq_true rfl⟩ ⟨Nat.zero_le _, Nat.zero_le _⟩ (Nat.le_of_ble_eq_true rfl) ?_
    refine xb_if_ne (tgt := 33) F dX7_sort_24 (by decide) (fun h_2 => ?_) (fun h_2 => ?_)
    · refine x_aload_n F dX7_sort_33 rfl ?_
      refine x_V0 F (m_X7_save hs) mlX7_67 mvX7_save rfl dX7_sort_34 (by decide) rfl ⟨Nat.le_of_ble_eq_true rfl, Nat.le_of_ble_eq_true rfl⟩ ⟨Nat.zero_le _, Nat.zero_le _⟩ (Nat.le_of_ble_eq_true rfl) ?_
      have hZ2 : okZ (svZ (upI M 68 5 (jI 0))) := okZ_sv hZ0
      have hzs : ∀ k, zI (svZ (upI M 68 5 (jI 0))) k = zI M k := svZ_zI _
      refine x_aload_n F dX7_sort_37 rfl ?_
      refine x_iload_n F dX7_sort_38 rfl ?_
      refine x_iload_n F dX7_sort_39 rfl ?_
      refine x_V2 F (m_X7_sortNow (by omega) (hZ2.1 r (by omega) (by omega)) (by omega)) mlX7_139 mvX7_sortNow rfl dX7_sort_40 (by decide) rfl ⟨Nat.le_of_ble_eq_true rfl, Nat.le_of_ble_eq_true rfl⟩ ⟨Nat.zero_le _, Nat.zero_le _⟩ (Nat.le_of_ble_eq_true rfl) ?_
      have hZ3 : okZ (soZ (svZ (upI M 68 5 (jI 0))) r z (zI (svZ (upI M 68 5 (jI 0))) r).toNat) := okZ_so hZ2 (by omega) _
      refine x_aload_n F dX7_sort_43 rfl ?_
      refine x_iload_n F dX7_sort_44 rfl ?_
      refine x_V1 F (m_X7_discord hZ3 (by omega)) mlX7_142 mvX7_discord rfl dX7_sort_45 (by decide) rfl ⟨Nat.le_of_ble_eq_true rfl, Nat.le_of_ble_eq_true rfl⟩ ⟨Nat.zero_le _, Nat.zero_le _⟩ (Nat.le_of_ble_eq_true rfl) ?_
      refine x_iret F FR dX7_sort_48 rfl (Nat.le_refl _) (Nat.le_refl _) ?_
      first
        | (have hX : rwY r 0 2 z = 1 := (by unfold rwY; (repeat' split) <;> first | rfl | omega); exact ⟨fun z9 => absurd (hX.symm.trans z9) (by decide), fun _ => ⟨rfl, by rw [hX]; rfl⟩⟩)
        | (have hX : rwY r 0 2 z = 2 := (by unfold rwY; (repeat' split) <;> first | rfl | omega); exact ⟨fun z9 => absurd (hX.symm.trans z9) (by decide), fun _ => ⟨rfl, by rw [hX]; rfl⟩⟩)
        | (have hX : rwY r 0 2 z = 0 := (by unfold rwY; (repeat' split) <;> first | rfl | omega); exact ⟨fun _ => ⟨rfl, rfl⟩, fun z9 => absurd hX z9⟩)
    · refine x_aload_n F dX7_sort_27 rfl ?_
      refine xj_iconst F dX7_sort_28 ?_
      refine x_V1 F (m_X7_fails) mlX7_55 mvX7_fails rfl dX7_sort_29 (by decide) rfl ⟨Nat.le_of_ble_eq_true rfl, Nat.le_of_ble_eq_true rfl⟩ ⟨Nat.zero_le _, Nat.zero_le _⟩ (Nat.le_of_ble_eq_true rfl) ?_
      refine x_iret F FR dX7_sort_32 rfl (Nat.le_refl _) (Nat.le_refl _) ?_
      first
        | (have hX : rwY r 0 2 z = 1 := (by unfold rwY; (repeat' split) <;> first | rfl | omega); exact ⟨fun z9 => absurd (hX.symm.trans z9) (by decide), fun _ => ⟨rfl, by rw [hX]; rfl⟩⟩)
        | (have hX : rwY r 0 2 z = 2 := (by unfold rwY; (repeat' split) <;> first | rfl | omega); exact ⟨fun z9 => absurd (hX.symm.trans z9) (by decide), fun _ => ⟨rfl, by rw [hX]; rfl⟩⟩)
        | (have hX : rwY r 0 2 z = 0 := (by unfold rwY; (repeat' split) <;> first | rfl | omega); exact ⟨fun _ => ⟨rfl, rfl⟩, fun z9 => absurd hX z9⟩)
  · refine x_aload_n F dX7_sort_12 rfl ?_
    refine xj_iconst F dX7_sort_13 ?_
    refine x_V1 F (m_X7_fails) mlX7_55 mvX7_fails rfl dX7_sort_14 (by decide) rfl ⟨Nat.le_of_ble_eq_true rfl, Nat.le_of_ble_eq_true rfl⟩ ⟨Nat.zero_le _, Nat.zero_le _⟩ (Nat.le_of_ble_eq_true rfl) ?_
    refine x_iret F FR dX7_sort_17 rfl (Nat.le_refl _) (Nat.le_refl _) ?_
    first
      | (have hX : rwY r 0 2 z = 1 := (by unfold rwY; (repeat' split) <;> first | rfl | omega); exact ⟨fun z9 => absurd (hX.symm.trans z9) (by decide), fun _ => ⟨rfl, by rw [hX]; rfl⟩⟩)
      | (have hX : rwY r 0 2 z = 2 := (by unfold rwY; (repeat' split) <;> first | rfl | omega); exact ⟨fun z9 => absurd (hX.symm.trans z9) (by decide), fun _ => ⟨rfl, by rw [hX]; rfl⟩⟩)
      | (have hX : rwY r 0 2 z = 0 := (by unfold rwY; (repeat' split) <;> first | rfl | omega); exact ⟨fun _ => ⟨rfl, rfl⟩, fun z9 => absurd hX z9⟩)
set_option maxRecDepth 20000 in
theorem m_X7_set {l : Launch} {E : xE} {s x : Int} {M : xM} (hZ : okZ M) (hs : 0 ≤ (M.1 68 2).toInt ∧ (M.1 68 2).toInt ≤ 6) (hs1 : rg s) (hx : rg x) : XP l E 8 yX7_set cX7_set 4 (some FieldType.int) [vA 68, vI (jI s), vI (jI x)] M (fun r' M' => (seY s x = 0 → r' = vI (jI (zI (svZ (t0 M)) (76 + s))) ∧ M' = upI (svZ (t0 M)) 69 (76 + s).toNat (jI x)) ∧ (seY s x ≠ 0 → r' = vI (jI 0) ∧ M' = upI (t0 M) 68 5 (jI (seY s x)))) := by
  refine xp_start (plainFor_of_name (by decide)) rfl (Nat.le_of_ble_eq_true rfl) ?_
  intro Y F FR
  have hZ0 : okZ (upI M 68 5 (jI 0)) := hZ
  refine x_aload_n F dX7_set_0 rfl ?_
  refine xj_iconst F dX7_set_1 ?_
  refine x_puti F flX7_40 rfl dX7_set_2 (by decide) (by decide) rfl fw7_5 rfl rfl ?_
  refine x_iload_n F dX7_set_5 rfl ?_
  refine xj_iconst F dX7_set_6 ?_
  refine xj_iconst F dX7_set_7 ?_
  refine x_S3 F (m_X7_in (by first | assumption | omega | decide) (by first | assumption | omega | decide) (by first | assumption | omega | decide)) mlX7_44 msX7_in dX7_set_8 ⟨Nat.le_of_ble_eq_true rfl, Nat.le_of_ble_eq_true rfl⟩ ⟨Nat.zero_le _, Nat.zero_le _⟩ (Nat.le_of_ble_eq_true rfl) ?_
  refine xb_if_ne (tgt := 20) F dX7_set_11 (by decide) (fun h_1 => ?_) (fun h_1 => ?_)
  · refine x_iload_n F dX7_set_20 rfl ?_
    refine xj_if_ne (tgt := 37) F dX7_set_21 (by decide) (by omega) (fun h_2 => ?_) (fun h_2 => ?_)
    · refine x_iload_n F dX7_set_37 rfl ?_
      refine xj_iconst F dX7_set_38 ?_
      refine xj_iconst F dX7_set_39 ?_
      refine x_S3 F (m_X7_in (by first | assumption | omega | decide) (by first | assumption | omega | decide) (by first | assumption | omega | decide)) mlX7_44 msX7_in dX7_set_40 ⟨Nat.le_of_ble_eq_true rfl, Nat.le_of_ble_eq_true rfl⟩ ⟨Nat.zero_le _, Nat.zero_le _⟩ (Nat.le_of_ble_eq_true rfl) ?_
      refine xb_if_ne (tgt := 52) F dX7_set_43 (by decide) (fun h_3 => ?_) (fun h_3 => ?_)
      · refine x_aload_n F dX7_set_52 rfl ?_
        refine x_V0 F (m_X7_save hs) mlX7_67 mvX7_save rfl dX7_set_53 (by decide) rfl ⟨Nat.le_of_ble_eq_true rfl, Nat.le_of_ble_eq_true rfl⟩ ⟨Nat.zero_le _, Nat.zero_le _⟩ (Nat.le_of_ble_eq_true rfl) ?_
        refine x_aload_n F dX7_set_56 rfl ?_
        refine x_getc (v := 69) F flX7_7 rfl dX7_set_57 (by decide) (by decide) rfl rfl ?_
        refine xj_bipush F dX7_set_60 (by decide) ?_
        refine x_iload_n F dX7_set_62 rfl ?_
        refine xj_iadd F dX7_set_63 ?_
        refine xj_lald2 F rfl dX7_set_64 (by omega) (fun hg_4 => ?_)
        refine x_istore_n F dX7_set_65 (by decide) ?_
        refine x_aload_n F dX7_set_66 rfl ?_
        refine x_getc (v := 69) F flX7_7 rfl dX7_set_67 (by decide) (by decide) rfl rfl ?_
        refine xj_bipush F dX7_set_70 (by decide) ?_
        refine x_iload_n F dX7_set_72 rfl ?_
        refine xj_iadd F dX7_set_73 ?_
        refine x_iload_n F dX7_set_74 rfl ?_
        refine xj_iast F rfl dX7_set_75 (by omega) ?_
        refine x_iload_n F dX7_set_76 rfl ?_
        refine x_iret F FR dX7_set_77 rfl (Nat.le_refl _) (Nat.le_refl _) ?_
        first
          | (have hX : seY s x = 1 := (by unfold seY; (repeat' split) <;> first | rfl | omega); exact ⟨fun z9 => absurd (hX.symm.trans z9) (by decide), fun _ => ⟨rfl, by rw [hX]; rfl⟩⟩)
          | (have hX : seY s x = 2 := (by unfold seY; (repeat' split) <;> first | rfl | omega); exact ⟨fun z9 => absurd (hX.symm.trans z9) (by decide), fun _ => ⟨rfl, by rw [hX]; rfl⟩⟩)
          | (have hX : seY s x = 0 := (by unfold seY; (repeat' split) <;> first | rfl | omega); exact ⟨fun _ => ⟨rfl, rfl⟩, fun z9 => absurd hX z9⟩)
      · refine x_aload_n F dX7_set_46 rfl ?_
        refine xj_iconst F dX7_set_47 ?_
        refine x_V1 F (m_X7_fails) mlX7_55 mvX7_fails rfl dX7_set_48 (by decide) rfl ⟨Nat.le_of_ble_eq_true rfl, Nat.le_of_ble_eq_true rfl⟩ ⟨Nat.zero_le _, Nat.zero_le _⟩ (Nat.le_of_ble_eq_true rfl) ?_
        refine x_iret F FR dX7_set_51 rfl (Nat.le_refl _) (Nat.le_refl _) ?_
        first
          | (have hX : seY s x = 1 := (by unfold seY; (repeat' split) <;> first | rfl | omega); exact ⟨fun z9 => absurd (hX.symm.trans z9) (by decide), fun _ => ⟨rfl, by rw [hX]; rfl⟩⟩)
          | (have hX : seY s x = 2 := (by unfold seY; (repeat' split) <;> first | rfl | omega); exact ⟨fun z9 => absurd (hX.symm.trans z9) (by decide), fun _ => ⟨rfl, by rw [hX]; rfl⟩⟩)
          | (have hX : seY s x = 0 := (by unfold seY; (repeat' split) <;> first | rfl | omega); exact ⟨fun _ => ⟨rfl, rfl⟩, fun z9 => absurd hX z9⟩)
    · refine x_iload_n F dX7_set_24 rfl ?_
      refine xj_iconst F dX7_set_25 ?_
      refine xj_bipush F dX7_set_26 (by decide) ?_
      refine x_S3 F (m_X7_in (by first | assumption | omega | decide) (by first | assumption | omega | decide) (by first | assumption | omega | decide)) mlX7_44 msX7_in dX7_set_28 ⟨Nat.le_of_ble_eq_true rfl, Nat.le_of_ble_eq_true rfl⟩ ⟨Nat.zero_le _, Nat.zero_le _⟩ (Nat.le_of_ble_eq_true rfl) ?_
      refine xb_if_eq (tgt := 46) F dX7_set_31 (by decide) (fun h_5 => ?_) (fun h_5 => ?_)
      · refine x_aload_n F dX7_set_46 rfl ?_
        refine xj_iconst F dX7_set_47 ?_
        refine x_V1 F (m_X7_fails) mlX7_55 mvX7_fails rfl dX7_set_48 (by decide) rfl ⟨Nat.le_of_ble_eq_true rfl, Nat.le_of_ble_eq_true rfl⟩ ⟨Nat.zero_le _, Nat.zero_le _⟩ (Nat.le_of_ble_eq_true rfl) ?_
        refine x_iret F FR dX7_set_51 rfl (Nat.le_refl _) (Nat.le_refl _) ?_
        first
          | (have hX : seY s x = 1 := (by unfold seY; (repeat' split) <;> first | rfl | omega); exact ⟨fun z9 => absurd (hX.symm.trans z9) (by decide), fun _ => ⟨rfl, by rw [hX]; rfl⟩⟩)
          | (have hX : seY s x = 2 := (by unfold seY; (repeat' split) <;> first | rfl | omega); exact ⟨fun z9 => absurd (hX.symm.trans z9) (by decide), fun _ => ⟨rfl, by rw [hX]; rfl⟩⟩)
          | (have hX : seY s x = 0 := (by unfold seY; (repeat' split) <;> first | rfl | omega); exact ⟨fun _ => ⟨rfl, rfl⟩, fun z9 => absurd hX z9⟩)
      · refine x_goto (tgt := 52) F dX7_set_34 (by decide) ?_
        refine x_aload_n F dX7_set_52 rfl ?_
        refine x_V0 F (m_X7_save hs) mlX7_67 mvX7_save rfl dX7_set_53 (by decide) rfl ⟨Nat.le_of_ble_eq_true rfl, Nat.le_of_ble_eq_true rfl⟩ ⟨Nat.zero_le _, Nat.zero_le _⟩ (Nat.le_of_ble_eq_true rfl) ?_
        refine x_aload_n F dX7_set_56 rfl ?_
        refine x_getc (v := 69) F flX7_7 rfl dX7_set_57 (by decide) (by decide) rfl rfl ?_
        refine xj_bipush F dX7_set_60 (by decide) ?_
        refine x_iload_n F dX7_set_62 rfl ?_
        refine xj_iadd F dX7_set_63 ?_
        refine xj_lald2 F rfl dX7_set_64 (by omega) (fun hg_6 => ?_)
        refine x_istore_n F dX7_set_65 (by decide) ?_
        refine x_aload_n F dX7_set_66 rfl ?_
        refine x_getc (v := 69) F flX7_7 rfl dX7_set_67 (by decide) (by decide) rfl rfl ?_
        refine xj_bipush F dX7_set_70 (by decide) ?_
        refine x_iload_n F dX7_set_72 rfl ?_
        refine xj_iadd F dX7_set_73 ?_
        refine x_iload_n F dX7_set_74 rfl ?_
        refine xj_iast F rfl dX7_set_75 (by omega) ?_
        refine x_iload_n F dX7_set_76 rfl ?_
        refine x_iret F FR dX7_set_77 rfl (Nat.le_refl _) (Nat.le_refl _) ?_
        first
          | (have hX : seY s x = 1 := (by unfold seY; (repeat' split) <;> first | rfl | omega); exact ⟨fun z9 => absurd (hX.symm.trans z9) (by decide), fun _ => ⟨rfl, by rw [hX]; rfl⟩⟩)
          | (have hX : seY s x = 2 := (by unfold seY; (repeat' split) <;> first | rfl | omega); exact ⟨fun z9 => absurd (hX.symm.trans z9) (by decide), fun _ => ⟨rfl, by rw [hX]; rfl⟩⟩)
          | (have hX : seY s x = 0 := (by unfold seY; (repeat' split) <;> first | rfl | omega); exact ⟨fun _ => ⟨rfl, rfl⟩, fun z9 => absurd hX z9⟩)
  · refine x_aload_n F dX7_set_14 rfl ?_
    refine xj_iconst F dX7_set_15 ?_
    refine x_V1 F (m_X7_fails) mlX7_55 mvX7_fails rfl dX7_set_16 (by decide) rfl ⟨Nat.le_of_ble_eq_true rfl, Nat.le_of_ble_eq_true rfl⟩ ⟨Nat.zero_le _, Nat.zero_le _⟩ (Nat.le_of_ble_eq_true rfl) ?_
    refine x_iret F FR dX7_set_19 rfl (Nat.le_refl _) (Nat.le_refl _) ?_
    first
      | (have hX : seY s x = 1 := (by unfold seY; (repeat' split) <;> first | rfl | omega); exact ⟨fun z9 => absurd (hX.symm.trans z9) (by decide), fun _ => ⟨rfl, by rw [hX]; rfl⟩⟩)
      | (have hX : seY s x = 2 := (by unfold seY; (repeat' split) <;> first | rfl | omega); exact ⟨fun z9 => absurd (hX.symm.trans z9) (by decide), fun _ => ⟨rfl, by rw [hX]; rfl⟩⟩)
      | (have hX : seY s x = 0 := (by unfold seY; (repeat' split) <;> first | rfl | omega); exact ⟨fun _ => ⟨rfl, rfl⟩, fun z9 => absurd hX z9⟩)
set_option maxRecDepth 20000 in
theorem m_X7_append {l : Launch} {E : xE} {x : Int} {M : xM} (hZ : okZ M) (hx : rg x) (hl : 0 ≤ (M.1 68 11).toInt ∧ (M.1 68 11).toInt ≤ 60) : XP l E 8 yX7_append cX7_append 2 (some FieldType.int) [vA 68, vI (jI x)] M (fun r' M' => (apY M x = 0 → r' = vI (jI ((apZ (t0 M) x).1 68 11).toInt) ∧ M' = apZ (t0 M) x) ∧ (apY M x ≠ 0 → r' = vI (jI 0) ∧ M' = upI (t0 M) 68 5 (jI (apY M x)))) := by
  refine xp_start (plainFor_of_name (by decide)) rfl (Nat.le_of_ble_eq_true rfl) ?_
  intro Y F FR
  have hZ0 : okZ (upI M 68 5 (jI 0)) := hZ
  have hl0 : ((upI M 68 5 (jI 0)).1 68 11).toInt = (M.1 68 11).toInt := rfl
  have hl1 : ∀ (N : xM) k y, ((upI N 74 k y).1 68 11) = N.1 68 11 := fun N k y => by rw [upI_row (by decide)]
  refine x_aload_n F dX7_append_0 rfl ?_
  refine xj_iconst F dX7_append_1 ?_
  refine x_puti F flX7_40 rfl dX7_append_2 (by decide) (by decide) rfl fw7_5 rfl rfl ?_
  refine x_iload_n F dX7_append_5 rfl ?_
  refine xj_bipush F dX7_append_6 (by decide) ?_
  refine xj_bipush F dX7_append_8 (by decide) ?_
  refine x_S3 F (m_X7_in (by first | assumption | omega | decide) (by first | assumption | omega | decide) (by first | assumption | omega | decide)) mlX7_44 msX7_in dX7_append_10 ⟨Nat.le_of_ble_eq_true rfl, Nat.le_of_ble_eq_true rfl⟩ ⟨Nat.zero_le _, Nat.zero_le _⟩ (Nat.le_of_ble_eq_true rfl) ?_
  refine xb_if_ne (tgt := 22) F dX7_append_13 (by decide) (fun h_1 => ?_) (fun h_1 => ?_)
  · refine x_aload_n F dX7_append_22 rfl ?_
    refine xj_geti F flX7_145 rfl dX7_append_23 (by decide) (by decide) rfl (fun hg_2 => ?_)
    refine xj_bipush F dX7_append_26 (by decide) ?_
    refine xj_icmp_ne (tgt := 37) F dX7_append_28 (by decide) (by omega) (fun h_3 => ?_) (fun h_3 => ?_)
    · refine x_aload_n F dX7_append_37 rfl ?_
      refine x_getc (v := 74) F flX7_25 rfl dX7_append_38 (by decide) (by decide) rfl rfl ?_
      refine x_aload_n F dX7_append_41 rfl ?_
      refine xj_geti F flX7_145 rfl dX7_append_42 (by decide) (by decide) rfl (fun hg_4 => ?_)
      refine x_iload_n F dX7_append_45 rfl ?_
      refine xj_iast F rfl dX7_append_46 (by omega) ?_
      refine x_aload_n F dX7_append_47 rfl ?_
      refine x_dup F dX7_append_48 rfl ?_
      refine xj_geti F flX7_145 rfl dX7_append_49 (by decide) (by decide) rfl (fun hg_5 => ?_)
      refine xj_iconst F dX7_append_52 ?_
      rw [hl1]
      refine xj_iadd F dX7_append_53 ?_
      refine x_puti F flX7_145 rfl dX7_append_54 (by decide) (by decide) rfl fw7_11 rfl rfl ?_
      refine x_aload_n F dX7_append_57 rfl ?_
      refine xj_geti F flX7_145 rfl dX7_append_58 (by decide) (by decide) rfl (fun hg_6 => ?_)
      refine x_iret F FR dX7_append_61 rfl (Nat.le_refl _) (Nat.le_refl _) ?_
      first
        | (have hX : apY M x = 1 := (by unfold apY; (repeat' split) <;> first | rfl | omega); exact ⟨fun z9 => absurd (hX.symm.trans z9) (by decide), fun _ => ⟨rfl, by rw [hX]; rfl⟩⟩)
        | (have hX : apY M x = 2 := (by unfold apY; (repeat' split) <;> first | rfl | omega); exact ⟨fun z9 => absurd (hX.symm.trans z9) (by decide), fun _ => ⟨rfl, by rw [hX]; rfl⟩⟩)
        | (have hX : apY M x = 0 := (by unfold apY; (repeat' split) <;> first | rfl | omega); exact ⟨fun _ => ⟨rfl, rfl⟩, fun z9 => absurd hX z9⟩)
    · refine x_aload_n F dX7_append_31 rfl ?_
      refine xj_iconst F dX7_append_32 ?_
      refine x_V1 F (m_X7_fails) mlX7_55 mvX7_fails rfl dX7_append_33 (by decide) rfl ⟨Nat.le_of_ble_eq_true rfl, Nat.le_of_ble_eq_true rfl⟩ ⟨Nat.zero_le _, Nat.zero_le _⟩ (Nat.le_of_ble_eq_true rfl) ?_
      refine x_iret F FR dX7_append_36 rfl (Nat.le_refl _) (Nat.le_refl _) ?_
      first
        | (have hX : apY M x = 1 := (by unfold apY; (repeat' split) <;> first | rfl | omega); exact ⟨fun z9 => absurd (hX.symm.trans z9) (by decide), fun _ => ⟨rfl, by rw [hX]; rfl⟩⟩)
        | (have hX : apY M x = 2 := (by unfold apY; (repeat' split) <;> first | rfl | omega); exact ⟨fun z9 => absurd (hX.symm.trans z9) (by decide), fun _ => ⟨rfl, by rw [hX]; rfl⟩⟩)
        | (have hX : apY M x = 0 := (by unfold apY; (repeat' split) <;> first | rfl | omega); exact ⟨fun _ => ⟨rfl, rfl⟩, fun z9 => absurd hX z9⟩)
  · refine x_aload_n F dX7_append_16 rfl ?_
    refine xj_iconst F dX7_append_17 ?_
    refine x_V1 F (m_X7_fails) mlX7_55 mvX7_fails rfl dX7_append_18 (by decide) rfl ⟨Nat.le_of_ble_eq_true rfl, Nat.le_of_ble_eq_true rfl⟩ ⟨Nat.zero_le _, Nat.zero_le _⟩ (Nat.le_of_ble_eq_true rfl) ?_
    refine x_iret F FR dX7_append_21 rfl (Nat.le_refl _) (Nat.le_refl _) ?_
    first
      | (have hX : apY M x = 1 := (by unfold apY; (repeat' split) <;> first | rfl | omega); exact ⟨fun z9 => absurd (hX.symm.trans z9) (by decide), fun _ => ⟨rfl, by rw [hX]; rfl⟩⟩)
      | (have hX : apY M x = 2 := (by unfold apY; (repeat' split) <;> first | rfl | omega); exact ⟨fun z9 => absurd (hX.symm.trans z9) (by decide), fun _ => ⟨rfl, by rw [hX]; rfl⟩⟩)
      | (have hX : apY M x = 0 := (by unfold apY; (repeat' split) <;> first | rfl | omega); exact ⟨fun _ => ⟨rfl, rfl⟩, fun z9 => absurd hX z9⟩)
