/-! THE MODEL: the best row, the share, its bits -/
def gB (M M' : xM) : Prop := (∀ a, a ≠ 69 → M'.1 a = M.1 a) ∧ M'.2 = M.2 ∧ eqV (vW M) (vW M') 1 1
theorem okZ_v {M M' : xM} (h : eqV (vW M) (vW M') 1 1) (hZ : okZ M) : okZ M' := by
  have e : ∀ k : Nat, 4 ≤ k → k ≤ 8 → zI M' ((72 + k : Nat) : Int) = zI M ((72 + k : Nat) : Int) := fun k h4 h8 => by
    have : M'.1 69 (72 + k) = M.1 69 (72 + k) := h.2.2 k h4 h8
    unfold zI
    rw [Int.toNat_natCast, this]
  have e6 := e 4 (by decide) (by decide)
  have e7 := e 5 (by decide) (by decide)
  refine ⟨fun r h0 h1 => ?_, ?_, ?_⟩
  · have := szI_v h r
    rw [vW_sz M' ⟨h0, h1⟩, vW_sz M ⟨h0, h1⟩] at this
    rw [this]; exact hZ.1 r h0 h1
  · show 1 ≤ zI M' ((72 + 4 : Nat) : Int) ∧ zI M' ((72 + 4 : Nat) : Int) ≤ 6
    rw [e6]; exact hZ.2.1
  · show 0 ≤ zI M' ((72 + 5 : Nat) : Int) ∧ zI M' ((72 + 5 : Nat) : Int) ≤ 1
    rw [e7]; exact hZ.2.2
theorem zI_v {M M' : xM} (h : eqV (vW M) (vW M') 1 1) {r : Int} (hr : 0 ≤ r ∧ r < 4) : zI M' r = zI M r := by
  have := szI_v h r
  rwa [vW_sz M' hr, vW_sz M hr] at this
theorem eqV_rfl (M : xM) (c : Nat) : eqV M M c c := ⟨fun _ _ => rfl, fun _ _ _ _ _ _ => ⟨rfl, rfl, rfl⟩, fun _ _ _ => rfl⟩
theorem gB_rfl (M : xM) : gB M M := ⟨fun _ _ => rfl, rfl, eqV_rfl _ _⟩
theorem gB_ou {M0 M : xM} {r h : Int} (hZ : okZ M) (hr : 0 ≤ r ∧ r < 4) (hs : zI M r < 6) (hg : gB M0 M) : gB M0 (ouZ M r h) := by
  have hz := hZ.1 r hr.1 hr.2
  have o := owZ_69 (M := M) (h := h) hr (by omega)
  have hz9 : zI (owZ M r h) r = zI M r + 1 := by
    show ((owZ M r h).1 69 r.toNat).toInt = _
    rw [o, if_pos rfl, jI_toInt (by omega)]
  have hrow : ∀ a, a ≠ 69 → (ouZ M r h).1 a = M.1 a := fun a ha => by
    unfold ouZ owZ
    dsimp only
    rw [upI_row ha, upI_row ha, upI_row ha, upI_row ha]
  have hj : ∀ j : Nat, (j : Int) ≠ 28 + 6 * r + zI M r → (ouZ M r h).1 69 j = M.1 69 j := fun j hj => by
    unfold ouZ
    rw [hz9, upI_1, if_neg (fun z => by have h3 : j = (28 + 6 * r + zI M r).toNat := z.2; omega), upI_1]
    by_cases h1 : j = r.toNat
    · rw [if_pos ⟨rfl, h1⟩, show zI M r + 1 - 1 = zI M r by omega, h1]; exact jI_of _
    · rw [if_neg (fun z => h1 z.2), o, if_neg h1, if_neg hj]
  refine ⟨fun a ha => (hrow a ha).trans (hg.1 a ha), hg.2.1, eqV_trans hg.2.2 ⟨fun j hj4 => ?_, fun r9 p9 h0 h1 h2 h3 => ?_, fun j h4 h8 => ?_⟩⟩
  · exact hj j (by omega)
  · rw [vW_sz M ⟨h0, h1⟩] at h3
    have hz9 := hZ.1 r9 h0 h1
    refine ⟨hj _ (by omega), hj _ ?_, hj _ (by omega)⟩
    by_cases e : r9 = r
    · subst e; omega
    · omega
  · exact hj _ (by omega)
theorem ow_g {M0 M : xM} {r h : Int} (hZ : okZ M0) (hr : 0 ≤ r ∧ r < 4) (hs : zI M0 r < 6) (hg : gB M0 M) : oaZ (owZ M r h) = oaZ (owZ M0 r h) := by
  have hZM := okZ_v hg.2.2 hZ
  have hS := vW_hS hZ
  rw [oaZ_ow hZM hr (by rw [zI_v hg.2.2 hr]; exact hs), oaZ_ow hZ hr hs]
  exact oaI_v (arM_v hg.2.2 hS hr (by rw [vW_sz M0 hr]; exact hs) h 0) (hS_arM hS hr (by rw [vW_sz M0 hr]; exact hs) _ _)
set_option maxRecDepth 20000 in
theorem L_X7_bestRowFor {l : Launch} {E : xE} {h : Int} {M0 : xM} (hZ : okZ M0) {Y : xY} (F : xFix E (xA E) Y cX7_bestRowFor yX7_bestRowFor.cls 6) (FR : xRet E Y (some FieldType.int) 0 0 (fun r' M' => r' = vI (jI (rzF M0 h 4).2) ∧ gB M0 M') (fun _ _ => False)) : ∀ (k : Nat) (n : Nat) (M : xM) (y : xV), (gB M0 M ∧ (-1 ≤ (rzF M0 h n).1 ∧ (rzF M0 h n).1 ≤ 24) ∧ (-1 ≤ (rzF M0 h n).2 ∧ (rzF M0 h n).2 < 4)) → n ≤ 4 → 4 - n < k → WP l E (xRm 9 0 0) (xA E) Y 0 0 7 [vA 68, vI (jI h), vI (jI (rzF M0 h n).2), vI (jI (rzF M0 h n).1), vI (jI (n : Int)), y] [] M := by
  intro k
  induction k with
  | zero => intro n M y hI hn hk; exact absurd hk (Nat.not_lt_zero _)
  | succ k ih =>
    intro n M y hI hn hk
    obtain ⟨hg, hb1, hb2⟩ := hI
    have hZM := okZ_v hg.2.2 hZ
    have e0 : (M.1 69 ((n : Int)).toNat).toInt = zI M (n : Int) := rfl
    refine x_iload F dX7_bestRowFor_7 rfl ?_
    refine xj_iconst F dX7_bestRowFor_9 ?_
    refine xj_icmp_ge (tgt := 72) F dX7_bestRowFor_10 (by decide) (by omega) (fun h_1 => ?_) (fun h_1 => ?_)
    · refine x_iload_n F dX7_bestRowFor_72 rfl ?_
      refine x_iret F FR dX7_bestRowFor_73 rfl (Nat.le_refl _) (Nat.le_refl _) ?_
      have e : n = 4 := (by omega)
      subst e
      exact ⟨rfl, hg⟩
    · have hz := hZM.1 (n : Int) (by omega) (by omega)
      have hzv := zI_v hg.2.2 (r := (n : Int)) ⟨by omega, by omega⟩
      refine x_aload_n F dX7_bestRowFor_13 rfl ?_
      refine x_getc (v := 69) F flX7_7 rfl dX7_bestRowFor_14 (by decide) (by decide) rfl rfl ?_
      refine xj_iconst F dX7_bestRowFor_17 ?_
      refine x_iload F dX7_bestRowFor_18 rfl ?_
      refine xj_iadd F dX7_bestRowFor_20 ?_
      rw [Int.zero_add ((n : Int))]
      refine xj_lald2 F rfl dX7_bestRowFor_21 (by omega) (fun hg_2 => ?_)
      rw [e0]
      refine xj_bipush F dX7_bestRowFor_22 (by decide) ?_
      refine xj_icmp_ge (tgt := 37) F dX7_bestRowFor_24 (by decide) (by omega) (fun h_3 => ?_) (fun h_3 => ?_)
      · have zge : 6 ≤ zI M (n : Int) := h_3
        refine xj_iconst F dX7_bestRowFor_37 ?_
        refine x_istore F dX7_bestRowFor_38 (by decide) ?_
        refine x_iload F dX7_bestRowFor_40 rfl ?_
        refine x_iload_n F dX7_bestRowFor_42 rfl ?_
        refine xj_icmp_le (tgt := 51) F dX7_bestRowFor_43 (by decide) (by omega) (fun h_4 => ?_) (fun h_4 => ?_)
        · refine x_iload_n F dX7_bestRowFor_51 rfl ?_
          refine x_istore_n F dX7_bestRowFor_52 (by decide) ?_
          refine x_iload F dX7_bestRowFor_53 rfl ?_
          refine x_iload_n F dX7_bestRowFor_55 rfl ?_
          refine xj_icmp_le (tgt := 64) F dX7_bestRowFor_56 (by decide) (by omega) (fun h_5 => ?_) (fun h_5 => ?_)
          · refine x_iload_n F dX7_bestRowFor_64 rfl ?_
            refine x_istore_n F dX7_bestRowFor_65 (by decide) ?_
            refine xj_iinc F dX7_bestRowFor_66 rfl ?_
            refine x_goto (tgt := 7) F dX7_bestRowFor_69 (by decide) ?_
            first
              | (have zguard := zlt; have hst : rzF M0 h (n + 1) = ((oaZ (owZ M0 (n : Int) h)), (n : Int)) := (by simp only [rzF]; exact if_pos ⟨by omega, by omega⟩); have g := ih (n + 1) _ (vI (jI (oaZ (owZ M0 (n : Int) h)))) ⟨gB_ou (h := h) hZM (by omega) zlt hg, by rw [hst]; exact ⟨by omega, hob.2⟩, by rw [hst]; exact ⟨by show -1 ≤ (n : Int); omega, by show (n : Int) < 4; omega⟩⟩ (by omega) (by omega); rw [hst] at g; exact g)
              | (have zguard := zlt; have hst : rzF M0 h (n + 1) = (rzF M0 h n) := (by simp only [rzF]; exact if_neg (fun z => absurd z.2 (by omega))); have g := ih (n + 1) _ (vI (jI (oaZ (owZ M0 (n : Int) h)))) ⟨gB_ou (h := h) hZM (by omega) zlt hg, by rw [hst]; exact hb1, by rw [hst]; exact hb2⟩ (by omega) (by omega); rw [hst] at g; exact g)
              | (have zguard := zge; have hst : rzF M0 h (n + 1) = (rzF M0 h n) := (by simp only [rzF]; exact if_neg (fun z => absurd z.1 (by omega))); have g := ih (n + 1) _ (vI (jI (-1))) ⟨hg, by rw [hst]; exact hb1, by rw [hst]; exact hb2⟩ (by omega) (by omega); rw [hst] at g; exact g)
              | (exfalso; omega)
          · refine x_iload F dX7_bestRowFor_59 rfl ?_
            refine x_goto (tgt := 65) F dX7_bestRowFor_61 (by decide) ?_
            refine x_istore_n F dX7_bestRowFor_65 (by decide) ?_
            refine xj_iinc F dX7_bestRowFor_66 rfl ?_
            refine x_goto (tgt := 7) F dX7_bestRowFor_69 (by decide) ?_
            first
              | (have zguard := zlt; have hst : rzF M0 h (n + 1) = ((oaZ (owZ M0 (n : Int) h)), (n : Int)) := (by simp only [rzF]; exact if_pos ⟨by omega, by omega⟩); have g := ih (n + 1) _ (vI (jI (oaZ (owZ M0 (n : Int) h)))) ⟨gB_ou (h := h) hZM (by omega) zlt hg, by rw [hst]; exact ⟨by omega, hob.2⟩, by rw [hst]; exact ⟨by show -1 ≤ (n : Int); omega, by show (n : Int) < 4; omega⟩⟩ (by omega) (by omega); rw [hst] at g; exact g)
              | (have zguard := zlt; have hst : rzF M0 h (n + 1) = (rzF M0 h n) := (by simp only [rzF]; exact if_neg (fun z => absurd z.2 (by omega))); have g := ih (n + 1) _ (vI (jI (oaZ (owZ M0 (n : Int) h)))) ⟨gB_ou (h := h) hZM (by omega) zlt hg, by rw [hst]; exact hb1, by rw [hst]; exact hb2⟩ (by omega) (by omega); rw [hst] at g; exact g)
              | (have zguard := zge; have hst : rzF M0 h (n + 1) = (rzF M0 h n) := (by simp only [rzF]; exact if_neg (fun z => absurd z.1 (by omega))); have g := ih (n + 1) _ (vI (jI (-1))) ⟨hg, by rw [hst]; exact hb1, by rw [hst]; exact hb2⟩ (by omega) (by omega); rw [hst] at g; exact g)
              | (exfalso; omega)
        · refine x_iload F dX7_bestRowFor_46 rfl ?_
          refine x_goto (tgt := 52) F dX7_bestRowFor_48 (by decide) ?_
          refine x_istore_n F dX7_bestRowFor_52 (by decide) ?_
          refine x_iload F dX7_bestRowFor_53 rfl ?_
          refine x_iload_n F dX7_bestRowFor_55 rfl ?_
          refine xj_icmp_le (tgt := 64) F dX7_bestRowFor_56 (by decide) (by omega) (fun h_6 => ?_) (fun h_6 => ?_)
          · refine x_iload_n F dX7_bestRowFor_64 rfl ?_
            refine x_istore_n F dX7_bestRowFor_65 (by decide) ?_
            refine xj_iinc F dX7_bestRowFor_66 rfl ?_
            refine x_goto (tgt := 7) F dX7_bestRowFor_69 (by decide) ?_
            first
              | (have zguard := zlt; have hst : rzF M0 h (n + 1) = ((oaZ (owZ M0 (n : Int) h)), (n : Int)) := (by simp only [rzF]; exact if_pos ⟨by omega, by omega⟩); have g := ih (n + 1) _ (vI (jI (oaZ (owZ M0 (n : Int) h)))) ⟨gB_ou (h := h) hZM (by omega) zlt hg, by rw [hst]; exact ⟨by omega, hob.2⟩, by rw [hst]; exact ⟨by show -1 ≤ (n : Int); omega, by show (n : Int) < 4; omega⟩⟩ (by omega) (by omega); rw [hst] at g; exact g)
              | (have zguard := zlt; have hst : rzF M0 h (n + 1) = (rzF M0 h n) := (by simp only [rzF]; exact if_neg (fun z => absurd z.2 (by omega))); have g := ih (n + 1) _ (vI (jI (oaZ (owZ M0 (n : Int) h)))) ⟨gB_ou (h := h) hZM (by omega) zlt hg, by rw [hst]; exact hb1, by rw [hst]; exact hb2⟩ (by omega) (by omega); rw [hst] at g; exact g)
              | (have zguard := zge; have hst : rzF M0 h (n + 1) = (rzF M0 h n) := (by simp only [rzF]; exact if_neg (fun z => absurd z.1 (by omega))); have g := ih (n + 1) _ (vI (jI (-1))) ⟨hg, by rw [hst]; exact hb1, by rw [hst]; exact hb2⟩ (by omega) (by omega); rw [hst] at g; exact g)
              | (exfalso; omega)
          · refine x_iload F dX7_bestRowFor_59 rfl ?_
            refine x_goto (tgt := 65) F dX7_bestRowFor_61 (by decide) ?_
            refine x_istore_n F dX7_bestRowFor_65 (by decide) ?_
            refine xj_iinc F dX7_bestRowFor_66 rfl ?_
            refine x_goto (tgt := 7) F dX7_bestRowFor_69 (by decide) ?_
            first
              | (have zguard := zlt; have hst : rzF M0 h (n + 1) = ((oaZ (owZ M0 (n : Int) h)), (n : Int)) := (by simp only [rzF]; exact if_pos ⟨by omega, by omega⟩); have g := ih (n + 1) _ (vI (jI (oaZ (owZ M0 (n : Int) h)))) ⟨gB_ou (h := h) hZM (by omega) zlt hg, by rw [hst]; exact ⟨by omega, hob.2⟩, by rw [hst]; exact ⟨by show -1 ≤ (n : Int); omega, by show (n : Int) < 4; omega⟩⟩ (by omega) (by omega); rw [hst] at g; exact g)
              | (have zguard := zlt; have hst : rzF M0 h (n + 1) = (rzF M0 h n) := (by simp only [rzF]; exact if_neg (fun z => absurd z.2 (by omega))); have g := ih (n + 1) _ (vI (jI (oaZ (owZ M0 (n : Int) h)))) ⟨gB_ou (h := h) hZM (by omega) zlt hg, by rw [hst]; exact hb1, by rw [hst]; exact hb2⟩ (by omega) (by omega); rw [hst] at g; exact g)
              | (have zguard := zge; have hst : rzF M0 h (n + 1) = (rzF M0 h n) := (by simp only [rzF]; exact if_neg (fun z => absurd z.1 (by omega))); have g := ih (n + 1) _ (vI (jI (-1))) ⟨hg, by rw [hst]; exact hb1, by rw [hst]; exact hb2⟩ (by omega) (by omega); rw [hst] at g; exact g)
              | (exfalso; omega)
      · have zlt : zI M (n : Int) < 6 := h_3
        have how := ow_g (r := (n : Int)) (h := h) hZ (by omega) (by omega) hg
        have hob := oaZ_b (okZ_ow (h := h) (r := (n : Int)) hZ (by omega) (by omega))
        refine x_aload_n F dX7_bestRowFor_27 rfl ?_
        refine x_iload F dX7_bestRowFor_28 rfl ?_
        refine x_iload_n F dX7_bestRowFor_30 rfl ?_
        refine x_V2 F (m_X7_oddWith hZM (by omega) zlt) mlX7_227 mvX7_oddWith rfl dX7_bestRowFor_31 (by decide) rfl ⟨Nat.le_of_ble_eq_true rfl, Nat.le_of_ble_eq_true rfl⟩ ⟨Nat.zero_le _, Nat.zero_le _⟩ (Nat.le_of_ble_eq_true rfl) ?_
        rw [how]
        refine x_goto (tgt := 38) F dX7_bestRowFor_34 (by decide) ?_
        refine x_istore F dX7_bestRowFor_38 (by decide) ?_
        refine x_iload F dX7_bestRowFor_40 rfl ?_
        refine x_iload_n F dX7_bestRowFor_42 rfl ?_
        refine xj_icmp_le (tgt := 51) F dX7_bestRowFor_43 (by decide) (by omega) (fun h_7 => ?_) (fun h_7 => ?_)
        · refine x_iload_n F dX7_bestRowFor_51 rfl ?_
          refine x_istore_n F dX7_bestRowFor_52 (by decide) ?_
          refine x_iload F dX7_bestRowFor_53 rfl ?_
          refine x_iload_n F dX7_bestRowFor_55 rfl ?_
          refine xj_icmp_le (tgt := 64) F dX7_bestRowFor_56 (by decide) (by omega) (fun h_8 => ?_) (fun h_8 => ?_)
          · refine x_iload_n F dX7_bestRowFor_64 rfl ?_
            refine x_istore_n F dX7_bestRowFor_65 (by decide) ?_
            refine xj_iinc F dX7_bestRowFor_66 rfl ?_
            refine x_goto (tgt := 7) F dX7_bestRowFor_69 (by decide) ?_
            first
              | (have zguard := zlt; have hst : rzF M0 h (n + 1) = ((oaZ (owZ M0 (n : Int) h)), (n : Int)) := (by simp only [rzF]; exact if_pos ⟨by omega, by omega⟩); have g := ih (n + 1) _ (vI (jI (oaZ (owZ M0 (n : Int) h)))) ⟨gB_ou (h := h) hZM (by omega) zlt hg, by rw [hst]; exact ⟨by omega, hob.2⟩, by rw [hst]; exact ⟨by show -1 ≤ (n : Int); omega, by show (n : Int) < 4; omega⟩⟩ (by omega) (by omega); rw [hst] at g; exact g)
              | (have zguard := zlt; have hst : rzF M0 h (n + 1) = (rzF M0 h n) := (by simp only [rzF]; exact if_neg (fun z => absurd z.2 (by omega))); have g := ih (n + 1) _ (vI (jI (oaZ (owZ M0 (n : Int) h)))) ⟨gB_ou (h := h) hZM (by omega) zlt hg, by rw [hst]; exact hb1, by rw [hst]; exact hb2⟩ (by omega) (by omega); rw [hst] at g; exact g)
              | (have zguard := zge; have hst : rzF M0 h (n + 1) = (rzF M0 h n) := (by simp only [rzF]; exact if_neg (fun z => absurd z.1 (by omega))); have g := ih (n + 1) _ (vI (jI (-1))) ⟨hg, by rw [hst]; exact hb1, by rw [hst]; exact hb2⟩ (by omega) (by omega); rw [hst] at g; exact g)
              | (exfalso; omega)
          · refine x_iload F dX7_bestRowFor_59 rfl ?_
            refine x_goto (tgt := 65) F dX7_bestRowFor_61 (by decide) ?_
            refine x_istore_n F dX7_bestRowFor_65 (by decide) ?_
            refine xj_iinc F dX7_bestRowFor_66 rfl ?_
            refine x_goto (tgt := 7) F dX7_bestRowFor_69 (by decide) ?_
            first
              | (have zguard := zlt; have hst : rzF M0 h (n + 1) = ((oaZ (owZ M0 (n : Int) h)), (n : Int)) := (by simp only [rzF]; exact if_pos ⟨by omega, by omega⟩); have g := ih (n + 1) _ (vI (jI (oaZ (owZ M0 (n : Int) h)))) ⟨gB_ou (h := h) hZM (by omega) zlt hg, by rw [hst]; exact ⟨by omega, hob.2⟩, by rw [hst]; exact ⟨by show -1 ≤ (n : Int); omega, by show (n : Int) < 4; omega⟩⟩ (by omega) (by omega); rw [hst] at g; exact g)
              | (have zguard := zlt; have hst : rzF M0 h (n + 1) = (rzF M0 h n) := (by simp only [rzF]; exact if_neg (fun z => absurd z.2 (by omega))); have g := ih (n + 1) _ (vI (jI (oaZ (owZ M0 (n : Int) h)))) ⟨gB_ou (h := h) hZM (by omega) zlt hg, by rw [hst]; exact hb1, by rw [hst]; exact hb2⟩ (by omega) (by omega); rw [hst] at g; exact g)
              | (have zguard := zge; have hst : rzF M0 h (n + 1) = (rzF M0 h n) := (by simp only [rzF]; exact if_neg (fun z => absurd z.1 (by omega))); have g := ih (n + 1) _ (vI (jI (-1))) ⟨hg, by rw [hst]; exact hb1, by rw [hst]; exact hb2⟩ (by omega) (by omega); rw [hst] at g; exact g)
              | (exfalso; omega)
        · refine x_iload F dX7_bestRowFor_46 rfl ?_
          refine x_goto (tgt := 52) F dX7_bestRowFor_48 (by decide) ?_
          refine x_istore_n F dX7_bestRowFor_52 (by decide) ?_
          refine x_iload F dX7_bestRowFor_53 rfl ?_
          refine x_iload_n F dX7_bestRowFor_55 rfl ?_
          refine xj_icmp_le (tgt := 64) F dX7_bestRowFor_56 (by decide) (by omega) (fun h_9 => ?_) (fun h_9 => ?_)
          · refine x_iload_n F dX7_bestRowFor_64 rfl ?_
            refine x_istore_n F dX7_bestRowFor_65 (by decide) ?_
            refine xj_iinc F dX7_bestRowFor_66 rfl ?_
            refine x_goto (tgt := 7) F dX7_bestRowFor_69 (by decide) ?_
            first
              | (have zguard := zlt; have hst : rzF M0 h (n + 1) = ((oaZ (owZ M0 (n : Int) h)), (n : Int)) := (by simp only [rzF]; exact if_pos ⟨by omega, by omega⟩); have g := ih (n + 1) _ (vI (jI (oaZ (owZ M0 (n : Int) h)))) ⟨gB_ou (h := h) hZM (by omega) zlt hg, by rw [hst]; exact ⟨by omega, hob.2⟩, by rw [hst]; exact ⟨by show -1 ≤ (n : Int); omega, by show (n : Int) < 4; omega⟩⟩ (by omega) (by omega); rw [hst] at g; exact g)
              | (have zguard := zlt; have hst : rzF M0 h (n + 1) = (rzF M0 h n) := (by simp only [rzF]; exact if_neg (fun z => absurd z.2 (by omega))); have g := ih (n + 1) _ (vI (jI (oaZ (owZ M0 (n : Int) h)))) ⟨gB_ou (h := h) hZM (by omega) zlt hg, by rw [hst]; exact hb1, by rw [hst]; exact hb2⟩ (by omega) (by omega); rw [hst] at g; exact g)
              | (have zguard := zge; have hst : rzF M0 h (n + 1) = (rzF M0 h n) := (by simp only [rzF]; exact if_neg (fun z => absurd z.1 (by omega))); have g := ih (n + 1) _ (vI (jI (-1))) ⟨hg, by rw [hst]; exact hb1, by rw [hst]; exact hb2⟩ (by omega) (by omega); rw [hst] at g; exact g)
              | (exfalso; omega)
          · refine x_iload F dX7_bestRowFor_59 rfl ?_
            refine x_goto (tgt := 65) F dX7_bestRowFor_61 (by decide) ?_
            refine x_istore_n F dX7_bestRowFor_65 (by decide) ?_
            refine xj_iinc F dX7_bestRowFor_66 rfl ?_
            refine x_goto (tgt := 7) F dX7_bestRowFor_69 (by decide) ?_
            first
              | (have zguard := zlt; have hst : rzF M0 h (n + 1) = ((oaZ (owZ M0 (n : Int) h)), (n : Int)) := (by simp only [rzF]; exact if_pos ⟨by omega, by omega⟩); have g := ih (n + 1) _ (vI (jI (oaZ (owZ M0 (n : Int) h)))) ⟨gB_ou (h := h) hZM (by omega) zlt hg, by rw [hst]; exact ⟨by omega, hob.2⟩, by rw [hst]; exact ⟨by show -1 ≤ (n : Int); omega, by show (n : Int) < 4; omega⟩⟩ (by omega) (by omega); rw [hst] at g; exact g)
              | (have zguard := zlt; have hst : rzF M0 h (n + 1) = (rzF M0 h n) := (by simp only [rzF]; exact if_neg (fun z => absurd z.2 (by omega))); have g := ih (n + 1) _ (vI (jI (oaZ (owZ M0 (n : Int) h)))) ⟨gB_ou (h := h) hZM (by omega) zlt hg, by rw [hst]; exact hb1, by rw [hst]; exact hb2⟩ (by omega) (by omega); rw [hst] at g; exact g)
              | (have zguard := zge; have hst : rzF M0 h (n + 1) = (rzF M0 h n) := (by simp only [rzF]; exact if_neg (fun z => absurd z.1 (by omega))); have g := ih (n + 1) _ (vI (jI (-1))) ⟨hg, by rw [hst]; exact hb1, by rw [hst]; exact hb2⟩ (by omega) (by omega); rw [hst] at g; exact g)
              | (exfalso; omega)
set_option maxRecDepth 20000 in
theorem m_X7_bestRowFor {l : Launch} {E : xE} {h : Int} {M0 : xM} (hZ : okZ M0) : XP l E 9 yX7_bestRowFor cX7_bestRowFor 6 (some FieldType.int) [vA 68, vI (jI h)] M0 (fun r' M' => r' = vI (jI (rzF M0 h 4).2) ∧ gB M0 M') := by
  refine xp_start (plainFor_of_name (by decide)) rfl (Nat.le_of_ble_eq_true rfl) ?_
  intro Y F FR
  refine xj_iconst F dX7_bestRowFor_0 ?_
  refine x_istore_n F dX7_bestRowFor_1 (by decide) ?_
  refine xj_iconst F dX7_bestRowFor_2 ?_
  refine x_istore_n F dX7_bestRowFor_3 (by decide) ?_
  refine xj_iconst F dX7_bestRowFor_4 ?_
  refine x_istore F dX7_bestRowFor_5 (by decide) ?_
  exact L_X7_bestRowFor (l := l) hZ F FR _ 0 M0 vU ⟨gB_rfl M0, ⟨by show (-1 : Int) ≤ -1; decide, by show (-1 : Int) ≤ 24; decide⟩, by show (-1 : Int) ≤ -1; decide, by show (-1 : Int) < 4; decide⟩ (by decide) (Nat.lt_succ_self _)
set_option maxRecDepth 20000 in
theorem m_X7_bestRow {l : Launch} {E : xE} {h : Int} {M0 : xM} (hZ : okZ M0) (hh : rg h) : XP l E 11 yX7_bestRow cX7_bestRow 2 (some FieldType.int) [vA 68, vI (jI h)] M0 (fun r' M' => (hgY h = 0 → r' = vI (jI (rzF (t0 M0) h 4).2) ∧ gB (t0 M0) M') ∧ (hgY h ≠ 0 → r' = vI (jI 0) ∧ M' = upI (t0 M0) 68 5 (jI (hgY h)))) := by
  refine xp_start (plainFor_of_name (by decide)) rfl (Nat.le_of_ble_eq_true rfl) ?_
  intro Y F FR
  have hZ0 : okZ (upI M0 68 5 (jI 0)) := hZ
  refine x_aload_n F dX7_bestRow_0 rfl ?_
  refine xj_iconst F dX7_bestRow_1 ?_
  refine x_puti F flX7_40 rfl dX7_bestRow_2 (by decide) (by decide) rfl fw7_5 rfl rfl ?_
  refine x_iload_n F dX7_bestRow_5 rfl ?_
  refine x_S1 F (m_X7_isHeight (by first | assumption | omega | decide)) mlX7_116 msX7_isHeight dX7_bestRow_6 ⟨Nat.le_of_ble_eq_true rfl, Nat.le_of_ble_eq_true rfl⟩ ⟨Nat.zero_le _, Nat.zero_le _⟩ (Nat.le_of_ble_eq_true rfl) ?_
  refine xb_if_eq (tgt := 20) F dX7_bestRow_9 (by decide) (fun h_1 => ?_) (fun h_1 => ?_)
  · refine x_aload_n F dX7_bestRow_20 rfl ?_
    refine xj_iconst F dX7_bestRow_21 ?_
    refine x_V1 F (m_X7_fails) mlX7_55 mvX7_fails rfl dX7_bestRow_22 (by decide) rfl ⟨Nat.le_of_ble_eq_true rfl, Nat.le_of_ble_eq_true rfl⟩ ⟨Nat.zero_le _, Nat.zero_le _⟩ (Nat.le_of_ble_eq_true rfl) ?_
    refine x_iret F FR dX7_bestRow_25 rfl (Nat.le_refl _) (Nat.le_refl _) ?_
    first
      | (have hX : hgY h = 0 := (by unfold hgY; (repeat' split) <;> first | rfl | omega); exact ⟨fun _ => ⟨rfl, qt_14⟩, fun z9 => absurd hX z9⟩)
      | (have hX : hgY h = 1 := (by unfold hgY; (repeat' split) <;> first | rfl | omega); exact ⟨fun z9 => absurd (hX.symm.trans z9) (by decide), fun _ => ⟨rfl, by rw [hX]; rfl⟩⟩)
  · refine x_aload_n F dX7_bestRow_12 rfl ?_
    refine x_iload_n F dX7_bestRow_13 rfl ?_
    refine x_V1P F (m_X7_bestRowFor hZ0) mlX7_230 mvX7_bestRowFor rfl dX7_bestRow_14 (by decide) rfl ⟨Nat.le_of_ble_eq_true rfl, Nat.le_of_ble_eq_true rfl⟩ ⟨Nat.zero_le _, Nat.zero_le _⟩ (Nat.le_of_ble_eq_true rfl) (fun r_14 M_14 q_14 => ?_)
    obtain ⟨rfl, qt_14⟩ := q_14
    refine x_goto (tgt := 25) F dX7_bestRow_17 (by decide) ?_
    refine x_iret F FR dX7_bestRow_25 rfl (Nat.le_refl _) (Nat.le_refl _) ?_
    first
      | (have hX : hgY h = 0 := (by unfold hgY; (repeat' split) <;> first | rfl | omega); exact ⟨fun _ => ⟨rfl, qt_14⟩, fun z9 => absurd hX z9⟩)
      | (have hX : hgY h = 1 := (by unfold hgY; (repeat' split) <;> first | rfl | omega); exact ⟨fun z9 => absurd (hX.symm.trans z9) (by decide), fun _ => ⟨rfl, by rw [hX]; rfl⟩⟩)
set_option maxRecDepth 20000 in
theorem m_X7_oddShare {l : Launch} {E : xE} {M : xM} (hZ : okZ M) : XF l E 10 yX7_oddShare cX7_oddShare 1 (some FieldType.double) [vA 68] M (vD (shD (oaZ M) (siZ M))) (t0 M) := by
  refine xp_start (plainFor_of_name (by decide)) rfl (Nat.le_of_ble_eq_true rfl) ?_
  intro Y F FR
  have hZ0 : okZ (upI M 68 5 (jI 0)) := hZ
  refine x_aload_n F dX7_oddShare_0 rfl ?_
  refine xj_iconst F dX7_oddShare_1 ?_
  refine x_puti F flX7_40 rfl dX7_oddShare_2 (by decide) (by decide) rfl fw7_5 rfl rfl ?_
  refine x_aload_n F dX7_oddShare_5 rfl ?_
  refine x_V0 F (m_X7_share hZ0) mlX7_236 mvX7_share rfl dX7_oddShare_6 (by decide) rfl ⟨Nat.le_of_ble_eq_true rfl, Nat.le_of_ble_eq_true rfl⟩ ⟨Nat.zero_le _, Nat.zero_le _⟩ (Nat.le_of_ble_eq_true rfl) ?_
  refine x_dret F FR dX7_oddShare_9 (Nat.le_refl _) (Nat.le_refl _) ?_
  exact ⟨rfl, rfl⟩
theorem x_raw {l : Launch} {E : xE} {R : Room} {A : Nat → Prop} {Y : xY} {cc : ByteArray} {nL : Nat} {k n pc : Nat} {ls st : List xV} {M : xM} (F : xFix E A Y cc RJxe99ae nL) {x : UInt64} (d : decode cc pc = .ok (.invokestatic 134, 3)) (hR : 1 ≤ R.frames ∧ 40 ≤ R.locals) (hst : (st.map xcat).sum ≤ 8) (g : WP l E R A Y k n (pc + 3) ls (vL x.toInt64 :: st) M) : WP l E R A Y k n pc ls (vD x :: st) M := fun H locs lr hP hS hlr hn => by
  refine vn_d2l F.1 F.2.1 (by rw [← hlr.1]) F.2.2.2.1 (F.2.2.2.2.1 _ (LW_of 1457 (by decide +kernel) (by decide +kernel))) (F.2.2.2.2.1 _ (LW_of 1459 (by decide +kernel) (by decide +kernel))) (F.2.2.2.2.1 _ (LW_of 1458 (by decide +kernel) (by decide +kernel))) (F.2.2.2.2.1 _ (LW_of 108 (by decide +kernel) (by decide +kernel))) hR.1 ?_ d (g H locs lr hP hS hlr hn)
  have := xst_sum E.2.2.1 hst
  have := hR.2
  omega
set_option maxRecDepth 20000 in
theorem m_Jxe99ae_isNaN_b9ae7 {l : Launch} {E : xE} {x : UInt64} {M : xM} (hx : Op.cmpValue (FP.dcmp x x) .l = jI 0) : XF l E 1 yJxe99ae_isNaN_b9ae7 cJxe99ae_isNaN_b9ae7 2 (some FieldType.boolean) [vD x] M (vI (jI 0)) (M) := by
  refine xp_start (by decide +kernel) rfl (Nat.le_of_ble_eq_true rfl) ?_
  intro Y F FR
  refine x_dload_n F dJxe99ae_isNaN_b9ae7_0 rfl ?_
  refine x_dload_n F dJxe99ae_isNaN_b9ae7_1 rfl ?_
  refine x_dcmp F dJxe99ae_isNaN_b9ae7_2 ?_
  rw [hx]
  refine xj_if_eq (tgt := 10) F dJxe99ae_isNaN_b9ae7_3 (by decide) (by omega) (fun h_1 => ?_) (fun h_1 => ?_)
  · refine xj_iconst F dJxe99ae_isNaN_b9ae7_10 ?_
    refine x_iret F FR dJxe99ae_isNaN_b9ae7_11 rfl (Nat.le_refl _) (Nat.le_refl _) ?_
    exact ⟨rfl, rfl⟩
  · exact absurd h_1 (by decide)
set_option maxRecDepth 20000 in
theorem m_Jxe99ae_doubleToLongBits_ccdee {l : Launch} {E : xE} {x : UInt64} {M : xM} (hx : Op.cmpValue (FP.dcmp x x) .l = jI 0) : XF l E 2 yJxe99ae_doubleToLongBits_ccdee cJxe99ae_doubleToLongBits_ccdee 2 (some FieldType.long) [vD x] M (vL x.toInt64) (M) := by
  refine xp_start (by decide +kernel) rfl (Nat.le_of_ble_eq_true rfl) ?_
  intro Y F FR
  refine x_dload_n F dJxe99ae_doubleToLongBits_ccdee_0 rfl ?_
  refine x_S1 F (m_Jxe99ae_isNaN_b9ae7 hx) mlJxe99ae_122 msJxe99ae_isNaN_b9ae7 dJxe99ae_doubleToLongBits_ccdee_1 ⟨Nat.le_of_ble_eq_true rfl, Nat.le_of_ble_eq_true rfl⟩ ⟨Nat.zero_le _, Nat.zero_le _⟩ (Nat.le_of_ble_eq_true rfl) ?_
  refine xj_if_ne (tgt := 12) F dJxe99ae_doubleToLongBits_ccdee_4 (by decide) (by omega) (fun h_1 => ?_) (fun h_1 => ?_)
  · exact absurd h_1 (by decide)
  · refine x_dload_n F dJxe99ae_doubleToLongBits_ccdee_7 rfl ?_
    refine x_raw F dJxe99ae_doubleToLongBits_ccdee_8 ⟨Nat.le_of_ble_eq_true rfl, Nat.le_of_ble_eq_true rfl⟩ (by decide) ?_
    refine x_lret F FR dJxe99ae_doubleToLongBits_ccdee_11 (Nat.le_refl _) (Nat.le_refl _) ?_
    exact ⟨rfl, rfl⟩
theorem shD_c {a b : Int} (ha : 0 ≤ a ∧ a ≤ 24) (hb : 0 ≤ b ∧ b ≤ 24) : Op.cmpValue (FP.dcmp (shD a b) (shD a b)) .l = jI 0 := by
  have t : ∀ a, a < 25 → ∀ b, b < 25 → Op.cmpValue (FP.dcmp (shD ((a : Nat) : Int) ((b : Nat) : Int)) (shD ((a : Nat) : Int) ((b : Nat) : Int))) .l = jI 0 := by decide +kernel
  have := t a.toNat (by omega) b.toNat (by omega)
  rwa [show ((a.toNat : Nat) : Int) = a by omega, show ((b.toNat : Nat) : Int) = b by omega] at this
theorem shD_bits {a b : Int} (ha : 0 ≤ a ∧ a ≤ b) (hb : 0 ≤ b ∧ b ≤ 24) : (bsI (shD a b)).getD 0 = (shD a b).toInt64 := by
  have t : ∀ b, b < 25 → ∀ a, a < 25 → a ≤ b → (bsI (shD ((a : Nat) : Int) ((b : Nat) : Int))).getD 0 = (shD ((a : Nat) : Int) ((b : Nat) : Int)).toInt64 := by decide +kernel
  have := t b.toNat (by omega) a.toNat (by omega) (by omega)
  rwa [show ((a.toNat : Nat) : Int) = a by omega, show ((b.toNat : Nat) : Int) = b by omega] at this
theorem oa_si {M : xM} (hZ : okZ M) : oaZ M ≤ siZ M := by
  have h : ∀ r : Int, 0 ≤ r → r < 4 → odZ M r ≤ zI M r := fun r h0 h1 => by
    have hz := hZ.1 r h0 h1
    unfold odZ
    have := sumI_b (f := fun p => hhZ M r p % 2) (b := 1) (zI M r).toNat (fun j _ _ => by omega)
    omega
  have h0 := h 0 (by decide) (by decide)
  have h1 := h 1 (by decide) (by decide)
  have h2 := h 2 (by decide) (by decide)
  have h3 := h 3 (by decide) (by decide)
  unfold oaZ siZ
  omega
