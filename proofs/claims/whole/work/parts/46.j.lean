/-! THE MODEL does what a text tells -/
theorem fzR_b {M : xM} : ∀ (n : Nat) (s : Int), 0 ≤ s → 0 ≤ (fzR M n s).1 ∧ (fzR M n s).1 ≤ s + 13 * n
  | 0, s, h => by simp only [fzR]; omega
  | n + 1, s, h => by
    have h1 := (pf_b (tsT M s)).1
    have h2 := tsT_l M s
    have h3 := fzR_b (M := M) n (s + pf (tsT M s) + 1) (by omega)
    rw [fzR]
    split
    · split
      · dsimp only; omega
      · dsimp only; omega
    · dsimp only; omega
theorem fzR_al {M : xM} : ∀ (n : Nat) (s t : Int), t ∈ (fzR M n s).2.2 → al (tsT M t) = true
  | 0, s, t, h => by simp [fzR] at h
  | n + 1, s, t, h => by
    rw [fzR] at h
    by_cases h1 : al (tsT M s) = true
    · rw [if_pos h1] at h
      by_cases h2 : cdZ M (s + pf (tsT M s)) = 59
      · rw [if_pos h2] at h
        rcases List.mem_cons.mp h with e | e
        · rw [e]; exact h1
        · exact fzR_al n _ t e
      · rw [if_neg h2] at h
        have : t = s := by simpa using h
        rw [this]; exact h1
    · rw [if_neg h1] at h; simp at h
def feZ (M : xM) : Int := if wcP M = true then ln M else (fzZ M).1
theorem upZ_row {M : xM} {k a : Nat} {x : Int32} (h : a ≠ 69) : (upI M 69 k x).1 a = M.1 a := upI_row h
theorem cpZ_row {M : xM} {i j : Int} {a : Nat} (h : a ≠ 69) : (cpZ M i j).1 a = M.1 a := by unfold cpZ; dsimp only; rw [upI_row h, upI_row h, upI_row h]
theorem exZ_row {M : xM} {i j : Int} {a : Nat} (h : a ≠ 69) : (exZ M i j).1 a = M.1 a := by unfold exZ; rw [upI_row h, upI_row h, upI_row h, cpZ_row h]
theorem jnZ_row {M : xM} {r h v : Int} {a : Nat} (ha : a ≠ 69) : (jnZ M r h v).1 a = M.1 a := by unfold jnZ; dsimp only; rw [upI_row ha, upI_row ha, upI_row ha, upI_row ha, upI_row ha]
theorem trZ_row {M : xM} {r : Int} {a : Nat} (ha : a ≠ 69) : ∀ n, (trZ M r n).1 a = M.1 a
  | 0 => rfl
  | n + 1 => by simp only [trZ]; rw [exZ_row ha, trZ_row ha n]
theorem bbZ_row {r how : Int} {a : Nat} (ha : a ≠ 69) : ∀ (n : Nat) (M : xM), (bbZ r how n M).1 a = M.1 a
  | 0, _ => rfl
  | n + 1, M => by
    simp only [bbZ]
    split
    · rw [exZ_row ha, bbZ_row ha n]
    · exact bbZ_row ha n M
theorem soZ_row {M : xM} {r how : Int} {a : Nat} (ha : a ≠ 69) : ∀ n, (soZ M r how n).1 a = M.1 a
  | 0 => rfl
  | n + 1 => by simp only [soZ]; rw [bbZ_row ha, soZ_row ha n]
theorem swZ_row {M : xM} {r p r2 p2 : Int} {a : Nat} (ha : a ≠ 69) : (swZ M r p r2 p2).1 a = M.1 a := by unfold swZ; rw [upI_row ha, exZ_row ha]
theorem jnZ_lo {M : xM} {r h v k : Int} (hr : 0 ≤ r ∧ r < 4) (hs : 0 ≤ zI M r ∧ zI M r < 6) (hk : 0 ≤ k ∧ k < 4) : zI (jnZ M r h v) k = if k = r then zI M r + 1 else zI M k := by
  unfold jnZ
  dsimp only
  have e : ∀ q : Int, 0 ≤ q ∧ q < 4 → zI (upI (upI (upI M 69 (4 + (6 * r + zI M r)).toNat (jI (zI M 78))) 69 (28 + (6 * r + zI M r)).toNat (jI h)) 69 (52 + (6 * r + zI M r)).toNat (jI v)) q = zI M q := fun q hq => by
    rw [zI_lo (by omega) hq, zI_lo (by omega) hq, zI_lo (by omega) hq]
  rw [zI_up _ (by decide) hk.1, if_neg (by omega), zI_up _ hr.1 hk.1, e r hr, e k hk]
  split
  · rw [jI_toInt (by omega)]
  · rfl
theorem okZ_jn {M : xM} {r h v : Int} (hZ : okZ M) (hr : 0 ≤ r ∧ r < 4) (hs : zI M r < 6) : okZ (jnZ M r h v) := by
  have hz := hZ.1 r hr.1 hr.2
  have e : ∀ k : Int, k = 76 ∨ k = 77 → zI (jnZ M r h v) k = zI M k := fun k hk => by
    unfold jnZ
    dsimp only
    rw [zI_up _ (by decide) (by omega), if_neg (by omega), zI_up _ hr.1 (by omega), if_neg (by omega), zI_mid (by omega) (by omega), zI_mid (by omega) (by omega), zI_mid (by omega) (by omega)]
  unfold okZ
  rw [e 76 (Or.inl rfl), e 77 (Or.inr rfl)]
  refine ⟨fun k h0 h1 => ?_, hZ.2⟩
  rw [jnZ_lo hr ⟨hz.1, hs⟩ ⟨h0, h1⟩]
  have := hZ.1 k h0 h1
  split <;> omega
def lt (M : xM) (k : Nat) : Int := (M.1 75 k).toInt
def lr (M : xM) (k : Nat) : Int := (M.1 76 k).toInt
def l1 (M : xM) (k : Nat) : Int := (M.1 77 k).toInt
def l2 (M : xM) (k : Nat) : Int := (M.1 78 k).toInt
def cdP (M : xM) (k : Nat) : Prop := if lt M k = 106 then zI M (lr M k) < 6 ∧ zI M 78 < 999 else if lt M k = 115 then ((0 ≤ lr M k ∧ lr M k ≤ 3) ∧ 0 ≤ l1 M k ∧ l1 M k < zI M (lr M k)) ∧ ((0 ≤ lr M k ∧ lr M k ≤ 3) ∧ 0 ≤ l2 M k ∧ l2 M k < zI M (lr M k)) else True
def cdB (M : xM) (k : Nat) : Bool := if lt M k = 106 then decide (zI M (lr M k) < 6 ∧ zI M 78 < 999) else if lt M k = 115 then decide (((0 ≤ lr M k ∧ lr M k ≤ 3) ∧ 0 ≤ l1 M k ∧ l1 M k < zI M (lr M k)) ∧ ((0 ≤ lr M k ∧ lr M k ≤ 3) ∧ 0 ≤ l2 M k ∧ l2 M k < zI M (lr M k))) else true
def hwZ (c : Int) : Int := if c = 108 then 0 else if c = 104 then 1 else 2
def dpZ (M : xM) (k : Nat) : xM := if lt M k = 106 then jnZ M (lr M k) (l1 M k) (l2 M k) else if lt M k = 115 then swZ M (lr M k) (l1 M k) (lr M k) (l2 M k) else if lt M k = 116 then trZ M (lr M k) (zI M (lr M k) / 2).toNat else soZ M (lr M k) (hwZ (lt M k)) (zI M (lr M k)).toNat
theorem dpZ_row {M : xM} {k a : Nat} (ha : a ≠ 69) : (dpZ M k).1 a = M.1 a := by
  unfold dpZ
  repeat' split
  · exact jnZ_row ha
  · exact swZ_row ha
  · exact trZ_row ha _
  · exact soZ_row ha _
def prOk (M : xM) (k : Nat) : Prop := (0 ≤ lr M k ∧ lr M k < 4) ∧ (lt M k = 115 → (0 ≤ l1 M k ∧ l1 M k < 6) ∧ (0 ≤ l2 M k ∧ l2 M k < 6))
theorem okZ_dp {M : xM} {k : Nat} (hZ : okZ M) (hp : prOk M k) (hc : cdB M k = true) : okZ (dpZ M k) := by
  have hz := hZ.1 _ hp.1.1 hp.1.2
  unfold cdB at hc
  unfold dpZ
  by_cases h1 : lt M k = 106
  · rw [if_pos h1] at hc ⊢
    exact okZ_jn hZ hp.1 (of_decide_eq_true hc).1
  rw [if_neg h1] at hc ⊢
  by_cases h2 : lt M k = 115
  · rw [if_pos h2]
    have hrr := hp.1
    have := hp.2 h2
    exact okZ_sw hZ (by omega) (by omega)
  rw [if_neg h2]
  split
  · exact okZ_tr hZ hp.1 _ (by omega)
  · exact okZ_so hZ hp.1 _
set_option maxRecDepth 20000 in
theorem m_X7_canDo {l : Launch} {E : xE} {k : Nat} {M : xM} (hk : k < 12) (hZ : okZ M) (hp : prOk M k) : XF l E 5 yX7_canDo cX7_canDo 2 (some FieldType.boolean) [vA 68, vI (jI (k : Int))] M (vI (jb (cdB M k = true))) (M) := by
  refine xp_start (plainFor_of_name (by decide)) rfl (Nat.le_of_ble_eq_true rfl) ?_
  intro Y F FR
  have ek : ((k : Int)).toNat = k := Int.toNat_natCast k
  have e75 : (M.1 75 ((k : Int)).toNat).toInt = lt M k := (by rw [ek]; rfl)
  have e76 : (M.1 76 ((k : Int)).toNat).toInt = lr M k := (by rw [ek]; rfl)
  have e77 : (M.1 77 ((k : Int)).toNat).toInt = l1 M k := (by rw [ek]; rfl)
  have e78 : (M.1 78 ((k : Int)).toNat).toInt = l2 M k := (by rw [ek]; rfl)
  have hrw := hp.1
  have hz := hZ.1 _ hrw.1 hrw.2
  refine x_aload_n F dX7_canDo_0 rfl ?_
  refine x_getc (v := 75) F flX7_28 rfl dX7_canDo_1 (by decide) (by decide) rfl rfl ?_
  refine x_iload_n F dX7_canDo_4 rfl ?_
  refine xj_lald2 F rfl dX7_canDo_5 (by omega) (fun hg_1 => ?_)
  rw [e75]
  refine xj_bipush F dX7_canDo_6 (by decide) ?_
  refine xj_icmp_ne (tgt := 24) F dX7_canDo_8 (by decide) (by omega) (fun h_2 => ?_) (fun h_2 => ?_)
  · have zn6 : ¬ lt M k = 106 := h_2
    refine x_aload_n F dX7_canDo_24 rfl ?_
    refine x_getc (v := 75) F flX7_28 rfl dX7_canDo_25 (by decide) (by decide) rfl rfl ?_
    refine x_iload_n F dX7_canDo_28 rfl ?_
    refine xj_lald2 F rfl dX7_canDo_29 (by omega) (fun hg_3 => ?_)
    rw [e75]
    refine xj_bipush F dX7_canDo_30 (by decide) ?_
    refine xj_icmp_ne (tgt := 73) F dX7_canDo_32 (by decide) (by omega) (fun h_4 => ?_) (fun h_4 => ?_)
    · have zn5 : ¬ lt M k = 115 := h_4
      refine xj_iconst F dX7_canDo_73 ?_
      refine x_goto (tgt := 78) F dX7_canDo_74 (by decide) ?_
      refine x_iret F FR dX7_canDo_78 rfl (Nat.le_refl _) (Nat.le_refl _) ?_
      first
        | exact ⟨by rw [jb_t (show cdB M k = true by unfold cdB; rw [if_neg zn6, if_neg zn5])], rfl⟩
        | exact ⟨by rw [jb_t (show cdB M k = true by unfold cdB; rw [if_neg zn6, if_pos zy5]; exact decide_eq_true ⟨zpa, zpb⟩)], rfl⟩
        | exact ⟨by rw [jb_f (show ¬ cdB M k = true by unfold cdB; rw [if_neg zn6, if_pos zy5]; exact fun z => zna (of_decide_eq_true z).1)], rfl⟩
        | exact ⟨by rw [jb_f (show ¬ cdB M k = true by unfold cdB; rw [if_neg zn6, if_pos zy5]; exact fun z => znb (of_decide_eq_true z).2)], rfl⟩
        | exact ⟨congrArg vI (jb_c (show (zI M (lr M k) < 6 ∧ zI M 78 < 999) ↔ cdB M k = true by unfold cdB; rw [if_pos zy6]; exact decide_eq_true_iff.symm)), rfl⟩
    · have zy5 : lt M k = 115 := h_4
      refine x_aload_n F dX7_canDo_35 rfl ?_
      refine x_aload_n F dX7_canDo_36 rfl ?_
      refine x_getc (v := 76) F flX7_31 rfl dX7_canDo_37 (by decide) (by decide) rfl rfl ?_
      refine x_iload_n F dX7_canDo_40 rfl ?_
      refine xj_lald2 F rfl dX7_canDo_41 (by omega) (fun hg_5 => ?_)
      rw [e76]
      refine x_aload_n F dX7_canDo_42 rfl ?_
      refine x_getc (v := 77) F flX7_34 rfl dX7_canDo_43 (by decide) (by decide) rfl rfl ?_
      refine x_iload_n F dX7_canDo_46 rfl ?_
      refine xj_lald2 F rfl dX7_canDo_47 (by omega) (fun hg_6 => ?_)
      rw [e77]
      refine x_V2 F (m_X7_isPlace hZ (by omega) (rg_of _)) mlX7_126 mvX7_isPlace rfl dX7_canDo_48 (by decide) rfl ⟨Nat.le_of_ble_eq_true rfl, Nat.le_of_ble_eq_true rfl⟩ ⟨Nat.zero_le _, Nat.zero_le _⟩ (Nat.le_of_ble_eq_true rfl) ?_
      refine xb_if_eq (tgt := 77) F dX7_canDo_51 (by decide) (fun h_7 => ?_) (fun h_7 => ?_)
      · have zna : ¬ ((0 ≤ lr M k ∧ lr M k ≤ 3) ∧ 0 ≤ l1 M k ∧ l1 M k < zI M (lr M k)) := h_7
        refine xj_iconst F dX7_canDo_77 ?_
        refine x_iret F FR dX7_canDo_78 rfl (Nat.le_refl _) (Nat.le_refl _) ?_
        first
          | exact ⟨by rw [jb_t (show cdB M k = true by unfold cdB; rw [if_neg zn6, if_neg zn5])], rfl⟩
          | exact ⟨by rw [jb_t (show cdB M k = true by unfold cdB; rw [if_neg zn6, if_pos zy5]; exact decide_eq_true ⟨zpa, zpb⟩)], rfl⟩
          | exact ⟨by rw [jb_f (show ¬ cdB M k = true by unfold cdB; rw [if_neg zn6, if_pos zy5]; exact fun z => zna (of_decide_eq_true z).1)], rfl⟩
          | exact ⟨by rw [jb_f (show ¬ cdB M k = true by unfold cdB; rw [if_neg zn6, if_pos zy5]; exact fun z => znb (of_decide_eq_true z).2)], rfl⟩
          | exact ⟨congrArg vI (jb_c (show (zI M (lr M k) < 6 ∧ zI M 78 < 999) ↔ cdB M k = true by unfold cdB; rw [if_pos zy6]; exact decide_eq_true_iff.symm)), rfl⟩
      · have zpa : (0 ≤ lr M k ∧ lr M k ≤ 3) ∧ 0 ≤ l1 M k ∧ l1 M k < zI M (lr M k) := h_7
        refine x_aload_n F dX7_canDo_54 rfl ?_
        refine x_aload_n F dX7_canDo_55 rfl ?_
        refine x_getc (v := 76) F flX7_31 rfl dX7_canDo_56 (by decide) (by decide) rfl rfl ?_
        refine x_iload_n F dX7_canDo_59 rfl ?_
        refine xj_lald2 F rfl dX7_canDo_60 (by omega) (fun hg_8 => ?_)
        rw [e76]
        refine x_aload_n F dX7_canDo_61 rfl ?_
        refine x_getc (v := 78) F flX7_37 rfl dX7_canDo_62 (by decide) (by decide) rfl rfl ?_
        refine x_iload_n F dX7_canDo_65 rfl ?_
        refine xj_lald2 F rfl dX7_canDo_66 (by omega) (fun hg_9 => ?_)
        rw [e78]
        refine x_V2 F (m_X7_isPlace hZ (by omega) (rg_of _)) mlX7_126 mvX7_isPlace rfl dX7_canDo_67 (by decide) rfl ⟨Nat.le_of_ble_eq_true rfl, Nat.le_of_ble_eq_true rfl⟩ ⟨Nat.zero_le _, Nat.zero_le _⟩ (Nat.le_of_ble_eq_true rfl) ?_
        refine xb_if_eq (tgt := 77) F dX7_canDo_70 (by decide) (fun h_10 => ?_) (fun h_10 => ?_)
        · have znb : ¬ ((0 ≤ lr M k ∧ lr M k ≤ 3) ∧ 0 ≤ l2 M k ∧ l2 M k < zI M (lr M k)) := h_10
          refine xj_iconst F dX7_canDo_77 ?_
          refine x_iret F FR dX7_canDo_78 rfl (Nat.le_refl _) (Nat.le_refl _) ?_
          first
            | exact ⟨by rw [jb_t (show cdB M k = true by unfold cdB; rw [if_neg zn6, if_neg zn5])], rfl⟩
            | exact ⟨by rw [jb_t (show cdB M k = true by unfold cdB; rw [if_neg zn6, if_pos zy5]; exact decide_eq_true ⟨zpa, zpb⟩)], rfl⟩
            | exact ⟨by rw [jb_f (show ¬ cdB M k = true by unfold cdB; rw [if_neg zn6, if_pos zy5]; exact fun z => zna (of_decide_eq_true z).1)], rfl⟩
            | exact ⟨by rw [jb_f (show ¬ cdB M k = true by unfold cdB; rw [if_neg zn6, if_pos zy5]; exact fun z => znb (of_decide_eq_true z).2)], rfl⟩
            | exact ⟨congrArg vI (jb_c (show (zI M (lr M k) < 6 ∧ zI M 78 < 999) ↔ cdB M k = true by unfold cdB; rw [if_pos zy6]; exact decide_eq_true_iff.symm)), rfl⟩
        · have zpb : (0 ≤ lr M k ∧ lr M k ≤ 3) ∧ 0 ≤ l2 M k ∧ l2 M k < zI M (lr M k) := h_10
          refine xj_iconst F dX7_canDo_73 ?_
          refine x_goto (tgt := 78) F dX7_canDo_74 (by decide) ?_
          refine x_iret F FR dX7_canDo_78 rfl (Nat.le_refl _) (Nat.le_refl _) ?_
          first
            | exact ⟨by rw [jb_t (show cdB M k = true by unfold cdB; rw [if_neg zn6, if_neg zn5])], rfl⟩
            | exact ⟨by rw [jb_t (show cdB M k = true by unfold cdB; rw [if_neg zn6, if_pos zy5]; exact decide_eq_true ⟨zpa, zpb⟩)], rfl⟩
            | exact ⟨by rw [jb_f (show ¬ cdB M k = true by unfold cdB; rw [if_neg zn6, if_pos zy5]; exact fun z => zna (of_decide_eq_true z).1)], rfl⟩
            | exact ⟨by rw [jb_f (show ¬ cdB M k = true by unfold cdB; rw [if_neg zn6, if_pos zy5]; exact fun z => znb (of_decide_eq_true z).2)], rfl⟩
            | exact ⟨congrArg vI (jb_c (show (zI M (lr M k) < 6 ∧ zI M 78 < 999) ↔ cdB M k = true by unfold cdB; rw [if_pos zy6]; exact decide_eq_true_iff.symm)), rfl⟩
  · have zy6 : lt M k = 106 := h_2
    refine x_aload_n F dX7_canDo_11 rfl ?_
    refine x_aload_n F dX7_canDo_12 rfl ?_
    refine x_getc (v := 76) F flX7_31 rfl dX7_canDo_13 (by decide) (by decide) rfl rfl ?_
    refine x_iload_n F dX7_canDo_16 rfl ?_
    refine xj_lald2 F rfl dX7_canDo_17 (by omega) (fun hg_11 => ?_)
    rw [e76]
    refine x_V1 F (m_X7_hasRoom hrw) mlX7_119 mvX7_hasRoom rfl dX7_canDo_18 (by decide) rfl ⟨Nat.le_of_ble_eq_true rfl, Nat.le_of_ble_eq_true rfl⟩ ⟨Nat.zero_le _, Nat.zero_le _⟩ (Nat.le_of_ble_eq_true rfl) ?_
    refine x_goto (tgt := 78) F dX7_canDo_21 (by decide) ?_
    refine x_iret F FR dX7_canDo_78 (jb_nar _) (Nat.le_refl _) (Nat.le_refl _) ?_
    first
      | exact ⟨by rw [jb_t (show cdB M k = true by unfold cdB; rw [if_neg zn6, if_neg zn5])], rfl⟩
      | exact ⟨by rw [jb_t (show cdB M k = true by unfold cdB; rw [if_neg zn6, if_pos zy5]; exact decide_eq_true ⟨zpa, zpb⟩)], rfl⟩
      | exact ⟨by rw [jb_f (show ¬ cdB M k = true by unfold cdB; rw [if_neg zn6, if_pos zy5]; exact fun z => zna (of_decide_eq_true z).1)], rfl⟩
      | exact ⟨by rw [jb_f (show ¬ cdB M k = true by unfold cdB; rw [if_neg zn6, if_pos zy5]; exact fun z => znb (of_decide_eq_true z).2)], rfl⟩
      | exact ⟨congrArg vI (jb_c (show (zI M (lr M k) < 6 ∧ zI M 78 < 999) ↔ cdB M k = true by unfold cdB; rw [if_pos zy6]; exact decide_eq_true_iff.symm)), rfl⟩
set_option maxRecDepth 20000 in
theorem m_X7_doPart {l : Launch} {E : xE} {k : Nat} {M : xM} (hk : k < 12) (hZ : okZ M) (hp : prOk M k) (hc : cdB M k = true) : XF l E 5 yX7_doPart cX7_doPart 4 none [vA 68, vI (jI (k : Int))] M (vU) (dpZ M k) := by
  refine xp_start (plainFor_of_name (by decide)) rfl (Nat.le_of_ble_eq_true rfl) ?_
  intro Y F FR
  have ek : ((k : Int)).toNat = k := Int.toNat_natCast k
  have e75 : (M.1 75 ((k : Int)).toNat).toInt = lt M k := (by rw [ek]; rfl)
  have e76 : (M.1 76 ((k : Int)).toNat).toInt = lr M k := (by rw [ek]; rfl)
  have e77 : (M.1 77 ((k : Int)).toNat).toInt = l1 M k := (by rw [ek]; rfl)
  have e78 : (M.1 78 ((k : Int)).toNat).toInt = l2 M k := (by rw [ek]; rfl)
  have hrw := hp.1
  have hz := hZ.1 _ hrw.1 hrw.2
  have hri : rg (lt M k) := rg_of _
  refine x_aload_n F dX7_doPart_0 rfl ?_
  refine x_getc (v := 76) F flX7_31 rfl dX7_doPart_1 (by decide) (by decide) rfl rfl ?_
  refine x_iload_n F dX7_doPart_4 rfl ?_
  refine xj_lald2 F rfl dX7_doPart_5 (by omega) (fun hg_1 => ?_)
  rw [e76]
  refine x_istore_n F dX7_doPart_6 (by decide) ?_
  refine x_aload_n F dX7_doPart_7 rfl ?_
  refine x_getc (v := 75) F flX7_28 rfl dX7_doPart_8 (by decide) (by decide) rfl rfl ?_
  refine x_iload_n F dX7_doPart_11 rfl ?_
  refine xj_lald2 F rfl dX7_doPart_12 (by omega) (fun hg_2 => ?_)
  rw [e75]
  by_cases h_3 : (lt M k) = 106
  · refine xj_look (off := 35) (tgt := 48) F dX7_doPart_13 rfl (by rw [h_3]; rfl) (by decide) (by omega) ?_
    have zy6 : lt M k = 106 := h_3
    have hc6 : zI M (lr M k) < 6 := (by unfold cdB at hc; rw [if_pos zy6] at hc; exact (of_decide_eq_true hc).1)
    refine x_aload_n F dX7_doPart_48 rfl ?_
    refine x_iload_n F dX7_doPart_49 rfl ?_
    refine x_aload_n F dX7_doPart_50 rfl ?_
    refine x_getc (v := 77) F flX7_34 rfl dX7_doPart_51 (by decide) (by decide) rfl rfl ?_
    refine x_iload_n F dX7_doPart_54 rfl ?_
    refine xj_lald2 F rfl dX7_doPart_55 (by omega) (fun hg_4 => ?_)
    rw [e77]
    refine x_aload_n F dX7_doPart_56 rfl ?_
    refine x_getc (v := 78) F flX7_37 rfl dX7_doPart_57 (by decide) (by decide) rfl rfl ?_
    refine x_iload_n F dX7_doPart_60 rfl ?_
    refine xj_lald2 F rfl dX7_doPart_61 (by omega) (fun hg_5 => ?_)
    rw [e78]
    refine x_V3 F (m_X7_joinNow hrw ⟨hz.1, hc6⟩) mlX7_122 mvX7_joinNow rfl dX7_doPart_62 (by decide) rfl ⟨Nat.le_of_ble_eq_true rfl, Nat.le_of_ble_eq_true rfl⟩ ⟨Nat.zero_le _, Nat.zero_le _⟩ (Nat.le_of_ble_eq_true rfl) ?_
    refine x_istore_n F dX7_doPart_65 (by decide) ?_
    refine x_goto (tgt := 153) F dX7_doPart_66 (by decide) ?_
    refine x_vret F FR dX7_doPart_153 (Nat.le_refl _) (Nat.le_refl _) ?_
    first
      | exact ⟨rfl, by unfold dpZ; rw [if_pos zy6] <;> rfl⟩
      | exact ⟨rfl, by unfold dpZ; rw [if_neg zn6, if_pos zy5] <;> rfl⟩
      | exact ⟨rfl, by unfold dpZ; rw [if_neg zn6, if_neg zn5, if_pos zy7] <;> rfl⟩
      | exact ⟨rfl, by unfold dpZ hwZ; rw [if_neg zn6, if_neg zn5, if_neg zn7, if_pos zy8] <;> rfl⟩
      | exact ⟨rfl, by unfold dpZ hwZ; rw [if_neg zn6, if_neg zn5, if_neg zn7, if_neg zn8, if_pos zy9] <;> rfl⟩
      | exact ⟨rfl, by unfold dpZ hwZ; rw [if_neg zn6, if_neg zn5, if_neg zn7, if_neg zn8, if_neg zn9] <;> rfl⟩
  by_cases h_6 : (lt M k) = 115
  · refine xj_look (off := 56) (tgt := 69) F dX7_doPart_13 rfl (by rw [h_6]; rfl) (by decide) (by omega) ?_
    have zy5 : lt M k = 115 := h_6
    have zn6 : ¬ lt M k = 106 := (by omega)
    have h5 := hp.2 zy5
    refine x_aload_n F dX7_doPart_69 rfl ?_
    refine xj_bipush F dX7_doPart_70 (by decide) ?_
    refine x_iload_n F dX7_doPart_72 rfl ?_
    refine xj_imul F dX7_doPart_73 ?_
    refine x_aload_n F dX7_doPart_74 rfl ?_
    refine x_getc (v := 77) F flX7_34 rfl dX7_doPart_75 (by decide) (by decide) rfl rfl ?_
    refine x_iload_n F dX7_doPart_78 rfl ?_
    refine xj_lald2 F rfl dX7_doPart_79 (by omega) (fun hg_7 => ?_)
    rw [e77]
    refine xj_iadd F dX7_doPart_80 ?_
    refine xj_bipush F dX7_doPart_81 (by decide) ?_
    refine x_iload_n F dX7_doPart_83 rfl ?_
    refine xj_imul F dX7_doPart_84 ?_
    refine x_aload_n F dX7_doPart_85 rfl ?_
    refine x_getc (v := 78) F flX7_37 rfl dX7_doPart_86 (by decide) (by decide) rfl rfl ?_
    refine x_iload_n F dX7_doPart_89 rfl ?_
    refine xj_lald2 F rfl dX7_doPart_90 (by omega) (fun hg_8 => ?_)
    rw [e78]
    refine xj_iadd F dX7_doPart_91 ?_
    refine x_V2 F (m_X7_exchange (by omega) (by omega)) mlX7_110 mvX7_exchange rfl dX7_doPart_92 (by decide) rfl ⟨Nat.le_of_ble_eq_true rfl, Nat.le_of_ble_eq_true rfl⟩ ⟨Nat.zero_le _, Nat.zero_le _⟩ (Nat.le_of_ble_eq_true rfl) ?_
    refine x_aload_n F dX7_doPart_95 rfl ?_
    refine x_getc (v := 69) F flX7_7 rfl dX7_doPart_96 (by decide) (by decide) rfl rfl ?_
    refine xj_bipush F dX7_doPart_99 (by decide) ?_
    refine x_dup2 F dX7_doPart_101 rfl rfl ?_
    refine xj_lald2 F rfl dX7_doPart_102 (by omega) (fun hg_9 => ?_)
    refine xj_iconst F dX7_doPart_103 ?_
    refine xj_iadd F dX7_doPart_104 ?_
    refine xj_iast F rfl dX7_doPart_105 (by omega) ?_
    refine x_goto (tgt := 153) F dX7_doPart_106 (by decide) ?_
    refine x_vret F FR dX7_doPart_153 (Nat.le_refl _) (Nat.le_refl _) ?_
    first
      | exact ⟨rfl, by unfold dpZ; rw [if_pos zy6] <;> rfl⟩
      | exact ⟨rfl, by unfold dpZ; rw [if_neg zn6, if_pos zy5] <;> rfl⟩
      | exact ⟨rfl, by unfold dpZ; rw [if_neg zn6, if_neg zn5, if_pos zy7] <;> rfl⟩
      | exact ⟨rfl, by unfold dpZ hwZ; rw [if_neg zn6, if_neg zn5, if_neg zn7, if_pos zy8] <;> rfl⟩
      | exact ⟨rfl, by unfold dpZ hwZ; rw [if_neg zn6, if_neg zn5, if_neg zn7, if_neg zn8, if_pos zy9] <;> rfl⟩
      | exact ⟨rfl, by unfold dpZ hwZ; rw [if_neg zn6, if_neg zn5, if_neg zn7, if_neg zn8, if_neg zn9] <;> rfl⟩
  by_cases h_10 : (lt M k) = 116
  · refine xj_look (off := 96) (tgt := 109) F dX7_doPart_13 rfl (by rw [h_10]; rfl) (by decide) (by omega) ?_
    have zy7 : lt M k = 116 := h_10
    have zn6 : ¬ lt M k = 106 := (by omega)
    have zn5 : ¬ lt M k = 115 := (by omega)
    refine x_aload_n F dX7_doPart_109 rfl ?_
    refine x_iload_n F dX7_doPart_110 rfl ?_
    refine x_V1 F (m_X7_turnNow hrw hz) mlX7_136 mvX7_turnNow rfl dX7_doPart_111 (by decide) rfl ⟨Nat.le_of_ble_eq_true rfl, Nat.le_of_ble_eq_true rfl⟩ ⟨Nat.zero_le _, Nat.zero_le _⟩ (Nat.le_of_ble_eq_true rfl) ?_
    refine x_goto (tgt := 153) F dX7_doPart_114 (by decide) ?_
    refine x_vret F FR dX7_doPart_153 (Nat.le_refl _) (Nat.le_refl _) ?_
    first
      | exact ⟨rfl, by unfold dpZ; rw [if_pos zy6] <;> rfl⟩
      | exact ⟨rfl, by unfold dpZ; rw [if_neg zn6, if_pos zy5] <;> rfl⟩
      | exact ⟨rfl, by unfold dpZ; rw [if_neg zn6, if_neg zn5, if_pos zy7] <;> rfl⟩
      | exact ⟨rfl, by unfold dpZ hwZ; rw [if_neg zn6, if_neg zn5, if_neg zn7, if_pos zy8] <;> rfl⟩
      | exact ⟨rfl, by unfold dpZ hwZ; rw [if_neg zn6, if_neg zn5, if_neg zn7, if_neg zn8, if_pos zy9] <;> rfl⟩
      | exact ⟨rfl, by unfold dpZ hwZ; rw [if_neg zn6, if_neg zn5, if_neg zn7, if_neg zn8, if_neg zn9] <;> rfl⟩
  refine xj_look (off := 104) (tgt := 117) F dX7_doPart_13 rfl (by show Op.lookupswitch.offset [(106, 35), (115, 56), (116, 96)] 104 _ = _; simp only [Op.lookupswitch.offset]; rw [if_neg (by omega), if_neg (by omega), if_neg (by omega)]) (by decide) (by omega) ?_
  have zn6 : ¬ lt M k = 106 := (by omega)
  have zn5 : ¬ lt M k = 115 := (by omega)
  have zn7 : ¬ lt M k = 116 := (by omega)
  refine x_aload_n F dX7_doPart_117 rfl ?_
  refine x_iload_n F dX7_doPart_118 rfl ?_
  refine x_aload_n F dX7_doPart_119 rfl ?_
  refine x_getc (v := 75) F flX7_28 rfl dX7_doPart_120 (by decide) (by decide) rfl rfl ?_
  refine x_iload_n F dX7_doPart_123 rfl ?_
  refine xj_lald2 F rfl dX7_doPart_124 (by omega) (fun hg_11 => ?_)
  rw [e75]
  refine xj_bipush F dX7_doPart_125 (by decide) ?_
  refine xj_icmp_ne (tgt := 134) F dX7_doPart_127 (by decide) (by omega) (fun h_12 => ?_) (fun h_12 => ?_)
  · have zn8 : ¬ lt M k = 108 := h_12
    refine x_aload_n F dX7_doPart_134 rfl ?_
    refine x_getc (v := 75) F flX7_28 rfl dX7_doPart_135 (by decide) (by decide) rfl rfl ?_
    refine x_iload_n F dX7_doPart_138 rfl ?_
    refine xj_lald2 F rfl dX7_doPart_139 (by omega) (fun hg_13 => ?_)
    rw [e75]
    refine xj_bipush F dX7_doPart_140 (by decide) ?_
    refine xj_icmp_ne (tgt := 149) F dX7_doPart_142 (by decide) (by omega) (fun h_14 => ?_) (fun h_14 => ?_)
    · have zn9 : ¬ lt M k = 104 := h_14
      refine xj_iconst F dX7_doPart_149 ?_
      refine x_V2 F (m_X7_sortNow hrw hz (by decide)) mlX7_139 mvX7_sortNow rfl dX7_doPart_150 (by decide) rfl ⟨Nat.le_of_ble_eq_true rfl, Nat.le_of_ble_eq_true rfl⟩ ⟨Nat.zero_le _, Nat.zero_le _⟩ (Nat.le_of_ble_eq_true rfl) ?_
      refine x_vret F FR dX7_doPart_153 (Nat.le_refl _) (Nat.le_refl _) ?_
      first
        | exact ⟨rfl, by unfold dpZ; rw [if_pos zy6] <;> rfl⟩
        | exact ⟨rfl, by unfold dpZ; rw [if_neg zn6, if_pos zy5] <;> rfl⟩
        | exact ⟨rfl, by unfold dpZ; rw [if_neg zn6, if_neg zn5, if_pos zy7] <;> rfl⟩
        | exact ⟨rfl, by unfold dpZ hwZ; rw [if_neg zn6, if_neg zn5, if_neg zn7, if_pos zy8] <;> rfl⟩
        | exact ⟨rfl, by unfold dpZ hwZ; rw [if_neg zn6, if_neg zn5, if_neg zn7, if_neg zn8, if_pos zy9] <;> rfl⟩
        | exact ⟨rfl, by unfold dpZ hwZ; rw [if_neg zn6, if_neg zn5, if_neg zn7, if_neg zn8, if_neg zn9] <;> rfl⟩
    · have zy9 : lt M k = 104 := h_14
      refine xj_iconst F dX7_doPart_145 ?_
      refine x_goto (tgt := 150) F dX7_doPart_146 (by decide) ?_
      refine x_V2 F (m_X7_sortNow hrw hz (by decide)) mlX7_139 mvX7_sortNow rfl dX7_doPart_150 (by decide) rfl ⟨Nat.le_of_ble_eq_true rfl, Nat.le_of_ble_eq_true rfl⟩ ⟨Nat.zero_le _, Nat.zero_le _⟩ (Nat.le_of_ble_eq_true rfl) ?_
      refine x_vret F FR dX7_doPart_153 (Nat.le_refl _) (Nat.le_refl _) ?_
      first
        | exact ⟨rfl, by unfold dpZ; rw [if_pos zy6] <;> rfl⟩
        | exact ⟨rfl, by unfold dpZ; rw [if_neg zn6, if_pos zy5] <;> rfl⟩
        | exact ⟨rfl, by unfold dpZ; rw [if_neg zn6, if_neg zn5, if_pos zy7] <;> rfl⟩
        | exact ⟨rfl, by unfold dpZ hwZ; rw [if_neg zn6, if_neg zn5, if_neg zn7, if_pos zy8] <;> rfl⟩
        | exact ⟨rfl, by unfold dpZ hwZ; rw [if_neg zn6, if_neg zn5, if_neg zn7, if_neg zn8, if_pos zy9] <;> rfl⟩
        | exact ⟨rfl, by unfold dpZ hwZ; rw [if_neg zn6, if_neg zn5, if_neg zn7, if_neg zn8, if_neg zn9] <;> rfl⟩
  · have zy8 : lt M k = 108 := h_12
    refine xj_iconst F dX7_doPart_130 ?_
    refine x_goto (tgt := 150) F dX7_doPart_131 (by decide) ?_
    refine x_V2 F (m_X7_sortNow hrw hz (by decide)) mlX7_139 mvX7_sortNow rfl dX7_doPart_150 (by decide) rfl ⟨Nat.le_of_ble_eq_true rfl, Nat.le_of_ble_eq_true rfl⟩ ⟨Nat.zero_le _, Nat.zero_le _⟩ (Nat.le_of_ble_eq_true rfl) ?_
    refine x_vret F FR dX7_doPart_153 (Nat.le_refl _) (Nat.le_refl _) ?_
    first
      | exact ⟨rfl, by unfold dpZ; rw [if_pos zy6] <;> rfl⟩
      | exact ⟨rfl, by unfold dpZ; rw [if_neg zn6, if_pos zy5] <;> rfl⟩
      | exact ⟨rfl, by unfold dpZ; rw [if_neg zn6, if_neg zn5, if_pos zy7] <;> rfl⟩
      | exact ⟨rfl, by unfold dpZ hwZ; rw [if_neg zn6, if_neg zn5, if_neg zn7, if_pos zy8] <;> rfl⟩
      | exact ⟨rfl, by unfold dpZ hwZ; rw [if_neg zn6, if_neg zn5, if_neg zn7, if_neg zn8, if_pos zy9] <;> rfl⟩
      | exact ⟨rfl, by unfold dpZ hwZ; rw [if_neg zn6, if_neg zn5, if_neg zn7, if_neg zn8, if_neg zn9] <;> rfl⟩
def cnZ : Nat → Nat → xM → xM × Nat
  | 0, k, M => (M, k)
  | n + 1, k, M => if (k : Int) < pa M ∧ cdB M k = true then cnZ n (k + 1) (dpZ M k) else (M, k)
def cmQ (M0 : xM) (r' : xV) (M' : xM) : Prop := (¬ wcP (t0 M0) = true → r' = vI (jI 0) ∧ ∃ M9, rdX (t0 M0) M9 ∧ M' = upI (spM M9 (fzZ (t0 M0)).1) 68 5 (jI 1)) ∧
  (wcP (t0 M0) = true → ∃ M9, rdX (t0 M0) M9 ∧ recs (t0 M0) M9 (fzZ (t0 M0)).2.2 ∧ r' = vI (jI ((cnZ 12 0 (svZ (spM M9 (fzZ (t0 M0)).1))).2 : Int)) ∧ M' = upI (cnZ 12 0 (svZ (spM M9 (fzZ (t0 M0)).1))).1 68 11 (jI 0))
theorem prOk_dp {M : xM} {k j : Nat} (h : prOk M j) : prOk (dpZ M k) j := by
  unfold prOk lr lt l1 l2
  rw [dpZ_row (by decide), dpZ_row (by decide), dpZ_row (by decide), dpZ_row (by decide)]
  exact h
theorem prOk_rec {M0 M : xM} {i : Nat} {s : Int} (hs : al (tsT M0 s) = true) (h : recZ M0 M i s) : prOk M i := by
  obtain ⟨c1, c2, c3, c4⟩ := h
  have hw : isW (cdZ M0 s) = true := by
    by_cases hw : isW (cdZ M0 s) = true
    · exact hw
    · unfold tsT at hs; rw [if_neg hw] at hs; cases hs
  have h0 : rgB M0 (s + 1 + wdN (cdZ M0 s) + 1) 48 51 = true ∧ al (tlT M0 (s + 1 + wdN (cdZ M0 s) + 1 + 1) (cdZ M0 s)) = true := by
    unfold tsT at hs
    rw [if_pos hw, al_t rfl, al_ap, Bool.and_eq_true] at hs
    simp only [al, Bool.and_eq_true] at hs
    exact ⟨hs.2.2.1, hs.2.2.2⟩
  have h1 := rgB_in h0.1 (by decide)
  unfold prOk lr lt l1 l2
  rw [c1, c2]
  refine ⟨by omega, fun h5 => ?_⟩
  obtain ⟨d1, d2⟩ := c4 h5
  have h2 := h0.2
  unfold tlT at h2
  rw [if_neg (by omega), if_pos h5] at h2
  unfold plT at h2
  simp only [al, Bool.and_eq_true] at h2
  have h3 := rgB_in h2.2.1 (by decide)
  have h4 := rgB_in h2.2.2.1 (by decide)
  rw [d1, d2]
  omega
set_option maxRecDepth 20000 in
theorem L_X7_chant {l : Launch} {E : xE} {M0 : xM} (hZ : okZ M0) (hY : okW M0) (hs : 0 ≤ (M0.1 68 2).toInt ∧ (M0.1 68 2).toInt ≤ 6) {Y : xY} (F : xFix E (xA E) Y cX7_chant yX7_chant.cls 2) (FR : xRet E Y (some FieldType.int) 0 0 (fun r' M' => cmQ M0 r' M') (fun _ _ => False)) : ∀ (k : Nat) (M : xM) (k9 n : Nat), (okZ M ∧ (∀ j : Nat, (j : Int) < pa M → prOk M j) ∧ pa M ≤ 11 ∧ (∀ (r1 : xV) (M1 : xM), r1 = vI (jI ((cnZ n k9 M).2 : Int)) → M1 = upI (cnZ n k9 M).1 68 11 (jI 0) → cmQ M0 r1 M1) ∧ k9 + n = 12) → n < k → WP l E (xRm 11 0 0) (xA E) Y 0 0 24 [vA 68, vI (jI (k9 : Int))] [] M := by
  intro k
  induction k with
  | zero => intro M k9 n hI hk; exact absurd hk (Nat.not_lt_zero _)
  | succ k ih =>
    intro M k9 n hI hk
    obtain ⟨hZM, hpr, hpa, hex, hkn⟩ := hI
    have epa : (M.1 68 13).toInt = pa M := rfl
    refine x_iload_n F dX7_chant_24 rfl ?_
    refine x_aload_n F dX7_chant_25 rfl ?_
    refine xj_geti F flX7_166 rfl dX7_chant_26 (by decide) (by decide) rfl (fun hg_1 => ?_)
    rw [epa]
    refine xj_icmp_ge (tgt := 51) F dX7_chant_29 (by decide) (by omega) (fun h_2 => ?_) (fun h_2 => ?_)
    · have zge := h_2
      refine x_aload_n F dX7_chant_51 rfl ?_
      refine xj_iconst F dX7_chant_52 ?_
      refine x_puti F flX7_145 rfl dX7_chant_53 (by decide) (by decide) rfl fw7_11 rfl rfl ?_
      refine x_iload_n F dX7_chant_56 rfl ?_
      refine x_iret F FR dX7_chant_57 rfl (Nat.le_refl _) (Nat.le_refl _) ?_
      have hst : cnZ n k9 M = (M, k9) := (by cases n with
        | zero => rfl
        | succ n1 => rw [cnZ]; first | exact if_neg (fun z => absurd z.1 (by omega)) | exact if_neg (fun z => znc z.2))
      exact hex _ _ (by rw [hst]) (by rw [hst])
    · have zlt := h_2
      refine x_aload_n F dX7_chant_32 rfl ?_
      refine x_iload_n F dX7_chant_33 rfl ?_
      refine x_V1 F (m_X7_canDo (k := k9) (by omega) hZM (hpr k9 (by omega))) mlX7_188 mvX7_canDo rfl dX7_chant_34 (by decide) rfl ⟨Nat.le_of_ble_eq_true rfl, Nat.le_of_ble_eq_true rfl⟩ ⟨Nat.zero_le _, Nat.zero_le _⟩ (Nat.le_of_ble_eq_true rfl) ?_
      refine xb_if_eq (tgt := 51) F dX7_chant_37 (by decide) (fun h_3 => ?_) (fun h_3 => ?_)
      · have znc := h_3
        refine x_aload_n F dX7_chant_51 rfl ?_
        refine xj_iconst F dX7_chant_52 ?_
        refine x_puti F flX7_145 rfl dX7_chant_53 (by decide) (by decide) rfl fw7_11 rfl rfl ?_
        refine x_iload_n F dX7_chant_56 rfl ?_
        refine x_iret F FR dX7_chant_57 rfl (Nat.le_refl _) (Nat.le_refl _) ?_
        have hst : cnZ n k9 M = (M, k9) := (by cases n with
          | zero => rfl
          | succ n1 => rw [cnZ]; first | exact if_neg (fun z => absurd z.1 (by omega)) | exact if_neg (fun z => znc z.2))
        exact hex _ _ (by rw [hst]) (by rw [hst])
      · have zcd := h_3
        refine x_aload_n F dX7_chant_40 rfl ?_
        refine x_iload_n F dX7_chant_41 rfl ?_
        refine x_V1 F (m_X7_doPart (k := k9) (by omega) hZM (hpr k9 (by omega)) zcd) mlX7_191 mvX7_doPart rfl dX7_chant_42 (by decide) rfl ⟨Nat.le_of_ble_eq_true rfl, Nat.le_of_ble_eq_true rfl⟩ ⟨Nat.zero_le _, Nat.zero_le _⟩ (Nat.le_of_ble_eq_true rfl) ?_
        refine xj_iinc F dX7_chant_45 rfl ?_
        refine x_goto (tgt := 24) F dX7_chant_48 (by decide) ?_
        obtain ⟨n1, rfl⟩ : ∃ n1, n = n1 + 1 := ⟨n - 1, by omega⟩
        refine ih (dpZ M k9) (k9 + 1) n1 ⟨okZ_dp hZM (hpr k9 (by omega)) zcd, fun j hj => prOk_dp (hpr j (by unfold pa at hj ⊢; rw [dpZ_row (by decide)] at hj; exact hj)), ?_, fun r1 M1 e1 e2 => hex r1 M1 ?_ ?_, by omega⟩ (by omega)
        · unfold pa; rw [dpZ_row (by decide)]; exact hpa
        · rw [e1, cnZ, if_pos ⟨zlt, zcd⟩]
        · rw [e2, cnZ, if_pos ⟨zlt, zcd⟩]
