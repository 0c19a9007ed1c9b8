/-! THE PARTS OF A TEXT, DONE -/
/-- a part that fits its form -/
def pOK (M : xM) (s : Int) : Prop := 0 ≤ s ∧ s < tlI M ∧ s + plI M s ≤ tlI M ∧ ∀ k : Int, s ≤ k → k < s + plI M s → ftB M (fmN (cdI M s)) (k - s) k = true
theorem pOK_at {M : xM} {s : Int} (h : pOK M s) {x : Int} (hx : cdI M s = x) {a : Int} (ha : 0 ≤ a ∧ a < sLen (fmN x)) : ftC (sB (fmN x) a) (cdI M (s + a)) (cdI M (s + a - 1)) (cdI M (s + a - 2)) = true := by
  have h1 := h.2.2.2 (s + a) (by omega) (by unfold plI; rw [hx]; omega)
  rw [hx, show s + a - s = a by omega] at h1
  unfold ftB at h1
  rw [if_pos ha] at h1
  exact h1
theorem ftC_R {c c1 c2 : Int} (h : ftC 82 c c1 c2 = true) : 48 ≤ c ∧ c ≤ 51 := by
  unfold ftC at h; rw [if_pos rfl] at h; exact of_decide_eq_true h
theorem ftC_P {c c1 c2 : Int} (h : ftC 80 c c1 c2 = true) : 48 ≤ c ∧ c ≤ 53 := by
  unfold ftC at h; rw [if_neg (by decide), if_pos rfl] at h; exact of_decide_eq_true h
theorem ftC_A {c c1 c2 : Int} (h : ftC 65 c c1 c2 = true) : 49 ≤ c ∧ c ≤ 50 := by
  unfold ftC at h; rw [if_neg (by decide), if_neg (by decide), if_pos rfl] at h; exact of_decide_eq_true h
theorem ftC_B {c c1 c2 : Int} (h : ftC 66 c c1 c2 = true) : 48 ≤ c ∧ c ≤ (if c1 = 50 then 50 else 57) := by
  unfold ftC at h; rw [if_neg (by decide), if_neg (by decide), if_neg (by decide), if_pos rfl] at h; exact of_decide_eq_true h
theorem ftC_C {c c1 c2 : Int} (h : ftC 67 c c1 c2 = true) : 48 ≤ c ∧ c ≤ (if c2 = 50 ∧ c1 = 50 then 48 else 57) := by
  unfold ftC at h; rw [if_neg (by decide), if_neg (by decide), if_neg (by decide), if_neg (by decide), if_pos rfl] at h; exact of_decide_eq_true h
theorem ftC_V {c c1 c2 : Int} (h : ftC 86 c c1 c2 = true) : 0 ≤ vxI c := by
  unfold ftC at h; rw [if_neg (by decide), if_neg (by decide), if_neg (by decide), if_neg (by decide), if_neg (by decide), if_pos rfl] at h; exact of_decide_eq_true h
def jtR (M : xM) (s : Int) : Int := cdI M (s + 5) - 48
def jtH (M : xM) (s : Int) : Int := 100 * (cdI M (s + 7) - 48) + 10 * (cdI M (s + 8) - 48) + (cdI M (s + 9) - 48)
def jtV (M : xM) (s : Int) : Int := vxI (cdI M (s + 10))
def stP (M : xM) (s : Int) (k : Int) : Int := cdI M (s + k) - 48
theorem jt_b {M : xM} {s : Int} (h : pOK M s) (hx : cdI M s = 106) : (0 ≤ jtR M s ∧ jtR M s < 4) ∧ (100 ≤ jtH M s ∧ jtH M s ≤ 220) ∧ (0 ≤ jtV M s ∧ jtV M s < 4) := by
  have h5 := ftC_R (pOK_at h hx (a := 5) (by decide))
  have h7 := ftC_A (pOK_at h hx (a := 7) (by decide))
  have h8 := ftC_B (pOK_at h hx (a := 8) (by decide))
  have h9 := ftC_C (pOK_at h hx (a := 9) (by decide))
  have h10 := ftC_V (pOK_at h hx (a := 10) (by decide))
  have hv := vxI_b (cdI M (s + 10))
  rw [show s + 8 - 1 = s + 7 by omega] at h8
  rw [show s + 9 - 1 = s + 8 by omega, show s + 9 - 2 = s + 7 by omega] at h9
  unfold jtR jtH jtV
  by_cases e7 : cdI M (s + 7) = 50
  · rw [if_pos e7] at h8
    by_cases e8 : cdI M (s + 8) = 50
    · rw [if_pos ⟨e7, e8⟩] at h9; omega
    · rw [if_neg (fun z => e8 z.2)] at h9; omega
  · rw [if_neg e7] at h8
    rw [if_neg (fun z => e7 z.1)] at h9
    omega
theorem st_b {M : xM} {s : Int} (h : pOK M s) (hx : cdI M s = 115) : (0 ≤ stP M s 5 ∧ stP M s 5 < 4) ∧ (0 ≤ stP M s 7 ∧ stP M s 7 < 6) ∧ (0 ≤ stP M s 8 ∧ stP M s 8 < 6) := by
  have h5 := ftC_R (pOK_at h hx (a := 5) (by decide))
  have h7 := ftC_P (pOK_at h hx (a := 7) (by decide))
  have h8 := ftC_P (pOK_at h hx (a := 8) (by decide))
  unfold stP
  omega
def enR (M : xM) (s : Int) : Int := cdI M (s + plI M s - 1) - 48
theorem en_b {M : xM} {s : Int} (h : pOK M s) (hx : cdI M s = 116 ∨ cdI M s = 108 ∨ cdI M s = 104 ∨ cdI M s = 118) : 0 ≤ enR M s ∧ enR M s < 4 := by
  unfold enR plI
  rcases hx with hx | hx | hx | hx
  · have h5 := ftC_R (pOK_at h hx (a := 5) (by decide))
    rw [hx, show s + ((sLen (fmN 116) : Nat) : Int) - 1 = s + 5 from by rw [show ((sLen (fmN 116) : Nat) : Int) = 6 from rfl]; omega]; omega
  · have h5 := ftC_R (pOK_at h hx (a := 4) (by decide))
    rw [hx, show s + ((sLen (fmN 108) : Nat) : Int) - 1 = s + 4 from by rw [show ((sLen (fmN 108) : Nat) : Int) = 5 from rfl]; omega]; omega
  · have h5 := ftC_R (pOK_at h hx (a := 5) (by decide))
    rw [hx, show s + ((sLen (fmN 104) : Nat) : Int) - 1 = s + 5 from by rw [show ((sLen (fmN 104) : Nat) : Int) = 6 from rfl]; omega]; omega
  · have h5 := ftC_R (pOK_at h hx (a := 6) (by decide))
    rw [hx, show s + ((sLen (fmN 118) : Nat) : Int) - 1 = s + 6 from by rw [show ((sLen (fmN 118) : Nat) : Int) = 7 from rfl]; omega]; omega
def jtM (M : xM) (s : Int) : xM := if szI M 1 (jtR M s) < 6 ∧ (M.1 1 6).toInt < 999 then arM M 1 (jtR M s) (jtH M s) (jtV M s) else M
def scM (M : xM) (r p q : Int) : xM := upI (swP M 1 (spI r p) (spI r q)) 1 8 (jI (((swP M 1 (spI r p) (spI r q)).1 1 8).toInt + 1))
def stM (M : xM) (s : Int) : xM := if stP M s 7 < szI M 1 (stP M s 5) ∧ stP M s 8 < szI M 1 (stP M s 5) then scM M (stP M s 5) (stP M s 7) (stP M s 8) else M
set_option maxRecDepth 20000 in
theorem m_X6_joinByText {l : Launch} {E : xE} {s : Int} {M : xM} (hO : okC M 1) (hB : okB M) (hp : pOK M s) (hx : cdI M s = 106) : XF l E 5 yX6_joinByText cX6_joinByText 5 (some FieldType.boolean) [vA 0, vI (jI s)] M (vI (jb (szI M 1 (jtR M s) < 6 ∧ (M.1 1 6).toInt < 999))) (jtM M s) := by
  refine xp_start (plainFor_of_name (by decide)) rfl (Nat.le_of_ble_eq_true rfl) ?_
  intro Y F FR
  have hC : isCh 1 := ch1
  have hS := hS_of hO
  have hb := hB.1
  have hs0 := hp.1
  have hs1 := hp.2.1
  have hjt := jt_b hp hx
  have hc7 := cdI_b hB (s + 7)
  have hc8 := cdI_b hB (s + 8)
  have hc9 := cdI_b hB (s + 9)
  refine x_aload_n F dX6_joinByText_0 rfl ?_
  refine x_getc (v := 48) F flX6_36 rfl dX6_joinByText_1 (by decide) (by decide) rfl rfl ?_
  refine x_iload_n F dX6_joinByText_4 rfl ?_
  refine xj_iconst F dX6_joinByText_5 ?_
  refine xj_iadd F dX6_joinByText_6 ?_
  refine x_V1 F (m_X0_digitAt hB (by omega)) mlX6_240 mvX0_digitAt rfl dX6_joinByText_7 (by decide) rfl ⟨Nat.le_of_ble_eq_true rfl, Nat.le_of_ble_eq_true rfl⟩ ⟨Nat.zero_le _, Nat.zero_le _⟩ (Nat.le_of_ble_eq_true rfl) ?_
  have hf_1 := cdI_b hB (s + 5)
  refine x_istore_n F dX6_joinByText_10 (by decide) ?_
  refine xj_bipush F dX6_joinByText_11 (by decide) ?_
  refine x_aload_n F dX6_joinByText_13 rfl ?_
  refine x_getc (v := 48) F flX6_36 rfl dX6_joinByText_14 (by decide) (by decide) rfl rfl ?_
  refine x_iload_n F dX6_joinByText_17 rfl ?_
  refine xj_bipush F dX6_joinByText_18 (by decide) ?_
  refine xj_iadd F dX6_joinByText_20 ?_
  refine x_V1 F (m_X0_digitAt hB (by omega)) mlX6_240 mvX0_digitAt rfl dX6_joinByText_21 (by decide) rfl ⟨Nat.le_of_ble_eq_true rfl, Nat.le_of_ble_eq_true rfl⟩ ⟨Nat.zero_le _, Nat.zero_le _⟩ (Nat.le_of_ble_eq_true rfl) ?_
  have hf_2 := cdI_b hB (s + 7)
  refine xj_imul F dX6_joinByText_24 ?_
  refine xj_bipush F dX6_joinByText_25 (by decide) ?_
  refine x_aload_n F dX6_joinByText_27 rfl ?_
  refine x_getc (v := 48) F flX6_36 rfl dX6_joinByText_28 (by decide) (by decide) rfl rfl ?_
  refine x_iload_n F dX6_joinByText_31 rfl ?_
  refine xj_bipush F dX6_joinByText_32 (by decide) ?_
  refine xj_iadd F dX6_joinByText_34 ?_
  refine x_V1 F (m_X0_digitAt hB (by omega)) mlX6_240 mvX0_digitAt rfl dX6_joinByText_35 (by decide) rfl ⟨Nat.le_of_ble_eq_true rfl, Nat.le_of_ble_eq_true rfl⟩ ⟨Nat.zero_le _, Nat.zero_le _⟩ (Nat.le_of_ble_eq_true rfl) ?_
  have hf_3 := cdI_b hB (s + 8)
  refine xj_imul F dX6_joinByText_38 ?_
  refine xj_iadd F dX6_joinByText_39 ?_
  refine x_aload_n F dX6_joinByText_40 rfl ?_
  refine x_getc (v := 48) F flX6_36 rfl dX6_joinByText_41 (by decide) (by decide) rfl rfl ?_
  refine x_iload_n F dX6_joinByText_44 rfl ?_
  refine xj_bipush F dX6_joinByText_45 (by decide) ?_
  refine xj_iadd F dX6_joinByText_47 ?_
  refine x_V1 F (m_X0_digitAt hB (by omega)) mlX6_240 mvX0_digitAt rfl dX6_joinByText_48 (by decide) rfl ⟨Nat.le_of_ble_eq_true rfl, Nat.le_of_ble_eq_true rfl⟩ ⟨Nat.zero_le _, Nat.zero_le _⟩ (Nat.le_of_ble_eq_true rfl) ?_
  have hf_4 := cdI_b hB (s + 9)
  refine xj_iadd F dX6_joinByText_51 ?_
  refine x_istore_n F dX6_joinByText_52 (by decide) ?_
  refine x_ldcS F (show (RX6, 243, "btas", 7) ∈ xsR by decide +kernel) dX6_joinByText_53 ?_
  refine x_aload_n F dX6_joinByText_55 rfl ?_
  refine x_getc (v := 48) F flX6_36 rfl dX6_joinByText_56 (by decide) (by decide) rfl rfl ?_
  refine x_iload_n F dX6_joinByText_59 rfl ?_
  refine xj_bipush F dX6_joinByText_60 (by decide) ?_
  refine xj_iadd F dX6_joinByText_62 ?_
  refine x_V1 F (m_X0_codeAt hB (by omega)) mlX6_230 mvX0_codeAt rfl dX6_joinByText_63 (by decide) rfl ⟨Nat.le_of_ble_eq_true rfl, Nat.le_of_ble_eq_true rfl⟩ ⟨Nat.zero_le _, Nat.zero_le _⟩ (Nat.le_of_ble_eq_true rfl) ?_
  have hf_5 := cdI_b hB (s + 10)
  have hc10 := cdI_b hB (s + 10)
  refine x_Q1 F (by decide) (m_J0_indexOf_0f7a4 (by omega)) mlX6_245 mvJ0_indexOf_0f7a4 dX6_joinByText_66 (by decide +kernel) ⟨Nat.le_of_ble_eq_true rfl, Nat.le_of_ble_eq_true rfl⟩ ⟨Nat.zero_le _, Nat.zero_le _⟩ (Nat.le_of_ble_eq_true rfl) ?_
  refine x_istore F dX6_joinByText_69 (by decide) ?_
  refine x_aload_n F dX6_joinByText_71 rfl ?_
  refine x_getc (v := 1) F flX6_12 rfl dX6_joinByText_72 (by decide) (by decide) rfl rfl ?_
  refine x_iload_n F dX6_joinByText_75 rfl ?_
  refine x_V1 F (m_X1_hasRoomFor hC (by show rg (jtR M s); omega)) mlX6_69 mvX1_hasRoomFor rfl dX6_joinByText_76 (by decide) rfl ⟨Nat.le_of_ble_eq_true rfl, Nat.le_of_ble_eq_true rfl⟩ ⟨Nat.zero_le _, Nat.zero_le _⟩ (Nat.le_of_ble_eq_true rfl) ?_
  refine xb_if_ne (tgt := 84) F dX6_joinByText_79 (by decide) (fun h_6 => ?_) (fun h_6 => ?_)
  · have hyes := h_6
    refine x_aload_n F dX6_joinByText_84 rfl ?_
    refine x_getc (v := 1) F flX6_12 rfl dX6_joinByText_85 (by decide) (by decide) rfl rfl ?_
    refine x_iload_n F dX6_joinByText_88 rfl ?_
    refine x_iload_n F dX6_joinByText_89 rfl ?_
    refine x_iload F dX6_joinByText_90 rfl ?_
    refine x_V3 F (m_X1_arrive hC hS (by show rg (jtR M s); omega)) mlX6_80 mvX1_arrive rfl dX6_joinByText_92 (by decide) rfl ⟨Nat.le_of_ble_eq_true rfl, Nat.le_of_ble_eq_true rfl⟩ ⟨Nat.zero_le _, Nat.zero_le _⟩ (Nat.le_of_ble_eq_true rfl) ?_
    refine x_pop F dX6_joinByText_95 rfl ?_
    refine xj_iconst F dX6_joinByText_96 ?_
    refine x_iret F FR dX6_joinByText_97 rfl (Nat.le_refl _) (Nat.le_refl _) ?_
    exact ⟨congrArg vI (jb_t hyes).symm, by unfold jtM; exact (if_pos hyes).symm⟩
  · have hno := h_6
    refine xj_iconst F dX6_joinByText_82 ?_
    refine x_iret F FR dX6_joinByText_83 rfl (Nat.le_refl _) (Nat.le_refl _) ?_
    exact ⟨congrArg vI (jb_f hno).symm, by unfold jtM; exact (if_neg hno).symm⟩
set_option maxRecDepth 20000 in
theorem m_X6_swapByText {l : Launch} {E : xE} {s : Int} {M : xM} (hO : okC M 1) (hB : okB M) (hp : pOK M s) (hx : cdI M s = 115) : XF l E 5 yX6_swapByText cX6_swapByText 5 (some FieldType.boolean) [vA 0, vI (jI s)] M (vI (jb (stP M s 7 < szI M 1 (stP M s 5) ∧ stP M s 8 < szI M 1 (stP M s 5)))) (stM M s) := by
  refine xp_start (plainFor_of_name (by decide)) rfl (Nat.le_of_ble_eq_true rfl) ?_
  intro Y F FR
  have hC : isCh 1 := ch1
  have hS := hS_of hO
  have hb := hB.1
  have hs0 := hp.1
  have hs1 := hp.2.1
  have hst := st_b hp hx
  have ha := hst.1
  have hb7 := hst.2.1
  have hb8 := hst.2.2
  refine x_aload_n F dX6_swapByText_0 rfl ?_
  refine x_getc (v := 48) F flX6_36 rfl dX6_swapByText_1 (by decide) (by decide) rfl rfl ?_
  refine x_iload_n F dX6_swapByText_4 rfl ?_
  refine xj_iconst F dX6_swapByText_5 ?_
  refine xj_iadd F dX6_swapByText_6 ?_
  refine x_V1 F (m_X0_digitAt hB (by omega)) mlX6_240 mvX0_digitAt rfl dX6_swapByText_7 (by decide) rfl ⟨Nat.le_of_ble_eq_true rfl, Nat.le_of_ble_eq_true rfl⟩ ⟨Nat.zero_le _, Nat.zero_le _⟩ (Nat.le_of_ble_eq_true rfl) ?_
  have hf_1 := cdI_b hB (s + 5)
  refine x_istore_n F dX6_swapByText_10 (by decide) ?_
  refine x_aload_n F dX6_swapByText_11 rfl ?_
  refine x_getc (v := 48) F flX6_36 rfl dX6_swapByText_12 (by decide) (by decide) rfl rfl ?_
  refine x_iload_n F dX6_swapByText_15 rfl ?_
  refine xj_bipush F dX6_swapByText_16 (by decide) ?_
  refine xj_iadd F dX6_swapByText_18 ?_
  refine x_V1 F (m_X0_digitAt (by first | assumption | omega | decide) (by first | assumption | omega | decide)) mlX6_240 mvX0_digitAt rfl dX6_swapByText_19 (by decide) rfl ⟨Nat.le_of_ble_eq_true rfl, Nat.le_of_ble_eq_true rfl⟩ ⟨Nat.zero_le _, Nat.zero_le _⟩ (Nat.le_of_ble_eq_true rfl) ?_
  have hf_2 := cdI_b hB (s + 7)
  refine x_istore_n F dX6_swapByText_22 (by decide) ?_
  refine x_aload_n F dX6_swapByText_23 rfl ?_
  refine x_getc (v := 48) F flX6_36 rfl dX6_swapByText_24 (by decide) (by decide) rfl rfl ?_
  refine x_iload_n F dX6_swapByText_27 rfl ?_
  refine xj_bipush F dX6_swapByText_28 (by decide) ?_
  refine xj_iadd F dX6_swapByText_30 ?_
  refine x_V1 F (m_X0_digitAt hB (by omega)) mlX6_240 mvX0_digitAt rfl dX6_swapByText_31 (by decide) rfl ⟨Nat.le_of_ble_eq_true rfl, Nat.le_of_ble_eq_true rfl⟩ ⟨Nat.zero_le _, Nat.zero_le _⟩ (Nat.le_of_ble_eq_true rfl) ?_
  have hf_3 := cdI_b hB (s + 8)
  refine x_istore F dX6_swapByText_34 (by decide) ?_
  refine x_aload_n F dX6_swapByText_36 rfl ?_
  refine x_getc (v := 1) F flX6_12 rfl dX6_swapByText_37 (by decide) (by decide) rfl rfl ?_
  refine x_iload_n F dX6_swapByText_40 rfl ?_
  refine x_iload_n F dX6_swapByText_41 rfl ?_
  refine x_V2 F (m_X1_isTaken hC (by show rg (stP M s 5); omega) (by first | (show rg (stP M s 7); omega) | (show rg (stP M s 8); omega))) mlX6_226 mvX1_isTaken rfl dX6_swapByText_42 (by decide) rfl ⟨Nat.le_of_ble_eq_true rfl, Nat.le_of_ble_eq_true rfl⟩ ⟨Nat.zero_le _, Nat.zero_le _⟩ (Nat.le_of_ble_eq_true rfl) ?_
  refine xb_if_eq (tgt := 61) F dX6_swapByText_45 (by decide) (fun h_4 => ?_) (fun h_4 => ?_)
  · have hno : ¬ (stP M s 7 < szI M 1 (stP M s 5) ∧ stP M s 8 < szI M 1 (stP M s 5)) := fun z => h_4 ⟨hb7.1, z.1⟩
    refine xj_iconst F dX6_swapByText_61 ?_
    refine x_iret F FR dX6_swapByText_62 rfl (Nat.le_refl _) (Nat.le_refl _) ?_
    exact ⟨congrArg vI (jb_f hno).symm, by unfold stM; exact (if_neg hno).symm⟩
  · have hy7 := h_4
    refine x_aload_n F dX6_swapByText_48 rfl ?_
    refine x_getc (v := 1) F flX6_12 rfl dX6_swapByText_49 (by decide) (by decide) rfl rfl ?_
    refine x_iload_n F dX6_swapByText_52 rfl ?_
    refine x_iload F dX6_swapByText_53 rfl ?_
    refine x_V2 F (m_X1_isTaken hC (by show rg (stP M s 5); omega) (by first | (show rg (stP M s 7); omega) | (show rg (stP M s 8); omega))) mlX6_226 mvX1_isTaken rfl dX6_swapByText_55 (by decide) rfl ⟨Nat.le_of_ble_eq_true rfl, Nat.le_of_ble_eq_true rfl⟩ ⟨Nat.zero_le _, Nat.zero_le _⟩ (Nat.le_of_ble_eq_true rfl) ?_
    refine xb_if_ne (tgt := 63) F dX6_swapByText_58 (by decide) (fun h_5 => ?_) (fun h_5 => ?_)
    · have hyes : (stP M s 7 < szI M 1 (stP M s 5) ∧ stP M s 8 < szI M 1 (stP M s 5)) := ⟨hy7.2, h_5.2⟩
      refine x_aload_n F dX6_swapByText_63 rfl ?_
      refine x_getc (v := 1) F flX6_12 rfl dX6_swapByText_64 (by decide) (by decide) rfl rfl ?_
      refine x_iload_n F dX6_swapByText_67 rfl ?_
      refine x_iload_n F dX6_swapByText_68 rfl ?_
      refine x_iload_n F dX6_swapByText_69 rfl ?_
      refine x_iload F dX6_swapByText_70 rfl ?_
      refine x_V4 F (m_X1_swapAndCount hC (by show rg (stP M s 5); omega) (by show rg (stP M s 7); omega) (by show rg (stP M s 5); omega) (by show rg (stP M s 8); omega)) mlX6_99 mvX1_swapAndCount rfl dX6_swapByText_72 (by decide) rfl ⟨Nat.le_of_ble_eq_true rfl, Nat.le_of_ble_eq_true rfl⟩ ⟨Nat.zero_le _, Nat.zero_le _⟩ (Nat.le_of_ble_eq_true rfl) ?_
      refine xj_iconst F dX6_swapByText_75 ?_
      refine x_iret F FR dX6_swapByText_76 rfl (Nat.le_refl _) (Nat.le_refl _) ?_
      exact ⟨congrArg vI (jb_t hyes).symm, by unfold stM; exact (if_pos hyes).symm⟩
    · have hno : ¬ (stP M s 7 < szI M 1 (stP M s 5) ∧ stP M s 8 < szI M 1 (stP M s 5)) := fun z => h_5 ⟨hb8.1, z.2⟩
      refine xj_iconst F dX6_swapByText_61 ?_
      refine x_iret F FR dX6_swapByText_62 rfl (Nat.le_refl _) (Nat.le_refl _) ?_
      exact ⟨congrArg vI (jb_f hno).symm, by unfold stM; exact (if_neg hno).symm⟩
def dpb (M : xM) (s : Int) : Bool := if cdI M s = 106 then decide (szI M 1 (jtR M s) < 6 ∧ (M.1 1 6).toInt < 999) else if cdI M s = 115 then decide (stP M s 7 < szI M 1 (stP M s 5) ∧ stP M s 8 < szI M 1 (stP M s 5)) else decide (cdI M s = 116 ∨ cdI M s = 108 ∨ cdI M s = 104 ∨ cdI M s = 118)
def dpM (M : xM) (s : Int) : xM := if cdI M s = 106 then jtM M s else if cdI M s = 115 then stM M s else if cdI M s = 116 then trM M 1 (enR M s) (szI M 1 (enR M s) / 2).toNat
  else if cdI M s = 108 then srM M 1 (enR M s) 0 (szI M 1 (enR M s) - 1).toNat else if cdI M s = 104 then srM M 1 (enR M s) 1 (szI M 1 (enR M s) - 1).toNat else if cdI M s = 118 then srM M 1 (enR M s) 2 (szI M 1 (enR M s) - 1).toNat else M
set_option maxRecDepth 20000 in
theorem m_X6_doPart {l : Launch} {E : xE} {s : Int} {M : xM} (hO : okC M 1) (hB : okB M) (hp : pOK M s) : XF l E 6 yX6_doPart cX6_doPart 3 (some FieldType.boolean) [vA 0, vI (jI s)] M (vI (jb (dpb M s = true))) (dpM M s) := by
  refine xp_start (plainFor_of_name (by decide)) rfl (Nat.le_of_ble_eq_true rfl) ?_
  intro Y F FR
  have hC : isCh 1 := ch1
  have hS := hS_of hO
  have hb := hB.1
  have hs0 := hp.1
  have hs1 := hp.2.1
  have hpl := plI_b M s
  refine x_aload_n F dX6_doPart_0 rfl ?_
  refine x_getc (v := 48) F flX6_36 rfl dX6_doPart_1 (by decide) (by decide) rfl rfl ?_
  refine x_iload_n F dX6_doPart_4 rfl ?_
  refine x_V1 F (m_X0_endOfPart hB (by omega)) mlX6_152 mvX0_endOfPart rfl dX6_doPart_5 (by decide) rfl ⟨Nat.le_of_ble_eq_true rfl, Nat.le_of_ble_eq_true rfl⟩ ⟨Nat.zero_le _, Nat.zero_le _⟩ (Nat.le_of_ble_eq_true rfl) ?_
  have hf_1 := plI_b M s
  refine x_istore_n F dX6_doPart_8 (by decide) ?_
  refine x_aload_n F dX6_doPart_9 rfl ?_
  refine x_getc (v := 48) F flX6_36 rfl dX6_doPart_10 (by decide) (by decide) rfl rfl ?_
  refine x_iload_n F dX6_doPart_13 rfl ?_
  refine x_V1 F (m_X0_codeAt hB (by omega)) mlX6_230 mvX0_codeAt rfl dX6_doPart_14 (by decide) rfl ⟨Nat.le_of_ble_eq_true rfl, Nat.le_of_ble_eq_true rfl⟩ ⟨Nat.zero_le _, Nat.zero_le _⟩ (Nat.le_of_ble_eq_true rfl) ?_
  have hf_2 := cdI_b hB s
  by_cases h_3 : (cdI M s) = 104
  · refine xj_tabIn (off := 126) (tgt := 143) F dX6_doPart_17 (by omega) (by omega) (by rw [h_3]; rfl) (by decide) (by omega) ?_
    have hx := h_3
    have hen := en_b hp (by omega)
    refine x_aload_n F dX6_doPart_143 rfl ?_
    refine x_getc (v := 1) F flX6_12 rfl dX6_doPart_144 (by decide) (by decide) rfl rfl ?_
    refine x_aload_n F dX6_doPart_147 rfl ?_
    refine x_getc (v := 48) F flX6_36 rfl dX6_doPart_148 (by decide) (by decide) rfl rfl ?_
    refine x_iload_n F dX6_doPart_151 rfl ?_
    refine xj_iconst F dX6_doPart_152 ?_
    refine xj_isub F dX6_doPart_153 ?_
    refine x_V1 F (m_X0_digitAt hB (by omega)) mlX6_240 mvX0_digitAt rfl dX6_doPart_154 (by decide) rfl ⟨Nat.le_of_ble_eq_true rfl, Nat.le_of_ble_eq_true rfl⟩ ⟨Nat.zero_le _, Nat.zero_le _⟩ (Nat.le_of_ble_eq_true rfl) ?_
    have hf_4 := cdI_b hB ((s + plI M s) - 1)
    refine xj_iconst F dX6_doPart_157 ?_
    refine x_V2 F (m_X1_putInOrder hC hS (by show 0 ≤ enR M s ∧ enR M s < 4; exact hen) hO.2.2.2 (by decide)) mlX6_117 mvX1_putInOrder rfl dX6_doPart_158 (by decide) rfl ⟨Nat.le_of_ble_eq_true rfl, Nat.le_of_ble_eq_true rfl⟩ ⟨Nat.zero_le _, Nat.zero_le _⟩ (Nat.le_of_ble_eq_true rfl) ?_
    refine xj_iconst F dX6_doPart_161 ?_
    refine x_iret F FR dX6_doPart_162 rfl (Nat.le_refl _) (Nat.le_refl _) ?_
    refine ⟨congrArg vI ?_, ?_⟩
    · unfold dpb; rw [if_neg (by omega), if_neg (by omega)]; exact (jb_t (decide_eq_true (by omega))).symm
    · unfold dpM; rw [if_neg (by omega), if_neg (by omega), if_neg (by omega), if_neg (by omega), if_pos hx]; rfl
  by_cases h_5 : (cdI M s) = 105
  · refine xj_tabIn (off := 166) (tgt := 183) F dX6_doPart_17 (by omega) (by omega) (by rw [h_5]; rfl) (by decide) (by omega) ?_
    refine xj_iconst F dX6_doPart_183 ?_
    refine x_iret F FR dX6_doPart_184 rfl (Nat.le_refl _) (Nat.le_refl _) ?_
    refine ⟨congrArg vI ?_, ?_⟩
    · unfold dpb; rw [if_neg (by omega), if_neg (by omega)]; exact (jb_f (by rw [decide_eq_true_eq]; omega)).symm
    · unfold dpM; rw [if_neg (by omega), if_neg (by omega), if_neg (by omega), if_neg (by omega), if_neg (by omega), if_neg (by omega)]
  by_cases h_6 : (cdI M s) = 106
  · refine xj_tabIn (off := 75) (tgt := 92) F dX6_doPart_17 (by omega) (by omega) (by rw [h_6]; rfl) (by decide) (by omega) ?_
    have hx := h_6
    refine x_aload_n F dX6_doPart_92 rfl ?_
    refine x_iload_n F dX6_doPart_93 rfl ?_
    refine x_V1 F (m_X6_joinByText hO hB hp hx) mlX6_234 mvX6_joinByText rfl dX6_doPart_94 (by decide) rfl ⟨Nat.le_of_ble_eq_true rfl, Nat.le_of_ble_eq_true rfl⟩ ⟨Nat.zero_le _, Nat.zero_le _⟩ (Nat.le_of_ble_eq_true rfl) ?_
    refine x_iret F FR dX6_doPart_97 (jb_nar _) (Nat.le_refl _) (Nat.le_refl _) ?_
    refine ⟨congrArg vI ?_, ?_⟩
    · unfold dpb; rw [if_pos hx]; exact jb_c (by rw [decide_eq_true_eq])
    · unfold dpM; rw [if_pos hx]
  by_cases h_7 : (cdI M s) = 107
  · refine xj_tabIn (off := 166) (tgt := 183) F dX6_doPart_17 (by omega) (by omega) (by rw [h_7]; rfl) (by decide) (by omega) ?_
    refine xj_iconst F dX6_doPart_183 ?_
    refine x_iret F FR dX6_doPart_184 rfl (Nat.le_refl _) (Nat.le_refl _) ?_
    refine ⟨congrArg vI ?_, ?_⟩
    · unfold dpb; rw [if_neg (by omega), if_neg (by omega)]; exact (jb_f (by rw [decide_eq_true_eq]; omega)).symm
    · unfold dpM; rw [if_neg (by omega), if_neg (by omega), if_neg (by omega), if_neg (by omega), if_neg (by omega), if_neg (by omega)]
  by_cases h_8 : (cdI M s) = 108
  · refine xj_tabIn (off := 106) (tgt := 123) F dX6_doPart_17 (by omega) (by omega) (by rw [h_8]; rfl) (by decide) (by omega) ?_
    have hx := h_8
    have hen := en_b hp (by omega)
    refine x_aload_n F dX6_doPart_123 rfl ?_
    refine x_getc (v := 1) F flX6_12 rfl dX6_doPart_124 (by decide) (by decide) rfl rfl ?_
    refine x_aload_n F dX6_doPart_127 rfl ?_
    refine x_getc (v := 48) F flX6_36 rfl dX6_doPart_128 (by decide) (by decide) rfl rfl ?_
    refine x_iload_n F dX6_doPart_131 rfl ?_
    refine xj_iconst F dX6_doPart_132 ?_
    refine xj_isub F dX6_doPart_133 ?_
    refine x_V1 F (m_X0_digitAt hB (by omega)) mlX6_240 mvX0_digitAt rfl dX6_doPart_134 (by decide) rfl ⟨Nat.le_of_ble_eq_true rfl, Nat.le_of_ble_eq_true rfl⟩ ⟨Nat.zero_le _, Nat.zero_le _⟩ (Nat.le_of_ble_eq_true rfl) ?_
    have hf_9 := cdI_b hB ((s + plI M s) - 1)
    refine xj_iconst F dX6_doPart_137 ?_
    refine x_V2 F (m_X1_putInOrder hC hS (by show 0 ≤ enR M s ∧ enR M s < 4; exact hen) hO.2.2.2 (by decide)) mlX6_117 mvX1_putInOrder rfl dX6_doPart_138 (by decide) rfl ⟨Nat.le_of_ble_eq_true rfl, Nat.le_of_ble_eq_true rfl⟩ ⟨Nat.zero_le _, Nat.zero_le _⟩ (Nat.le_of_ble_eq_true rfl) ?_
    refine xj_iconst F dX6_doPart_141 ?_
    refine x_iret F FR dX6_doPart_142 rfl (Nat.le_refl _) (Nat.le_refl _) ?_
    refine ⟨congrArg vI ?_, ?_⟩
    · unfold dpb; rw [if_neg (by omega), if_neg (by omega)]; exact (jb_t (decide_eq_true (by omega))).symm
    · unfold dpM; rw [if_neg (by omega), if_neg (by omega), if_neg (by omega), if_pos hx]; rfl
  by_cases h_10 : (cdI M s) = 109
  · refine xj_tabIn (off := 166) (tgt := 183) F dX6_doPart_17 (by omega) (by omega) (by rw [h_10]; rfl) (by decide) (by omega) ?_
    refine xj_iconst F dX6_doPart_183 ?_
    refine x_iret F FR dX6_doPart_184 rfl (Nat.le_refl _) (Nat.le_refl _) ?_
    refine ⟨congrArg vI ?_, ?_⟩
    · unfold dpb; rw [if_neg (by omega), if_neg (by omega)]; exact (jb_f (by rw [decide_eq_true_eq]; omega)).symm
    · unfold dpM; rw [if_neg (by omega), if_neg (by omega), if_neg (by omega), if_neg (by omega), if_neg (by omega), if_neg (by omega)]
  by_cases h_11 : (cdI M s) = 110
  · refine xj_tabIn (off := 166) (tgt := 183) F dX6_doPart_17 (by omega) (by omega) (by rw [h_11]; rfl) (by decide) (by omega) ?_
    refine xj_iconst F dX6_doPart_183 ?_
    refine x_iret F FR dX6_doPart_184 rfl (Nat.le_refl _) (Nat.le_refl _) ?_
    refine ⟨congrArg vI ?_, ?_⟩
    · unfold dpb; rw [if_neg (by omega), if_neg (by omega)]; exact (jb_f (by rw [decide_eq_true_eq]; omega)).symm
    · unfold dpM; rw [if_neg (by omega), if_neg (by omega), if_neg (by omega), if_neg (by omega), if_neg (by omega), if_neg (by omega)]
  by_cases h_12 : (cdI M s) = 111
  · refine xj_tabIn (off := 166) (tgt := 183) F dX6_doPart_17 (by omega) (by omega) (by rw [h_12]; rfl) (by decide) (by omega) ?_
    refine xj_iconst F dX6_doPart_183 ?_
    refine x_iret F FR dX6_doPart_184 rfl (Nat.le_refl _) (Nat.le_refl _) ?_
    refine ⟨congrArg vI ?_, ?_⟩
    · unfold dpb; rw [if_neg (by omega), if_neg (by omega)]; exact (jb_f (by rw [decide_eq_true_eq]; omega)).symm
    · unfold dpM; rw [if_neg (by omega), if_neg (by omega), if_neg (by omega), if_neg (by omega), if_neg (by omega), if_neg (by omega)]
  by_cases h_13 : (cdI M s) = 112
  · refine xj_tabIn (off := 166) (tgt := 183) F dX6_doPart_17 (by omega) (by omega) (by rw [h_13]; rfl) (by decide) (by omega) ?_
    refine xj_iconst F dX6_doPart_183 ?_
    refine x_iret F FR dX6_doPart_184 rfl (Nat.le_refl _) (Nat.le_refl _) ?_
    refine ⟨congrArg vI ?_, ?_⟩
    · unfold dpb; rw [if_neg (by omega), if_neg (by omega)]; exact (jb_f (by rw [decide_eq_true_eq]; omega)).symm
    · unfold dpM; rw [if_neg (by omega), if_neg (by omega), if_neg (by omega), if_neg (by omega), if_neg (by omega), if_neg (by omega)]
  by_cases h_14 : (cdI M s) = 113
  · refine xj_tabIn (off := 166) (tgt := 183) F dX6_doPart_17 (by omega) (by omega) (by rw [h_14]; rfl) (by decide) (by omega) ?_
    refine xj_iconst F dX6_doPart_183 ?_
    refine x_iret F FR dX6_doPart_184 rfl (Nat.le_refl _) (Nat.le_refl _) ?_
    refine ⟨congrArg vI ?_, ?_⟩
    · unfold dpb; rw [if_neg (by omega), if_neg (by omega)]; exact (jb_f (by rw [decide_eq_true_eq]; omega)).symm
    · unfold dpM; rw [if_neg (by omega), if_neg (by omega), if_neg (by omega), if_neg (by omega), if_neg (by omega), if_neg (by omega)]
  by_cases h_15 : (cdI M s) = 114
  · refine xj_tabIn (off := 166) (tgt := 183) F dX6_doPart_17 (by omega) (by omega) (by rw [h_15]; rfl) (by decide) (by omega) ?_
    refine xj_iconst F dX6_doPart_183 ?_
    refine x_iret F FR dX6_doPart_184 rfl (Nat.le_refl _) (Nat.le_refl _) ?_
    refine ⟨congrArg vI ?_, ?_⟩
    · unfold dpb; rw [if_neg (by omega), if_neg (by omega)]; exact (jb_f (by rw [decide_eq_true_eq]; omega)).symm
    · unfold dpM; rw [if_neg (by omega), if_neg (by omega), if_neg (by omega), if_neg (by omega), if_neg (by omega), if_neg (by omega)]
  by_cases h_16 : (cdI M s) = 115
  · refine xj_tabIn (off := 81) (tgt := 98) F dX6_doPart_17 (by omega) (by omega) (by rw [h_16]; rfl) (by decide) (by omega) ?_
    have hx := h_16
    refine x_aload_n F dX6_doPart_98 rfl ?_
    refine x_iload_n F dX6_doPart_99 rfl ?_
    refine x_V1 F (m_X6_swapByText hO hB hp hx) mlX6_237 mvX6_swapByText rfl dX6_doPart_100 (by decide) rfl ⟨Nat.le_of_ble_eq_true rfl, Nat.le_of_ble_eq_true rfl⟩ ⟨Nat.zero_le _, Nat.zero_le _⟩ (Nat.le_of_ble_eq_true rfl) ?_
    refine x_iret F FR dX6_doPart_103 (jb_nar _) (Nat.le_refl _) (Nat.le_refl _) ?_
    refine ⟨congrArg vI ?_, ?_⟩
    · unfold dpb; rw [if_neg (by omega), if_pos hx]; exact jb_c (by rw [decide_eq_true_eq])
    · unfold dpM; rw [if_neg (by omega), if_pos hx]
  by_cases h_17 : (cdI M s) = 116
  · refine xj_tabIn (off := 87) (tgt := 104) F dX6_doPart_17 (by omega) (by omega) (by rw [h_17]; rfl) (by decide) (by omega) ?_
    have hx := h_17
    have hen := en_b hp (by omega)
    refine x_aload_n F dX6_doPart_104 rfl ?_
    refine x_getc (v := 1) F flX6_12 rfl dX6_doPart_105 (by decide) (by decide) rfl rfl ?_
    refine x_aload_n F dX6_doPart_108 rfl ?_
    refine x_getc (v := 48) F flX6_36 rfl dX6_doPart_109 (by decide) (by decide) rfl rfl ?_
    refine x_iload_n F dX6_doPart_112 rfl ?_
    refine xj_iconst F dX6_doPart_113 ?_
    refine xj_isub F dX6_doPart_114 ?_
    refine x_V1 F (m_X0_digitAt hB (by omega)) mlX6_240 mvX0_digitAt rfl dX6_doPart_115 (by decide) rfl ⟨Nat.le_of_ble_eq_true rfl, Nat.le_of_ble_eq_true rfl⟩ ⟨Nat.zero_le _, Nat.zero_le _⟩ (Nat.le_of_ble_eq_true rfl) ?_
    have hf_18 := cdI_b hB ((s + plI M s) - 1)
    refine x_V1 F (m_X1_turnRound hC hS (by show rg (enR M s); omega)) mlX6_114 mvX1_turnRound rfl dX6_doPart_118 (by decide) rfl ⟨Nat.le_of_ble_eq_true rfl, Nat.le_of_ble_eq_true rfl⟩ ⟨Nat.zero_le _, Nat.zero_le _⟩ (Nat.le_of_ble_eq_true rfl) ?_
    refine xj_iconst F dX6_doPart_121 ?_
    refine x_iret F FR dX6_doPart_122 rfl (Nat.le_refl _) (Nat.le_refl _) ?_
    refine ⟨congrArg vI ?_, ?_⟩
    · unfold dpb; rw [if_neg (by omega), if_neg (by omega)]; exact (jb_t (decide_eq_true (by omega))).symm
    · unfold dpM; rw [if_neg (by omega), if_neg (by omega), if_pos hx]; rfl
  by_cases h_19 : (cdI M s) = 117
  · refine xj_tabIn (off := 166) (tgt := 183) F dX6_doPart_17 (by omega) (by omega) (by rw [h_19]; rfl) (by decide) (by omega) ?_
    refine xj_iconst F dX6_doPart_183 ?_
    refine x_iret F FR dX6_doPart_184 rfl (Nat.le_refl _) (Nat.le_refl _) ?_
    refine ⟨congrArg vI ?_, ?_⟩
    · unfold dpb; rw [if_neg (by omega), if_neg (by omega)]; exact (jb_f (by rw [decide_eq_true_eq]; omega)).symm
    · unfold dpM; rw [if_neg (by omega), if_neg (by omega), if_neg (by omega), if_neg (by omega), if_neg (by omega), if_neg (by omega)]
  by_cases h_20 : (cdI M s) = 118
  · refine xj_tabIn (off := 146) (tgt := 163) F dX6_doPart_17 (by omega) (by omega) (by rw [h_20]; rfl) (by decide) (by omega) ?_
    have hx := h_20
    have hen := en_b hp (by omega)
    refine x_aload_n F dX6_doPart_163 rfl ?_
    refine x_getc (v := 1) F flX6_12 rfl dX6_doPart_164 (by decide) (by decide) rfl rfl ?_
    refine x_aload_n F dX6_doPart_167 rfl ?_
    refine x_getc (v := 48) F flX6_36 rfl dX6_doPart_168 (by decide) (by decide) rfl rfl ?_
    refine x_iload_n F dX6_doPart_171 rfl ?_
    refine xj_iconst F dX6_doPart_172 ?_
    refine xj_isub F dX6_doPart_173 ?_
    refine x_V1 F (m_X0_digitAt hB (by omega)) mlX6_240 mvX0_digitAt rfl dX6_doPart_174 (by decide) rfl ⟨Nat.le_of_ble_eq_true rfl, Nat.le_of_ble_eq_true rfl⟩ ⟨Nat.zero_le _, Nat.zero_le _⟩ (Nat.le_of_ble_eq_true rfl) ?_
    have hf_21 := cdI_b hB ((s + plI M s) - 1)
    refine xj_iconst F dX6_doPart_177 ?_
    refine x_V2 F (m_X1_putInOrder hC hS (by show 0 ≤ enR M s ∧ enR M s < 4; exact hen) hO.2.2.2 (by decide)) mlX6_117 mvX1_putInOrder rfl dX6_doPart_178 (by decide) rfl ⟨Nat.le_of_ble_eq_true rfl, Nat.le_of_ble_eq_true rfl⟩ ⟨Nat.zero_le _, Nat.zero_le _⟩ (Nat.le_of_ble_eq_true rfl) ?_
    refine xj_iconst F dX6_doPart_181 ?_
    refine x_iret F FR dX6_doPart_182 rfl (Nat.le_refl _) (Nat.le_refl _) ?_
    refine ⟨congrArg vI ?_, ?_⟩
    · unfold dpb; rw [if_neg (by omega), if_neg (by omega)]; exact (jb_t (decide_eq_true (by omega))).symm
    · unfold dpM; rw [if_neg (by omega), if_neg (by omega), if_neg (by omega), if_neg (by omega), if_neg (by omega), if_pos hx]; rfl
  refine xj_tabOut (tgt := 183) F dX6_doPart_17 (by omega) (by decide) (by omega) ?_
  refine xj_iconst F dX6_doPart_183 ?_
  refine x_iret F FR dX6_doPart_184 rfl (Nat.le_refl _) (Nat.le_refl _) ?_
  refine ⟨congrArg vI ?_, ?_⟩
  · unfold dpb; rw [if_neg (by omega), if_neg (by omega)]; exact (jb_f (by rw [decide_eq_true_eq]; omega)).symm
  · unfold dpM; rw [if_neg (by omega), if_neg (by omega), if_neg (by omega), if_neg (by omega), if_neg (by omega), if_neg (by omega)]
