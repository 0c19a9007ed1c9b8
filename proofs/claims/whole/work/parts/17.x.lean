/-! THE TEXT, cell 48: its length (1), its signs in cell 49 -/
def tlI (M : xM) : Int := (M.1 48 1).toInt
def okB (M : xM) : Prop := (0 ≤ tlI M ∧ tlI M ≤ 60) ∧ ∀ i : Nat, i < 60 → 0 ≤ (M.1 49 i).toInt ∧ (M.1 49 i).toInt < 128
def cdI (M : xM) (z : Int) : Int := if 0 ≤ z ∧ z < tlI M ∧ z < 60 then (M.1 49 z.toNat).toInt else 0
theorem cdI_b {M : xM} (h : okB M) (z : Int) : 0 ≤ cdI M z ∧ cdI M z < 128 := by
  unfold cdI
  split
  · exact h.2 _ (by omega)
  · omega
def fmN (x : Int) : Nat := if x = 106 then 0 else if x = 115 then 1 else if x = 116 then 2 else if x = 108 then 3 else if x = 104 then 4 else if x = 118 then 5 else 6
theorem fmN_lt (x : Int) : fmN x < 8 := by unfold fmN; (repeat' split) <;> omega
def plI (M : xM) (s : Int) : Int := (sLen (fmN (cdI M s)) : Int)
theorem plI_b (M : xM) (s : Int) : 0 ≤ plI M s ∧ plI M s ≤ 11 := by
  have := sLen_le _ (fmN_lt (cdI M s))
  unfold plI
  omega
def ftC (w c c1 c2 : Int) : Bool := if w = 82 then decide (48 ≤ c ∧ c ≤ 51) else if w = 80 then decide (48 ≤ c ∧ c ≤ 53) else if w = 65 then decide (49 ≤ c ∧ c ≤ 50) else if w = 66 then decide (48 ≤ c ∧ c ≤ (if c1 = 50 then 50 else 57)) else if w = 67 then decide (48 ≤ c ∧ c ≤ (if c2 = 50 ∧ c1 = 50 then 48 else 57)) else if w = 86 then decide (0 ≤ vxI c) else decide (c = w)
def ftB (M : xM) (j : Nat) (a i : Int) : Bool := if 0 ≤ a ∧ a < sLen j then ftC (sB j a) (cdI M i) (cdI M (i - 1)) (cdI M (i - 2)) else false
def fmR (M : xM) : Nat → Int → Int → Int
  | 0, _, _ => tlI M
  | n + 1, s, i => if s < i ∧ i = s + plI M s then (if cdI M i = 59 then fmR M n (i + 1) (i + 1) else i) else if ftB M (fmN (cdI M s)) (i - s) i = true then fmR M n s (i + 1) else i
def fmI (M : xM) : Int := fmR M (tlI M).toNat 0 0
theorem fmR_b {M : xM} : ∀ (n : Nat) (s i : Int), 0 ≤ i → i + n = tlI M → 0 ≤ fmR M n s i ∧ fmR M n s i ≤ tlI M := by
  intro n
  induction n with
  | zero => intro s i h1 h2; simp only [fmR]; omega
  | succ n ih =>
    intro s i h1 h2
    have a1 := ih (i + 1) (i + 1) (by omega) (by omega)
    have a2 := ih s (i + 1) (by omega) (by omega)
    simp only [fmR]
    split
    · split
      · exact a1
      · omega
    · split
      · exact a2
      · omega
theorem fmI_b {M : xM} (h : okB M) : 0 ≤ fmI M ∧ fmI M ≤ tlI M := fmR_b _ 0 0 (by omega) (by have := h.1; omega)
def hoR (M : xM) : Nat → Int → Bool
  | 0, _ => false
  | n + 1, s => if s < tlI M then (if s + plI M s = tlI M then true else hoR M n (s + plI M s + 1)) else false
def whB (M : xM) : Bool := if fmI M < tlI M then false else hoR M 60 0
theorem vxI_b (ch : Int) : -1 ≤ vxI ch ∧ vxI ch < 4 := by
  have := fnP_b (vxP ch) 4 0 (by omega)
  unfold vxI
  omega
theorem vnT : ∀ n : Nat, n < 128 → (nI n).toUInt32.toUInt16.toUInt32.toInt32 = nI n := by decide +kernel
theorem vnC {x : Int} (h : 0 ≤ x ∧ x < 128) : vp_nar .char (jI x) = jI x := by
  have e : jI x = nI x.toNat := by
    rw [← jI_nat]
    congr 1
    omega
  rw [e, vp_nar_char]
  exact vnT x.toNat (by omega)
set_option maxRecDepth 20000 in
theorem m_X0_size {l : Launch} {E : xE} {M : xM} : XF l E 1 yX0_size cX0_size 1 (some FieldType.int) [vA 48] M (vI (jI (tlI M))) (M) := by
  refine xp_start (plainFor_of_name (by decide)) rfl (Nat.le_of_ble_eq_true rfl) ?_
  intro Y F FR
  refine x_aload_n F dX0_size_0 rfl ?_
  refine xj_geti F flX0_15 rfl dX0_size_1 (by decide) (by decide) rfl (fun hg_1 => ?_)
  refine x_iret F FR dX0_size_4 rfl (Nat.le_refl _) (Nat.le_refl _) ?_
  exact ⟨rfl, rfl⟩
set_option maxRecDepth 20000 in
theorem m_X0_empty {l : Launch} {E : xE} {M : xM} : XF l E 1 yX0_empty cX0_empty 1 none [vA 48] M (vU) (upI M 48 1 (jI 0)) := by
  refine xp_start (plainFor_of_name (by decide)) rfl (Nat.le_of_ble_eq_true rfl) ?_
  intro Y F FR
  refine x_aload_n F dX0_empty_0 rfl ?_
  refine xj_iconst F dX0_empty_1 ?_
  refine x_puti F flX0_15 rfl dX0_empty_2 (by decide) (by decide) rfl fw0_1 rfl rfl ?_
  refine x_vret F FR dX0_empty_5 (Nat.le_refl _) (Nat.le_refl _) ?_
  exact ⟨rfl, rfl⟩
set_option maxRecDepth 20000 in
theorem m_X0_add {l : Launch} {E : xE} {x : Int} {M : xM} (hB : 0 ≤ tlI M ∧ tlI M < 60) (hx : 0 ≤ x ∧ x < 128) : XF l E 1 yX0_add cX0_add 2 none [vA 48, vI (jI x)] M (vU) (upI (upI M 49 (tlI M).toNat (jI x)) 48 1 (jI (tlI M + 1))) := by
  refine xp_start (plainFor_of_name (by decide)) rfl (Nat.le_of_ble_eq_true rfl) ?_
  intro Y F FR
  have hB2 : 0 ≤ (M.1 48 1).toInt ∧ (M.1 48 1).toInt < 60 := hB
  refine x_aload_n F dX0_add_0 rfl ?_
  refine xj_geti F flX0_15 rfl dX0_add_1 (by decide) (by decide) rfl (fun hg_1 => ?_)
  refine xj_if_lt (tgt := 39) F dX0_add_4 (by decide) (by omega) (fun h_2 => ?_) (fun h_2 => ?_)
  · omega
  · refine x_aload_n F dX0_add_7 rfl ?_
    refine xj_geti F flX0_15 rfl dX0_add_8 (by decide) (by decide) rfl (fun hg_3 => ?_)
    refine x_aload_n F dX0_add_11 rfl ?_
    refine x_getc (v := 49) F flX0_9 rfl dX0_add_12 (by decide) (by decide) rfl rfl ?_
    refine xj_alen F rfl dX0_add_15 (by decide) ?_
    refine xj_icmp_ge (tgt := 39) F dX0_add_16 (by decide) (by omega) (fun h_4 => ?_) (fun h_4 => ?_)
    · omega
    · refine x_aload_n F dX0_add_19 rfl ?_
      refine x_getc (v := 49) F flX0_9 rfl dX0_add_20 (by decide) (by decide) rfl rfl ?_
      refine x_aload_n F dX0_add_23 rfl ?_
      refine xj_geti F flX0_15 rfl dX0_add_24 (by decide) (by decide) rfl (fun hg_5 => ?_)
      refine x_iload_n F dX0_add_27 rfl ?_
      refine xj_cast F rfl dX0_add_28 (by omega) (vnC hx) ?_
      refine x_aload_n F dX0_add_29 rfl ?_
      refine x_dup F dX0_add_30 rfl ?_
      refine xj_geti F flX0_15 rfl dX0_add_31 (by decide) (by decide) rfl (fun hg_6 => ?_)
      refine xj_iconst F dX0_add_34 ?_
      refine xj_iadd F dX0_add_35 ?_
      refine x_puti F flX0_15 rfl dX0_add_36 (by decide) (by decide) rfl fw0_1 rfl rfl ?_
      refine x_vret F FR dX0_add_39 (Nat.le_refl _) (Nat.le_refl _) ?_
      exact ⟨rfl, by rw [upI_row (by omega)]; rfl⟩
set_option maxRecDepth 20000 in
theorem m_X0_codeAt {l : Launch} {E : xE} {z : Int} {M : xM} (hB : okB M) (hz : rg z) : XF l E 1 yX0_codeAt cX0_codeAt 2 (some FieldType.char) [vA 48, vI (jI z)] M (vI (jI (cdI M z))) (M) := by
  refine xp_start (plainFor_of_name (by decide)) rfl (Nat.le_of_ble_eq_true rfl) ?_
  intro Y F FR
  obtain ⟨hB1, hB2⟩ := hB
  have htl : (M.1 48 1).toInt = tlI M := rfl
  refine x_iload_n F dX0_codeAt_0 rfl ?_
  refine xj_if_lt (tgt := 30) F dX0_codeAt_1 (by decide) (by omega) (fun h_1 => ?_) (fun h_1 => ?_)
  · refine xj_iconst F dX0_codeAt_30 ?_
    refine x_iret F FR dX0_codeAt_31 (by first | rfl | exact sBnar (hB2 _ (by omega))) (Nat.le_refl _) (Nat.le_refl _) ?_
    first
      | exact ⟨vj (by unfold cdI; rw [if_pos (by omega)]), rfl⟩
      | exact ⟨vj (by unfold cdI; rw [if_neg (by omega)]), rfl⟩
  · refine x_iload_n F dX0_codeAt_4 rfl ?_
    refine x_aload_n F dX0_codeAt_5 rfl ?_
    refine xj_geti F flX0_15 rfl dX0_codeAt_6 (by decide) (by decide) rfl (fun hg_2 => ?_)
    refine xj_icmp_ge (tgt := 30) F dX0_codeAt_9 (by decide) (by omega) (fun h_3 => ?_) (fun h_3 => ?_)
    · refine xj_iconst F dX0_codeAt_30 ?_
      refine x_iret F FR dX0_codeAt_31 (by first | rfl | exact sBnar (hB2 _ (by omega))) (Nat.le_refl _) (Nat.le_refl _) ?_
      first
        | exact ⟨vj (by unfold cdI; rw [if_pos (by omega)]), rfl⟩
        | exact ⟨vj (by unfold cdI; rw [if_neg (by omega)]), rfl⟩
    · refine x_iload_n F dX0_codeAt_12 rfl ?_
      refine x_aload_n F dX0_codeAt_13 rfl ?_
      refine x_getc (v := 49) F flX0_9 rfl dX0_codeAt_14 (by decide) (by decide) rfl rfl ?_
      refine xj_alen F rfl dX0_codeAt_17 (by decide) ?_
      refine xj_icmp_ge (tgt := 30) F dX0_codeAt_18 (by decide) (by omega) (fun h_4 => ?_) (fun h_4 => ?_)
      · omega
      · refine x_aload_n F dX0_codeAt_21 rfl ?_
        refine x_getc (v := 49) F flX0_9 rfl dX0_codeAt_22 (by decide) (by decide) rfl rfl ?_
        refine x_iload_n F dX0_codeAt_25 rfl ?_
        refine xj_cald2 F rfl dX0_codeAt_26 (by omega) (fun hg_5 => ?_)
        refine x_goto (tgt := 31) F dX0_codeAt_27 (by decide) ?_
        refine x_iret F FR dX0_codeAt_31 (by first | rfl | exact sBnar (hB2 _ (by omega))) (Nat.le_refl _) (Nat.le_refl _) ?_
        first
          | exact ⟨vj (by unfold cdI; rw [if_pos (by omega)]), rfl⟩
          | exact ⟨vj (by unfold cdI; rw [if_neg (by omega)]), rfl⟩
set_option maxRecDepth 20000 in
theorem m_X0_digitAt {l : Launch} {E : xE} {z : Int} {M : xM} (hB : okB M) (hz : rg z) : XF l E 2 yX0_digitAt cX0_digitAt 2 (some FieldType.int) [vA 48, vI (jI z)] M (vI (jI (cdI M z - 48))) (M) := by
  refine xp_start (plainFor_of_name (by decide)) rfl (Nat.le_of_ble_eq_true rfl) ?_
  intro Y F FR
  refine x_aload_n F dX0_digitAt_0 rfl ?_
  refine x_iload_n F dX0_digitAt_1 rfl ?_
  refine x_V1 F (m_X0_codeAt (by first | assumption | omega | decide) (by first | assumption | omega | decide)) mlX0_19 mvX0_codeAt rfl dX0_digitAt_2 (by decide) rfl ⟨Nat.le_of_ble_eq_true rfl, Nat.le_of_ble_eq_true rfl⟩ ⟨Nat.zero_le _, Nat.zero_le _⟩ (Nat.le_of_ble_eq_true rfl) ?_
  have hf_1 := cdI_b hB z
  refine xj_bipush F dX0_digitAt_5 (by decide) ?_
  refine xj_isub F dX0_digitAt_7 ?_
  refine x_iret F FR dX0_digitAt_8 rfl (Nat.le_refl _) (Nat.le_refl _) ?_
  exact ⟨rfl, rfl⟩
set_option maxRecDepth 20000 in
theorem m_X0_formAt {l : Launch} {E : xE} {s : Int} {M : xM} (hB : okB M) (hs : rg s) : XF l E 2 yX0_formAt cX0_formAt 2 (some (FieldType.object "java/lang/String")) [vA 48, vI (jI s)] M (vQ (E.2.2.2.1 (fmN (cdI M s)))) (M) := by
  refine xp_start (plainFor_of_name (by decide)) rfl (Nat.le_of_ble_eq_true rfl) ?_
  intro Y F FR
  refine x_aload_n F dX0_formAt_0 rfl ?_
  refine x_iload_n F dX0_formAt_1 rfl ?_
  refine x_V1 F (m_X0_codeAt (by first | assumption | omega | decide) (by first | assumption | omega | decide)) mlX0_19 mvX0_codeAt rfl dX0_formAt_2 (by decide) rfl ⟨Nat.le_of_ble_eq_true rfl, Nat.le_of_ble_eq_true rfl⟩ ⟨Nat.zero_le _, Nat.zero_le _⟩ (Nat.le_of_ble_eq_true rfl) ?_
  have hf_1 := cdI_b hB s
  by_cases h_2 : (cdI M s) = 104
  · refine xj_tabIn (off := 87) (tgt := 92) F dX0_formAt_5 (by omega) (by omega) (by rw [h_2]; rfl) (by decide) (by omega) ?_
    refine x_ldcS F (show (RX0, 31, "high:R", 4) ∈ xsR by decide +kernel) dX0_formAt_92 ?_
    refine x_aretQ F FR dX0_formAt_94 (Or.inl ⟨_, rfl⟩) (Nat.le_refl _) (Nat.le_refl _) ?_
    refine ⟨?_, rfl⟩
    suffices e : fmN (cdI M s) = _ by rw [e]
    unfold fmN
    (repeat' split) <;> omega
  by_cases h_3 : (cdI M s) = 105
  · refine xj_tabIn (off := 93) (tgt := 98) F dX0_formAt_5 (by omega) (by omega) (by rw [h_3]; rfl) (by decide) (by omega) ?_
    refine x_ldcS F (show (RX0, 35, "", 6) ∈ xsR by decide +kernel) dX0_formAt_98 ?_
    refine x_aretQ F FR dX0_formAt_100 (Or.inl ⟨_, rfl⟩) (Nat.le_refl _) (Nat.le_refl _) ?_
    refine ⟨?_, rfl⟩
    suffices e : fmN (cdI M s) = _ by rw [e]
    unfold fmN
    (repeat' split) <;> omega
  by_cases h_4 : (cdI M s) = 106
  · refine xj_tabIn (off := 75) (tgt := 80) F dX0_formAt_5 (by omega) (by omega) (by rw [h_4]; rfl) (by decide) (by omega) ?_
    refine x_ldcS F (show (RX0, 23, "join:R,ABCV", 0) ∈ xsR by decide +kernel) dX0_formAt_80 ?_
    refine x_aretQ F FR dX0_formAt_82 (Or.inl ⟨_, rfl⟩) (Nat.le_refl _) (Nat.le_refl _) ?_
    refine ⟨?_, rfl⟩
    suffices e : fmN (cdI M s) = _ by rw [e]
    unfold fmN
    (repeat' split) <;> omega
  by_cases h_5 : (cdI M s) = 107
  · refine xj_tabIn (off := 93) (tgt := 98) F dX0_formAt_5 (by omega) (by omega) (by rw [h_5]; rfl) (by decide) (by omega) ?_
    refine x_ldcS F (show (RX0, 35, "", 6) ∈ xsR by decide +kernel) dX0_formAt_98 ?_
    refine x_aretQ F FR dX0_formAt_100 (Or.inl ⟨_, rfl⟩) (Nat.le_refl _) (Nat.le_refl _) ?_
    refine ⟨?_, rfl⟩
    suffices e : fmN (cdI M s) = _ by rw [e]
    unfold fmN
    (repeat' split) <;> omega
  by_cases h_6 : (cdI M s) = 108
  · refine xj_tabIn (off := 84) (tgt := 89) F dX0_formAt_5 (by omega) (by omega) (by rw [h_6]; rfl) (by decide) (by omega) ?_
    refine x_ldcS F (show (RX0, 29, "low:R", 3) ∈ xsR by decide +kernel) dX0_formAt_89 ?_
    refine x_aretQ F FR dX0_formAt_91 (Or.inl ⟨_, rfl⟩) (Nat.le_refl _) (Nat.le_refl _) ?_
    refine ⟨?_, rfl⟩
    suffices e : fmN (cdI M s) = _ by rw [e]
    unfold fmN
    (repeat' split) <;> omega
  by_cases h_7 : (cdI M s) = 109
  · refine xj_tabIn (off := 93) (tgt := 98) F dX0_formAt_5 (by omega) (by omega) (by rw [h_7]; rfl) (by decide) (by omega) ?_
    refine x_ldcS F (show (RX0, 35, "", 6) ∈ xsR by decide +kernel) dX0_formAt_98 ?_
    refine x_aretQ F FR dX0_formAt_100 (Or.inl ⟨_, rfl⟩) (Nat.le_refl _) (Nat.le_refl _) ?_
    refine ⟨?_, rfl⟩
    suffices e : fmN (cdI M s) = _ by rw [e]
    unfold fmN
    (repeat' split) <;> omega
  by_cases h_8 : (cdI M s) = 110
  · refine xj_tabIn (off := 93) (tgt := 98) F dX0_formAt_5 (by omega) (by omega) (by rw [h_8]; rfl) (by decide) (by omega) ?_
    refine x_ldcS F (show (RX0, 35, "", 6) ∈ xsR by decide +kernel) dX0_formAt_98 ?_
    refine x_aretQ F FR dX0_formAt_100 (Or.inl ⟨_, rfl⟩) (Nat.le_refl _) (Nat.le_refl _) ?_
    refine ⟨?_, rfl⟩
    suffices e : fmN (cdI M s) = _ by rw [e]
    unfold fmN
    (repeat' split) <;> omega
  by_cases h_9 : (cdI M s) = 111
  · refine xj_tabIn (off := 93) (tgt := 98) F dX0_formAt_5 (by omega) (by omega) (by rw [h_9]; rfl) (by decide) (by omega) ?_
    refine x_ldcS F (show (RX0, 35, "", 6) ∈ xsR by decide +kernel) dX0_formAt_98 ?_
    refine x_aretQ F FR dX0_formAt_100 (Or.inl ⟨_, rfl⟩) (Nat.le_refl _) (Nat.le_refl _) ?_
    refine ⟨?_, rfl⟩
    suffices e : fmN (cdI M s) = _ by rw [e]
    unfold fmN
    (repeat' split) <;> omega
  by_cases h_10 : (cdI M s) = 112
  · refine xj_tabIn (off := 93) (tgt := 98) F dX0_formAt_5 (by omega) (by omega) (by rw [h_10]; rfl) (by decide) (by omega) ?_
    refine x_ldcS F (show (RX0, 35, "", 6) ∈ xsR by decide +kernel) dX0_formAt_98 ?_
    refine x_aretQ F FR dX0_formAt_100 (Or.inl ⟨_, rfl⟩) (Nat.le_refl _) (Nat.le_refl _) ?_
    refine ⟨?_, rfl⟩
    suffices e : fmN (cdI M s) = _ by rw [e]
    unfold fmN
    (repeat' split) <;> omega
  by_cases h_11 : (cdI M s) = 113
  · refine xj_tabIn (off := 93) (tgt := 98) F dX0_formAt_5 (by omega) (by omega) (by rw [h_11]; rfl) (by decide) (by omega) ?_
    refine x_ldcS F (show (RX0, 35, "", 6) ∈ xsR by decide +kernel) dX0_formAt_98 ?_
    refine x_aretQ F FR dX0_formAt_100 (Or.inl ⟨_, rfl⟩) (Nat.le_refl _) (Nat.le_refl _) ?_
    refine ⟨?_, rfl⟩
    suffices e : fmN (cdI M s) = _ by rw [e]
    unfold fmN
    (repeat' split) <;> omega
  by_cases h_12 : (cdI M s) = 114
  · refine xj_tabIn (off := 93) (tgt := 98) F dX0_formAt_5 (by omega) (by omega) (by rw [h_12]; rfl) (by decide) (by omega) ?_
    refine x_ldcS F (show (RX0, 35, "", 6) ∈ xsR by decide +kernel) dX0_formAt_98 ?_
    refine x_aretQ F FR dX0_formAt_100 (Or.inl ⟨_, rfl⟩) (Nat.le_refl _) (Nat.le_refl _) ?_
    refine ⟨?_, rfl⟩
    suffices e : fmN (cdI M s) = _ by rw [e]
    unfold fmN
    (repeat' split) <;> omega
  by_cases h_13 : (cdI M s) = 115
  · refine xj_tabIn (off := 78) (tgt := 83) F dX0_formAt_5 (by omega) (by omega) (by rw [h_13]; rfl) (by decide) (by omega) ?_
    refine x_ldcS F (show (RX0, 25, "swap:R,PP", 1) ∈ xsR by decide +kernel) dX0_formAt_83 ?_
    refine x_aretQ F FR dX0_formAt_85 (Or.inl ⟨_, rfl⟩) (Nat.le_refl _) (Nat.le_refl _) ?_
    refine ⟨?_, rfl⟩
    suffices e : fmN (cdI M s) = _ by rw [e]
    unfold fmN
    (repeat' split) <;> omega
  by_cases h_14 : (cdI M s) = 116
  · refine xj_tabIn (off := 81) (tgt := 86) F dX0_formAt_5 (by omega) (by omega) (by rw [h_14]; rfl) (by decide) (by omega) ?_
    refine x_ldcS F (show (RX0, 27, "turn:R", 2) ∈ xsR by decide +kernel) dX0_formAt_86 ?_
    refine x_aretQ F FR dX0_formAt_88 (Or.inl ⟨_, rfl⟩) (Nat.le_refl _) (Nat.le_refl _) ?_
    refine ⟨?_, rfl⟩
    suffices e : fmN (cdI M s) = _ by rw [e]
    unfold fmN
    (repeat' split) <;> omega
  by_cases h_15 : (cdI M s) = 117
  · refine xj_tabIn (off := 93) (tgt := 98) F dX0_formAt_5 (by omega) (by omega) (by rw [h_15]; rfl) (by decide) (by omega) ?_
    refine x_ldcS F (show (RX0, 35, "", 6) ∈ xsR by decide +kernel) dX0_formAt_98 ?_
    refine x_aretQ F FR dX0_formAt_100 (Or.inl ⟨_, rfl⟩) (Nat.le_refl _) (Nat.le_refl _) ?_
    refine ⟨?_, rfl⟩
    suffices e : fmN (cdI M s) = _ by rw [e]
    unfold fmN
    (repeat' split) <;> omega
  by_cases h_16 : (cdI M s) = 118
  · refine xj_tabIn (off := 90) (tgt := 95) F dX0_formAt_5 (by omega) (by omega) (by rw [h_16]; rfl) (by decide) (by omega) ?_
    refine x_ldcS F (show (RX0, 33, "voice:R", 5) ∈ xsR by decide +kernel) dX0_formAt_95 ?_
    refine x_aretQ F FR dX0_formAt_97 (Or.inl ⟨_, rfl⟩) (Nat.le_refl _) (Nat.le_refl _) ?_
    refine ⟨?_, rfl⟩
    suffices e : fmN (cdI M s) = _ by rw [e]
    unfold fmN
    (repeat' split) <;> omega
  refine xj_tabOut (tgt := 98) F dX0_formAt_5 (by omega) (by decide) (by omega) ?_
  refine x_ldcS F (show (RX0, 35, "", 6) ∈ xsR by decide +kernel) dX0_formAt_98 ?_
  refine x_aretQ F FR dX0_formAt_100 (Or.inl ⟨_, rfl⟩) (Nat.le_refl _) (Nat.le_refl _) ?_
  refine ⟨?_, rfl⟩
  suffices e : fmN (cdI M s) = _ by rw [e]
  unfold fmN
  (repeat' split) <;> omega
set_option maxRecDepth 20000 in
theorem m_X0_endOfPart {l : Launch} {E : xE} {s : Int} {M : xM} (hB : okB M) (hs : rg s) : XF l E 3 yX0_endOfPart cX0_endOfPart 2 (some FieldType.int) [vA 48, vI (jI s)] M (vI (jI (s + plI M s))) (M) := by
  refine xp_start (plainFor_of_name (by decide)) rfl (Nat.le_of_ble_eq_true rfl) ?_
  intro Y F FR
  refine x_iload_n F dX0_endOfPart_0 rfl ?_
  refine x_aload_n F dX0_endOfPart_1 rfl ?_
  refine x_iload_n F dX0_endOfPart_2 rfl ?_
  refine x_V1 F (m_X0_formAt (by first | assumption | omega | decide) (by first | assumption | omega | decide)) mlX0_37 mvX0_formAt rfl dX0_endOfPart_3 (by decide) rfl ⟨Nat.le_of_ble_eq_true rfl, Nat.le_of_ble_eq_true rfl⟩ ⟨Nat.zero_le _, Nat.zero_le _⟩ (Nat.le_of_ble_eq_true rfl) ?_
  refine x_Q0 F (fmN_lt _) (m_J0_length_8abf5 (fmN_lt _)) mlX0_41 mvJ0_length_8abf5 dX0_endOfPart_6 (by decide +kernel) ⟨Nat.le_of_ble_eq_true rfl, Nat.le_of_ble_eq_true rfl⟩ ⟨Nat.zero_le _, Nat.zero_le _⟩ (Nat.le_of_ble_eq_true rfl) ?_
  refine xj_iadd F dX0_endOfPart_9 ?_
  refine x_iret F FR dX0_endOfPart_10 rfl (Nat.le_refl _) (Nat.le_refl _) ?_
  exact ⟨rfl, rfl⟩
set_option maxRecDepth 20000 in
theorem m_X0_isTopHeight {l : Launch} {E : xE} {i : Int} {M : xM} (hB : okB M) (hi : -1000 ≤ i ∧ i ≤ 1000) : XF l E 2 yX0_isTopHeight cX0_isTopHeight 2 (some FieldType.boolean) [vA 48, vI (jI i)] M (vI (jb (cdI M (i - 2) = 50 ∧ cdI M (i - 1) = 50))) (M) := by
  refine xp_start (plainFor_of_name (by decide)) rfl (Nat.le_of_ble_eq_true rfl) ?_
  intro Y F FR
  refine x_aload_n F dX0_isTopHeight_0 rfl ?_
  refine x_iload_n F dX0_isTopHeight_1 rfl ?_
  refine xj_iconst F dX0_isTopHeight_2 ?_
  refine xj_isub F dX0_isTopHeight_3 ?_
  refine x_V1 F (m_X0_codeAt (by first | assumption | omega | decide) (by first | assumption | omega | decide)) mlX0_19 mvX0_codeAt rfl dX0_isTopHeight_4 (by decide) rfl ⟨Nat.le_of_ble_eq_true rfl, Nat.le_of_ble_eq_true rfl⟩ ⟨Nat.zero_le _, Nat.zero_le _⟩ (Nat.le_of_ble_eq_true rfl) ?_
  have hf_1 := cdI_b hB (i - 2)
  refine xj_bipush F dX0_isTopHeight_7 (by decide) ?_
  refine xj_icmp_ne (tgt := 28) F dX0_isTopHeight_9 (by decide) (by omega) (fun h_2 => ?_) (fun h_2 => ?_)
  · refine xj_iconst F dX0_isTopHeight_28 ?_
    refine x_iret F FR dX0_isTopHeight_29 rfl (Nat.le_refl _) (Nat.le_refl _) ?_
    first
      | exact ⟨by rw [jb_t (by omega)], rfl⟩
      | exact ⟨by rw [jb_f (by omega)], rfl⟩
  · refine x_aload_n F dX0_isTopHeight_12 rfl ?_
    refine x_iload_n F dX0_isTopHeight_13 rfl ?_
    refine xj_iconst F dX0_isTopHeight_14 ?_
    refine xj_isub F dX0_isTopHeight_15 ?_
    refine x_V1 F (m_X0_codeAt (by first | assumption | omega | decide) (by first | assumption | omega | decide)) mlX0_19 mvX0_codeAt rfl dX0_isTopHeight_16 (by decide) rfl ⟨Nat.le_of_ble_eq_true rfl, Nat.le_of_ble_eq_true rfl⟩ ⟨Nat.zero_le _, Nat.zero_le _⟩ (Nat.le_of_ble_eq_true rfl) ?_
    have hf_3 := cdI_b hB (i - 1)
    refine xj_bipush F dX0_isTopHeight_19 (by decide) ?_
    refine xj_icmp_ne (tgt := 28) F dX0_isTopHeight_21 (by decide) (by omega) (fun h_4 => ?_) (fun h_4 => ?_)
    · refine xj_iconst F dX0_isTopHeight_28 ?_
      refine x_iret F FR dX0_isTopHeight_29 rfl (Nat.le_refl _) (Nat.le_refl _) ?_
      first
        | exact ⟨by rw [jb_t (by omega)], rfl⟩
        | exact ⟨by rw [jb_f (by omega)], rfl⟩
    · refine xj_iconst F dX0_isTopHeight_24 ?_
      refine x_goto (tgt := 29) F dX0_isTopHeight_25 (by decide) ?_
      refine x_iret F FR dX0_isTopHeight_29 rfl (Nat.le_refl _) (Nat.le_refl _) ?_
      first
        | exact ⟨by rw [jb_t (by omega)], rfl⟩
        | exact ⟨by rw [jb_f (by omega)], rfl⟩
set_option maxRecDepth 20000 in
theorem m_X0_fits {l : Launch} {E : xE} {j : Nat} {a i : Int} {M : xM} (hB : okB M) (hj : j < 8) (ha : -1000 ≤ a ∧ a ≤ 1000) (hi : -900 ≤ i ∧ i ≤ 1000) : XF l E 5 yX0_fits cX0_fits 6 (some FieldType.boolean) [vA 48, vQ (E.2.2.2.1 j), vI (jI a), vI (jI i)] M (vI (jb (ftB M j a i = true))) (M) := by
  refine xp_start (plainFor_of_name (by decide)) rfl (Nat.le_of_ble_eq_true rfl) ?_
  intro Y F FR
  have hLe := sLen_le j hj
  refine x_iload_n F dX0_fits_0 rfl ?_
  refine xj_if_lt (tgt := 12) F dX0_fits_1 (by decide) (by omega) (fun h_1 => ?_) (fun h_1 => ?_)
  · refine xj_iconst F dX0_fits_12 ?_
    refine x_iret F FR dX0_fits_13 rfl (Nat.le_refl _) (Nat.le_refl _) ?_
    first
      | (refine ⟨congrArg vI (jb_f ?_).symm, rfl⟩; unfold ftB ftC; (repeat' split) <;> first | omega | (rw [decide_eq_true_iff]; omega) | (intro q9; cases q9))
      | (refine ⟨congrArg vI (jb_t ?_).symm, rfl⟩; unfold ftB ftC; (repeat' split) <;> first | omega | (rw [decide_eq_true_iff]; omega))
  · refine x_iload_n F dX0_fits_4 rfl ?_
    refine x_aload_nQ F dX0_fits_5 rfl ?_
    refine x_Q0 F hj (m_J0_length_8abf5 hj) mlX0_41 mvJ0_length_8abf5 dX0_fits_6 (by decide +kernel) ⟨Nat.le_of_ble_eq_true rfl, Nat.le_of_ble_eq_true rfl⟩ ⟨Nat.zero_le _, Nat.zero_le _⟩ (Nat.le_of_ble_eq_true rfl) ?_
    refine xj_icmp_lt (tgt := 14) F dX0_fits_9 (by decide) (by omega) (fun h_2 => ?_) (fun h_2 => ?_)
    · refine x_aload_nQ F dX0_fits_14 rfl ?_
      refine x_iload_n F dX0_fits_15 rfl ?_
      have hsb := (sB_ok j hj a.toNat (by omega)).1
      rw [show ((a.toNat : Nat) : Int) = a by omega] at hsb
      refine x_Q1 F hj (m_J0_charAt_5068e hj (by omega)) mlX0_57 mvJ0_charAt_5068e dX0_fits_16 (by decide +kernel) ⟨Nat.le_of_ble_eq_true rfl, Nat.le_of_ble_eq_true rfl⟩ ⟨Nat.zero_le _, Nat.zero_le _⟩ (Nat.le_of_ble_eq_true rfl) ?_
      refine x_istore F dX0_fits_19 (by decide) ?_
      refine x_aload_n F dX0_fits_21 rfl ?_
      refine x_iload_n F dX0_fits_22 rfl ?_
      refine x_V1 F (m_X0_codeAt (by first | assumption | omega | decide) (by first | assumption | omega | decide)) mlX0_19 mvX0_codeAt rfl dX0_fits_23 (by decide) rfl ⟨Nat.le_of_ble_eq_true rfl, Nat.le_of_ble_eq_true rfl⟩ ⟨Nat.zero_le _, Nat.zero_le _⟩ (Nat.le_of_ble_eq_true rfl) ?_
      have hf_3 := cdI_b hB i
      refine x_istore F dX0_fits_26 (by decide) ?_
      refine x_iload F dX0_fits_28 rfl ?_
      by_cases h_4 : (sB j a) = 65
      · refine xj_look (off := 78) (tgt := 108) F dX0_fits_30 rfl (by rw [h_4]; rfl) (by decide) (by omega) ?_
        refine x_iload F dX0_fits_108 rfl ?_
        refine xj_bipush F dX0_fits_110 (by decide) ?_
        refine xj_bipush F dX0_fits_112 (by decide) ?_
        refine x_N3 F (m_X6_isBetween (by first | assumption | omega | decide) (by first | assumption | omega | decide) (by first | assumption | omega | decide)) mnX0_60 msX6_isBetween dX0_fits_114 ⟨Nat.le_of_ble_eq_true rfl, Nat.le_of_ble_eq_true rfl⟩ ⟨Nat.zero_le _, Nat.zero_le _⟩ (Nat.le_of_ble_eq_true rfl) ?_
        refine x_iret F FR dX0_fits_117 (jb_nar _) (Nat.le_refl _) (Nat.le_refl _) ?_
        refine ⟨congrArg vI (jb_c ?_), rfl⟩
        unfold ftB ftC
        (repeat' split) <;> first | omega | (rw [decide_eq_true_iff]; done) | (rw [decide_eq_true_iff]; omega)
      by_cases h_5 : (sB j a) = 66
      · refine xj_look (off := 88) (tgt := 118) F dX0_fits_30 rfl (by rw [h_5]; rfl) (by decide) (by omega) ?_
        refine x_iload F dX0_fits_118 rfl ?_
        refine xj_bipush F dX0_fits_120 (by decide) ?_
        refine x_aload_n F dX0_fits_122 rfl ?_
        refine x_iload_n F dX0_fits_123 rfl ?_
        refine xj_iconst F dX0_fits_124 ?_
        refine xj_isub F dX0_fits_125 ?_
        refine x_V1 F (m_X0_codeAt (by first | assumption | omega | decide) (by first | assumption | omega | decide)) mlX0_19 mvX0_codeAt rfl dX0_fits_126 (by decide) rfl ⟨Nat.le_of_ble_eq_true rfl, Nat.le_of_ble_eq_true rfl⟩ ⟨Nat.zero_le _, Nat.zero_le _⟩ (Nat.le_of_ble_eq_true rfl) ?_
        have hf_6 := cdI_b hB (i - 1)
        refine xj_bipush F dX0_fits_129 (by decide) ?_
        refine xj_icmp_ne (tgt := 139) F dX0_fits_131 (by decide) (by omega) (fun h_7 => ?_) (fun h_7 => ?_)
        · refine xj_bipush F dX0_fits_139 (by decide) ?_
          refine x_N3 F (m_X6_isBetween (by first | assumption | omega | decide) (by first | assumption | omega | decide) (by first | assumption | omega | decide)) mnX0_60 msX6_isBetween dX0_fits_141 ⟨Nat.le_of_ble_eq_true rfl, Nat.le_of_ble_eq_true rfl⟩ ⟨Nat.zero_le _, Nat.zero_le _⟩ (Nat.le_of_ble_eq_true rfl) ?_
          refine x_iret F FR dX0_fits_144 (jb_nar _) (Nat.le_refl _) (Nat.le_refl _) ?_
          refine ⟨congrArg vI (jb_c ?_), rfl⟩
          unfold ftB ftC
          (repeat' split) <;> first | omega | (rw [decide_eq_true_iff]; done) | (rw [decide_eq_true_iff]; omega)
        · refine xj_bipush F dX0_fits_134 (by decide) ?_
          refine x_goto (tgt := 141) F dX0_fits_136 (by decide) ?_
          refine x_N3 F (m_X6_isBetween (by first | assumption | omega | decide) (by first | assumption | omega | decide) (by first | assumption | omega | decide)) mnX0_60 msX6_isBetween dX0_fits_141 ⟨Nat.le_of_ble_eq_true rfl, Nat.le_of_ble_eq_true rfl⟩ ⟨Nat.zero_le _, Nat.zero_le _⟩ (Nat.le_of_ble_eq_true rfl) ?_
          refine x_iret F FR dX0_fits_144 (jb_nar _) (Nat.le_refl _) (Nat.le_refl _) ?_
          refine ⟨congrArg vI (jb_c ?_), rfl⟩
          unfold ftB ftC
          (repeat' split) <;> first | omega | (rw [decide_eq_true_iff]; done) | (rw [decide_eq_true_iff]; omega)
      by_cases h_8 : (sB j a) = 67
      · refine xj_look (off := 115) (tgt := 145) F dX0_fits_30 rfl (by rw [h_8]; rfl) (by decide) (by omega) ?_
        refine x_iload F dX0_fits_145 rfl ?_
        refine xj_bipush F dX0_fits_147 (by decide) ?_
        refine x_aload_n F dX0_fits_149 rfl ?_
        refine x_iload_n F dX0_fits_150 rfl ?_
        refine x_V1 F (m_X0_isTopHeight (by first | assumption | omega | decide) (by first | assumption | omega | decide)) mlX0_64 mvX0_isTopHeight rfl dX0_fits_151 (by decide) rfl ⟨Nat.le_of_ble_eq_true rfl, Nat.le_of_ble_eq_true rfl⟩ ⟨Nat.zero_le _, Nat.zero_le _⟩ (Nat.le_of_ble_eq_true rfl) ?_
        refine xb_if_eq (tgt := 162) F dX0_fits_154 (by decide) (fun h_9 => ?_) (fun h_9 => ?_)
        · refine xj_bipush F dX0_fits_162 (by decide) ?_
          refine x_N3 F (m_X6_isBetween (by first | assumption | omega | decide) (by first | assumption | omega | decide) (by first | assumption | omega | decide)) mnX0_60 msX6_isBetween dX0_fits_164 ⟨Nat.le_of_ble_eq_true rfl, Nat.le_of_ble_eq_true rfl⟩ ⟨Nat.zero_le _, Nat.zero_le _⟩ (Nat.le_of_ble_eq_true rfl) ?_
          refine x_iret F FR dX0_fits_167 (jb_nar _) (Nat.le_refl _) (Nat.le_refl _) ?_
          refine ⟨congrArg vI (jb_c ?_), rfl⟩
          unfold ftB ftC
          (repeat' split) <;> first | omega | (rw [decide_eq_true_iff]; done) | (rw [decide_eq_true_iff]; omega)
        · refine xj_bipush F dX0_fits_157 (by decide) ?_
          refine x_goto (tgt := 164) F dX0_fits_159 (by decide) ?_
          refine x_N3 F (m_X6_isBetween (by first | assumption | omega | decide) (by first | assumption | omega | decide) (by first | assumption | omega | decide)) mnX0_60 msX6_isBetween dX0_fits_164 ⟨Nat.le_of_ble_eq_true rfl, Nat.le_of_ble_eq_true rfl⟩ ⟨Nat.zero_le _, Nat.zero_le _⟩ (Nat.le_of_ble_eq_true rfl) ?_
          refine x_iret F FR dX0_fits_167 (jb_nar _) (Nat.le_refl _) (Nat.le_refl _) ?_
          refine ⟨congrArg vI (jb_c ?_), rfl⟩
          unfold ftB ftC
          (repeat' split) <;> first | omega | (rw [decide_eq_true_iff]; done) | (rw [decide_eq_true_iff]; omega)
      by_cases h_10 : (sB j a) = 80
      · refine xj_look (off := 68) (tgt := 98) F dX0_fits_30 rfl (by rw [h_10]; rfl) (by decide) (by omega) ?_
        refine x_iload F dX0_fits_98 rfl ?_
        refine xj_bipush F dX0_fits_100 (by decide) ?_
        refine xj_bipush F dX0_fits_102 (by decide) ?_
        refine x_N3 F (m_X6_isBetween (by first | assumption | omega | decide) (by first | assumption | omega | decide) (by first | assumption | omega | decide)) mnX0_60 msX6_isBetween dX0_fits_104 ⟨Nat.le_of_ble_eq_true rfl, Nat.le_of_ble_eq_true rfl⟩ ⟨Nat.zero_le _, Nat.zero_le _⟩ (Nat.le_of_ble_eq_true rfl) ?_
        refine x_iret F FR dX0_fits_107 (jb_nar _) (Nat.le_refl _) (Nat.le_refl _) ?_
        refine ⟨congrArg vI (jb_c ?_), rfl⟩
        unfold ftB ftC
        (repeat' split) <;> first | omega | (rw [decide_eq_true_iff]; done) | (rw [decide_eq_true_iff]; omega)
      by_cases h_11 : (sB j a) = 82
      · refine xj_look (off := 58) (tgt := 88) F dX0_fits_30 rfl (by rw [h_11]; rfl) (by decide) (by omega) ?_
        refine x_iload F dX0_fits_88 rfl ?_
        refine xj_bipush F dX0_fits_90 (by decide) ?_
        refine xj_bipush F dX0_fits_92 (by decide) ?_
        refine x_N3 F (m_X6_isBetween (by first | assumption | omega | decide) (by first | assumption | omega | decide) (by first | assumption | omega | decide)) mnX0_60 msX6_isBetween dX0_fits_94 ⟨Nat.le_of_ble_eq_true rfl, Nat.le_of_ble_eq_true rfl⟩ ⟨Nat.zero_le _, Nat.zero_le _⟩ (Nat.le_of_ble_eq_true rfl) ?_
        refine x_iret F FR dX0_fits_97 (jb_nar _) (Nat.le_refl _) (Nat.le_refl _) ?_
        refine ⟨congrArg vI (jb_c ?_), rfl⟩
        unfold ftB ftC
        (repeat' split) <;> first | omega | (rw [decide_eq_true_iff]; done) | (rw [decide_eq_true_iff]; omega)
      by_cases h_12 : (sB j a) = 86
      · refine xj_look (off := 138) (tgt := 168) F dX0_fits_30 rfl (by rw [h_12]; rfl) (by decide) (by omega) ?_
        refine x_ldcS F (show (RX0, 68, "btas", 7) ∈ xsR by decide +kernel) dX0_fits_168 ?_
        refine x_iload F dX0_fits_170 rfl ?_
        have hvx := vxI_b (cdI M i)
        refine x_Q1 F (by decide) (m_J0_indexOf_0f7a4 (by omega)) mlX0_70 mvJ0_indexOf_0f7a4 dX0_fits_172 (by decide +kernel) ⟨Nat.le_of_ble_eq_true rfl, Nat.le_of_ble_eq_true rfl⟩ ⟨Nat.zero_le _, Nat.zero_le _⟩ (Nat.le_of_ble_eq_true rfl) ?_
        refine xj_if_lt (tgt := 182) F dX0_fits_175 (by decide) (by omega) (fun h_13 => ?_) (fun h_13 => ?_)
        · refine xj_iconst F dX0_fits_182 ?_
          refine x_iret F FR dX0_fits_183 rfl (Nat.le_refl _) (Nat.le_refl _) ?_
          first
            | (refine ⟨congrArg vI (jb_f ?_).symm, rfl⟩; unfold ftB ftC; (repeat' split) <;> first | omega | (rw [decide_eq_true_iff]; omega) | (intro q9; cases q9))
            | (refine ⟨congrArg vI (jb_t ?_).symm, rfl⟩; unfold ftB ftC; (repeat' split) <;> first | omega | (rw [decide_eq_true_iff]; omega))
        · refine xj_iconst F dX0_fits_178 ?_
          refine x_goto (tgt := 183) F dX0_fits_179 (by decide) ?_
          refine x_iret F FR dX0_fits_183 rfl (Nat.le_refl _) (Nat.le_refl _) ?_
          first
            | (refine ⟨congrArg vI (jb_f ?_).symm, rfl⟩; unfold ftB ftC; (repeat' split) <;> first | omega | (rw [decide_eq_true_iff]; omega) | (intro q9; cases q9))
            | (refine ⟨congrArg vI (jb_t ?_).symm, rfl⟩; unfold ftB ftC; (repeat' split) <;> first | omega | (rw [decide_eq_true_iff]; omega))
      refine xj_look (off := 154) (tgt := 184) F dX0_fits_30 rfl (by show Op.lookupswitch.offset [(65, 78), (66, 88), (67, 115), (80, 68), (82, 58), (86, 138)] 154 _ = _; simp only [Op.lookupswitch.offset]; rw [if_neg (by omega), if_neg (by omega), if_neg (by omega), if_neg (by omega), if_neg (by omega), if_neg (by omega)]) (by decide) (by omega) ?_
      refine x_iload F dX0_fits_184 rfl ?_
      refine x_iload F dX0_fits_186 rfl ?_
      refine xj_icmp_ne (tgt := 195) F dX0_fits_188 (by decide) (by omega) (fun h_14 => ?_) (fun h_14 => ?_)
      · refine xj_iconst F dX0_fits_195 ?_
        refine x_iret F FR dX0_fits_196 rfl (Nat.le_refl _) (Nat.le_refl _) ?_
        first
          | (refine ⟨congrArg vI (jb_f ?_).symm, rfl⟩; unfold ftB ftC; (repeat' split) <;> first | omega | (rw [decide_eq_true_iff]; omega) | (intro q9; cases q9))
          | (refine ⟨congrArg vI (jb_t ?_).symm, rfl⟩; unfold ftB ftC; (repeat' split) <;> first | omega | (rw [decide_eq_true_iff]; omega))
      · refine xj_iconst F dX0_fits_191 ?_
        refine x_goto (tgt := 196) F dX0_fits_192 (by decide) ?_
        refine x_iret F FR dX0_fits_196 rfl (Nat.le_refl _) (Nat.le_refl _) ?_
        first
          | (refine ⟨congrArg vI (jb_f ?_).symm, rfl⟩; unfold ftB ftC; (repeat' split) <;> first | omega | (rw [decide_eq_true_iff]; omega) | (intro q9; cases q9))
          | (refine ⟨congrArg vI (jb_t ?_).symm, rfl⟩; unfold ftB ftC; (repeat' split) <;> first | omega | (rw [decide_eq_true_iff]; omega))
    · refine xj_iconst F dX0_fits_12 ?_
      refine x_iret F FR dX0_fits_13 rfl (Nat.le_refl _) (Nat.le_refl _) ?_
      first
        | (refine ⟨congrArg vI (jb_f ?_).symm, rfl⟩; unfold ftB ftC; (repeat' split) <;> first | omega | (rw [decide_eq_true_iff]; omega) | (intro q9; cases q9))
        | (refine ⟨congrArg vI (jb_t ?_).symm, rfl⟩; unfold ftB ftC; (repeat' split) <;> first | omega | (rw [decide_eq_true_iff]; omega))
set_option maxRecDepth 20000 in
theorem L_X0_firstMisfit {l : Launch} {E : xE} {M : xM} (hB : okB M) {Y : xY} (F : xFix E (xA E) Y cX0_firstMisfit yX0_firstMisfit.cls 3) (FR : xRet E Y (some FieldType.int) 0 0 (fun r' M'' => r' = vI (jI (fmI M)) ∧ M'' = M) (fun _ _ => False)) : ∀ (k : Nat) (s i : Int), 0 ≤ s ∧ s ≤ i → i ≤ tlI M → fmR M (tlI M - i).toNat s i = fmI M → (tlI M - i).toNat < k → WP l E (xRm 6 0 0) (xA E) Y 0 0 4 [vA 48, vI (jI s), vI (jI i)] [] M := by
  intro k
  induction k with
  | zero => intro s i hs hi hf hk; exact absurd hk (Nat.not_lt_zero _)
  | succ k ih =>
    intro s i hs hi hf hk
    have hB1 := hB.1
    have hpl := plI_b M s
    have htl : (M.1 48 1).toInt = tlI M := rfl
    refine x_iload_n F dX0_firstMisfit_4 rfl ?_
    refine x_aload_n F dX0_firstMisfit_5 rfl ?_
    refine xj_geti F flX0_15 rfl dX0_firstMisfit_6 (by decide) (by decide) rfl (fun hg_1 => ?_)
    refine xj_icmp_ge (tgt := 69) F dX0_firstMisfit_9 (by decide) (by omega) (fun h_2 => ?_) (fun h_2 => ?_)
    · rw [show (tlI M - i).toNat = 0 by omega] at hf
      refine x_aload_n F dX0_firstMisfit_69 rfl ?_
      refine xj_geti F flX0_15 rfl dX0_firstMisfit_70 (by decide) (by decide) rfl (fun hg_3 => ?_)
      refine x_iret F FR dX0_firstMisfit_73 rfl (Nat.le_refl _) (Nat.le_refl _) ?_
      exact ⟨vj hf, rfl⟩
    · rw [show (tlI M - i).toNat = (tlI M - (i + 1)).toNat + 1 by omega] at hf
      simp only [fmR] at hf
      refine x_iload_n F dX0_firstMisfit_12 rfl ?_
      refine x_iload_n F dX0_firstMisfit_13 rfl ?_
      refine xj_icmp_le (tgt := 45) F dX0_firstMisfit_14 (by decide) (by omega) (fun h_4 => ?_) (fun h_4 => ?_)
      · rw [if_neg (by omega)] at hf
        refine x_aload_n F dX0_firstMisfit_45 rfl ?_
        refine x_aload_n F dX0_firstMisfit_46 rfl ?_
        refine x_iload_n F dX0_firstMisfit_47 rfl ?_
        refine x_V1 F (m_X0_formAt hB (by omega)) mlX0_37 mvX0_formAt rfl dX0_firstMisfit_48 (by decide) rfl ⟨Nat.le_of_ble_eq_true rfl, Nat.le_of_ble_eq_true rfl⟩ ⟨Nat.zero_le _, Nat.zero_le _⟩ (Nat.le_of_ble_eq_true rfl) ?_
        refine x_iload_n F dX0_firstMisfit_51 rfl ?_
        refine x_iload_n F dX0_firstMisfit_52 rfl ?_
        refine xj_isub F dX0_firstMisfit_53 ?_
        refine x_iload_n F dX0_firstMisfit_54 rfl ?_
        refine x_V3 F (m_X0_fits hB (fmN_lt _) (by omega) (by omega)) mlX0_50 mvX0_fits rfl dX0_firstMisfit_55 (by decide) rfl ⟨Nat.le_of_ble_eq_true rfl, Nat.le_of_ble_eq_true rfl⟩ ⟨Nat.zero_le _, Nat.zero_le _⟩ (Nat.le_of_ble_eq_true rfl) ?_
        refine xb_if_ne (tgt := 63) F dX0_firstMisfit_58 (by decide) (fun h_5 => ?_) (fun h_5 => ?_)
        · rw [if_pos h_5] at hf
          refine xj_iinc F dX0_firstMisfit_63 rfl ?_
          refine x_goto (tgt := 4) F dX0_firstMisfit_66 (by decide) ?_
          exact ih _ (i + 1) (by omega) (by omega) hf (by omega)
        · rw [if_neg h_5] at hf
          refine x_iload_n F dX0_firstMisfit_61 rfl ?_
          refine x_iret F FR dX0_firstMisfit_62 rfl (Nat.le_refl _) (Nat.le_refl _) ?_
          exact ⟨vj hf, rfl⟩
      · refine x_iload_n F dX0_firstMisfit_17 rfl ?_
        refine x_aload_n F dX0_firstMisfit_18 rfl ?_
        refine x_iload_n F dX0_firstMisfit_19 rfl ?_
        refine x_V1 F (m_X0_endOfPart (by first | assumption | omega | decide) (by first | assumption | omega | decide)) mlX0_46 mvX0_endOfPart rfl dX0_firstMisfit_20 (by decide) rfl ⟨Nat.le_of_ble_eq_true rfl, Nat.le_of_ble_eq_true rfl⟩ ⟨Nat.zero_le _, Nat.zero_le _⟩ (Nat.le_of_ble_eq_true rfl) ?_
        have hf_6 := plI_b M s
        refine xj_icmp_ne (tgt := 45) F dX0_firstMisfit_23 (by decide) (by omega) (fun h_7 => ?_) (fun h_7 => ?_)
        · rw [if_neg (by omega)] at hf
          refine x_aload_n F dX0_firstMisfit_45 rfl ?_
          refine x_aload_n F dX0_firstMisfit_46 rfl ?_
          refine x_iload_n F dX0_firstMisfit_47 rfl ?_
          refine x_V1 F (m_X0_formAt hB (by omega)) mlX0_37 mvX0_formAt rfl dX0_firstMisfit_48 (by decide) rfl ⟨Nat.le_of_ble_eq_true rfl, Nat.le_of_ble_eq_true rfl⟩ ⟨Nat.zero_le _, Nat.zero_le _⟩ (Nat.le_of_ble_eq_true rfl) ?_
          refine x_iload_n F dX0_firstMisfit_51 rfl ?_
          refine x_iload_n F dX0_firstMisfit_52 rfl ?_
          refine xj_isub F dX0_firstMisfit_53 ?_
          refine x_iload_n F dX0_firstMisfit_54 rfl ?_
          refine x_V3 F (m_X0_fits hB (fmN_lt _) (by omega) (by omega)) mlX0_50 mvX0_fits rfl dX0_firstMisfit_55 (by decide) rfl ⟨Nat.le_of_ble_eq_true rfl, Nat.le_of_ble_eq_true rfl⟩ ⟨Nat.zero_le _, Nat.zero_le _⟩ (Nat.le_of_ble_eq_true rfl) ?_
          refine xb_if_ne (tgt := 63) F dX0_firstMisfit_58 (by decide) (fun h_8 => ?_) (fun h_8 => ?_)
          · rw [if_pos h_8] at hf
            refine xj_iinc F dX0_firstMisfit_63 rfl ?_
            refine x_goto (tgt := 4) F dX0_firstMisfit_66 (by decide) ?_
            exact ih _ (i + 1) (by omega) (by omega) hf (by omega)
          · rw [if_neg h_8] at hf
            refine x_iload_n F dX0_firstMisfit_61 rfl ?_
            refine x_iret F FR dX0_firstMisfit_62 rfl (Nat.le_refl _) (Nat.le_refl _) ?_
            exact ⟨vj hf, rfl⟩
        · rw [if_pos (by omega)] at hf
          refine x_aload_n F dX0_firstMisfit_26 rfl ?_
          refine x_iload_n F dX0_firstMisfit_27 rfl ?_
          refine x_V1 F (m_X0_codeAt (by first | assumption | omega | decide) (by first | assumption | omega | decide)) mlX0_19 mvX0_codeAt rfl dX0_firstMisfit_28 (by decide) rfl ⟨Nat.le_of_ble_eq_true rfl, Nat.le_of_ble_eq_true rfl⟩ ⟨Nat.zero_le _, Nat.zero_le _⟩ (Nat.le_of_ble_eq_true rfl) ?_
          have hf_9 := cdI_b hB i
          refine xj_bipush F dX0_firstMisfit_31 (by decide) ?_
          refine xj_icmp_eq (tgt := 38) F dX0_firstMisfit_33 (by decide) (by omega) (fun h_10 => ?_) (fun h_10 => ?_)
          · rw [if_pos h_10] at hf
            refine x_iload_n F dX0_firstMisfit_38 rfl ?_
            refine xj_iconst F dX0_firstMisfit_39 ?_
            refine xj_iadd F dX0_firstMisfit_40 ?_
            refine x_istore_n F dX0_firstMisfit_41 (by decide) ?_
            refine x_goto (tgt := 63) F dX0_firstMisfit_42 (by decide) ?_
            refine xj_iinc F dX0_firstMisfit_63 rfl ?_
            refine x_goto (tgt := 4) F dX0_firstMisfit_66 (by decide) ?_
            exact ih _ (i + 1) (by omega) (by omega) hf (by omega)
          · rw [if_neg h_10] at hf
            refine x_iload_n F dX0_firstMisfit_36 rfl ?_
            refine x_iret F FR dX0_firstMisfit_37 rfl (Nat.le_refl _) (Nat.le_refl _) ?_
            exact ⟨vj hf, rfl⟩
set_option maxRecDepth 20000 in
theorem m_X0_firstMisfit {l : Launch} {E : xE} {M : xM} (hB : okB M) : XF l E 6 yX0_firstMisfit cX0_firstMisfit 3 (some FieldType.int) [vA 48] M (vI (jI (fmI M))) (M) := by
  refine xp_start (plainFor_of_name (by decide)) rfl (Nat.le_of_ble_eq_true rfl) ?_
  intro Y F FR
  have hB1 := hB.1
  refine xj_iconst F dX0_firstMisfit_0 ?_
  refine x_istore_n F dX0_firstMisfit_1 (by decide) ?_
  refine xj_iconst F dX0_firstMisfit_2 ?_
  refine x_istore_n F dX0_firstMisfit_3 (by decide) ?_
  exact L_X0_firstMisfit hB F FR _ 0 0 (by omega) (by omega) (by rw [show tlI M - 0 = tlI M by omega]; rfl) (Nat.lt_succ_self _)
set_option maxRecDepth 20000 in
theorem L_X0_isWhole {l : Launch} {E : xE} {M : xM} (hB : okB M) {Y : xY} (F : xFix E (xA E) Y cX0_isWhole yX0_isWhole.cls 4) (FR : xRet E Y (some FieldType.boolean) 0 0 (fun r' M'' => r' = vI (jb (whB M = true)) ∧ M'' = M) (fun _ _ => False)) : ∀ (k : Nat) (p s : Int) (x : xV), 0 ≤ p ∧ p ≤ 60 → 0 ≤ s ∧ s ≤ 100 → hoR M (60 - p).toNat s = whB M → (60 - p).toNat < k → WP l E (xRm 7 0 0) (xA E) Y 0 0 17 [vA 48, vI (jI s), vI (jI p), x] [] M := by
  intro k
  induction k with
  | zero => intro p s x hp hs hf hk; exact absurd hk (Nat.not_lt_zero _)
  | succ k ih =>
    intro p s x hp hs hf hk
    have hB1 := hB.1
    have hpl := plI_b M s
    have htl : (M.1 48 1).toInt = tlI M := rfl
    refine x_iload_n F dX0_isWhole_17 rfl ?_
    refine xj_bipush F dX0_isWhole_18 (by decide) ?_
    refine xj_icmp_ge (tgt := 57) F dX0_isWhole_20 (by decide) (by omega) (fun h_1 => ?_) (fun h_1 => ?_)
    · rw [show (60 - p).toNat = 0 by omega] at hf
      refine xj_iconst F dX0_isWhole_57 ?_
      refine x_iret F FR dX0_isWhole_58 rfl (Nat.le_refl _) (Nat.le_refl _) ?_
      first
        | exact ⟨by rw [jb_t hf.symm], rfl⟩
        | exact ⟨by rw [jb_f (by rw [← hf]; exact Bool.false_ne_true)], rfl⟩
    · rw [show (60 - p).toNat = (60 - (p + 1)).toNat + 1 by omega] at hf
      simp only [hoR] at hf
      refine x_iload_n F dX0_isWhole_23 rfl ?_
      refine x_aload_n F dX0_isWhole_24 rfl ?_
      refine xj_geti F flX0_15 rfl dX0_isWhole_25 (by decide) (by decide) rfl (fun hg_2 => ?_)
      refine xj_icmp_ge (tgt := 57) F dX0_isWhole_28 (by decide) (by omega) (fun h_3 => ?_) (fun h_3 => ?_)
      · rw [if_neg (by omega)] at hf
        refine xj_iconst F dX0_isWhole_57 ?_
        refine x_iret F FR dX0_isWhole_58 rfl (Nat.le_refl _) (Nat.le_refl _) ?_
        first
          | exact ⟨by rw [jb_t hf.symm], rfl⟩
          | exact ⟨by rw [jb_f (by rw [← hf]; exact Bool.false_ne_true)], rfl⟩
      · rw [if_pos (by omega)] at hf
        refine x_aload_n F dX0_isWhole_31 rfl ?_
        refine x_iload_n F dX0_isWhole_32 rfl ?_
        refine x_V1 F (m_X0_endOfPart (by first | assumption | omega | decide) (by first | assumption | omega | decide)) mlX0_46 mvX0_endOfPart rfl dX0_isWhole_33 (by decide) rfl ⟨Nat.le_of_ble_eq_true rfl, Nat.le_of_ble_eq_true rfl⟩ ⟨Nat.zero_le _, Nat.zero_le _⟩ (Nat.le_of_ble_eq_true rfl) ?_
        have hf_4 := plI_b M s
        refine x_istore_n F dX0_isWhole_36 (by decide) ?_
        refine x_iload_n F dX0_isWhole_37 rfl ?_
        refine x_aload_n F dX0_isWhole_38 rfl ?_
        refine xj_geti F flX0_15 rfl dX0_isWhole_39 (by decide) (by decide) rfl (fun hg_5 => ?_)
        refine xj_icmp_ne (tgt := 47) F dX0_isWhole_42 (by decide) (by omega) (fun h_6 => ?_) (fun h_6 => ?_)
        · rw [if_neg (by omega)] at hf
          refine x_iload_n F dX0_isWhole_47 rfl ?_
          refine xj_iconst F dX0_isWhole_48 ?_
          refine xj_iadd F dX0_isWhole_49 ?_
          refine x_istore_n F dX0_isWhole_50 (by decide) ?_
          refine xj_iinc F dX0_isWhole_51 rfl ?_
          refine x_goto (tgt := 17) F dX0_isWhole_54 (by decide) ?_
          exact ih (p + 1) _ _ (by omega) (by omega) hf (by omega)
        · rw [if_pos (by omega)] at hf
          refine xj_iconst F dX0_isWhole_45 ?_
          refine x_iret F FR dX0_isWhole_46 rfl (Nat.le_refl _) (Nat.le_refl _) ?_
          first
            | exact ⟨by rw [jb_t hf.symm], rfl⟩
            | exact ⟨by rw [jb_f (by rw [← hf]; exact Bool.false_ne_true)], rfl⟩
set_option maxRecDepth 20000 in
theorem m_X0_isWhole {l : Launch} {E : xE} {M : xM} (hB : okB M) : XF l E 7 yX0_isWhole cX0_isWhole 4 (some FieldType.boolean) [vA 48] M (vI (jb (whB M = true))) (M) := by
  refine xp_start (plainFor_of_name (by decide)) rfl (Nat.le_of_ble_eq_true rfl) ?_
  intro Y F FR
  have hB1 := hB.1
  have htl : (M.1 48 1).toInt = tlI M := rfl
  refine x_aload_n F dX0_isWhole_0 rfl ?_
  refine x_V0 F (m_X0_firstMisfit (by first | assumption | omega | decide)) mlX0_54 mvX0_firstMisfit rfl dX0_isWhole_1 (by decide) rfl ⟨Nat.le_of_ble_eq_true rfl, Nat.le_of_ble_eq_true rfl⟩ ⟨Nat.zero_le _, Nat.zero_le _⟩ (Nat.le_of_ble_eq_true rfl) ?_
  have hf_1 := fmI_b hB
  refine x_aload_n F dX0_isWhole_4 rfl ?_
  refine xj_geti F flX0_15 rfl dX0_isWhole_5 (by decide) (by decide) rfl (fun hg_2 => ?_)
  refine xj_icmp_ge (tgt := 13) F dX0_isWhole_8 (by decide) (by omega) (fun h_3 => ?_) (fun h_3 => ?_)
  · refine xj_iconst F dX0_isWhole_13 ?_
    refine x_istore_n F dX0_isWhole_14 (by decide) ?_
    refine xj_iconst F dX0_isWhole_15 ?_
    refine x_istore_n F dX0_isWhole_16 (by decide) ?_
    exact L_X0_isWhole hB F FR _ 0 0 _ (by omega) (by omega) (by unfold whB; rw [if_neg (by omega)]; rfl) (Nat.lt_succ_self _)
  · refine xj_iconst F dX0_isWhole_11 ?_
    refine x_iret F FR dX0_isWhole_12 rfl (Nat.le_refl _) (Nat.le_refl _) ?_
    exact ⟨by rw [jb_f (by unfold whB; rw [if_pos (by omega)]; decide)], rfl⟩
def ltI (v : Int) : Int := if 0 ≤ v ∧ v < 4 then sB 7 v else -1
set_option maxRecDepth 20000 in
theorem m_X1_letterOf {l : Launch} {E : xE} {v : Int} {M : xM} (hv : rg v) : XF l E 5 yX1_letterOf cX1_letterOf 1 (some FieldType.int) [vI (jI v)] M (vI (jI (ltI v))) (M) := by
  refine xp_start (plainFor_of_name (by decide)) rfl (Nat.le_of_ble_eq_true rfl) ?_
  intro Y F FR
  refine x_iload_n F dX1_letterOf_0 rfl ?_
  refine xj_if_lt (tgt := 22) F dX1_letterOf_1 (by decide) (by omega) (fun h_1 => ?_) (fun h_1 => ?_)
  · refine xj_iconst F dX1_letterOf_22 ?_
    refine x_iret F FR dX1_letterOf_23 rfl (Nat.le_refl _) (Nat.le_refl _) ?_
    exact ⟨vj (by simp only [ltI]; split <;> first | rfl | omega), rfl⟩
  · refine x_iload_n F dX1_letterOf_4 rfl ?_
    refine x_ldcS F (show (RX1, 145, "btas", 7) ∈ xsR by decide +kernel) dX1_letterOf_5 ?_
    refine x_Q0 F (by decide) (m_J0_length_8abf5 (by decide)) mlX1_147 mvJ0_length_8abf5 dX1_letterOf_7 (by decide +kernel) ⟨Nat.le_of_ble_eq_true rfl, Nat.le_of_ble_eq_true rfl⟩ ⟨Nat.zero_le _, Nat.zero_le _⟩ (Nat.le_of_ble_eq_true rfl) ?_
    rw [show jI (sLen 7 : Int) = jI 4 from rfl]
    refine xj_icmp_ge (tgt := 22) F dX1_letterOf_10 (by decide) (by omega) (fun h_2 => ?_) (fun h_2 => ?_)
    · refine xj_iconst F dX1_letterOf_22 ?_
      refine x_iret F FR dX1_letterOf_23 rfl (Nat.le_refl _) (Nat.le_refl _) ?_
      exact ⟨vj (by simp only [ltI]; split <;> first | rfl | omega), rfl⟩
    · refine x_ldcS F (show (RX1, 145, "btas", 7) ∈ xsR by decide +kernel) dX1_letterOf_13 ?_
      refine x_iload_n F dX1_letterOf_15 rfl ?_
      refine x_Q1 F (by decide) (m_J0_charAt_5068e (j := 7) (by decide) (by show 0 ≤ v ∧ v < 4; omega)) mlX1_153 mvJ0_charAt_5068e dX1_letterOf_16 (by decide +kernel) ⟨Nat.le_of_ble_eq_true rfl, Nat.le_of_ble_eq_true rfl⟩ ⟨Nat.zero_le _, Nat.zero_le _⟩ (Nat.le_of_ble_eq_true rfl) ?_
      refine x_goto (tgt := 23) F dX1_letterOf_19 (by decide) ?_
      refine x_iret F FR dX1_letterOf_23 rfl (Nat.le_refl _) (Nat.le_refl _) ?_
      exact ⟨vj (by simp only [ltI]; split <;> first | rfl | omega), rfl⟩
/-- a row as it is written: the sign at i -/
def wrC (h : Int32) (v : Int) (m : Int) : Int32 := if m = 0 then jI 48 + h / jI 100 else if m = 1 then jI 48 + (h / jI 10 - h / jI 10 / jI 10 * jI 10) else if m = 2 then jI 48 + (h - h / jI 10 * jI 10) else if m = 3 then jI (ltI v) else jI 32
def wcI (M : xM) (c : Nat) (r i : Int) : Int32 := if i < 0 ∨ max 0 (5 * szI M c r - 1) ≤ i then jI (-1) else wrC (jI (heI M c r (i / 5))) (rdI (M.1 (c + 4)) 24 (spI r (i / 5))) (i % 5)
set_option maxRecDepth 20000 in
theorem m_X1_writtenCode {l : Launch} {E : xE} {c : Nat} {r i : Int} {M : xM} (hC : isCh c) (hS : ∀ r : Int, 0 ≤ szI M c r ∧ szI M c r ≤ 6) (hr : 0 ≤ r ∧ r < 4) (hi : rg i) : XF l E 6 yX1_writtenCode cX1_writtenCode 5 (some FieldType.int) [vA c, vI (jI r), vI (jI i)] M (vI (wcI M c r i)) (M) := by
  refine xp_start (plainFor_of_name (by decide)) rfl (Nat.le_of_ble_eq_true rfl) ?_
  intro Y F FR
  have hs := hS r
  refine x_iload_n F dX1_writtenCode_0 rfl ?_
  refine xj_if_lt (tgt := 13) F dX1_writtenCode_1 (by decide) (by omega) (fun h_1 => ?_) (fun h_1 => ?_)
  · refine xj_iconst F dX1_writtenCode_13 ?_
    refine x_iret F FR dX1_writtenCode_14 rfl (Nat.le_refl _) (Nat.le_refl _) ?_
    refine ⟨?_, rfl⟩
    unfold wcI
    first
      | (rw [if_pos (by omega)])
      | (rw [if_neg (by omega)]; unfold wrC; first | rfl | (rw [if_pos (by omega)]) | (rw [if_neg (by omega), if_pos (by omega)]) | (rw [if_neg (by omega), if_neg (by omega), if_pos (by omega)]) | (rw [if_neg (by omega), if_neg (by omega), if_neg (by omega), if_pos (by omega)]) | (rw [if_neg (by omega), if_neg (by omega), if_neg (by omega), if_neg (by omega)]))
  · refine x_iload_n F dX1_writtenCode_4 rfl ?_
    refine x_aload_n F dX1_writtenCode_5 rfl ?_
    refine x_iload_n F dX1_writtenCode_6 rfl ?_
    refine x_V1 F (m_X1_writtenLength (by first | assumption | omega | decide) (by first | assumption | omega | decide) (by first | assumption | omega | decide)) mlX1_139 mvX1_writtenLength hC.1 dX1_writtenCode_7 (by decide) rfl ⟨Nat.le_of_ble_eq_true rfl, Nat.le_of_ble_eq_true rfl⟩ ⟨Nat.zero_le _, Nat.zero_le _⟩ (Nat.le_of_ble_eq_true rfl) ?_
    have hf_2 := hS r
    refine xj_icmp_lt (tgt := 15) F dX1_writtenCode_10 (by decide) (by omega) (fun h_3 => ?_) (fun h_3 => ?_)
    · refine x_iload_n F dX1_writtenCode_15 rfl ?_
      refine xj_iconst F dX1_writtenCode_16 ?_
      refine xj_idiv F dX1_writtenCode_17 (by omega) ?_
      refine x_istore_n F dX1_writtenCode_18 (by decide) ?_
      refine x_aload_n F dX1_writtenCode_19 rfl ?_
      refine x_iload_n F dX1_writtenCode_20 rfl ?_
      refine x_iload_n F dX1_writtenCode_21 rfl ?_
      refine x_V2 F (m_X1_heightAt (by first | assumption | omega | decide) (by first | assumption | omega | decide) (by first | assumption | omega | decide)) mlX1_92 mvX1_heightAt hC.1 dX1_writtenCode_22 (by decide) rfl ⟨Nat.le_of_ble_eq_true rfl, Nat.le_of_ble_eq_true rfl⟩ ⟨Nat.zero_le _, Nat.zero_le _⟩ (Nat.le_of_ble_eq_true rfl) ?_
      have hf_4 := rg_heI M c r (i / 5)
      refine x_istore F dX1_writtenCode_25 (by decide) ?_
      refine x_iload_n F dX1_writtenCode_27 rfl ?_
      refine xj_iconst F dX1_writtenCode_28 ?_
      refine xj_irem F dX1_writtenCode_29 (by omega) ?_
      by_cases h_5 : (i % 5) = 0
      · refine xj_tabIn (off := 30) (tgt := 60) F dX1_writtenCode_30 (by omega) (by omega) (by rw [h_5]; rfl) (by decide) (by omega) ?_
        refine xj_bipush F dX1_writtenCode_60 (by decide) ?_
        refine x_iload F dX1_writtenCode_62 rfl ?_
        refine xj_bipush F dX1_writtenCode_64 (by decide) ?_
        refine x_idiv F dX1_writtenCode_66 (by decide) ?_
        refine x_iadd F dX1_writtenCode_67 ?_
        refine x_iret F FR dX1_writtenCode_68 rfl (Nat.le_refl _) (Nat.le_refl _) ?_
        refine ⟨?_, rfl⟩
        unfold wcI
        first
          | (rw [if_pos (by omega)])
          | (rw [if_neg (by omega)]; unfold wrC; first | rfl | (rw [if_pos (by omega)]) | (rw [if_neg (by omega), if_pos (by omega)]) | (rw [if_neg (by omega), if_neg (by omega), if_pos (by omega)]) | (rw [if_neg (by omega), if_neg (by omega), if_neg (by omega), if_pos (by omega)]) | (rw [if_neg (by omega), if_neg (by omega), if_neg (by omega), if_neg (by omega)]))
      by_cases h_6 : (i % 5) = 1
      · refine xj_tabIn (off := 39) (tgt := 69) F dX1_writtenCode_30 (by omega) (by omega) (by rw [h_6]; rfl) (by decide) (by omega) ?_
        refine xj_bipush F dX1_writtenCode_69 (by decide) ?_
        refine x_iload F dX1_writtenCode_71 rfl ?_
        refine xj_bipush F dX1_writtenCode_73 (by decide) ?_
        refine x_idiv F dX1_writtenCode_75 (by decide) ?_
        refine xj_bipush F dX1_writtenCode_76 (by decide) ?_
        refine x_irem F dX1_writtenCode_78 (by decide) ?_
        refine x_iadd F dX1_writtenCode_79 ?_
        refine x_iret F FR dX1_writtenCode_80 rfl (Nat.le_refl _) (Nat.le_refl _) ?_
        refine ⟨?_, rfl⟩
        unfold wcI
        first
          | (rw [if_pos (by omega)])
          | (rw [if_neg (by omega)]; unfold wrC; first | rfl | (rw [if_pos (by omega)]) | (rw [if_neg (by omega), if_pos (by omega)]) | (rw [if_neg (by omega), if_neg (by omega), if_pos (by omega)]) | (rw [if_neg (by omega), if_neg (by omega), if_neg (by omega), if_pos (by omega)]) | (rw [if_neg (by omega), if_neg (by omega), if_neg (by omega), if_neg (by omega)]))
      by_cases h_7 : (i % 5) = 2
      · refine xj_tabIn (off := 51) (tgt := 81) F dX1_writtenCode_30 (by omega) (by omega) (by rw [h_7]; rfl) (by decide) (by omega) ?_
        refine xj_bipush F dX1_writtenCode_81 (by decide) ?_
        refine x_iload F dX1_writtenCode_83 rfl ?_
        refine xj_bipush F dX1_writtenCode_85 (by decide) ?_
        refine x_irem F dX1_writtenCode_87 (by decide) ?_
        refine x_iadd F dX1_writtenCode_88 ?_
        refine x_iret F FR dX1_writtenCode_89 rfl (Nat.le_refl _) (Nat.le_refl _) ?_
        refine ⟨?_, rfl⟩
        unfold wcI
        first
          | (rw [if_pos (by omega)])
          | (rw [if_neg (by omega)]; unfold wrC; first | rfl | (rw [if_pos (by omega)]) | (rw [if_neg (by omega), if_pos (by omega)]) | (rw [if_neg (by omega), if_neg (by omega), if_pos (by omega)]) | (rw [if_neg (by omega), if_neg (by omega), if_neg (by omega), if_pos (by omega)]) | (rw [if_neg (by omega), if_neg (by omega), if_neg (by omega), if_neg (by omega)]))
      by_cases h_8 : (i % 5) = 3
      · refine xj_tabIn (off := 60) (tgt := 90) F dX1_writtenCode_30 (by omega) (by omega) (by rw [h_8]; rfl) (by decide) (by omega) ?_
        refine x_aload_n F dX1_writtenCode_90 rfl ?_
        refine x_iload_n F dX1_writtenCode_91 rfl ?_
        refine x_iload_n F dX1_writtenCode_92 rfl ?_
        refine x_V2 F (m_X1_voiceAt (by first | assumption | omega | decide) (by first | assumption | omega | decide) (by first | assumption | omega | decide)) mlX1_95 mvX1_voiceAt hC.1 dX1_writtenCode_93 (by decide) rfl ⟨Nat.le_of_ble_eq_true rfl, Nat.le_of_ble_eq_true rfl⟩ ⟨Nat.zero_le _, Nat.zero_le _⟩ (Nat.le_of_ble_eq_true rfl) ?_
        have hf_9 := rg_rdI (M.1 (c + 4)) 24 (spI r (i / 5))
        refine x_S1 F (m_X1_letterOf (by first | assumption | omega | decide)) mlX1_142 msX1_letterOf dX1_writtenCode_96 ⟨Nat.le_of_ble_eq_true rfl, Nat.le_of_ble_eq_true rfl⟩ ⟨Nat.zero_le _, Nat.zero_le _⟩ (Nat.le_of_ble_eq_true rfl) ?_
        refine x_iret F FR dX1_writtenCode_99 rfl (Nat.le_refl _) (Nat.le_refl _) ?_
        refine ⟨?_, rfl⟩
        unfold wcI
        first
          | (rw [if_pos (by omega)])
          | (rw [if_neg (by omega)]; unfold wrC; first | rfl | (rw [if_pos (by omega)]) | (rw [if_neg (by omega), if_pos (by omega)]) | (rw [if_neg (by omega), if_neg (by omega), if_pos (by omega)]) | (rw [if_neg (by omega), if_neg (by omega), if_neg (by omega), if_pos (by omega)]) | (rw [if_neg (by omega), if_neg (by omega), if_neg (by omega), if_neg (by omega)]))
      refine xj_tabOut (tgt := 100) F dX1_writtenCode_30 (by omega) (by decide) (by omega) ?_
      refine xj_bipush F dX1_writtenCode_100 (by decide) ?_
      refine x_iret F FR dX1_writtenCode_102 rfl (Nat.le_refl _) (Nat.le_refl _) ?_
      refine ⟨?_, rfl⟩
      unfold wcI
      first
        | (rw [if_pos (by omega)])
        | (rw [if_neg (by omega)]; unfold wrC; first | rfl | (rw [if_pos (by omega)]) | (rw [if_neg (by omega), if_pos (by omega)]) | (rw [if_neg (by omega), if_neg (by omega), if_pos (by omega)]) | (rw [if_neg (by omega), if_neg (by omega), if_neg (by omega), if_pos (by omega)]) | (rw [if_neg (by omega), if_neg (by omega), if_neg (by omega), if_neg (by omega)]))
    · refine xj_iconst F dX1_writtenCode_13 ?_
      refine x_iret F FR dX1_writtenCode_14 rfl (Nat.le_refl _) (Nat.le_refl _) ?_
      refine ⟨?_, rfl⟩
      unfold wcI
      first
        | (rw [if_pos (by omega)])
        | (rw [if_neg (by omega)]; unfold wrC; first | rfl | (rw [if_pos (by omega)]) | (rw [if_neg (by omega), if_pos (by omega)]) | (rw [if_neg (by omega), if_neg (by omega), if_pos (by omega)]) | (rw [if_neg (by omega), if_neg (by omega), if_neg (by omega), if_pos (by omega)]) | (rw [if_neg (by omega), if_neg (by omega), if_neg (by omega), if_neg (by omega)]))
