def ltI (v : Int) : Int := if 0 ≤ v ∧ v < 4 then sB 0 v else -1
set_option maxRecDepth 20000 in
theorem m_X1_letterOf {l : Launch} {E : xE} {v : Int} {M : xM} (hv : rg v) : XF l E 5 yX1_letterOf cX1_letterOf 1 (some FieldType.int) [vI (jI v)] M (vI (jI (ltI v))) (M) := by
  refine xp_start (plainFor_of_name (by decide)) rfl (Nat.le_of_ble_eq_true rfl) ?_
  intro Y F FR
  refine x_iload_n F dX1_letterOf_0 rfl ?_
  refine xj_if_lt (tgt := 22) F dX1_letterOf_1 (by decide) (by omega) (fun h_1 => ?_) (fun h_1 => ?_)
  · refine xj_iconst F dX1_letterOf_22 ?_
    refine x_iret F FR dX1_letterOf_23 rfl (Nat.le_refl _) (Nat.le_refl _) ?_
    exact ⟨vj (by simp only [ltI]; split <;> first | rfl | omega), rfl⟩
  · refine x_iload_n F dX1_letterOf_4 rfl ?_
    refine x_ldcS F (show (RX1, 145, "btas", 0) ∈ xsR by decide +kernel) dX1_letterOf_5 ?_
    refine x_Q0 F (by decide) (m_J0_length_8abf5 (by decide)) mlX1_147 mvJ0_length_8abf5 dX1_letterOf_7 (by decide +kernel) ⟨Nat.le_of_ble_eq_true rfl, Nat.le_of_ble_eq_true rfl⟩ ⟨Nat.zero_le _, Nat.zero_le _⟩ (Nat.le_of_ble_eq_true rfl) ?_
    rw [show jI (sLen 0 : Int) = jI 4 from rfl]
    refine xj_icmp_ge (tgt := 22) F dX1_letterOf_10 (by decide) (by omega) (fun h_2 => ?_) (fun h_2 => ?_)
    · refine xj_iconst F dX1_letterOf_22 ?_
      refine x_iret F FR dX1_letterOf_23 rfl (Nat.le_refl _) (Nat.le_refl _) ?_
      exact ⟨vj (by simp only [ltI]; split <;> first | rfl | omega), rfl⟩
    · refine x_ldcS F (show (RX1, 145, "btas", 0) ∈ xsR by decide +kernel) dX1_letterOf_13 ?_
      refine x_iload_n F dX1_letterOf_15 rfl ?_
      refine x_Q1 F (by decide) (m_J0_charAt_5068e (j := 0) (by decide) (by show 0 ≤ v ∧ v < 4; omega)) mlX1_153 mvJ0_charAt_5068e dX1_letterOf_16 (by decide +kernel) ⟨Nat.le_of_ble_eq_true rfl, Nat.le_of_ble_eq_true rfl⟩ ⟨Nat.zero_le _, Nat.zero_le _⟩ (Nat.le_of_ble_eq_true rfl) ?_
      refine x_goto (tgt := 23) F dX1_letterOf_19 (by decide) ?_
      refine x_iret F FR dX1_letterOf_23 rfl (Nat.le_refl _) (Nat.le_refl _) ?_
      exact ⟨vj (by simp only [ltI]; split <;> first | rfl | omega), rfl⟩
/-- a row as it is written: the sign at i -/
def wrC (h : Int32) (v : Int) (m : Int) : Int32 := if m = 0 then jI 48 + h / jI 100 else if m = 1 then jI 48 + (h / jI 10 - h / jI 10 / jI 10 * jI 10) else if m = 2 then jI 48 + (h - h / jI 10 * jI 10) else if m = 3 then jI (ltI v) else jI 32
def wcI (M : xM) (c : Nat) (r i : Int) : Int32 := if i < 0 ∨ max 0 (5 * szI M c r - 1) ≤ i then jI (-1) else wrC (jI (heI M c r (i / 5))) (rdI (M.1 (c + 4)) 24 (spI r (i / 5))) (i % 5)
set_option maxRecDepth 20000 in
theorem m_X1_writtenCode {l : Launch} {E : xE} {c : Nat} {r i : Int} {M : xM} (hC : isCh c) (hS : ∀ r : Int, 0 ≤ szI M c r ∧ szI M c r ≤ 6) (hr : 0 ≤ r ∧ r < 4) (hi : rg i) : XF l E 6 yX1_writtenCode cX1_writtenCode 5 (some FieldType.int) [vA c, vI (jI r), vI (jI i)] M (vI (wcI M c r i)) (M) := by
  refine xp_start (plainFor_of_name (by decide)) rfl (Nat.le_of_ble_eq_true rfl) ?_
  intro Y F FR
  have hs := hS r
  refine x_iload_n F dX1_writtenCode_0 rfl ?_
  refine xj_if_lt (tgt := 13) F dX1_writtenCode_1 (by decide) (by omega) (fun h_1 => ?_) (fun h_1 => ?_)
  · refine xj_iconst F dX1_writtenCode_13 ?_
    refine x_iret F FR dX1_writtenCode_14 rfl (Nat.le_refl _) (Nat.le_refl _) ?_
    refine ⟨?_, rfl⟩
    unfold wcI
    first
      | (rw [if_pos (by omega)])
      | (rw [if_neg (by omega)]; unfold wrC; first | rfl | (rw [if_pos (by omega)]) | (rw [if_neg (by omega), if_pos (by omega)]) | (rw [if_neg (by omega), if_neg (by omega), if_pos (by omega)]) | (rw [if_neg (by omega), if_neg (by omega), if_neg (by omega), if_pos (by omega)]) | (rw [if_neg (by omega), if_neg (by omega), if_neg (by omega), if_neg (by omega)]))
  · refine x_iload_n F dX1_writtenCode_4 rfl ?_
    refine x_aload_n F dX1_writtenCode_5 rfl ?_
    refine x_iload_n F dX1_writtenCode_6 rfl ?_
    refine x_V1 F (m_X1_writtenLength (by first | assumption | omega | decide) (by first | assumption | omega | decide) (by first | assumption | omega | decide)) mlX1_139 mvX1_writtenLength hC.1 dX1_writtenCode_7 (by decide) rfl ⟨Nat.le_of_ble_eq_true rfl, Nat.le_of_ble_eq_true rfl⟩ ⟨Nat.zero_le _, Nat.zero_le _⟩ (Nat.le_of_ble_eq_true rfl) ?_
    have hf_2 := hS r
    refine xj_icmp_lt (tgt := 15) F dX1_writtenCode_10 (by decide) (by omega) (fun h_3 => ?_) (fun h_3 => ?_)
    · refine x_iload_n F dX1_writtenCode_15 rfl ?_
      refine xj_iconst F dX1_writtenCode_16 ?_
      refine xj_idiv F dX1_writtenCode_17 (by omega) ?_
      refine x_istore_n F dX1_writtenCode_18 (by decide) ?_
      refine x_aload_n F dX1_writtenCode_19 rfl ?_
      refine x_iload_n F dX1_writtenCode_20 rfl ?_
      refine x_iload_n F dX1_writtenCode_21 rfl ?_
      refine x_V2 F (m_X1_heightAt (by first | assumption | omega | decide) (by first | assumption | omega | decide) (by first | assumption | omega | decide)) mlX1_92 mvX1_heightAt hC.1 dX1_writtenCode_22 (by decide) rfl ⟨Nat.le_of_ble_eq_true rfl, Nat.le_of_ble_eq_true rfl⟩ ⟨Nat.zero_le _, Nat.zero_le _⟩ (Nat.le_of_ble_eq_true rfl) ?_
      have hf_4 := rg_heI M c r (i / 5)
      refine x_istore F dX1_writtenCode_25 (by decide) ?_
      refine x_iload_n F dX1_writtenCode_27 rfl ?_
      refine xj_iconst F dX1_writtenCode_28 ?_
      refine xj_irem F dX1_writtenCode_29 (by omega) ?_
      by_cases h_5 : (i % 5) = 0
      · refine xj_tabIn (off := 30) (tgt := 60) F dX1_writtenCode_30 (by omega) (by omega) (by rw [h_5]; rfl) (by decide) (by omega) ?_
        refine xj_bipush F dX1_writtenCode_60 (by decide) ?_
        refine x_iload F dX1_writtenCode_62 rfl ?_
        refine xj_bipush F dX1_writtenCode_64 (by decide) ?_
        refine x_idiv F dX1_writtenCode_66 (by decide) ?_
        refine x_iadd F dX1_writtenCode_67 ?_
        refine x_iret F FR dX1_writtenCode_68 rfl (Nat.le_refl _) (Nat.le_refl _) ?_
        refine ⟨?_, rfl⟩
        unfold wcI
        first
          | (rw [if_pos (by omega)])
          | (rw [if_neg (by omega)]; unfold wrC; first | rfl | (rw [if_pos (by omega)]) | (rw [if_neg (by omega), if_pos (by omega)]) | (rw [if_neg (by omega), if_neg (by omega), if_pos (by omega)]) | (rw [if_neg (by omega), if_neg (by omega), if_neg (by omega), if_pos (by omega)]) | (rw [if_neg (by omega), if_neg (by omega), if_neg (by omega), if_neg (by omega)]))
      by_cases h_6 : (i % 5) = 1
      · refine xj_tabIn (off := 39) (tgt := 69) F dX1_writtenCode_30 (by omega) (by omega) (by rw [h_6]; rfl) (by decide) (by omega) ?_
        refine xj_bipush F dX1_writtenCode_69 (by decide) ?_
        refine x_iload F dX1_writtenCode_71 rfl ?_
        refine xj_bipush F dX1_writtenCode_73 (by decide) ?_
        refine x_idiv F dX1_writtenCode_75 (by decide) ?_
        refine xj_bipush F dX1_writtenCode_76 (by decide) ?_
        refine x_irem F dX1_writtenCode_78 (by decide) ?_
        refine x_iadd F dX1_writtenCode_79 ?_
        refine x_iret F FR dX1_writtenCode_80 rfl (Nat.le_refl _) (Nat.le_refl _) ?_
        refine ⟨?_, rfl⟩
        unfold wcI
        first
          | (rw [if_pos (by omega)])
          | (rw [if_neg (by omega)]; unfold wrC; first | rfl | (rw [if_pos (by omega)]) | (rw [if_neg (by omega), if_pos (by omega)]) | (rw [if_neg (by omega), if_neg (by omega), if_pos (by omega)]) | (rw [if_neg (by omega), if_neg (by omega), if_neg (by omega), if_pos (by omega)]) | (rw [if_neg (by omega), if_neg (by omega), if_neg (by omega), if_neg (by omega)]))
      by_cases h_7 : (i % 5) = 2
      · refine xj_tabIn (off := 51) (tgt := 81) F dX1_writtenCode_30 (by omega) (by omega) (by rw [h_7]; rfl) (by decide) (by omega) ?_
        refine xj_bipush F dX1_writtenCode_81 (by decide) ?_
        refine x_iload F dX1_writtenCode_83 rfl ?_
        refine xj_bipush F dX1_writtenCode_85 (by decide) ?_
        refine x_irem F dX1_writtenCode_87 (by decide) ?_
        refine x_iadd F dX1_writtenCode_88 ?_
        refine x_iret F FR dX1_writtenCode_89 rfl (Nat.le_refl _) (Nat.le_refl _) ?_
        refine ⟨?_, rfl⟩
        unfold wcI
        first
          | (rw [if_pos (by omega)])
          | (rw [if_neg (by omega)]; unfold wrC; first | rfl | (rw [if_pos (by omega)]) | (rw [if_neg (by omega), if_pos (by omega)]) | (rw [if_neg (by omega), if_neg (by omega), if_pos (by omega)]) | (rw [if_neg (by omega), if_neg (by omega), if_neg (by omega), if_pos (by omega)]) | (rw [if_neg (by omega), if_neg (by omega), if_neg (by omega), if_neg (by omega)]))
      by_cases h_8 : (i % 5) = 3
      · refine xj_tabIn (off := 60) (tgt := 90) F dX1_writtenCode_30 (by omega) (by omega) (by rw [h_8]; rfl) (by decide) (by omega) ?_
        refine x_aload_n F dX1_writtenCode_90 rfl ?_
        refine x_iload_n F dX1_writtenCode_91 rfl ?_
        refine x_iload_n F dX1_writtenCode_92 rfl ?_
        refine x_V2 F (m_X1_voiceAt (by first | assumption | omega | decide) (by first | assumption | omega | decide) (by first | assumption | omega | decide)) mlX1_95 mvX1_voiceAt hC.1 dX1_writtenCode_93 (by decide) rfl ⟨Nat.le_of_ble_eq_true rfl, Nat.le_of_ble_eq_true rfl⟩ ⟨Nat.zero_le _, Nat.zero_le _⟩ (Nat.le_of_ble_eq_true rfl) ?_
        have hf_9 := rg_rdI (M.1 (c + 4)) 24 (spI r (i / 5))
        refine x_S1 F (m_X1_letterOf (by first | assumption | omega | decide)) mlX1_142 msX1_letterOf dX1_writtenCode_96 ⟨Nat.le_of_ble_eq_true rfl, Nat.le_of_ble_eq_true rfl⟩ ⟨Nat.zero_le _, Nat.zero_le _⟩ (Nat.le_of_ble_eq_true rfl) ?_
        refine x_iret F FR dX1_writtenCode_99 rfl (Nat.le_refl _) (Nat.le_refl _) ?_
        refine ⟨?_, rfl⟩
        unfold wcI
        first
          | (rw [if_pos (by omega)])
          | (rw [if_neg (by omega)]; unfold wrC; first | rfl | (rw [if_pos (by omega)]) | (rw [if_neg (by omega), if_pos (by omega)]) | (rw [if_neg (by omega), if_neg (by omega), if_pos (by omega)]) | (rw [if_neg (by omega), if_neg (by omega), if_neg (by omega), if_pos (by omega)]) | (rw [if_neg (by omega), if_neg (by omega), if_neg (by omega), if_neg (by omega)]))
      refine xj_tabOut (tgt := 100) F dX1_writtenCode_30 (by omega) (by decide) (by omega) ?_
      refine xj_bipush F dX1_writtenCode_100 (by decide) ?_
      refine x_iret F FR dX1_writtenCode_102 rfl (Nat.le_refl _) (Nat.le_refl _) ?_
      refine ⟨?_, rfl⟩
      unfold wcI
      first
        | (rw [if_pos (by omega)])
        | (rw [if_neg (by omega)]; unfold wrC; first | rfl | (rw [if_pos (by omega)]) | (rw [if_neg (by omega), if_pos (by omega)]) | (rw [if_neg (by omega), if_neg (by omega), if_pos (by omega)]) | (rw [if_neg (by omega), if_neg (by omega), if_neg (by omega), if_pos (by omega)]) | (rw [if_neg (by omega), if_neg (by omega), if_neg (by omega), if_neg (by omega)]))
    · refine xj_iconst F dX1_writtenCode_13 ?_
      refine x_iret F FR dX1_writtenCode_14 rfl (Nat.le_refl _) (Nat.le_refl _) ?_
      refine ⟨?_, rfl⟩
      unfold wcI
      first
        | (rw [if_pos (by omega)])
        | (rw [if_neg (by omega)]; unfold wrC; first | rfl | (rw [if_pos (by omega)]) | (rw [if_neg (by omega), if_pos (by omega)]) | (rw [if_neg (by omega), if_neg (by omega), if_pos (by omega)]) | (rw [if_neg (by omega), if_neg (by omega), if_neg (by omega), if_pos (by omega)]) | (rw [if_neg (by omega), if_neg (by omega), if_neg (by omega), if_neg (by omega)]))
