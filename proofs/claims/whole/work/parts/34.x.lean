/-! THE MODEL: the writing of a row -/
def wvL (v : Int) : Int := if v = 0 then 98 else if v = 1 then 116 else if v = 2 then 97 else 115
def wvZ (M : xM) (r i : Int) : Int :=
  if zI M r ≤ i / 5 ∨ i = 5 * zI M r - 1 then -1 else if i % 5 = 0 then 48 + zI M (28 + 6 * r + i / 5) / 100 else if i % 5 = 1 then 48 + zI M (28 + 6 * r + i / 5) / 10 % 10 else if i % 5 = 2 then 48 + zI M (28 + 6 * r + i / 5) % 10 else if i % 5 = 3 then wvL (zI M (52 + 6 * r + i / 5)) else 32
set_option maxRecDepth 20000 in
theorem m_X7_writtenAt {l : Launch} {E : xE} {r i : Int} {M : xM} (hZ : okZ M) (hr : 0 ≤ r ∧ r < 4) (hi : 0 ≤ i ∧ i < 2147483648) (hH : ∀ p : Int, 0 ≤ p → p < zI M r → 0 ≤ zI M (28 + 6 * r + p) ∧ zI M (28 + 6 * r + p) ≤ 1000) : XF l E 8 yX7_writtenAt cX7_writtenAt 5 (some FieldType.int) [vA 68, vI (jI r), vI (jI i)] M (vI (jI (wvZ M r i))) (M) := by
  refine xp_start (plainFor_of_name (by decide)) rfl (Nat.le_of_ble_eq_true rfl) ?_
  intro Y F FR
  have hz : 0 ≤ (M.1 69 r.toNat).toInt ∧ (M.1 69 r.toNat).toInt ≤ 6 := hZ.1 r hr.1 hr.2
  have hzz : (M.1 69 r.toNat).toInt = zI M r := rfl
  have hv : (M.1 69 (52 + 6 * r + i / 5).toNat).toInt = zI M (52 + 6 * r + i / 5) := rfl
  have hvr := rg_zI M (52 + 6 * r + i / 5)
  refine x_iload_n F dX7_writtenAt_0 rfl ?_
  refine xj_iconst F dX7_writtenAt_1 ?_
  refine xj_idiv F dX7_writtenAt_2 (by omega) ?_
  refine x_istore_n F dX7_writtenAt_3 (by decide) ?_
  refine x_iload_n F dX7_writtenAt_4 rfl ?_
  refine x_aload_n F dX7_writtenAt_5 rfl ?_
  refine x_getc (v := 69) F flX7_7 rfl dX7_writtenAt_6 (by decide) (by decide) rfl rfl ?_
  refine xj_iconst F dX7_writtenAt_9 ?_
  refine x_iload_n F dX7_writtenAt_10 rfl ?_
  refine xj_iadd F dX7_writtenAt_11 ?_
  rw [Int.zero_add r]
  refine xj_lald2 F rfl dX7_writtenAt_12 (by omega) (fun hg_1 => ?_)
  refine xj_icmp_ge (tgt := 32) F dX7_writtenAt_13 (by decide) (by omega) (fun h_2 => ?_) (fun h_2 => ?_)
  · refine xj_iconst F dX7_writtenAt_32 ?_
    refine x_iret F FR dX7_writtenAt_33 rfl (Nat.le_refl _) (Nat.le_refl _) ?_
    first
      | exact ⟨vj2 (by unfold wvZ; rw [if_pos (by omega)] <;> rfl), rfl⟩
      | exact ⟨vj2 (by unfold wvZ; rw [if_neg (by omega), if_pos (by omega)] <;> rfl), rfl⟩
      | exact ⟨vj2 (by unfold wvZ; rw [if_neg (by omega), if_neg (by omega), if_pos (by omega)] <;> rfl), rfl⟩
      | exact ⟨vj2 (by unfold wvZ; rw [if_neg (by omega), if_neg (by omega), if_neg (by omega), if_pos (by omega)] <;> rfl), rfl⟩
      | exact ⟨vj2 (by unfold wvZ; rw [if_neg (by omega), if_neg (by omega), if_neg (by omega), if_neg (by omega), if_neg (by omega)] <;> rfl), rfl⟩
      | exact ⟨vj2 (by unfold wvZ wvL; rw [if_neg (by omega), if_neg (by omega), if_neg (by omega), if_neg (by omega), if_pos (by omega), if_pos (by omega)] <;> rfl), rfl⟩
      | exact ⟨vj2 (by unfold wvZ wvL; rw [if_neg (by omega), if_neg (by omega), if_neg (by omega), if_neg (by omega), if_pos (by omega), if_neg (by omega), if_pos (by omega)] <;> rfl), rfl⟩
      | exact ⟨vj2 (by unfold wvZ wvL; rw [if_neg (by omega), if_neg (by omega), if_neg (by omega), if_neg (by omega), if_pos (by omega), if_neg (by omega), if_neg (by omega), if_pos (by omega)] <;> rfl), rfl⟩
      | exact ⟨vj2 (by unfold wvZ wvL; rw [if_neg (by omega), if_neg (by omega), if_neg (by omega), if_neg (by omega), if_pos (by omega), if_neg (by omega), if_neg (by omega), if_neg (by omega)] <;> rfl), rfl⟩
  · refine x_iload_n F dX7_writtenAt_16 rfl ?_
    refine xj_iconst F dX7_writtenAt_17 ?_
    refine x_aload_n F dX7_writtenAt_18 rfl ?_
    refine x_getc (v := 69) F flX7_7 rfl dX7_writtenAt_19 (by decide) (by decide) rfl rfl ?_
    refine xj_iconst F dX7_writtenAt_22 ?_
    refine x_iload_n F dX7_writtenAt_23 rfl ?_
    refine xj_iadd F dX7_writtenAt_24 ?_
    rw [Int.zero_add r]
    refine xj_lald2 F rfl dX7_writtenAt_25 (by omega) (fun hg_3 => ?_)
    refine xj_imul F dX7_writtenAt_26 ?_
    refine xj_iconst F dX7_writtenAt_27 ?_
    refine xj_isub F dX7_writtenAt_28 ?_
    refine xj_icmp_ne (tgt := 34) F dX7_writtenAt_29 (by decide) (by omega) (fun h_4 => ?_) (fun h_4 => ?_)
    · have hh := hH (i / 5) (by omega) (by omega)
      refine x_aload_n F dX7_writtenAt_34 rfl ?_
      refine x_getc (v := 69) F flX7_7 rfl dX7_writtenAt_35 (by decide) (by decide) rfl rfl ?_
      refine xj_bipush F dX7_writtenAt_38 (by decide) ?_
      refine xj_bipush F dX7_writtenAt_40 (by decide) ?_
      refine x_iload_n F dX7_writtenAt_42 rfl ?_
      refine xj_imul F dX7_writtenAt_43 ?_
      refine xj_iadd F dX7_writtenAt_44 ?_
      refine x_iload_n F dX7_writtenAt_45 rfl ?_
      refine xj_iadd F dX7_writtenAt_46 ?_
      refine xj_lald2 F rfl dX7_writtenAt_47 (by omega) (fun hg_5 => ?_)
      refine x_istore F dX7_writtenAt_48 (by decide) ?_
      refine x_iload_n F dX7_writtenAt_50 rfl ?_
      refine xj_iconst F dX7_writtenAt_51 ?_
      refine xj_irem F dX7_writtenAt_52 (by omega) ?_
      by_cases h_6 : (i % 5) = 0
      · refine xj_tabIn (off := 31) (tgt := 84) F dX7_writtenAt_53 (by omega) (by omega) (by rw [h_6]; rfl) (by decide) (by omega) ?_
        refine xj_bipush F dX7_writtenAt_84 (by decide) ?_
        refine x_aload_n F dX7_writtenAt_86 rfl ?_
        refine x_iload_n F dX7_writtenAt_87 rfl ?_
        refine x_iload_n F dX7_writtenAt_88 rfl ?_
        refine x_V2 F (m_X7_heightAt hr (by omega)) mlX7_77 mvX7_heightAt rfl dX7_writtenAt_89 (by decide) rfl ⟨Nat.le_of_ble_eq_true rfl, Nat.le_of_ble_eq_true rfl⟩ ⟨Nat.zero_le _, Nat.zero_le _⟩ (Nat.le_of_ble_eq_true rfl) ?_
        have hf_7 := rg_zI M (28 + 6 * r + (i / 5))
        refine xj_bipush F dX7_writtenAt_92 (by decide) ?_
        refine xj_idiv F dX7_writtenAt_94 (by omega) ?_
        refine xj_iadd F dX7_writtenAt_95 ?_
        refine x_iret F FR dX7_writtenAt_96 rfl (Nat.le_refl _) (Nat.le_refl _) ?_
        first
          | exact ⟨vj2 (by unfold wvZ; rw [if_pos (by omega)] <;> rfl), rfl⟩
          | exact ⟨vj2 (by unfold wvZ; rw [if_neg (by omega), if_pos (by omega)] <;> rfl), rfl⟩
          | exact ⟨vj2 (by unfold wvZ; rw [if_neg (by omega), if_neg (by omega), if_pos (by omega)] <;> rfl), rfl⟩
          | exact ⟨vj2 (by unfold wvZ; rw [if_neg (by omega), if_neg (by omega), if_neg (by omega), if_pos (by omega)] <;> rfl), rfl⟩
          | exact ⟨vj2 (by unfold wvZ; rw [if_neg (by omega), if_neg (by omega), if_neg (by omega), if_neg (by omega), if_neg (by omega)] <;> rfl), rfl⟩
          | exact ⟨vj2 (by unfold wvZ wvL; rw [if_neg (by omega), if_neg (by omega), if_neg (by omega), if_neg (by omega), if_pos (by omega), if_pos (by omega)] <;> rfl), rfl⟩
          | exact ⟨vj2 (by unfold wvZ wvL; rw [if_neg (by omega), if_neg (by omega), if_neg (by omega), if_neg (by omega), if_pos (by omega), if_neg (by omega), if_pos (by omega)] <;> rfl), rfl⟩
          | exact ⟨vj2 (by unfold wvZ wvL; rw [if_neg (by omega), if_neg (by omega), if_neg (by omega), if_neg (by omega), if_pos (by omega), if_neg (by omega), if_neg (by omega), if_pos (by omega)] <;> rfl), rfl⟩
          | exact ⟨vj2 (by unfold wvZ wvL; rw [if_neg (by omega), if_neg (by omega), if_neg (by omega), if_neg (by omega), if_pos (by omega), if_neg (by omega), if_neg (by omega), if_neg (by omega)] <;> rfl), rfl⟩
      by_cases h_8 : (i % 5) = 1
      · refine xj_tabIn (off := 44) (tgt := 97) F dX7_writtenAt_53 (by omega) (by omega) (by rw [h_8]; rfl) (by decide) (by omega) ?_
        refine xj_bipush F dX7_writtenAt_97 (by decide) ?_
        refine x_aload_n F dX7_writtenAt_99 rfl ?_
        refine x_iload_n F dX7_writtenAt_100 rfl ?_
        refine x_iload_n F dX7_writtenAt_101 rfl ?_
        refine x_V2 F (m_X7_heightAt hr (by omega)) mlX7_77 mvX7_heightAt rfl dX7_writtenAt_102 (by decide) rfl ⟨Nat.le_of_ble_eq_true rfl, Nat.le_of_ble_eq_true rfl⟩ ⟨Nat.zero_le _, Nat.zero_le _⟩ (Nat.le_of_ble_eq_true rfl) ?_
        have hf_9 := rg_zI M (28 + 6 * r + (i / 5))
        refine xj_bipush F dX7_writtenAt_105 (by decide) ?_
        refine xj_idiv F dX7_writtenAt_107 (by omega) ?_
        refine xj_bipush F dX7_writtenAt_108 (by decide) ?_
        refine xj_irem F dX7_writtenAt_110 (by omega) ?_
        refine xj_iadd F dX7_writtenAt_111 ?_
        refine x_iret F FR dX7_writtenAt_112 rfl (Nat.le_refl _) (Nat.le_refl _) ?_
        first
          | exact ⟨vj2 (by unfold wvZ; rw [if_pos (by omega)] <;> rfl), rfl⟩
          | exact ⟨vj2 (by unfold wvZ; rw [if_neg (by omega), if_pos (by omega)] <;> rfl), rfl⟩
          | exact ⟨vj2 (by unfold wvZ; rw [if_neg (by omega), if_neg (by omega), if_pos (by omega)] <;> rfl), rfl⟩
          | exact ⟨vj2 (by unfold wvZ; rw [if_neg (by omega), if_neg (by omega), if_neg (by omega), if_pos (by omega)] <;> rfl), rfl⟩
          | exact ⟨vj2 (by unfold wvZ; rw [if_neg (by omega), if_neg (by omega), if_neg (by omega), if_neg (by omega), if_neg (by omega)] <;> rfl), rfl⟩
          | exact ⟨vj2 (by unfold wvZ wvL; rw [if_neg (by omega), if_neg (by omega), if_neg (by omega), if_neg (by omega), if_pos (by omega), if_pos (by omega)] <;> rfl), rfl⟩
          | exact ⟨vj2 (by unfold wvZ wvL; rw [if_neg (by omega), if_neg (by omega), if_neg (by omega), if_neg (by omega), if_pos (by omega), if_neg (by omega), if_pos (by omega)] <;> rfl), rfl⟩
          | exact ⟨vj2 (by unfold wvZ wvL; rw [if_neg (by omega), if_neg (by omega), if_neg (by omega), if_neg (by omega), if_pos (by omega), if_neg (by omega), if_neg (by omega), if_pos (by omega)] <;> rfl), rfl⟩
          | exact ⟨vj2 (by unfold wvZ wvL; rw [if_neg (by omega), if_neg (by omega), if_neg (by omega), if_neg (by omega), if_pos (by omega), if_neg (by omega), if_neg (by omega), if_neg (by omega)] <;> rfl), rfl⟩
      by_cases h_10 : (i % 5) = 2
      · refine xj_tabIn (off := 60) (tgt := 113) F dX7_writtenAt_53 (by omega) (by omega) (by rw [h_10]; rfl) (by decide) (by omega) ?_
        refine xj_bipush F dX7_writtenAt_113 (by decide) ?_
        refine x_aload_n F dX7_writtenAt_115 rfl ?_
        refine x_iload_n F dX7_writtenAt_116 rfl ?_
        refine x_iload_n F dX7_writtenAt_117 rfl ?_
        refine x_V2 F (m_X7_heightAt hr (by omega)) mlX7_77 mvX7_heightAt rfl dX7_writtenAt_118 (by decide) rfl ⟨Nat.le_of_ble_eq_true rfl, Nat.le_of_ble_eq_true rfl⟩ ⟨Nat.zero_le _, Nat.zero_le _⟩ (Nat.le_of_ble_eq_true rfl) ?_
        have hf_11 := rg_zI M (28 + 6 * r + (i / 5))
        refine xj_bipush F dX7_writtenAt_121 (by decide) ?_
        refine xj_irem F dX7_writtenAt_123 (by omega) ?_
        refine xj_iadd F dX7_writtenAt_124 ?_
        refine x_iret F FR dX7_writtenAt_125 rfl (Nat.le_refl _) (Nat.le_refl _) ?_
        first
          | exact ⟨vj2 (by unfold wvZ; rw [if_pos (by omega)] <;> rfl), rfl⟩
          | exact ⟨vj2 (by unfold wvZ; rw [if_neg (by omega), if_pos (by omega)] <;> rfl), rfl⟩
          | exact ⟨vj2 (by unfold wvZ; rw [if_neg (by omega), if_neg (by omega), if_pos (by omega)] <;> rfl), rfl⟩
          | exact ⟨vj2 (by unfold wvZ; rw [if_neg (by omega), if_neg (by omega), if_neg (by omega), if_pos (by omega)] <;> rfl), rfl⟩
          | exact ⟨vj2 (by unfold wvZ; rw [if_neg (by omega), if_neg (by omega), if_neg (by omega), if_neg (by omega), if_neg (by omega)] <;> rfl), rfl⟩
          | exact ⟨vj2 (by unfold wvZ wvL; rw [if_neg (by omega), if_neg (by omega), if_neg (by omega), if_neg (by omega), if_pos (by omega), if_pos (by omega)] <;> rfl), rfl⟩
          | exact ⟨vj2 (by unfold wvZ wvL; rw [if_neg (by omega), if_neg (by omega), if_neg (by omega), if_neg (by omega), if_pos (by omega), if_neg (by omega), if_pos (by omega)] <;> rfl), rfl⟩
          | exact ⟨vj2 (by unfold wvZ wvL; rw [if_neg (by omega), if_neg (by omega), if_neg (by omega), if_neg (by omega), if_pos (by omega), if_neg (by omega), if_neg (by omega), if_pos (by omega)] <;> rfl), rfl⟩
          | exact ⟨vj2 (by unfold wvZ wvL; rw [if_neg (by omega), if_neg (by omega), if_neg (by omega), if_neg (by omega), if_pos (by omega), if_neg (by omega), if_neg (by omega), if_neg (by omega)] <;> rfl), rfl⟩
      by_cases h_12 : (i % 5) = 3
      · refine xj_tabIn (off := 73) (tgt := 126) F dX7_writtenAt_53 (by omega) (by omega) (by rw [h_12]; rfl) (by decide) (by omega) ?_
        refine x_iload F dX7_writtenAt_126 rfl ?_
        refine xj_if_ne (tgt := 136) F dX7_writtenAt_128 (by decide) (by omega) (fun h_13 => ?_) (fun h_13 => ?_)
        · refine x_iload F dX7_writtenAt_136 rfl ?_
          refine xj_iconst F dX7_writtenAt_138 ?_
          refine xj_icmp_ne (tgt := 147) F dX7_writtenAt_139 (by decide) (by omega) (fun h_14 => ?_) (fun h_14 => ?_)
          · refine x_iload F dX7_writtenAt_147 rfl ?_
            refine xj_iconst F dX7_writtenAt_149 ?_
            refine xj_icmp_ne (tgt := 158) F dX7_writtenAt_150 (by decide) (by omega) (fun h_15 => ?_) (fun h_15 => ?_)
            · refine xj_bipush F dX7_writtenAt_158 (by decide) ?_
              refine x_iret F FR dX7_writtenAt_160 rfl (Nat.le_refl _) (Nat.le_refl _) ?_
              first
                | exact ⟨vj2 (by unfold wvZ; rw [if_pos (by omega)] <;> rfl), rfl⟩
                | exact ⟨vj2 (by unfold wvZ; rw [if_neg (by omega), if_pos (by omega)] <;> rfl), rfl⟩
                | exact ⟨vj2 (by unfold wvZ; rw [if_neg (by omega), if_neg (by omega), if_pos (by omega)] <;> rfl), rfl⟩
                | exact ⟨vj2 (by unfold wvZ; rw [if_neg (by omega), if_neg (by omega), if_neg (by omega), if_pos (by omega)] <;> rfl), rfl⟩
                | exact ⟨vj2 (by unfold wvZ; rw [if_neg (by omega), if_neg (by omega), if_neg (by omega), if_neg (by omega), if_neg (by omega)] <;> rfl), rfl⟩
                | exact ⟨vj2 (by unfold wvZ wvL; rw [if_neg (by omega), if_neg (by omega), if_neg (by omega), if_neg (by omega), if_pos (by omega), if_pos (by omega)] <;> rfl), rfl⟩
                | exact ⟨vj2 (by unfold wvZ wvL; rw [if_neg (by omega), if_neg (by omega), if_neg (by omega), if_neg (by omega), if_pos (by omega), if_neg (by omega), if_pos (by omega)] <;> rfl), rfl⟩
                | exact ⟨vj2 (by unfold wvZ wvL; rw [if_neg (by omega), if_neg (by omega), if_neg (by omega), if_neg (by omega), if_pos (by omega), if_neg (by omega), if_neg (by omega), if_pos (by omega)] <;> rfl), rfl⟩
                | exact ⟨vj2 (by unfold wvZ wvL; rw [if_neg (by omega), if_neg (by omega), if_neg (by omega), if_neg (by omega), if_pos (by omega), if_neg (by omega), if_neg (by omega), if_neg (by omega)] <;> rfl), rfl⟩
            · refine xj_bipush F dX7_writtenAt_153 (by decide) ?_
              refine x_goto (tgt := 160) F dX7_writtenAt_155 (by decide) ?_
              refine x_iret F FR dX7_writtenAt_160 rfl (Nat.le_refl _) (Nat.le_refl _) ?_
              first
                | exact ⟨vj2 (by unfold wvZ; rw [if_pos (by omega)] <;> rfl), rfl⟩
                | exact ⟨vj2 (by unfold wvZ; rw [if_neg (by omega), if_pos (by omega)] <;> rfl), rfl⟩
                | exact ⟨vj2 (by unfold wvZ; rw [if_neg (by omega), if_neg (by omega), if_pos (by omega)] <;> rfl), rfl⟩
                | exact ⟨vj2 (by unfold wvZ; rw [if_neg (by omega), if_neg (by omega), if_neg (by omega), if_pos (by omega)] <;> rfl), rfl⟩
                | exact ⟨vj2 (by unfold wvZ; rw [if_neg (by omega), if_neg (by omega), if_neg (by omega), if_neg (by omega), if_neg (by omega)] <;> rfl), rfl⟩
                | exact ⟨vj2 (by unfold wvZ wvL; rw [if_neg (by omega), if_neg (by omega), if_neg (by omega), if_neg (by omega), if_pos (by omega), if_pos (by omega)] <;> rfl), rfl⟩
                | exact ⟨vj2 (by unfold wvZ wvL; rw [if_neg (by omega), if_neg (by omega), if_neg (by omega), if_neg (by omega), if_pos (by omega), if_neg (by omega), if_pos (by omega)] <;> rfl), rfl⟩
                | exact ⟨vj2 (by unfold wvZ wvL; rw [if_neg (by omega), if_neg (by omega), if_neg (by omega), if_neg (by omega), if_pos (by omega), if_neg (by omega), if_neg (by omega), if_pos (by omega)] <;> rfl), rfl⟩
                | exact ⟨vj2 (by unfold wvZ wvL; rw [if_neg (by omega), if_neg (by omega), if_neg (by omega), if_neg (by omega), if_pos (by omega), if_neg (by omega), if_neg (by omega), if_neg (by omega)] <;> rfl), rfl⟩
          · refine xj_bipush F dX7_writtenAt_142 (by decide) ?_
            refine x_goto (tgt := 160) F dX7_writtenAt_144 (by decide) ?_
            refine x_iret F FR dX7_writtenAt_160 rfl (Nat.le_refl _) (Nat.le_refl _) ?_
            first
              | exact ⟨vj2 (by unfold wvZ; rw [if_pos (by omega)] <;> rfl), rfl⟩
              | exact ⟨vj2 (by unfold wvZ; rw [if_neg (by omega), if_pos (by omega)] <;> rfl), rfl⟩
              | exact ⟨vj2 (by unfold wvZ; rw [if_neg (by omega), if_neg (by omega), if_pos (by omega)] <;> rfl), rfl⟩
              | exact ⟨vj2 (by unfold wvZ; rw [if_neg (by omega), if_neg (by omega), if_neg (by omega), if_pos (by omega)] <;> rfl), rfl⟩
              | exact ⟨vj2 (by unfold wvZ; rw [if_neg (by omega), if_neg (by omega), if_neg (by omega), if_neg (by omega), if_neg (by omega)] <;> rfl), rfl⟩
              | exact ⟨vj2 (by unfold wvZ wvL; rw [if_neg (by omega), if_neg (by omega), if_neg (by omega), if_neg (by omega), if_pos (by omega), if_pos (by omega)] <;> rfl), rfl⟩
              | exact ⟨vj2 (by unfold wvZ wvL; rw [if_neg (by omega), if_neg (by omega), if_neg (by omega), if_neg (by omega), if_pos (by omega), if_neg (by omega), if_pos (by omega)] <;> rfl), rfl⟩
              | exact ⟨vj2 (by unfold wvZ wvL; rw [if_neg (by omega), if_neg (by omega), if_neg (by omega), if_neg (by omega), if_pos (by omega), if_neg (by omega), if_neg (by omega), if_pos (by omega)] <;> rfl), rfl⟩
              | exact ⟨vj2 (by unfold wvZ wvL; rw [if_neg (by omega), if_neg (by omega), if_neg (by omega), if_neg (by omega), if_pos (by omega), if_neg (by omega), if_neg (by omega), if_neg (by omega)] <;> rfl), rfl⟩
        · refine xj_bipush F dX7_writtenAt_131 (by decide) ?_
          refine x_goto (tgt := 160) F dX7_writtenAt_133 (by decide) ?_
          refine x_iret F FR dX7_writtenAt_160 rfl (Nat.le_refl _) (Nat.le_refl _) ?_
          first
            | exact ⟨vj2 (by unfold wvZ; rw [if_pos (by omega)] <;> rfl), rfl⟩
            | exact ⟨vj2 (by unfold wvZ; rw [if_neg (by omega), if_pos (by omega)] <;> rfl), rfl⟩
            | exact ⟨vj2 (by unfold wvZ; rw [if_neg (by omega), if_neg (by omega), if_pos (by omega)] <;> rfl), rfl⟩
            | exact ⟨vj2 (by unfold wvZ; rw [if_neg (by omega), if_neg (by omega), if_neg (by omega), if_pos (by omega)] <;> rfl), rfl⟩
            | exact ⟨vj2 (by unfold wvZ; rw [if_neg (by omega), if_neg (by omega), if_neg (by omega), if_neg (by omega), if_neg (by omega)] <;> rfl), rfl⟩
            | exact ⟨vj2 (by unfold wvZ wvL; rw [if_neg (by omega), if_neg (by omega), if_neg (by omega), if_neg (by omega), if_pos (by omega), if_pos (by omega)] <;> rfl), rfl⟩
            | exact ⟨vj2 (by unfold wvZ wvL; rw [if_neg (by omega), if_neg (by omega), if_neg (by omega), if_neg (by omega), if_pos (by omega), if_neg (by omega), if_pos (by omega)] <;> rfl), rfl⟩
            | exact ⟨vj2 (by unfold wvZ wvL; rw [if_neg (by omega), if_neg (by omega), if_neg (by omega), if_neg (by omega), if_pos (by omega), if_neg (by omega), if_neg (by omega), if_pos (by omega)] <;> rfl), rfl⟩
            | exact ⟨vj2 (by unfold wvZ wvL; rw [if_neg (by omega), if_neg (by omega), if_neg (by omega), if_neg (by omega), if_pos (by omega), if_neg (by omega), if_neg (by omega), if_neg (by omega)] <;> rfl), rfl⟩
      refine xj_tabOut (tgt := 161) F dX7_writtenAt_53 (by omega) (by decide) (by omega) ?_
      refine xj_bipush F dX7_writtenAt_161 (by decide) ?_
      refine x_iret F FR dX7_writtenAt_163 rfl (Nat.le_refl _) (Nat.le_refl _) ?_
      first
        | exact ⟨vj2 (by unfold wvZ; rw [if_pos (by omega)] <;> rfl), rfl⟩
        | exact ⟨vj2 (by unfold wvZ; rw [if_neg (by omega), if_pos (by omega)] <;> rfl), rfl⟩
        | exact ⟨vj2 (by unfold wvZ; rw [if_neg (by omega), if_neg (by omega), if_pos (by omega)] <;> rfl), rfl⟩
        | exact ⟨vj2 (by unfold wvZ; rw [if_neg (by omega), if_neg (by omega), if_neg (by omega), if_pos (by omega)] <;> rfl), rfl⟩
        | exact ⟨vj2 (by unfold wvZ; rw [if_neg (by omega), if_neg (by omega), if_neg (by omega), if_neg (by omega), if_neg (by omega)] <;> rfl), rfl⟩
        | exact ⟨vj2 (by unfold wvZ wvL; rw [if_neg (by omega), if_neg (by omega), if_neg (by omega), if_neg (by omega), if_pos (by omega), if_pos (by omega)] <;> rfl), rfl⟩
        | exact ⟨vj2 (by unfold wvZ wvL; rw [if_neg (by omega), if_neg (by omega), if_neg (by omega), if_neg (by omega), if_pos (by omega), if_neg (by omega), if_pos (by omega)] <;> rfl), rfl⟩
        | exact ⟨vj2 (by unfold wvZ wvL; rw [if_neg (by omega), if_neg (by omega), if_neg (by omega), if_neg (by omega), if_pos (by omega), if_neg (by omega), if_neg (by omega), if_pos (by omega)] <;> rfl), rfl⟩
        | exact ⟨vj2 (by unfold wvZ wvL; rw [if_neg (by omega), if_neg (by omega), if_neg (by omega), if_neg (by omega), if_pos (by omega), if_neg (by omega), if_neg (by omega), if_neg (by omega)] <;> rfl), rfl⟩
    · refine xj_iconst F dX7_writtenAt_32 ?_
      refine x_iret F FR dX7_writtenAt_33 rfl (Nat.le_refl _) (Nat.le_refl _) ?_
      first
        | exact ⟨vj2 (by unfold wvZ; rw [if_pos (by omega)] <;> rfl), rfl⟩
        | exact ⟨vj2 (by unfold wvZ; rw [if_neg (by omega), if_pos (by omega)] <;> rfl), rfl⟩
        | exact ⟨vj2 (by unfold wvZ; rw [if_neg (by omega), if_neg (by omega), if_pos (by omega)] <;> rfl), rfl⟩
        | exact ⟨vj2 (by unfold wvZ; rw [if_neg (by omega), if_neg (by omega), if_neg (by omega), if_pos (by omega)] <;> rfl), rfl⟩
        | exact ⟨vj2 (by unfold wvZ; rw [if_neg (by omega), if_neg (by omega), if_neg (by omega), if_neg (by omega), if_neg (by omega)] <;> rfl), rfl⟩
        | exact ⟨vj2 (by unfold wvZ wvL; rw [if_neg (by omega), if_neg (by omega), if_neg (by omega), if_neg (by omega), if_pos (by omega), if_pos (by omega)] <;> rfl), rfl⟩
        | exact ⟨vj2 (by unfold wvZ wvL; rw [if_neg (by omega), if_neg (by omega), if_neg (by omega), if_neg (by omega), if_pos (by omega), if_neg (by omega), if_pos (by omega)] <;> rfl), rfl⟩
        | exact ⟨vj2 (by unfold wvZ wvL; rw [if_neg (by omega), if_neg (by omega), if_neg (by omega), if_neg (by omega), if_pos (by omega), if_neg (by omega), if_neg (by omega), if_pos (by omega)] <;> rfl), rfl⟩
        | exact ⟨vj2 (by unfold wvZ wvL; rw [if_neg (by omega), if_neg (by omega), if_neg (by omega), if_neg (by omega), if_pos (by omega), if_neg (by omega), if_neg (by omega), if_neg (by omega)] <;> rfl), rfl⟩
