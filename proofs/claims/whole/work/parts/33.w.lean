/-! THE MODEL: the share, the mixing of the digest -/
def siZ (M : xM) : Int := zI M 0 + zI M 1 + zI M 2 + zI M 3
theorem siZ_b {M : xM} (hZ : okZ M) : 0 ≤ siZ M ∧ siZ M ≤ 24 := by
  have h0 := hZ.1 0 (by decide) (by decide)
  have h1 := hZ.1 1 (by decide) (by decide)
  have h2 := hZ.1 2 (by decide) (by decide)
  have h3 := hZ.1 3 (by decide) (by decide)
  unfold siZ
  omega
set_option maxRecDepth 20000 in
theorem m_X7_share {l : Launch} {E : xE} {M : xM} (hZ : okZ M) : XF l E 9 yX7_share cX7_share 1 (some FieldType.double) [vA 68] M (vD (shD (oaZ M) (siZ M))) (M) := by
  refine xp_start (plainFor_of_name (by decide)) rfl (Nat.le_of_ble_eq_true rfl) ?_
  intro Y F FR
  have hsz := siZ_b hZ
  have hsd : siZ M = zI M 0 + zI M 1 + zI M 2 + zI M 3 := rfl
  have hoa := oaZ_b hZ
  refine x_aload_n F dX7_share_0 rfl ?_
  refine x_V0 F (m_X7_singers) mlX7_63 mvX7_singers rfl dX7_share_1 (by decide) rfl ⟨Nat.le_of_ble_eq_true rfl, Nat.le_of_ble_eq_true rfl⟩ ⟨Nat.zero_le _, Nat.zero_le _⟩ (Nat.le_of_ble_eq_true rfl) ?_
  refine xj_if_ne (tgt := 11) F dX7_share_4 (by decide) (by omega) (fun h_1 => ?_) (fun h_1 => ?_)
  · refine x_aload_n F dX7_share_11 rfl ?_
    refine x_V0 F (m_X7_odd hZ) mlX7_133 mvX7_odd rfl dX7_share_12 (by decide) rfl ⟨Nat.le_of_ble_eq_true rfl, Nat.le_of_ble_eq_true rfl⟩ ⟨Nat.zero_le _, Nat.zero_le _⟩ (Nat.le_of_ble_eq_true rfl) ?_
    refine x_i2d F dX7_share_15 ?_
    refine x_aload_n F dX7_share_16 rfl ?_
    refine x_V0 F (m_X7_singers) mlX7_63 mvX7_singers rfl dX7_share_17 (by decide) rfl ⟨Nat.le_of_ble_eq_true rfl, Nat.le_of_ble_eq_true rfl⟩ ⟨Nat.zero_le _, Nat.zero_le _⟩ (Nat.le_of_ble_eq_true rfl) ?_
    refine x_i2d F dX7_share_20 ?_
    refine x_ddiv F dX7_share_21 (shD_n hoa (by rw [← hsd]; omega)) ?_
    first
      | exact x_dret F FR dX7_share_22 (Nat.le_refl _) (Nat.le_refl _) ⟨by unfold shD; rw [if_pos (by omega)]; rfl, rfl⟩
      | exact x_dret F FR dX7_share_22 (Nat.le_refl _) (Nat.le_refl _) ⟨by unfold shD; rw [if_neg (by omega)], rfl⟩
  · refine x_dconst1 F dX7_share_7 ?_
    refine x_goto (tgt := 22) F dX7_share_8 (by decide) ?_
    first
      | exact x_dret F FR dX7_share_22 (Nat.le_refl _) (Nat.le_refl _) ⟨by unfold shD; rw [if_pos (by omega)]; rfl, rfl⟩
      | exact x_dret F FR dX7_share_22 (Nat.le_refl _) (Nat.le_refl _) ⟨by unfold shD; rw [if_neg (by omega)], rfl⟩
set_option maxRecDepth 20000 in
theorem m_X7_mix {l : Launch} {E : xE} {v : Int64} {M : xM} : XF l E 1 yX7_mix cX7_mix 3 none [vA 68, vL v] M (vU) (upL M 68 18 (mx (M.2.2 68 18) v)) := by
  refine xp_start (plainFor_of_name (by decide)) rfl (Nat.le_of_ble_eq_true rfl) ?_
  intro Y F FR
  refine x_aload_n F dX7_mix_0 rfl ?_
  refine x_ldc2 F klX7_240 dX7_mix_1 ?_
  refine x_aload_n F dX7_mix_4 rfl ?_
  refine x_getl F flX7_242 rfl dX7_mix_5 (by decide) (by decide) rfl ?_
  refine x_lmul F dX7_mix_8 ?_
  refine x_lload_n F dX7_mix_9 rfl ?_
  refine x_ladd F dX7_mix_10 ?_
  refine x_putl F flX7_242 rfl dX7_mix_11 (by decide) (by decide) rfl fw7_18 ?_
  refine x_vret F FR dX7_mix_14 (Nat.le_refl _) (Nat.le_refl _) ?_
  exact ⟨rfl, rfl⟩
