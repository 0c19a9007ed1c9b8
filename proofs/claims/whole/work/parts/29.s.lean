/-! THE MODEL: looks of singers, rows and all -/
def hgZ (M : xM) (r : Int) : Int := mxI (fun p => zI M (28 + 6 * r + p)) (zI M r).toNat
def foZ (M : xM) (r x : Int) : Nat → Int → Int
  | 0, q => q
  | n + 1, q => if zI M (4 + 6 * r + n) = x then 6 * r + n else foZ M r x n q
def gpZ (M : xM) (x : Int) : Nat → Int
  | 0 => -1
  | n + 1 => foZ M n x (zI M n).toNat (gpZ M x n)
def osZ (M : xM) (r p z : Int) : Int :=
  if z = 0 then zI M (4 + 6 * r + p) else if z = 1 then zI M (28 + 6 * r + p) else if z = 2 then zI M (52 + 6 * r + p) else if z = 3 then hdZ M r p
  else if z = 4 then hhZ M r p else if z = 5 then hhZ M r p else if z = 6 then hhZ M r p % 2 else hsZ M r p
def noZ (M : xM) (z : Int) : Int :=
  if z = 0 then zI M 0 + zI M 1 + zI M 2 + zI M 3 else if z = 1 then oaZ M else if z = 2 then zI M 78 else if z = 3 then zI M 79 else if z = 4 then zI M 80
  else if z = 5 then dcZ M 0 + dcZ M 1 + dcZ M 2 + dcZ M 3 else if z = 6 then zI M 76 else if z = 7 then zI M 77 else (M.1 68 2).toInt
set_option maxRecDepth 20000 in
theorem L_X7_highest {l : Launch} {E : xE} {r : Int} {M : xM} (hZ : okZ M) (hr : 0 ≤ r ∧ r < 4) {Y : xY} (F : xFix E (xA E) Y cX7_highest yX7_highest.cls 4) (FR : xRet E Y (some FieldType.int) 0 0 (fun r' M'' => r' = vI (jI (hgZ M r)) ∧ M'' = M) (fun _ _ => False)) : ∀ (k : Nat) (n : Nat), (n : Int) ≤ zI M r → (zI M r - n).toNat < k → WP l E (xRm 2 0 0) (xA E) Y 0 0 4 [vA 68, vI (jI r), vI (jI (mxI (fun p => zI M (28 + 6 * r + p)) n)), vI (jI (n : Int))] [] M := by
  intro k
  induction k with
  | zero => intro n hn hk; exact absurd hk (Nat.not_lt_zero _)
  | succ k ih =>
    intro n hn hk
    have hz : 0 ≤ (M.1 69 r.toNat).toInt ∧ (M.1 69 r.toNat).toInt ≤ 6 := hZ.1 r hr.1 hr.2
    have hzz : (M.1 69 r.toNat).toInt = zI M r := rfl
    have hrg := rg_mxI (fun p => zI M (28 + 6 * r + p)) (fun i => rg_zI M _) n
    refine x_iload_n F dX7_highest_4 rfl ?_
    refine x_aload_n F dX7_highest_5 rfl ?_
    refine x_getc (v := 69) F flX7_7 rfl dX7_highest_6 (by decide) (by decide) rfl rfl ?_
    refine xj_iconst F dX7_highest_9 ?_
    refine x_iload_n F dX7_highest_10 rfl ?_
    refine xj_iadd F dX7_highest_11 ?_
    rw [Int.zero_add r]
    refine xj_lald2 F rfl dX7_highest_12 (by omega) (fun hg_1 => ?_)
    refine xj_icmp_ge (tgt := 43) F dX7_highest_13 (by decide) (by omega) (fun h_2 => ?_) (fun h_2 => ?_)
    · refine x_iload_n F dX7_highest_43 rfl ?_
      refine x_iret F FR dX7_highest_44 rfl (Nat.le_refl _) (Nat.le_refl _) ?_
      have e : n = (zI M r).toNat := by omega
      subst e
      exact ⟨rfl, rfl⟩
    · refine x_aload_n F dX7_highest_16 rfl ?_
      refine x_iload_n F dX7_highest_17 rfl ?_
      refine x_iload_n F dX7_highest_18 rfl ?_
      refine x_V2 F (m_X7_heightAt (by first | assumption | omega | decide) (by first | assumption | omega | decide)) mlX7_77 mvX7_heightAt rfl dX7_highest_19 (by decide) rfl ⟨Nat.le_of_ble_eq_true rfl, Nat.le_of_ble_eq_true rfl⟩ ⟨Nat.zero_le _, Nat.zero_le _⟩ (Nat.le_of_ble_eq_true rfl) ?_
      have hf_3 := rg_zI M (28 + 6 * r + (n : Int))
      refine x_iload_n F dX7_highest_22 rfl ?_
      refine xj_icmp_le (tgt := 35) F dX7_highest_23 (by decide) (by omega) (fun h_4 => ?_) (fun h_4 => ?_)
      · have hst : mxI (fun p => zI M (28 + 6 * r + p)) (n + 1) = mxI (fun p => zI M (28 + 6 * r + p)) n := by show max (mxI (fun p => zI M (28 + 6 * r + p)) n) (zI M (28 + 6 * r + n)) = _; omega
        refine x_iload_n F dX7_highest_35 rfl ?_
        refine x_istore_n F dX7_highest_36 (by decide) ?_
        refine xj_iinc F dX7_highest_37 rfl ?_
        refine x_goto (tgt := 4) F dX7_highest_40 (by decide) ?_
        have g := ih (n + 1) (by omega) (by omega)
        rw [hst] at g
        exact g
      · have hst : mxI (fun p => zI M (28 + 6 * r + p)) (n + 1) = zI M (28 + 6 * r + n) := by show max (mxI (fun p => zI M (28 + 6 * r + p)) n) (zI M (28 + 6 * r + n)) = _; omega
        refine x_aload_n F dX7_highest_26 rfl ?_
        refine x_iload_n F dX7_highest_27 rfl ?_
        refine x_iload_n F dX7_highest_28 rfl ?_
        refine x_V2 F (m_X7_heightAt (by first | assumption | omega | decide) (by first | assumption | omega | decide)) mlX7_77 mvX7_heightAt rfl dX7_highest_29 (by decide) rfl ⟨Nat.le_of_ble_eq_true rfl, Nat.le_of_ble_eq_true rfl⟩ ⟨Nat.zero_le _, Nat.zero_le _⟩ (Nat.le_of_ble_eq_true rfl) ?_
        have hf_5 := rg_zI M (28 + 6 * r + (n : Int))
        refine x_goto (tgt := 36) F dX7_highest_32 (by decide) ?_
        refine x_istore_n F dX7_highest_36 (by decide) ?_
        refine xj_iinc F dX7_highest_37 rfl ?_
        refine x_goto (tgt := 4) F dX7_highest_40 (by decide) ?_
        have g := ih (n + 1) (by omega) (by omega)
        rw [hst] at g
        exact g
set_option maxRecDepth 20000 in
theorem m_X7_highest {l : Launch} {E : xE} {r : Int} {M : xM} (hZ : okZ M) (hr : 0 ≤ r ∧ r < 4) : XF l E 2 yX7_highest cX7_highest 4 (some FieldType.int) [vA 68, vI (jI r)] M (vI (jI (hgZ M r))) (M) := by
  refine xp_start (plainFor_of_name (by decide)) rfl (Nat.le_of_ble_eq_true rfl) ?_
  intro Y F FR
  have hz : 0 ≤ (M.1 69 r.toNat).toInt ∧ (M.1 69 r.toNat).toInt ≤ 6 := hZ.1 r hr.1 hr.2
  have hzz : (M.1 69 r.toNat).toInt = zI M r := rfl
  refine xj_iconst F dX7_highest_0 ?_
  refine x_istore_n F dX7_highest_1 (by decide) ?_
  refine xj_iconst F dX7_highest_2 ?_
  refine x_istore_n F dX7_highest_3 (by decide) ?_
  exact L_X7_highest hZ hr F FR _ 0 (by omega) (Nat.lt_succ_self _)
set_option maxRecDepth 20000 in
theorem m_X7_ofSinger {l : Launch} {E : xE} {r p z : Int} {M : xM} (hZ : okZ M) (hr : 0 ≤ r ∧ r < 4) (hp : 0 ≤ p ∧ p < 6) (hz : 0 ≤ z ∧ z ≤ 7) : XF l E 8 yX7_ofSinger cX7_ofSinger 4 (some FieldType.int) [vA 68, vI (jI r), vI (jI p), vI (jI z)] M (vI (jI (osZ M r p z))) (M) := by
  refine xp_start (plainFor_of_name (by decide)) rfl (Nat.le_of_ble_eq_true rfl) ?_
  intro Y F FR
  refine x_iload_n F dX7_ofSinger_0 rfl ?_
  by_cases h_1 : z = 0
  · refine xj_tabIn (off := 43) (tgt := 44) F dX7_ofSinger_1 (by omega) (by omega) (by rw [h_1]; rfl) (by decide) (by omega) ?_
    refine x_aload_n F dX7_ofSinger_44 rfl ?_
    refine x_getc (v := 69) F flX7_7 rfl dX7_ofSinger_45 (by decide) (by decide) rfl rfl ?_
    refine xj_iconst F dX7_ofSinger_48 ?_
    refine xj_bipush F dX7_ofSinger_49 (by decide) ?_
    refine x_iload_n F dX7_ofSinger_51 rfl ?_
    refine xj_imul F dX7_ofSinger_52 ?_
    refine xj_iadd F dX7_ofSinger_53 ?_
    refine x_iload_n F dX7_ofSinger_54 rfl ?_
    refine xj_iadd F dX7_ofSinger_55 ?_
    refine xj_lald2 F rfl dX7_ofSinger_56 (by omega) (fun hg_2 => ?_)
    refine x_iret F FR dX7_ofSinger_57 rfl (Nat.le_refl _) (Nat.le_refl _) ?_
    first
      | exact ⟨vj2 (by unfold osZ; rw [if_pos (by omega)] <;> rfl), rfl⟩
      | exact ⟨vj2 (by unfold osZ; rw [if_neg (by omega), if_pos (by omega)] <;> rfl), rfl⟩
      | exact ⟨vj2 (by unfold osZ; rw [if_neg (by omega), if_neg (by omega), if_pos (by omega)] <;> rfl), rfl⟩
      | exact ⟨vj2 (by unfold osZ; rw [if_neg (by omega), if_neg (by omega), if_neg (by omega), if_pos (by omega)] <;> rfl), rfl⟩
      | exact ⟨vj2 (by unfold osZ; rw [if_neg (by omega), if_neg (by omega), if_neg (by omega), if_neg (by omega), if_pos (by omega)] <;> rfl), rfl⟩
      | exact ⟨vj2 (by unfold osZ; rw [if_neg (by omega), if_neg (by omega), if_neg (by omega), if_neg (by omega), if_neg (by omega), if_pos (by omega)] <;> rfl), rfl⟩
      | exact ⟨vj2 (by unfold osZ; rw [if_neg (by omega), if_neg (by omega), if_neg (by omega), if_neg (by omega), if_neg (by omega), if_neg (by omega), if_pos (by omega)] <;> rfl), rfl⟩
      | exact ⟨vj2 (by unfold osZ; rw [if_neg (by omega), if_neg (by omega), if_neg (by omega), if_neg (by omega), if_neg (by omega), if_neg (by omega), if_neg (by omega)] <;> rfl), rfl⟩
  by_cases h_3 : z = 1
  · refine xj_tabIn (off := 57) (tgt := 58) F dX7_ofSinger_1 (by omega) (by omega) (by rw [h_3]; rfl) (by decide) (by omega) ?_
    refine x_aload_n F dX7_ofSinger_58 rfl ?_
    refine x_iload_n F dX7_ofSinger_59 rfl ?_
    refine x_iload_n F dX7_ofSinger_60 rfl ?_
    refine x_V2 F (m_X7_heightAt (by first | assumption | omega | decide) (by first | assumption | omega | decide)) mlX7_77 mvX7_heightAt rfl dX7_ofSinger_61 (by decide) rfl ⟨Nat.le_of_ble_eq_true rfl, Nat.le_of_ble_eq_true rfl⟩ ⟨Nat.zero_le _, Nat.zero_le _⟩ (Nat.le_of_ble_eq_true rfl) ?_
    have hf_4 := rg_zI M (28 + 6 * r + p)
    refine x_iret F FR dX7_ofSinger_64 rfl (Nat.le_refl _) (Nat.le_refl _) ?_
    first
      | exact ⟨vj2 (by unfold osZ; rw [if_pos (by omega)] <;> rfl), rfl⟩
      | exact ⟨vj2 (by unfold osZ; rw [if_neg (by omega), if_pos (by omega)] <;> rfl), rfl⟩
      | exact ⟨vj2 (by unfold osZ; rw [if_neg (by omega), if_neg (by omega), if_pos (by omega)] <;> rfl), rfl⟩
      | exact ⟨vj2 (by unfold osZ; rw [if_neg (by omega), if_neg (by omega), if_neg (by omega), if_pos (by omega)] <;> rfl), rfl⟩
      | exact ⟨vj2 (by unfold osZ; rw [if_neg (by omega), if_neg (by omega), if_neg (by omega), if_neg (by omega), if_pos (by omega)] <;> rfl), rfl⟩
      | exact ⟨vj2 (by unfold osZ; rw [if_neg (by omega), if_neg (by omega), if_neg (by omega), if_neg (by omega), if_neg (by omega), if_pos (by omega)] <;> rfl), rfl⟩
      | exact ⟨vj2 (by unfold osZ; rw [if_neg (by omega), if_neg (by omega), if_neg (by omega), if_neg (by omega), if_neg (by omega), if_neg (by omega), if_pos (by omega)] <;> rfl), rfl⟩
      | exact ⟨vj2 (by unfold osZ; rw [if_neg (by omega), if_neg (by omega), if_neg (by omega), if_neg (by omega), if_neg (by omega), if_neg (by omega), if_neg (by omega)] <;> rfl), rfl⟩
  by_cases h_5 : z = 2
  · refine xj_tabIn (off := 64) (tgt := 65) F dX7_ofSinger_1 (by omega) (by omega) (by rw [h_5]; rfl) (by decide) (by omega) ?_
    refine x_aload_n F dX7_ofSinger_65 rfl ?_
    refine x_getc (v := 69) F flX7_7 rfl dX7_ofSinger_66 (by decide) (by decide) rfl rfl ?_
    refine xj_bipush F dX7_ofSinger_69 (by decide) ?_
    refine xj_bipush F dX7_ofSinger_71 (by decide) ?_
    refine x_iload_n F dX7_ofSinger_73 rfl ?_
    refine xj_imul F dX7_ofSinger_74 ?_
    refine xj_iadd F dX7_ofSinger_75 ?_
    refine x_iload_n F dX7_ofSinger_76 rfl ?_
    refine xj_iadd F dX7_ofSinger_77 ?_
    refine xj_lald2 F rfl dX7_ofSinger_78 (by omega) (fun hg_6 => ?_)
    refine x_iret F FR dX7_ofSinger_79 rfl (Nat.le_refl _) (Nat.le_refl _) ?_
    first
      | exact ⟨vj2 (by unfold osZ; rw [if_pos (by omega)] <;> rfl), rfl⟩
      | exact ⟨vj2 (by unfold osZ; rw [if_neg (by omega), if_pos (by omega)] <;> rfl), rfl⟩
      | exact ⟨vj2 (by unfold osZ; rw [if_neg (by omega), if_neg (by omega), if_pos (by omega)] <;> rfl), rfl⟩
      | exact ⟨vj2 (by unfold osZ; rw [if_neg (by omega), if_neg (by omega), if_neg (by omega), if_pos (by omega)] <;> rfl), rfl⟩
      | exact ⟨vj2 (by unfold osZ; rw [if_neg (by omega), if_neg (by omega), if_neg (by omega), if_neg (by omega), if_pos (by omega)] <;> rfl), rfl⟩
      | exact ⟨vj2 (by unfold osZ; rw [if_neg (by omega), if_neg (by omega), if_neg (by omega), if_neg (by omega), if_neg (by omega), if_pos (by omega)] <;> rfl), rfl⟩
      | exact ⟨vj2 (by unfold osZ; rw [if_neg (by omega), if_neg (by omega), if_neg (by omega), if_neg (by omega), if_neg (by omega), if_neg (by omega), if_pos (by omega)] <;> rfl), rfl⟩
      | exact ⟨vj2 (by unfold osZ; rw [if_neg (by omega), if_neg (by omega), if_neg (by omega), if_neg (by omega), if_neg (by omega), if_neg (by omega), if_neg (by omega)] <;> rfl), rfl⟩
  by_cases h_7 : z = 3
  · refine xj_tabIn (off := 79) (tgt := 80) F dX7_ofSinger_1 (by omega) (by omega) (by rw [h_7]; rfl) (by decide) (by omega) ?_
    refine x_aload_n F dX7_ofSinger_80 rfl ?_
    refine x_iload_n F dX7_ofSinger_81 rfl ?_
    refine x_iload_n F dX7_ofSinger_82 rfl ?_
    refine x_V2 F (m_X7_heard (by first | assumption | omega | decide) (by first | assumption | omega | decide) (by first | assumption | omega | decide)) mlX7_197 mvX7_heard rfl dX7_ofSinger_83 (by decide) rfl ⟨Nat.le_of_ble_eq_true rfl, Nat.le_of_ble_eq_true rfl⟩ ⟨Nat.zero_le _, Nat.zero_le _⟩ (Nat.le_of_ble_eq_true rfl) ?_
    refine x_iret F FR dX7_ofSinger_86 rfl (Nat.le_refl _) (Nat.le_refl _) ?_
    first
      | exact ⟨vj2 (by unfold osZ; rw [if_pos (by omega)] <;> rfl), rfl⟩
      | exact ⟨vj2 (by unfold osZ; rw [if_neg (by omega), if_pos (by omega)] <;> rfl), rfl⟩
      | exact ⟨vj2 (by unfold osZ; rw [if_neg (by omega), if_neg (by omega), if_pos (by omega)] <;> rfl), rfl⟩
      | exact ⟨vj2 (by unfold osZ; rw [if_neg (by omega), if_neg (by omega), if_neg (by omega), if_pos (by omega)] <;> rfl), rfl⟩
      | exact ⟨vj2 (by unfold osZ; rw [if_neg (by omega), if_neg (by omega), if_neg (by omega), if_neg (by omega), if_pos (by omega)] <;> rfl), rfl⟩
      | exact ⟨vj2 (by unfold osZ; rw [if_neg (by omega), if_neg (by omega), if_neg (by omega), if_neg (by omega), if_neg (by omega), if_pos (by omega)] <;> rfl), rfl⟩
      | exact ⟨vj2 (by unfold osZ; rw [if_neg (by omega), if_neg (by omega), if_neg (by omega), if_neg (by omega), if_neg (by omega), if_neg (by omega), if_pos (by omega)] <;> rfl), rfl⟩
      | exact ⟨vj2 (by unfold osZ; rw [if_neg (by omega), if_neg (by omega), if_neg (by omega), if_neg (by omega), if_neg (by omega), if_neg (by omega), if_neg (by omega)] <;> rfl), rfl⟩
  by_cases h_8 : z = 4
  · refine xj_tabIn (off := 86) (tgt := 87) F dX7_ofSinger_1 (by omega) (by omega) (by rw [h_8]; rfl) (by decide) (by omega) ?_
    refine x_aload_n F dX7_ofSinger_87 rfl ?_
    refine x_iload_n F dX7_ofSinger_88 rfl ?_
    refine x_iload_n F dX7_ofSinger_89 rfl ?_
    refine x_V2 F (m_X7_higher (by first | assumption | omega | decide) (by first | assumption | omega | decide) (by first | assumption | omega | decide)) mlX7_81 mvX7_higher rfl dX7_ofSinger_90 (by decide) rfl ⟨Nat.le_of_ble_eq_true rfl, Nat.le_of_ble_eq_true rfl⟩ ⟨Nat.zero_le _, Nat.zero_le _⟩ (Nat.le_of_ble_eq_true rfl) ?_
    refine x_iret F FR dX7_ofSinger_93 rfl (Nat.le_refl _) (Nat.le_refl _) ?_
    first
      | exact ⟨vj2 (by unfold osZ; rw [if_pos (by omega)] <;> rfl), rfl⟩
      | exact ⟨vj2 (by unfold osZ; rw [if_neg (by omega), if_pos (by omega)] <;> rfl), rfl⟩
      | exact ⟨vj2 (by unfold osZ; rw [if_neg (by omega), if_neg (by omega), if_pos (by omega)] <;> rfl), rfl⟩
      | exact ⟨vj2 (by unfold osZ; rw [if_neg (by omega), if_neg (by omega), if_neg (by omega), if_pos (by omega)] <;> rfl), rfl⟩
      | exact ⟨vj2 (by unfold osZ; rw [if_neg (by omega), if_neg (by omega), if_neg (by omega), if_neg (by omega), if_pos (by omega)] <;> rfl), rfl⟩
      | exact ⟨vj2 (by unfold osZ; rw [if_neg (by omega), if_neg (by omega), if_neg (by omega), if_neg (by omega), if_neg (by omega), if_pos (by omega)] <;> rfl), rfl⟩
      | exact ⟨vj2 (by unfold osZ; rw [if_neg (by omega), if_neg (by omega), if_neg (by omega), if_neg (by omega), if_neg (by omega), if_neg (by omega), if_pos (by omega)] <;> rfl), rfl⟩
      | exact ⟨vj2 (by unfold osZ; rw [if_neg (by omega), if_neg (by omega), if_neg (by omega), if_neg (by omega), if_neg (by omega), if_neg (by omega), if_neg (by omega)] <;> rfl), rfl⟩
  by_cases h_9 : z = 5
  · refine xj_tabIn (off := 86) (tgt := 87) F dX7_ofSinger_1 (by omega) (by omega) (by rw [h_9]; rfl) (by decide) (by omega) ?_
    refine x_aload_n F dX7_ofSinger_87 rfl ?_
    refine x_iload_n F dX7_ofSinger_88 rfl ?_
    refine x_iload_n F dX7_ofSinger_89 rfl ?_
    refine x_V2 F (m_X7_higher (by first | assumption | omega | decide) (by first | assumption | omega | decide) (by first | assumption | omega | decide)) mlX7_81 mvX7_higher rfl dX7_ofSinger_90 (by decide) rfl ⟨Nat.le_of_ble_eq_true rfl, Nat.le_of_ble_eq_true rfl⟩ ⟨Nat.zero_le _, Nat.zero_le _⟩ (Nat.le_of_ble_eq_true rfl) ?_
    refine x_iret F FR dX7_ofSinger_93 rfl (Nat.le_refl _) (Nat.le_refl _) ?_
    first
      | exact ⟨vj2 (by unfold osZ; rw [if_pos (by omega)] <;> rfl), rfl⟩
      | exact ⟨vj2 (by unfold osZ; rw [if_neg (by omega), if_pos (by omega)] <;> rfl), rfl⟩
      | exact ⟨vj2 (by unfold osZ; rw [if_neg (by omega), if_neg (by omega), if_pos (by omega)] <;> rfl), rfl⟩
      | exact ⟨vj2 (by unfold osZ; rw [if_neg (by omega), if_neg (by omega), if_neg (by omega), if_pos (by omega)] <;> rfl), rfl⟩
      | exact ⟨vj2 (by unfold osZ; rw [if_neg (by omega), if_neg (by omega), if_neg (by omega), if_neg (by omega), if_pos (by omega)] <;> rfl), rfl⟩
      | exact ⟨vj2 (by unfold osZ; rw [if_neg (by omega), if_neg (by omega), if_neg (by omega), if_neg (by omega), if_neg (by omega), if_pos (by omega)] <;> rfl), rfl⟩
      | exact ⟨vj2 (by unfold osZ; rw [if_neg (by omega), if_neg (by omega), if_neg (by omega), if_neg (by omega), if_neg (by omega), if_neg (by omega), if_pos (by omega)] <;> rfl), rfl⟩
      | exact ⟨vj2 (by unfold osZ; rw [if_neg (by omega), if_neg (by omega), if_neg (by omega), if_neg (by omega), if_neg (by omega), if_neg (by omega), if_neg (by omega)] <;> rfl), rfl⟩
  by_cases h_10 : z = 6
  · refine xj_tabIn (off := 93) (tgt := 94) F dX7_ofSinger_1 (by omega) (by omega) (by rw [h_10]; rfl) (by decide) (by omega) ?_
    refine x_aload_n F dX7_ofSinger_94 rfl ?_
    refine x_iload_n F dX7_ofSinger_95 rfl ?_
    refine x_iload_n F dX7_ofSinger_96 rfl ?_
    refine x_V2 F (m_X7_higher hZ hr hp) mlX7_81 mvX7_higher rfl dX7_ofSinger_97 (by decide) rfl ⟨Nat.le_of_ble_eq_true rfl, Nat.le_of_ble_eq_true rfl⟩ ⟨Nat.zero_le _, Nat.zero_le _⟩ (Nat.le_of_ble_eq_true rfl) ?_
    have hf_11 := hhZ_b hZ r p
    refine xj_iconst F dX7_ofSinger_100 ?_
    refine xj_irem F dX7_ofSinger_101 (by omega) ?_
    refine x_iret F FR dX7_ofSinger_102 rfl (Nat.le_refl _) (Nat.le_refl _) ?_
    first
      | exact ⟨vj2 (by unfold osZ; rw [if_pos (by omega)] <;> rfl), rfl⟩
      | exact ⟨vj2 (by unfold osZ; rw [if_neg (by omega), if_pos (by omega)] <;> rfl), rfl⟩
      | exact ⟨vj2 (by unfold osZ; rw [if_neg (by omega), if_neg (by omega), if_pos (by omega)] <;> rfl), rfl⟩
      | exact ⟨vj2 (by unfold osZ; rw [if_neg (by omega), if_neg (by omega), if_neg (by omega), if_pos (by omega)] <;> rfl), rfl⟩
      | exact ⟨vj2 (by unfold osZ; rw [if_neg (by omega), if_neg (by omega), if_neg (by omega), if_neg (by omega), if_pos (by omega)] <;> rfl), rfl⟩
      | exact ⟨vj2 (by unfold osZ; rw [if_neg (by omega), if_neg (by omega), if_neg (by omega), if_neg (by omega), if_neg (by omega), if_pos (by omega)] <;> rfl), rfl⟩
      | exact ⟨vj2 (by unfold osZ; rw [if_neg (by omega), if_neg (by omega), if_neg (by omega), if_neg (by omega), if_neg (by omega), if_neg (by omega), if_pos (by omega)] <;> rfl), rfl⟩
      | exact ⟨vj2 (by unfold osZ; rw [if_neg (by omega), if_neg (by omega), if_neg (by omega), if_neg (by omega), if_neg (by omega), if_neg (by omega), if_neg (by omega)] <;> rfl), rfl⟩
  refine xj_tabOut (tgt := 103) F dX7_ofSinger_1 (by omega) (by decide) (by omega) ?_
  refine x_aload_n F dX7_ofSinger_103 rfl ?_
  refine x_iload_n F dX7_ofSinger_104 rfl ?_
  refine x_iload_n F dX7_ofSinger_105 rfl ?_
  refine x_V2 F (m_X7_hearers (by first | assumption | omega | decide) (by first | assumption | omega | decide) (by first | assumption | omega | decide)) mlX7_200 mvX7_hearers rfl dX7_ofSinger_106 (by decide) rfl ⟨Nat.le_of_ble_eq_true rfl, Nat.le_of_ble_eq_true rfl⟩ ⟨Nat.zero_le _, Nat.zero_le _⟩ (Nat.le_of_ble_eq_true rfl) ?_
  refine x_iret F FR dX7_ofSinger_109 rfl (Nat.le_refl _) (Nat.le_refl _) ?_
  first
    | exact ⟨vj2 (by unfold osZ; rw [if_pos (by omega)] <;> rfl), rfl⟩
    | exact ⟨vj2 (by unfold osZ; rw [if_neg (by omega), if_pos (by omega)] <;> rfl), rfl⟩
    | exact ⟨vj2 (by unfold osZ; rw [if_neg (by omega), if_neg (by omega), if_pos (by omega)] <;> rfl), rfl⟩
    | exact ⟨vj2 (by unfold osZ; rw [if_neg (by omega), if_neg (by omega), if_neg (by omega), if_pos (by omega)] <;> rfl), rfl⟩
    | exact ⟨vj2 (by unfold osZ; rw [if_neg (by omega), if_neg (by omega), if_neg (by omega), if_neg (by omega), if_pos (by omega)] <;> rfl), rfl⟩
    | exact ⟨vj2 (by unfold osZ; rw [if_neg (by omega), if_neg (by omega), if_neg (by omega), if_neg (by omega), if_neg (by omega), if_pos (by omega)] <;> rfl), rfl⟩
    | exact ⟨vj2 (by unfold osZ; rw [if_neg (by omega), if_neg (by omega), if_neg (by omega), if_neg (by omega), if_neg (by omega), if_neg (by omega), if_pos (by omega)] <;> rfl), rfl⟩
    | exact ⟨vj2 (by unfold osZ; rw [if_neg (by omega), if_neg (by omega), if_neg (by omega), if_neg (by omega), if_neg (by omega), if_neg (by omega), if_neg (by omega)] <;> rfl), rfl⟩
set_option maxRecDepth 20000 in
theorem m_X7_number {l : Launch} {E : xE} {z : Int} {M : xM} (hZ : okZ M) (hz : 0 ≤ z ∧ z ≤ 8) : XF l E 8 yX7_number cX7_number 2 (some FieldType.int) [vA 68, vI (jI z)] M (vI (jI (noZ M z))) (M) := by
  refine xp_start (plainFor_of_name (by decide)) rfl (Nat.le_of_ble_eq_true rfl) ?_
  intro Y F FR
  refine x_iload_n F dX7_number_0 rfl ?_
  by_cases h_1 : z = 0
  · refine xj_tabIn (off := 47) (tgt := 48) F dX7_number_1 (by omega) (by omega) (by rw [h_1]; rfl) (by decide) (by omega) ?_
    refine x_aload_n F dX7_number_48 rfl ?_
    refine x_V0 F (m_X7_singers) mlX7_63 mvX7_singers rfl dX7_number_49 (by decide) rfl ⟨Nat.le_of_ble_eq_true rfl, Nat.le_of_ble_eq_true rfl⟩ ⟨Nat.zero_le _, Nat.zero_le _⟩ (Nat.le_of_ble_eq_true rfl) ?_
    refine x_iret F FR dX7_number_52 rfl (Nat.le_refl _) (Nat.le_refl _) ?_
    first
      | exact ⟨vj2 (by unfold noZ; rw [if_pos (by omega)] <;> rfl), rfl⟩
      | exact ⟨vj2 (by unfold noZ; rw [if_neg (by omega), if_pos (by omega)] <;> rfl), rfl⟩
      | exact ⟨vj2 (by unfold noZ; rw [if_neg (by omega), if_neg (by omega), if_pos (by omega)] <;> rfl), rfl⟩
      | exact ⟨vj2 (by unfold noZ; rw [if_neg (by omega), if_neg (by omega), if_neg (by omega), if_pos (by omega)] <;> rfl), rfl⟩
      | exact ⟨vj2 (by unfold noZ; rw [if_neg (by omega), if_neg (by omega), if_neg (by omega), if_neg (by omega), if_pos (by omega)] <;> rfl), rfl⟩
      | exact ⟨vj2 (by unfold noZ; rw [if_neg (by omega), if_neg (by omega), if_neg (by omega), if_neg (by omega), if_neg (by omega), if_pos (by omega)] <;> rfl), rfl⟩
      | exact ⟨vj2 (by unfold noZ; rw [if_neg (by omega), if_neg (by omega), if_neg (by omega), if_neg (by omega), if_neg (by omega), if_neg (by omega), if_neg (by omega), if_neg (by omega)] <;> rfl), rfl⟩
      | exact ⟨vj2 (by unfold noZ; rw [if_neg (by omega), if_neg (by omega), if_neg (by omega), if_neg (by omega), if_neg (by omega), if_neg (by omega), if_pos (by omega)]; show _ = zI M (76 + z - 6); congr 1; omega), rfl⟩
      | exact ⟨vj2 (by unfold noZ; rw [if_neg (by omega), if_neg (by omega), if_neg (by omega), if_neg (by omega), if_neg (by omega), if_neg (by omega), if_neg (by omega), if_pos (by omega)]; show _ = zI M (76 + z - 6); congr 1; omega), rfl⟩
  by_cases h_2 : z = 1
  · refine xj_tabIn (off := 52) (tgt := 53) F dX7_number_1 (by omega) (by omega) (by rw [h_2]; rfl) (by decide) (by omega) ?_
    refine x_aload_n F dX7_number_53 rfl ?_
    refine x_V0 F (m_X7_odd (by first | assumption | omega | decide)) mlX7_133 mvX7_odd rfl dX7_number_54 (by decide) rfl ⟨Nat.le_of_ble_eq_true rfl, Nat.le_of_ble_eq_true rfl⟩ ⟨Nat.zero_le _, Nat.zero_le _⟩ (Nat.le_of_ble_eq_true rfl) ?_
    refine x_iret F FR dX7_number_57 rfl (Nat.le_refl _) (Nat.le_refl _) ?_
    first
      | exact ⟨vj2 (by unfold noZ; rw [if_pos (by omega)] <;> rfl), rfl⟩
      | exact ⟨vj2 (by unfold noZ; rw [if_neg (by omega), if_pos (by omega)] <;> rfl), rfl⟩
      | exact ⟨vj2 (by unfold noZ; rw [if_neg (by omega), if_neg (by omega), if_pos (by omega)] <;> rfl), rfl⟩
      | exact ⟨vj2 (by unfold noZ; rw [if_neg (by omega), if_neg (by omega), if_neg (by omega), if_pos (by omega)] <;> rfl), rfl⟩
      | exact ⟨vj2 (by unfold noZ; rw [if_neg (by omega), if_neg (by omega), if_neg (by omega), if_neg (by omega), if_pos (by omega)] <;> rfl), rfl⟩
      | exact ⟨vj2 (by unfold noZ; rw [if_neg (by omega), if_neg (by omega), if_neg (by omega), if_neg (by omega), if_neg (by omega), if_pos (by omega)] <;> rfl), rfl⟩
      | exact ⟨vj2 (by unfold noZ; rw [if_neg (by omega), if_neg (by omega), if_neg (by omega), if_neg (by omega), if_neg (by omega), if_neg (by omega), if_neg (by omega), if_neg (by omega)] <;> rfl), rfl⟩
      | exact ⟨vj2 (by unfold noZ; rw [if_neg (by omega), if_neg (by omega), if_neg (by omega), if_neg (by omega), if_neg (by omega), if_neg (by omega), if_pos (by omega)]; show _ = zI M (76 + z - 6); congr 1; omega), rfl⟩
      | exact ⟨vj2 (by unfold noZ; rw [if_neg (by omega), if_neg (by omega), if_neg (by omega), if_neg (by omega), if_neg (by omega), if_neg (by omega), if_neg (by omega), if_pos (by omega)]; show _ = zI M (76 + z - 6); congr 1; omega), rfl⟩
  by_cases h_3 : z = 2
  · refine xj_tabIn (off := 57) (tgt := 58) F dX7_number_1 (by omega) (by omega) (by rw [h_3]; rfl) (by decide) (by omega) ?_
    refine x_aload_n F dX7_number_58 rfl ?_
    refine x_getc (v := 69) F flX7_7 rfl dX7_number_59 (by decide) (by decide) rfl rfl ?_
    refine xj_bipush F dX7_number_62 (by decide) ?_
    refine xj_lald2 F rfl dX7_number_64 (by omega) (fun hg_4 => ?_)
    refine x_iret F FR dX7_number_65 rfl (Nat.le_refl _) (Nat.le_refl _) ?_
    first
      | exact ⟨vj2 (by unfold noZ; rw [if_pos (by omega)] <;> rfl), rfl⟩
      | exact ⟨vj2 (by unfold noZ; rw [if_neg (by omega), if_pos (by omega)] <;> rfl), rfl⟩
      | exact ⟨vj2 (by unfold noZ; rw [if_neg (by omega), if_neg (by omega), if_pos (by omega)] <;> rfl), rfl⟩
      | exact ⟨vj2 (by unfold noZ; rw [if_neg (by omega), if_neg (by omega), if_neg (by omega), if_pos (by omega)] <;> rfl), rfl⟩
      | exact ⟨vj2 (by unfold noZ; rw [if_neg (by omega), if_neg (by omega), if_neg (by omega), if_neg (by omega), if_pos (by omega)] <;> rfl), rfl⟩
      | exact ⟨vj2 (by unfold noZ; rw [if_neg (by omega), if_neg (by omega), if_neg (by omega), if_neg (by omega), if_neg (by omega), if_pos (by omega)] <;> rfl), rfl⟩
      | exact ⟨vj2 (by unfold noZ; rw [if_neg (by omega), if_neg (by omega), if_neg (by omega), if_neg (by omega), if_neg (by omega), if_neg (by omega), if_neg (by omega), if_neg (by omega)] <;> rfl), rfl⟩
      | exact ⟨vj2 (by unfold noZ; rw [if_neg (by omega), if_neg (by omega), if_neg (by omega), if_neg (by omega), if_neg (by omega), if_neg (by omega), if_pos (by omega)]; show _ = zI M (76 + z - 6); congr 1; omega), rfl⟩
      | exact ⟨vj2 (by unfold noZ; rw [if_neg (by omega), if_neg (by omega), if_neg (by omega), if_neg (by omega), if_neg (by omega), if_neg (by omega), if_neg (by omega), if_pos (by omega)]; show _ = zI M (76 + z - 6); congr 1; omega), rfl⟩
  by_cases h_5 : z = 3
  · refine xj_tabIn (off := 65) (tgt := 66) F dX7_number_1 (by omega) (by omega) (by rw [h_5]; rfl) (by decide) (by omega) ?_
    refine x_aload_n F dX7_number_66 rfl ?_
    refine x_getc (v := 69) F flX7_7 rfl dX7_number_67 (by decide) (by decide) rfl rfl ?_
    refine xj_bipush F dX7_number_70 (by decide) ?_
    refine xj_lald2 F rfl dX7_number_72 (by omega) (fun hg_6 => ?_)
    refine x_iret F FR dX7_number_73 rfl (Nat.le_refl _) (Nat.le_refl _) ?_
    first
      | exact ⟨vj2 (by unfold noZ; rw [if_pos (by omega)] <;> rfl), rfl⟩
      | exact ⟨vj2 (by unfold noZ; rw [if_neg (by omega), if_pos (by omega)] <;> rfl), rfl⟩
      | exact ⟨vj2 (by unfold noZ; rw [if_neg (by omega), if_neg (by omega), if_pos (by omega)] <;> rfl), rfl⟩
      | exact ⟨vj2 (by unfold noZ; rw [if_neg (by omega), if_neg (by omega), if_neg (by omega), if_pos (by omega)] <;> rfl), rfl⟩
      | exact ⟨vj2 (by unfold noZ; rw [if_neg (by omega), if_neg (by omega), if_neg (by omega), if_neg (by omega), if_pos (by omega)] <;> rfl), rfl⟩
      | exact ⟨vj2 (by unfold noZ; rw [if_neg (by omega), if_neg (by omega), if_neg (by omega), if_neg (by omega), if_neg (by omega), if_pos (by omega)] <;> rfl), rfl⟩
      | exact ⟨vj2 (by unfold noZ; rw [if_neg (by omega), if_neg (by omega), if_neg (by omega), if_neg (by omega), if_neg (by omega), if_neg (by omega), if_neg (by omega), if_neg (by omega)] <;> rfl), rfl⟩
      | exact ⟨vj2 (by unfold noZ; rw [if_neg (by omega), if_neg (by omega), if_neg (by omega), if_neg (by omega), if_neg (by omega), if_neg (by omega), if_pos (by omega)]; show _ = zI M (76 + z - 6); congr 1; omega), rfl⟩
      | exact ⟨vj2 (by unfold noZ; rw [if_neg (by omega), if_neg (by omega), if_neg (by omega), if_neg (by omega), if_neg (by omega), if_neg (by omega), if_neg (by omega), if_pos (by omega)]; show _ = zI M (76 + z - 6); congr 1; omega), rfl⟩
  by_cases h_7 : z = 4
  · refine xj_tabIn (off := 73) (tgt := 74) F dX7_number_1 (by omega) (by omega) (by rw [h_7]; rfl) (by decide) (by omega) ?_
    refine x_aload_n F dX7_number_74 rfl ?_
    refine x_getc (v := 69) F flX7_7 rfl dX7_number_75 (by decide) (by decide) rfl rfl ?_
    refine xj_bipush F dX7_number_78 (by decide) ?_
    refine xj_lald2 F rfl dX7_number_80 (by omega) (fun hg_8 => ?_)
    refine x_iret F FR dX7_number_81 rfl (Nat.le_refl _) (Nat.le_refl _) ?_
    first
      | exact ⟨vj2 (by unfold noZ; rw [if_pos (by omega)] <;> rfl), rfl⟩
      | exact ⟨vj2 (by unfold noZ; rw [if_neg (by omega), if_pos (by omega)] <;> rfl), rfl⟩
      | exact ⟨vj2 (by unfold noZ; rw [if_neg (by omega), if_neg (by omega), if_pos (by omega)] <;> rfl), rfl⟩
      | exact ⟨vj2 (by unfold noZ; rw [if_neg (by omega), if_neg (by omega), if_neg (by omega), if_pos (by omega)] <;> rfl), rfl⟩
      | exact ⟨vj2 (by unfold noZ; rw [if_neg (by omega), if_neg (by omega), if_neg (by omega), if_neg (by omega), if_pos (by omega)] <;> rfl), rfl⟩
      | exact ⟨vj2 (by unfold noZ; rw [if_neg (by omega), if_neg (by omega), if_neg (by omega), if_neg (by omega), if_neg (by omega), if_pos (by omega)] <;> rfl), rfl⟩
      | exact ⟨vj2 (by unfold noZ; rw [if_neg (by omega), if_neg (by omega), if_neg (by omega), if_neg (by omega), if_neg (by omega), if_neg (by omega), if_neg (by omega), if_neg (by omega)] <;> rfl), rfl⟩
      | exact ⟨vj2 (by unfold noZ; rw [if_neg (by omega), if_neg (by omega), if_neg (by omega), if_neg (by omega), if_neg (by omega), if_neg (by omega), if_pos (by omega)]; show _ = zI M (76 + z - 6); congr 1; omega), rfl⟩
      | exact ⟨vj2 (by unfold noZ; rw [if_neg (by omega), if_neg (by omega), if_neg (by omega), if_neg (by omega), if_neg (by omega), if_neg (by omega), if_neg (by omega), if_pos (by omega)]; show _ = zI M (76 + z - 6); congr 1; omega), rfl⟩
  by_cases h_9 : z = 5
  · refine xj_tabIn (off := 81) (tgt := 82) F dX7_number_1 (by omega) (by omega) (by rw [h_9]; rfl) (by decide) (by omega) ?_
    refine x_aload_n F dX7_number_82 rfl ?_
    refine xj_iconst F dX7_number_83 ?_
    refine x_V1 F (m_X7_discord hZ (by decide)) mlX7_142 mvX7_discord rfl dX7_number_84 (by decide) rfl ⟨Nat.le_of_ble_eq_true rfl, Nat.le_of_ble_eq_true rfl⟩ ⟨Nat.zero_le _, Nat.zero_le _⟩ (Nat.le_of_ble_eq_true rfl) ?_
    refine x_aload_n F dX7_number_87 rfl ?_
    refine xj_iconst F dX7_number_88 ?_
    refine x_V1 F (m_X7_discord hZ (by decide)) mlX7_142 mvX7_discord rfl dX7_number_89 (by decide) rfl ⟨Nat.le_of_ble_eq_true rfl, Nat.le_of_ble_eq_true rfl⟩ ⟨Nat.zero_le _, Nat.zero_le _⟩ (Nat.le_of_ble_eq_true rfl) ?_
    refine xj_iadd F dX7_number_92 ?_
    refine x_aload_n F dX7_number_93 rfl ?_
    refine xj_iconst F dX7_number_94 ?_
    refine x_V1 F (m_X7_discord hZ (by decide)) mlX7_142 mvX7_discord rfl dX7_number_95 (by decide) rfl ⟨Nat.le_of_ble_eq_true rfl, Nat.le_of_ble_eq_true rfl⟩ ⟨Nat.zero_le _, Nat.zero_le _⟩ (Nat.le_of_ble_eq_true rfl) ?_
    refine xj_iadd F dX7_number_98 ?_
    refine x_aload_n F dX7_number_99 rfl ?_
    refine xj_iconst F dX7_number_100 ?_
    refine x_V1 F (m_X7_discord hZ (by decide)) mlX7_142 mvX7_discord rfl dX7_number_101 (by decide) rfl ⟨Nat.le_of_ble_eq_true rfl, Nat.le_of_ble_eq_true rfl⟩ ⟨Nat.zero_le _, Nat.zero_le _⟩ (Nat.le_of_ble_eq_true rfl) ?_
    refine xj_iadd F dX7_number_104 ?_
    refine x_iret F FR dX7_number_105 rfl (Nat.le_refl _) (Nat.le_refl _) ?_
    first
      | exact ⟨vj2 (by unfold noZ; rw [if_pos (by omega)] <;> rfl), rfl⟩
      | exact ⟨vj2 (by unfold noZ; rw [if_neg (by omega), if_pos (by omega)] <;> rfl), rfl⟩
      | exact ⟨vj2 (by unfold noZ; rw [if_neg (by omega), if_neg (by omega), if_pos (by omega)] <;> rfl), rfl⟩
      | exact ⟨vj2 (by unfold noZ; rw [if_neg (by omega), if_neg (by omega), if_neg (by omega), if_pos (by omega)] <;> rfl), rfl⟩
      | exact ⟨vj2 (by unfold noZ; rw [if_neg (by omega), if_neg (by omega), if_neg (by omega), if_neg (by omega), if_pos (by omega)] <;> rfl), rfl⟩
      | exact ⟨vj2 (by unfold noZ; rw [if_neg (by omega), if_neg (by omega), if_neg (by omega), if_neg (by omega), if_neg (by omega), if_pos (by omega)] <;> rfl), rfl⟩
      | exact ⟨vj2 (by unfold noZ; rw [if_neg (by omega), if_neg (by omega), if_neg (by omega), if_neg (by omega), if_neg (by omega), if_neg (by omega), if_neg (by omega), if_neg (by omega)] <;> rfl), rfl⟩
      | exact ⟨vj2 (by unfold noZ; rw [if_neg (by omega), if_neg (by omega), if_neg (by omega), if_neg (by omega), if_neg (by omega), if_neg (by omega), if_pos (by omega)]; show _ = zI M (76 + z - 6); congr 1; omega), rfl⟩
      | exact ⟨vj2 (by unfold noZ; rw [if_neg (by omega), if_neg (by omega), if_neg (by omega), if_neg (by omega), if_neg (by omega), if_neg (by omega), if_neg (by omega), if_pos (by omega)]; show _ = zI M (76 + z - 6); congr 1; omega), rfl⟩
  by_cases h_10 : z = 6
  · refine xj_tabIn (off := 105) (tgt := 106) F dX7_number_1 (by omega) (by omega) (by rw [h_10]; rfl) (by decide) (by omega) ?_
    refine x_aload_n F dX7_number_106 rfl ?_
    refine x_getc (v := 69) F flX7_7 rfl dX7_number_107 (by decide) (by decide) rfl rfl ?_
    refine xj_bipush F dX7_number_110 (by decide) ?_
    refine x_iload_n F dX7_number_112 rfl ?_
    refine xj_iadd F dX7_number_113 ?_
    refine xj_bipush F dX7_number_114 (by decide) ?_
    refine xj_isub F dX7_number_116 ?_
    refine xj_lald2 F rfl dX7_number_117 (by omega) (fun hg_11 => ?_)
    refine x_iret F FR dX7_number_118 rfl (Nat.le_refl _) (Nat.le_refl _) ?_
    first
      | exact ⟨vj2 (by unfold noZ; rw [if_pos (by omega)] <;> rfl), rfl⟩
      | exact ⟨vj2 (by unfold noZ; rw [if_neg (by omega), if_pos (by omega)] <;> rfl), rfl⟩
      | exact ⟨vj2 (by unfold noZ; rw [if_neg (by omega), if_neg (by omega), if_pos (by omega)] <;> rfl), rfl⟩
      | exact ⟨vj2 (by unfold noZ; rw [if_neg (by omega), if_neg (by omega), if_neg (by omega), if_pos (by omega)] <;> rfl), rfl⟩
      | exact ⟨vj2 (by unfold noZ; rw [if_neg (by omega), if_neg (by omega), if_neg (by omega), if_neg (by omega), if_pos (by omega)] <;> rfl), rfl⟩
      | exact ⟨vj2 (by unfold noZ; rw [if_neg (by omega), if_neg (by omega), if_neg (by omega), if_neg (by omega), if_neg (by omega), if_pos (by omega)] <;> rfl), rfl⟩
      | exact ⟨vj2 (by unfold noZ; rw [if_neg (by omega), if_neg (by omega), if_neg (by omega), if_neg (by omega), if_neg (by omega), if_neg (by omega), if_neg (by omega), if_neg (by omega)] <;> rfl), rfl⟩
      | exact ⟨vj2 (by unfold noZ; rw [if_neg (by omega), if_neg (by omega), if_neg (by omega), if_neg (by omega), if_neg (by omega), if_neg (by omega), if_pos (by omega)]; show _ = zI M (76 + z - 6); congr 1; omega), rfl⟩
      | exact ⟨vj2 (by unfold noZ; rw [if_neg (by omega), if_neg (by omega), if_neg (by omega), if_neg (by omega), if_neg (by omega), if_neg (by omega), if_neg (by omega), if_pos (by omega)]; show _ = zI M (76 + z - 6); congr 1; omega), rfl⟩
  by_cases h_12 : z = 7
  · refine xj_tabIn (off := 105) (tgt := 106) F dX7_number_1 (by omega) (by omega) (by rw [h_12]; rfl) (by decide) (by omega) ?_
    refine x_aload_n F dX7_number_106 rfl ?_
    refine x_getc (v := 69) F flX7_7 rfl dX7_number_107 (by decide) (by decide) rfl rfl ?_
    refine xj_bipush F dX7_number_110 (by decide) ?_
    refine x_iload_n F dX7_number_112 rfl ?_
    refine xj_iadd F dX7_number_113 ?_
    refine xj_bipush F dX7_number_114 (by decide) ?_
    refine xj_isub F dX7_number_116 ?_
    refine xj_lald2 F rfl dX7_number_117 (by omega) (fun hg_13 => ?_)
    refine x_iret F FR dX7_number_118 rfl (Nat.le_refl _) (Nat.le_refl _) ?_
    first
      | exact ⟨vj2 (by unfold noZ; rw [if_pos (by omega)] <;> rfl), rfl⟩
      | exact ⟨vj2 (by unfold noZ; rw [if_neg (by omega), if_pos (by omega)] <;> rfl), rfl⟩
      | exact ⟨vj2 (by unfold noZ; rw [if_neg (by omega), if_neg (by omega), if_pos (by omega)] <;> rfl), rfl⟩
      | exact ⟨vj2 (by unfold noZ; rw [if_neg (by omega), if_neg (by omega), if_neg (by omega), if_pos (by omega)] <;> rfl), rfl⟩
      | exact ⟨vj2 (by unfold noZ; rw [if_neg (by omega), if_neg (by omega), if_neg (by omega), if_neg (by omega), if_pos (by omega)] <;> rfl), rfl⟩
      | exact ⟨vj2 (by unfold noZ; rw [if_neg (by omega), if_neg (by omega), if_neg (by omega), if_neg (by omega), if_neg (by omega), if_pos (by omega)] <;> rfl), rfl⟩
      | exact ⟨vj2 (by unfold noZ; rw [if_neg (by omega), if_neg (by omega), if_neg (by omega), if_neg (by omega), if_neg (by omega), if_neg (by omega), if_neg (by omega), if_neg (by omega)] <;> rfl), rfl⟩
      | exact ⟨vj2 (by unfold noZ; rw [if_neg (by omega), if_neg (by omega), if_neg (by omega), if_neg (by omega), if_neg (by omega), if_neg (by omega), if_pos (by omega)]; show _ = zI M (76 + z - 6); congr 1; omega), rfl⟩
      | exact ⟨vj2 (by unfold noZ; rw [if_neg (by omega), if_neg (by omega), if_neg (by omega), if_neg (by omega), if_neg (by omega), if_neg (by omega), if_neg (by omega), if_pos (by omega)]; show _ = zI M (76 + z - 6); congr 1; omega), rfl⟩
  refine xj_tabOut (tgt := 119) F dX7_number_1 (by omega) (by decide) (by omega) ?_
  refine x_aload_n F dX7_number_119 rfl ?_
  refine xj_geti F flX7_52 rfl dX7_number_120 (by decide) (by decide) rfl (fun hg_14 => ?_)
  refine x_iret F FR dX7_number_123 rfl (Nat.le_refl _) (Nat.le_refl _) ?_
  first
    | exact ⟨vj2 (by unfold noZ; rw [if_pos (by omega)] <;> rfl), rfl⟩
    | exact ⟨vj2 (by unfold noZ; rw [if_neg (by omega), if_pos (by omega)] <;> rfl), rfl⟩
    | exact ⟨vj2 (by unfold noZ; rw [if_neg (by omega), if_neg (by omega), if_pos (by omega)] <;> rfl), rfl⟩
    | exact ⟨vj2 (by unfold noZ; rw [if_neg (by omega), if_neg (by omega), if_neg (by omega), if_pos (by omega)] <;> rfl), rfl⟩
    | exact ⟨vj2 (by unfold noZ; rw [if_neg (by omega), if_neg (by omega), if_neg (by omega), if_neg (by omega), if_pos (by omega)] <;> rfl), rfl⟩
    | exact ⟨vj2 (by unfold noZ; rw [if_neg (by omega), if_neg (by omega), if_neg (by omega), if_neg (by omega), if_neg (by omega), if_pos (by omega)] <;> rfl), rfl⟩
    | exact ⟨vj2 (by unfold noZ; rw [if_neg (by omega), if_neg (by omega), if_neg (by omega), if_neg (by omega), if_neg (by omega), if_neg (by omega), if_neg (by omega), if_neg (by omega)] <;> rfl), rfl⟩
    | exact ⟨vj2 (by unfold noZ; rw [if_neg (by omega), if_neg (by omega), if_neg (by omega), if_neg (by omega), if_neg (by omega), if_neg (by omega), if_pos (by omega)]; show _ = zI M (76 + z - 6); congr 1; omega), rfl⟩
    | exact ⟨vj2 (by unfold noZ; rw [if_neg (by omega), if_neg (by omega), if_neg (by omega), if_neg (by omega), if_neg (by omega), if_neg (by omega), if_neg (by omega), if_pos (by omega)]; show _ = zI M (76 + z - 6); congr 1; omega), rfl⟩
set_option maxRecDepth 20000 in
theorem L_X7_placeOf_12 {l : Launch} {E : xE} {x : Int} {M : xM} (hZ : okZ M) (hx : rg x) {m : Nat} (hm : m < 4) {Y : xY} (F : xFix E (xA E) Y cX7_placeOf yX7_placeOf.cls 5) (FR : xRet E Y (some FieldType.int) 0 0 (fun r' M'' => r' = vI (jI (gpZ M x 4)) ∧ M'' = M) (fun _ _ => False)) : ∀ (k : Nat) (n : Nat), (n : Int) ≤ zI M m → (∀ (w : xV), WP l E (xRm 2 0 0) (xA E) Y 0 0 61 [vA 68, vI (jI x), vI (jI (gpZ M x (m + 1))), vI (jI (m : Int)), w] [] M) → (zI M m - n).toNat < k → WP l E (xRm 2 0 0) (xA E) Y 0 0 12 [vA 68, vI (jI x), vI (jI (foZ M (m : Int) x n (gpZ M x m))), vI (jI (m : Int)), vI (jI (n : Int))] [] M := by
  intro k
  induction k with
  | zero => intro n hn hex hk; exact absurd hk (Nat.not_lt_zero _)
  | succ k ih =>
    intro n hn hex hk
    have hz : 0 ≤ (M.1 69 (m : Int).toNat).toInt ∧ (M.1 69 (m : Int).toNat).toInt ≤ 6 := hZ.1 (m : Int) (by omega) (by omega)
    have hzz : (M.1 69 (m : Int).toNat).toInt = zI M m := rfl
    have hzk : (M.1 69 (4 + 6 * (m : Int) + (n : Int)).toNat).toInt = zI M (4 + 6 * (m : Int) + n) := rfl
    refine x_iload F dX7_placeOf_12 rfl ?_
    refine x_aload_n F dX7_placeOf_14 rfl ?_
    refine x_getc (v := 69) F flX7_7 rfl dX7_placeOf_15 (by decide) (by decide) rfl rfl ?_
    refine xj_iconst F dX7_placeOf_18 ?_
    refine x_iload_n F dX7_placeOf_19 rfl ?_
    refine xj_iadd F dX7_placeOf_20 ?_
    rw [Int.zero_add ((m : Int))]
    refine xj_lald2 F rfl dX7_placeOf_21 (by omega) (fun hg_1 => ?_)
    refine xj_icmp_ge (tgt := 61) F dX7_placeOf_22 (by decide) (by omega) (fun h_2 => ?_) (fun h_2 => ?_)
    · have e : n = (zI M (m : Int)).toNat := by omega
      subst e
      exact hex _
    · refine x_aload_n F dX7_placeOf_25 rfl ?_
      refine x_getc (v := 69) F flX7_7 rfl dX7_placeOf_26 (by decide) (by decide) rfl rfl ?_
      refine xj_iconst F dX7_placeOf_29 ?_
      refine xj_bipush F dX7_placeOf_30 (by decide) ?_
      refine x_iload_n F dX7_placeOf_32 rfl ?_
      refine xj_imul F dX7_placeOf_33 ?_
      refine xj_iadd F dX7_placeOf_34 ?_
      refine x_iload F dX7_placeOf_35 rfl ?_
      refine xj_iadd F dX7_placeOf_37 ?_
      refine xj_lald2 F rfl dX7_placeOf_38 (by omega) (fun hg_3 => ?_)
      refine x_iload_n F dX7_placeOf_39 rfl ?_
      refine xj_icmp_ne (tgt := 53) F dX7_placeOf_40 (by decide) (by omega) (fun h_4 => ?_) (fun h_4 => ?_)
      · have hst : (foZ M (m : Int) x (n + 1) (gpZ M x m)) = (foZ M (m : Int) x n (gpZ M x m)) := by simp only [foZ]; exact if_neg (by omega)
        refine x_iload_n F dX7_placeOf_53 rfl ?_
        refine x_istore_n F dX7_placeOf_54 (by decide) ?_
        refine xj_iinc F dX7_placeOf_55 rfl ?_
        refine x_goto (tgt := 12) F dX7_placeOf_58 (by decide) ?_
        have g := ih (n + 1) (by omega) hex (by omega)
        rw [hst] at g
        exact g
      · have hst : (foZ M (m : Int) x (n + 1) (gpZ M x m)) = 6 * (m : Int) + n := by simp only [foZ]; exact if_pos (by omega)
        refine xj_bipush F dX7_placeOf_43 (by decide) ?_
        refine x_iload_n F dX7_placeOf_45 rfl ?_
        refine xj_imul F dX7_placeOf_46 ?_
        refine x_iload F dX7_placeOf_47 rfl ?_
        refine xj_iadd F dX7_placeOf_49 ?_
        refine x_goto (tgt := 54) F dX7_placeOf_50 (by decide) ?_
        refine x_istore_n F dX7_placeOf_54 (by decide) ?_
        refine xj_iinc F dX7_placeOf_55 rfl ?_
        refine x_goto (tgt := 12) F dX7_placeOf_58 (by decide) ?_
        have g := ih (n + 1) (by omega) hex (by omega)
        rw [hst] at g
        exact g
set_option maxRecDepth 20000 in
theorem L_X7_placeOf {l : Launch} {E : xE} {x : Int} {M : xM} (hZ : okZ M) (hx : rg x) {Y : xY} (F : xFix E (xA E) Y cX7_placeOf yX7_placeOf.cls 5) (FR : xRet E Y (some FieldType.int) 0 0 (fun r' M'' => r' = vI (jI (gpZ M x 4)) ∧ M'' = M) (fun _ _ => False)) : ∀ (k : Nat) (m : Nat) (y : xV), m ≤ 4 → 4 - m < k → WP l E (xRm 2 0 0) (xA E) Y 0 0 4 [vA 68, vI (jI x), vI (jI (gpZ M x m)), vI (jI (m : Int)), y] [] M := by
  intro k
  induction k with
  | zero => intro m y hn hk; exact absurd hk (Nat.not_lt_zero _)
  | succ k ih =>
    intro m y hn hk
    refine x_iload_n F dX7_placeOf_4 rfl ?_
    refine xj_iconst F dX7_placeOf_5 ?_
    refine xj_icmp_ge (tgt := 67) F dX7_placeOf_6 (by decide) (by omega) (fun h_1 => ?_) (fun h_1 => ?_)
    · refine x_iload_n F dX7_placeOf_67 rfl ?_
      refine x_iret F FR dX7_placeOf_68 rfl (Nat.le_refl _) (Nat.le_refl _) ?_
      have e : m = 4 := by omega
      subst e
      exact ⟨rfl, rfl⟩
    · refine xj_iconst F dX7_placeOf_9 ?_
      refine x_istore F dX7_placeOf_10 (by decide) ?_
      refine L_X7_placeOf_12 (l := l) hZ hx (m := m) (by omega) F FR _ 0 (by have := hZ.1 (m : Int) (by omega) (by omega); omega) (fun w9 => ?_) (Nat.lt_succ_self _)
      refine xj_iinc F dX7_placeOf_61 rfl ?_
      refine x_goto (tgt := 4) F dX7_placeOf_64 (by decide) ?_
      exact ih (m + 1) w9 (by omega) (by omega)
set_option maxRecDepth 20000 in
theorem m_X7_placeOf {l : Launch} {E : xE} {x : Int} {M : xM} (hZ : okZ M) (hx : rg x) : XF l E 2 yX7_placeOf cX7_placeOf 5 (some FieldType.int) [vA 68, vI (jI x)] M (vI (jI (gpZ M x 4))) (M) := by
  refine xp_start (plainFor_of_name (by decide)) rfl (Nat.le_of_ble_eq_true rfl) ?_
  intro Y F FR
  refine xj_iconst F dX7_placeOf_0 ?_
  refine x_istore_n F dX7_placeOf_1 (by decide) ?_
  refine xj_iconst F dX7_placeOf_2 ?_
  refine x_istore_n F dX7_placeOf_3 (by decide) ?_
  exact L_X7_placeOf hZ hx F FR _ 0 vU (by omega) (Nat.lt_succ_self _)
