/-! THE MODEL, its looks: z the state's array (cell 69) -/
def zI (M : xM) (k : Int) : Int := (M.1 69 k.toNat).toInt
theorem rg_zI (M : xM) (k : Int) : rg (zI M k) := rg_of _
def okZ (M : xM) : Prop := (∀ r : Int, 0 ≤ r → r < 4 → 0 ≤ zI M r ∧ zI M r ≤ 6) ∧ (1 ≤ zI M 76 ∧ zI M 76 ≤ 6) ∧ (0 ≤ zI M 77 ∧ zI M 77 ≤ 1)
def hrB (M : xM) (r p rr pp : Int) : Bool := decide (p - zI M 76 ≤ pp ∧ ((rr = r ∧ pp < p) ∨ ((zI M 77 = 1 ∧ r < 3) ∧ rr = r + 1 ∧ pp ≤ p)))
def b01 (b : Bool) : Int := if b = true then 1 else 0
theorem b01_t {b : Bool} (h : b = true) : b01 b = 1 := if_pos h
theorem b01_f {b : Bool} (h : ¬ b = true) : b01 b = 0 := if_neg h
theorem b01_b (b : Bool) : 0 ≤ b01 b ∧ b01 b ≤ 1 := by unfold b01; split <;> omega
set_option maxRecDepth 20000 in
theorem m_X7_thrown {l : Launch} {E : xE} {M : xM} : XF l E 1 yX7_thrown cX7_thrown 1 (some FieldType.int) [vA 68] M (vI (jI (M.1 68 5).toInt)) (M) := by
  refine xp_start (plainFor_of_name (by decide)) rfl (Nat.le_of_ble_eq_true rfl) ?_
  intro Y F FR
  refine x_aload_n F dX7_thrown_0 rfl ?_
  refine xj_geti F flX7_40 rfl dX7_thrown_1 (by decide) (by decide) rfl (fun hg_1 => ?_)
  refine x_iret F FR dX7_thrown_4 rfl (Nat.le_refl _) (Nat.le_refl _) ?_
  exact ⟨rfl, rfl⟩
set_option maxRecDepth 20000 in
theorem m_X7_fails {l : Launch} {E : xE} {z : Int} {M : xM} : XF l E 1 yX7_fails cX7_fails 2 (some FieldType.int) [vA 68, vI (jI z)] M (vI (jI 0)) (upI M 68 5 (jI z)) := by
  refine xp_start (plainFor_of_name (by decide)) rfl (Nat.le_of_ble_eq_true rfl) ?_
  intro Y F FR
  refine x_aload_n F dX7_fails_0 rfl ?_
  refine x_iload_n F dX7_fails_1 rfl ?_
  refine x_puti F flX7_40 rfl dX7_fails_2 (by decide) (by decide) rfl fw7_5 rfl rfl ?_
  refine xj_iconst F dX7_fails_5 ?_
  refine x_iret F FR dX7_fails_6 rfl (Nat.le_refl _) (Nat.le_refl _) ?_
  exact ⟨rfl, rfl⟩
set_option maxRecDepth 20000 in
theorem m_X7_in {l : Launch} {E : xE} {a b e : Int} {M : xM} (ha : rg a) (hb : rg b) (he : rg e) : XF l E 1 yX7_in cX7_in 3 (some FieldType.boolean) [vI (jI a), vI (jI b), vI (jI e)] M (vI (jb (b ≤ a ∧ a ≤ e))) (M) := by
  refine xp_start (plainFor_of_name (by decide)) rfl (Nat.le_of_ble_eq_true rfl) ?_
  intro Y F FR
  refine x_iload_n F dX7_in_0 rfl ?_
  refine x_iload_n F dX7_in_1 rfl ?_
  refine xj_icmp_lt (tgt := 14) F dX7_in_2 (by decide) (by omega) (fun h_1 => ?_) (fun h_1 => ?_)
  · refine xj_iconst F dX7_in_14 ?_
    refine x_iret F FR dX7_in_15 rfl (Nat.le_refl _) (Nat.le_refl _) ?_
    first
      | exact ⟨by rw [jb_t (by omega)], rfl⟩
      | exact ⟨by rw [jb_f (by omega)], rfl⟩
  · refine x_iload_n F dX7_in_5 rfl ?_
    refine x_iload_n F dX7_in_6 rfl ?_
    refine xj_icmp_gt (tgt := 14) F dX7_in_7 (by decide) (by omega) (fun h_2 => ?_) (fun h_2 => ?_)
    · refine xj_iconst F dX7_in_14 ?_
      refine x_iret F FR dX7_in_15 rfl (Nat.le_refl _) (Nat.le_refl _) ?_
      first
        | exact ⟨by rw [jb_t (by omega)], rfl⟩
        | exact ⟨by rw [jb_f (by omega)], rfl⟩
    · refine xj_iconst F dX7_in_10 ?_
      refine x_goto (tgt := 15) F dX7_in_11 (by decide) ?_
      refine x_iret F FR dX7_in_15 rfl (Nat.le_refl _) (Nat.le_refl _) ?_
      first
        | exact ⟨by rw [jb_t (by omega)], rfl⟩
        | exact ⟨by rw [jb_f (by omega)], rfl⟩
set_option maxRecDepth 20000 in
theorem m_X7_isRow {l : Launch} {E : xE} {r : Int} {M : xM} (hr : rg r) : XF l E 2 yX7_isRow cX7_isRow 1 (some FieldType.boolean) [vI (jI r)] M (vI (jb (0 ≤ r ∧ r ≤ 3))) (M) := by
  refine xp_start (plainFor_of_name (by decide)) rfl (Nat.le_of_ble_eq_true rfl) ?_
  intro Y F FR
  refine x_iload_n F dX7_isRow_0 rfl ?_
  refine xj_iconst F dX7_isRow_1 ?_
  refine xj_iconst F dX7_isRow_2 ?_
  refine x_S3 F (m_X7_in (by first | assumption | omega | decide) (by first | assumption | omega | decide) (by first | assumption | omega | decide)) mlX7_44 msX7_in dX7_isRow_3 ⟨Nat.le_of_ble_eq_true rfl, Nat.le_of_ble_eq_true rfl⟩ ⟨Nat.zero_le _, Nat.zero_le _⟩ (Nat.le_of_ble_eq_true rfl) ?_
  refine x_iret F FR dX7_isRow_6 (jb_nar _) (Nat.le_refl _) (Nat.le_refl _) ?_
  exact ⟨rfl, rfl⟩
set_option maxRecDepth 20000 in
theorem m_X7_isHeight {l : Launch} {E : xE} {r : Int} {M : xM} (hr : rg r) : XF l E 2 yX7_isHeight cX7_isHeight 1 (some FieldType.boolean) [vI (jI r)] M (vI (jb (100 ≤ r ∧ r ≤ 220))) (M) := by
  refine xp_start (plainFor_of_name (by decide)) rfl (Nat.le_of_ble_eq_true rfl) ?_
  intro Y F FR
  refine x_iload_n F dX7_isHeight_0 rfl ?_
  refine xj_bipush F dX7_isHeight_1 (by decide) ?_
  refine xj_sipush F dX7_isHeight_3 (by decide) ?_
  refine x_S3 F (m_X7_in (by first | assumption | omega | decide) (by first | assumption | omega | decide) (by first | assumption | omega | decide)) mlX7_44 msX7_in dX7_isHeight_6 ⟨Nat.le_of_ble_eq_true rfl, Nat.le_of_ble_eq_true rfl⟩ ⟨Nat.zero_le _, Nat.zero_le _⟩ (Nat.le_of_ble_eq_true rfl) ?_
  refine x_iret F FR dX7_isHeight_9 (jb_nar _) (Nat.le_refl _) (Nat.le_refl _) ?_
  exact ⟨rfl, rfl⟩
set_option maxRecDepth 20000 in
theorem m_X7_isPlace {l : Launch} {E : xE} {r p : Int} {M : xM} (hZ : okZ M) (hr : rg r) (hp : rg p) : XF l E 3 yX7_isPlace cX7_isPlace 3 (some FieldType.boolean) [vA 68, vI (jI r), vI (jI p)] M (vI (jb ((0 ≤ r ∧ r ≤ 3) ∧ 0 ≤ p ∧ p < zI M r))) (M) := by
  refine xp_start (plainFor_of_name (by decide)) rfl (Nat.le_of_ble_eq_true rfl) ?_
  intro Y F FR
  have e0 : (M.1 69 (0 + r).toNat).toInt = zI M r := by rw [Int.zero_add]; rfl
  refine x_iload_n F dX7_isPlace_0 rfl ?_
  refine x_S1 F (m_X7_isRow (by first | assumption | omega | decide)) mlX7_48 msX7_isRow dX7_isPlace_1 ⟨Nat.le_of_ble_eq_true rfl, Nat.le_of_ble_eq_true rfl⟩ ⟨Nat.zero_le _, Nat.zero_le _⟩ (Nat.le_of_ble_eq_true rfl) ?_
  refine xb_if_eq (tgt := 29) F dX7_isPlace_4 (by decide) (fun h_1 => ?_) (fun h_1 => ?_)
  · refine xj_iconst F dX7_isPlace_29 ?_
    refine x_iret F FR dX7_isPlace_30 rfl (Nat.le_refl _) (Nat.le_refl _) ?_
    first
      | exact ⟨by rw [jb_t (by omega)], rfl⟩
      | exact ⟨by rw [jb_f (by omega)], rfl⟩
  · have hz := hZ.1 r (by omega) (by omega)
    refine x_iload_n F dX7_isPlace_7 rfl ?_
    refine xj_iconst F dX7_isPlace_8 ?_
    refine x_aload_n F dX7_isPlace_9 rfl ?_
    refine x_getc (v := 69) F flX7_7 rfl dX7_isPlace_10 (by decide) (by decide) rfl rfl ?_
    refine xj_iconst F dX7_isPlace_13 ?_
    refine x_iload_n F dX7_isPlace_14 rfl ?_
    refine xj_iadd F dX7_isPlace_15 ?_
    refine xj_lald2 F rfl dX7_isPlace_16 (by omega) (fun hg_2 => ?_)
    refine xj_iconst F dX7_isPlace_17 ?_
    refine xj_isub F dX7_isPlace_18 ?_
    refine x_S3 F (m_X7_in (by first | assumption | omega | decide) (by first | assumption | omega | decide) (by first | assumption | omega | decide)) mlX7_44 msX7_in dX7_isPlace_19 ⟨Nat.le_of_ble_eq_true rfl, Nat.le_of_ble_eq_true rfl⟩ ⟨Nat.zero_le _, Nat.zero_le _⟩ (Nat.le_of_ble_eq_true rfl) ?_
    refine xb_if_eq (tgt := 29) F dX7_isPlace_22 (by decide) (fun h_3 => ?_) (fun h_3 => ?_)
    · refine xj_iconst F dX7_isPlace_29 ?_
      refine x_iret F FR dX7_isPlace_30 rfl (Nat.le_refl _) (Nat.le_refl _) ?_
      first
        | exact ⟨by rw [jb_t (by omega)], rfl⟩
        | exact ⟨by rw [jb_f (by omega)], rfl⟩
    · refine xj_iconst F dX7_isPlace_25 ?_
      refine x_goto (tgt := 30) F dX7_isPlace_26 (by decide) ?_
      refine x_iret F FR dX7_isPlace_30 rfl (Nat.le_refl _) (Nat.le_refl _) ?_
      first
        | exact ⟨by rw [jb_t (by omega)], rfl⟩
        | exact ⟨by rw [jb_f (by omega)], rfl⟩
set_option maxRecDepth 20000 in
theorem m_X7_hasRoom {l : Launch} {E : xE} {r : Int} {M : xM} (hr : 0 ≤ r ∧ r < 4) : XF l E 1 yX7_hasRoom cX7_hasRoom 2 (some FieldType.boolean) [vA 68, vI (jI r)] M (vI (jb (zI M r < 6 ∧ zI M 78 < 999))) (M) := by
  refine xp_start (plainFor_of_name (by decide)) rfl (Nat.le_of_ble_eq_true rfl) ?_
  intro Y F FR
  have e0 : (M.1 69 (0 + r).toNat).toInt = zI M r := by rw [Int.zero_add]; rfl
  have e1 : (M.1 69 (78 : Int).toNat).toInt = zI M 78 := rfl
  refine x_aload_n F dX7_hasRoom_0 rfl ?_
  refine x_getc (v := 69) F flX7_7 rfl dX7_hasRoom_1 (by decide) (by decide) rfl rfl ?_
  refine xj_iconst F dX7_hasRoom_4 ?_
  refine x_iload_n F dX7_hasRoom_5 rfl ?_
  refine xj_iadd F dX7_hasRoom_6 ?_
  refine xj_lald2 F rfl dX7_hasRoom_7 (by omega) (fun hg_1 => ?_)
  refine xj_bipush F dX7_hasRoom_8 (by decide) ?_
  refine xj_icmp_ge (tgt := 30) F dX7_hasRoom_10 (by decide) (by omega) (fun h_2 => ?_) (fun h_2 => ?_)
  · refine xj_iconst F dX7_hasRoom_30 ?_
    refine x_iret F FR dX7_hasRoom_31 rfl (Nat.le_refl _) (Nat.le_refl _) ?_
    first
      | exact ⟨by rw [jb_t (by omega)], rfl⟩
      | exact ⟨by rw [jb_f (by omega)], rfl⟩
  · refine x_aload_n F dX7_hasRoom_13 rfl ?_
    refine x_getc (v := 69) F flX7_7 rfl dX7_hasRoom_14 (by decide) (by decide) rfl rfl ?_
    refine xj_bipush F dX7_hasRoom_17 (by decide) ?_
    refine xj_lald2 F rfl dX7_hasRoom_19 (by omega) (fun hg_3 => ?_)
    refine xj_sipush F dX7_hasRoom_20 (by decide) ?_
    refine xj_icmp_ge (tgt := 30) F dX7_hasRoom_23 (by decide) (by omega) (fun h_4 => ?_) (fun h_4 => ?_)
    · refine xj_iconst F dX7_hasRoom_30 ?_
      refine x_iret F FR dX7_hasRoom_31 rfl (Nat.le_refl _) (Nat.le_refl _) ?_
      first
        | exact ⟨by rw [jb_t (by omega)], rfl⟩
        | exact ⟨by rw [jb_f (by omega)], rfl⟩
    · refine xj_iconst F dX7_hasRoom_26 ?_
      refine x_goto (tgt := 31) F dX7_hasRoom_27 (by decide) ?_
      refine x_iret F FR dX7_hasRoom_31 rfl (Nat.le_refl _) (Nat.le_refl _) ?_
      first
        | exact ⟨by rw [jb_t (by omega)], rfl⟩
        | exact ⟨by rw [jb_f (by omega)], rfl⟩
set_option maxRecDepth 20000 in
theorem m_X7_singers {l : Launch} {E : xE} {M : xM} : XF l E 1 yX7_singers cX7_singers 1 (some FieldType.int) [vA 68] M (vI (jI (zI M 0 + zI M 1 + zI M 2 + zI M 3))) (M) := by
  refine xp_start (plainFor_of_name (by decide)) rfl (Nat.le_of_ble_eq_true rfl) ?_
  intro Y F FR
  refine x_aload_n F dX7_singers_0 rfl ?_
  refine x_getc (v := 69) F flX7_7 rfl dX7_singers_1 (by decide) (by decide) rfl rfl ?_
  refine xj_iconst F dX7_singers_4 ?_
  refine xj_lald2 F rfl dX7_singers_5 (by omega) (fun hg_1 => ?_)
  refine x_aload_n F dX7_singers_6 rfl ?_
  refine x_getc (v := 69) F flX7_7 rfl dX7_singers_7 (by decide) (by decide) rfl rfl ?_
  refine xj_iconst F dX7_singers_10 ?_
  refine xj_lald2 F rfl dX7_singers_11 (by omega) (fun hg_2 => ?_)
  refine xj_iadd F dX7_singers_12 ?_
  refine x_aload_n F dX7_singers_13 rfl ?_
  refine x_getc (v := 69) F flX7_7 rfl dX7_singers_14 (by decide) (by decide) rfl rfl ?_
  refine xj_iconst F dX7_singers_17 ?_
  refine xj_lald2 F rfl dX7_singers_18 (by omega) (fun hg_3 => ?_)
  refine xj_iadd F dX7_singers_19 ?_
  refine x_aload_n F dX7_singers_20 rfl ?_
  refine x_getc (v := 69) F flX7_7 rfl dX7_singers_21 (by decide) (by decide) rfl rfl ?_
  refine xj_iconst F dX7_singers_24 ?_
  refine xj_lald2 F rfl dX7_singers_25 (by omega) (fun hg_4 => ?_)
  refine xj_iadd F dX7_singers_26 ?_
  refine x_iret F FR dX7_singers_27 rfl (Nat.le_refl _) (Nat.le_refl _) ?_
  exact ⟨rfl, rfl⟩
set_option maxRecDepth 20000 in
theorem m_X7_heightAt {l : Launch} {E : xE} {r p : Int} {M : xM} (hr : 0 ≤ r ∧ r < 4) (hp : 0 ≤ p ∧ p < 6) : XF l E 1 yX7_heightAt cX7_heightAt 3 (some FieldType.int) [vA 68, vI (jI r), vI (jI p)] M (vI (jI (zI M (28 + 6 * r + p)))) (M) := by
  refine xp_start (plainFor_of_name (by decide)) rfl (Nat.le_of_ble_eq_true rfl) ?_
  intro Y F FR
  refine x_aload_n F dX7_heightAt_0 rfl ?_
  refine x_getc (v := 69) F flX7_7 rfl dX7_heightAt_1 (by decide) (by decide) rfl rfl ?_
  refine xj_bipush F dX7_heightAt_4 (by decide) ?_
  refine xj_bipush F dX7_heightAt_6 (by decide) ?_
  refine x_iload_n F dX7_heightAt_8 rfl ?_
  refine xj_imul F dX7_heightAt_9 ?_
  refine xj_iadd F dX7_heightAt_10 ?_
  refine x_iload_n F dX7_heightAt_11 rfl ?_
  refine xj_iadd F dX7_heightAt_12 ?_
  refine xj_lald2 F rfl dX7_heightAt_13 (by omega) (fun hg_1 => ?_)
  refine x_iret F FR dX7_heightAt_14 rfl (Nat.le_refl _) (Nat.le_refl _) ?_
  exact ⟨rfl, rfl⟩
set_option maxRecDepth 20000 in
theorem m_X7_hearsBehind {l : Launch} {E : xE} {r : Int} {M : xM} (hr : rg r) : XF l E 1 yX7_hearsBehind cX7_hearsBehind 2 (some FieldType.boolean) [vA 68, vI (jI r)] M (vI (jb (zI M 77 = 1 ∧ r < 3))) (M) := by
  refine xp_start (plainFor_of_name (by decide)) rfl (Nat.le_of_ble_eq_true rfl) ?_
  intro Y F FR
  have e1 : (M.1 69 (77 : Int).toNat).toInt = zI M 77 := rfl
  refine x_aload_n F dX7_hearsBehind_0 rfl ?_
  refine x_getc (v := 69) F flX7_7 rfl dX7_hearsBehind_1 (by decide) (by decide) rfl rfl ?_
  refine xj_bipush F dX7_hearsBehind_4 (by decide) ?_
  refine xj_lald2 F rfl dX7_hearsBehind_6 (by omega) (fun hg_1 => ?_)
  refine xj_iconst F dX7_hearsBehind_7 ?_
  refine xj_icmp_ne (tgt := 20) F dX7_hearsBehind_8 (by decide) (by omega) (fun h_2 => ?_) (fun h_2 => ?_)
  · refine xj_iconst F dX7_hearsBehind_20 ?_
    refine x_iret F FR dX7_hearsBehind_21 rfl (Nat.le_refl _) (Nat.le_refl _) ?_
    first
      | exact ⟨by rw [jb_t (by omega)], rfl⟩
      | exact ⟨by rw [jb_f (by omega)], rfl⟩
  · refine x_iload_n F dX7_hearsBehind_11 rfl ?_
    refine xj_iconst F dX7_hearsBehind_12 ?_
    refine xj_icmp_ge (tgt := 20) F dX7_hearsBehind_13 (by decide) (by omega) (fun h_3 => ?_) (fun h_3 => ?_)
    · refine xj_iconst F dX7_hearsBehind_20 ?_
      refine x_iret F FR dX7_hearsBehind_21 rfl (Nat.le_refl _) (Nat.le_refl _) ?_
      first
        | exact ⟨by rw [jb_t (by omega)], rfl⟩
        | exact ⟨by rw [jb_f (by omega)], rfl⟩
    · refine xj_iconst F dX7_hearsBehind_16 ?_
      refine x_goto (tgt := 21) F dX7_hearsBehind_17 (by decide) ?_
      refine x_iret F FR dX7_hearsBehind_21 rfl (Nat.le_refl _) (Nat.le_refl _) ?_
      first
        | exact ⟨by rw [jb_t (by omega)], rfl⟩
        | exact ⟨by rw [jb_f (by omega)], rfl⟩
set_option maxRecDepth 20000 in
theorem m_X7_hears {l : Launch} {E : xE} {r p rr pp : Int} {M : xM} (hZ : okZ M) (hr : 0 ≤ r ∧ r < 4) (hp : 0 ≤ p ∧ p < 6) (hrr : 0 ≤ rr ∧ rr < 4) (hpp : 0 ≤ pp ∧ pp < 6) : XF l E 2 yX7_hears cX7_hears 6 (some FieldType.boolean) [vA 68, vI (jI r), vI (jI p), vI (jI rr), vI (jI pp)] M (vI (jb (hrB M r p rr pp = true))) (M) := by
  refine xp_start (plainFor_of_name (by decide)) rfl (Nat.le_of_ble_eq_true rfl) ?_
  intro Y F FR
  have e1 : (M.1 69 (76 : Int).toNat).toInt = zI M 76 := rfl
  have h76 := hZ.2.1
  have hdef : hrB M r p rr pp = true ↔ (p - zI M 76 ≤ pp ∧ ((rr = r ∧ pp < p) ∨ ((zI M 77 = 1 ∧ r < 3) ∧ rr = r + 1 ∧ pp ≤ p))) := decide_eq_true_iff
  refine x_iload F dX7_hears_0 rfl ?_
  refine x_iload_n F dX7_hears_2 rfl ?_
  refine x_aload_n F dX7_hears_3 rfl ?_
  refine x_getc (v := 69) F flX7_7 rfl dX7_hears_4 (by decide) (by decide) rfl rfl ?_
  refine xj_bipush F dX7_hears_7 (by decide) ?_
  refine xj_lald2 F rfl dX7_hears_9 (by omega) (fun hg_1 => ?_)
  refine xj_isub F dX7_hears_10 ?_
  refine xj_icmp_lt (tgt := 18) F dX7_hears_11 (by decide) (by omega) (fun h_2 => ?_) (fun h_2 => ?_)
  · refine xj_iconst F dX7_hears_18 ?_
    refine x_istore F dX7_hears_19 (by decide) ?_
    refine x_iload F dX7_hears_21 rfl ?_
    refine xj_if_eq (tgt := 62) F dX7_hears_23 (by decide) (by omega) (fun h_3 => ?_) (fun h_3 => ?_)
    · refine xj_iconst F dX7_hears_62 ?_
      refine x_iret F FR dX7_hears_63 rfl (Nat.le_refl _) (Nat.le_refl _) ?_
      first
        | exact ⟨congrArg vI (jb_t (hdef.mpr (by omega))).symm, rfl⟩
        | exact ⟨congrArg vI (jb_f (fun z => absurd (hdef.mp z) (by omega))).symm, rfl⟩
    · refine x_iload_n F dX7_hears_26 rfl ?_
      refine x_iload_n F dX7_hears_27 rfl ?_
      refine xj_icmp_ne (tgt := 37) F dX7_hears_28 (by decide) (by omega) (fun h_4 => ?_) (fun h_4 => ?_)
      · refine x_aload_n F dX7_hears_37 rfl ?_
        refine x_iload_n F dX7_hears_38 rfl ?_
        refine x_V1 F (m_X7_hearsBehind (by first | assumption | omega | decide)) mlX7_70 mvX7_hearsBehind rfl dX7_hears_39 (by decide) rfl ⟨Nat.le_of_ble_eq_true rfl, Nat.le_of_ble_eq_true rfl⟩ ⟨Nat.zero_le _, Nat.zero_le _⟩ (Nat.le_of_ble_eq_true rfl) ?_
        refine xb_if_eq (tgt := 62) F dX7_hears_42 (by decide) (fun h_5 => ?_) (fun h_5 => ?_)
        · refine xj_iconst F dX7_hears_62 ?_
          refine x_iret F FR dX7_hears_63 rfl (Nat.le_refl _) (Nat.le_refl _) ?_
          first
            | exact ⟨congrArg vI (jb_t (hdef.mpr (by omega))).symm, rfl⟩
            | exact ⟨congrArg vI (jb_f (fun z => absurd (hdef.mp z) (by omega))).symm, rfl⟩
        · refine x_iload_n F dX7_hears_45 rfl ?_
          refine x_iload_n F dX7_hears_46 rfl ?_
          refine xj_iconst F dX7_hears_47 ?_
          refine xj_iadd F dX7_hears_48 ?_
          refine xj_icmp_ne (tgt := 62) F dX7_hears_49 (by decide) (by omega) (fun h_6 => ?_) (fun h_6 => ?_)
          · refine xj_iconst F dX7_hears_62 ?_
            refine x_iret F FR dX7_hears_63 rfl (Nat.le_refl _) (Nat.le_refl _) ?_
            first
              | exact ⟨congrArg vI (jb_t (hdef.mpr (by omega))).symm, rfl⟩
              | exact ⟨congrArg vI (jb_f (fun z => absurd (hdef.mp z) (by omega))).symm, rfl⟩
          · refine x_iload F dX7_hears_52 rfl ?_
            refine x_iload_n F dX7_hears_54 rfl ?_
            refine xj_icmp_gt (tgt := 62) F dX7_hears_55 (by decide) (by omega) (fun h_7 => ?_) (fun h_7 => ?_)
            · refine xj_iconst F dX7_hears_62 ?_
              refine x_iret F FR dX7_hears_63 rfl (Nat.le_refl _) (Nat.le_refl _) ?_
              first
                | exact ⟨congrArg vI (jb_t (hdef.mpr (by omega))).symm, rfl⟩
                | exact ⟨congrArg vI (jb_f (fun z => absurd (hdef.mp z) (by omega))).symm, rfl⟩
            · refine xj_iconst F dX7_hears_58 ?_
              refine x_goto (tgt := 63) F dX7_hears_59 (by decide) ?_
              refine x_iret F FR dX7_hears_63 rfl (Nat.le_refl _) (Nat.le_refl _) ?_
              first
                | exact ⟨congrArg vI (jb_t (hdef.mpr (by omega))).symm, rfl⟩
                | exact ⟨congrArg vI (jb_f (fun z => absurd (hdef.mp z) (by omega))).symm, rfl⟩
      · refine x_iload F dX7_hears_31 rfl ?_
        refine x_iload_n F dX7_hears_33 rfl ?_
        refine xj_icmp_lt (tgt := 58) F dX7_hears_34 (by decide) (by omega) (fun h_8 => ?_) (fun h_8 => ?_)
        · refine xj_iconst F dX7_hears_58 ?_
          refine x_goto (tgt := 63) F dX7_hears_59 (by decide) ?_
          refine x_iret F FR dX7_hears_63 rfl (Nat.le_refl _) (Nat.le_refl _) ?_
          first
            | exact ⟨congrArg vI (jb_t (hdef.mpr (by omega))).symm, rfl⟩
            | exact ⟨congrArg vI (jb_f (fun z => absurd (hdef.mp z) (by omega))).symm, rfl⟩
        · refine x_aload_n F dX7_hears_37 rfl ?_
          refine x_iload_n F dX7_hears_38 rfl ?_
          refine x_V1 F (m_X7_hearsBehind (by first | assumption | omega | decide)) mlX7_70 mvX7_hearsBehind rfl dX7_hears_39 (by decide) rfl ⟨Nat.le_of_ble_eq_true rfl, Nat.le_of_ble_eq_true rfl⟩ ⟨Nat.zero_le _, Nat.zero_le _⟩ (Nat.le_of_ble_eq_true rfl) ?_
          refine xb_if_eq (tgt := 62) F dX7_hears_42 (by decide) (fun h_9 => ?_) (fun h_9 => ?_)
          · refine xj_iconst F dX7_hears_62 ?_
            refine x_iret F FR dX7_hears_63 rfl (Nat.le_refl _) (Nat.le_refl _) ?_
            first
              | exact ⟨congrArg vI (jb_t (hdef.mpr (by omega))).symm, rfl⟩
              | exact ⟨congrArg vI (jb_f (fun z => absurd (hdef.mp z) (by omega))).symm, rfl⟩
          · refine x_iload_n F dX7_hears_45 rfl ?_
            refine x_iload_n F dX7_hears_46 rfl ?_
            refine xj_iconst F dX7_hears_47 ?_
            refine xj_iadd F dX7_hears_48 ?_
            refine xj_icmp_ne (tgt := 62) F dX7_hears_49 (by decide) (by omega) (fun h_10 => ?_) (fun h_10 => ?_)
            · refine xj_iconst F dX7_hears_62 ?_
              refine x_iret F FR dX7_hears_63 rfl (Nat.le_refl _) (Nat.le_refl _) ?_
              first
                | exact ⟨congrArg vI (jb_t (hdef.mpr (by omega))).symm, rfl⟩
                | exact ⟨congrArg vI (jb_f (fun z => absurd (hdef.mp z) (by omega))).symm, rfl⟩
            · refine x_iload F dX7_hears_52 rfl ?_
              refine x_iload_n F dX7_hears_54 rfl ?_
              refine xj_icmp_gt (tgt := 62) F dX7_hears_55 (by decide) (by omega) (fun h_11 => ?_) (fun h_11 => ?_)
              · refine xj_iconst F dX7_hears_62 ?_
                refine x_iret F FR dX7_hears_63 rfl (Nat.le_refl _) (Nat.le_refl _) ?_
                first
                  | exact ⟨congrArg vI (jb_t (hdef.mpr (by omega))).symm, rfl⟩
                  | exact ⟨congrArg vI (jb_f (fun z => absurd (hdef.mp z) (by omega))).symm, rfl⟩
              · refine xj_iconst F dX7_hears_58 ?_
                refine x_goto (tgt := 63) F dX7_hears_59 (by decide) ?_
                refine x_iret F FR dX7_hears_63 rfl (Nat.le_refl _) (Nat.le_refl _) ?_
                first
                  | exact ⟨congrArg vI (jb_t (hdef.mpr (by omega))).symm, rfl⟩
                  | exact ⟨congrArg vI (jb_f (fun z => absurd (hdef.mp z) (by omega))).symm, rfl⟩
  · refine xj_iconst F dX7_hears_14 ?_
    refine x_goto (tgt := 19) F dX7_hears_15 (by decide) ?_
    refine x_istore F dX7_hears_19 (by decide) ?_
    refine x_iload F dX7_hears_21 rfl ?_
    refine xj_if_eq (tgt := 62) F dX7_hears_23 (by decide) (by omega) (fun h_12 => ?_) (fun h_12 => ?_)
    · refine xj_iconst F dX7_hears_62 ?_
      refine x_iret F FR dX7_hears_63 rfl (Nat.le_refl _) (Nat.le_refl _) ?_
      first
        | exact ⟨congrArg vI (jb_t (hdef.mpr (by omega))).symm, rfl⟩
        | exact ⟨congrArg vI (jb_f (fun z => absurd (hdef.mp z) (by omega))).symm, rfl⟩
    · refine x_iload_n F dX7_hears_26 rfl ?_
      refine x_iload_n F dX7_hears_27 rfl ?_
      refine xj_icmp_ne (tgt := 37) F dX7_hears_28 (by decide) (by omega) (fun h_13 => ?_) (fun h_13 => ?_)
      · refine x_aload_n F dX7_hears_37 rfl ?_
        refine x_iload_n F dX7_hears_38 rfl ?_
        refine x_V1 F (m_X7_hearsBehind (by first | assumption | omega | decide)) mlX7_70 mvX7_hearsBehind rfl dX7_hears_39 (by decide) rfl ⟨Nat.le_of_ble_eq_true rfl, Nat.le_of_ble_eq_true rfl⟩ ⟨Nat.zero_le _, Nat.zero_le _⟩ (Nat.le_of_ble_eq_true rfl) ?_
        refine xb_if_eq (tgt := 62) F dX7_hears_42 (by decide) (fun h_14 => ?_) (fun h_14 => ?_)
        · refine xj_iconst F dX7_hears_62 ?_
          refine x_iret F FR dX7_hears_63 rfl (Nat.le_refl _) (Nat.le_refl _) ?_
          first
            | exact ⟨congrArg vI (jb_t (hdef.mpr (by omega))).symm, rfl⟩
            | exact ⟨congrArg vI (jb_f (fun z => absurd (hdef.mp z) (by omega))).symm, rfl⟩
        · refine x_iload_n F dX7_hears_45 rfl ?_
          refine x_iload_n F dX7_hears_46 rfl ?_
          refine xj_iconst F dX7_hears_47 ?_
          refine xj_iadd F dX7_hears_48 ?_
          refine xj_icmp_ne (tgt := 62) F dX7_hears_49 (by decide) (by omega) (fun h_15 => ?_) (fun h_15 => ?_)
          · refine xj_iconst F dX7_hears_62 ?_
            refine x_iret F FR dX7_hears_63 rfl (Nat.le_refl _) (Nat.le_refl _) ?_
            first
              | exact ⟨congrArg vI (jb_t (hdef.mpr (by omega))).symm, rfl⟩
              | exact ⟨congrArg vI (jb_f (fun z => absurd (hdef.mp z) (by omega))).symm, rfl⟩
          · refine x_iload F dX7_hears_52 rfl ?_
            refine x_iload_n F dX7_hears_54 rfl ?_
            refine xj_icmp_gt (tgt := 62) F dX7_hears_55 (by decide) (by omega) (fun h_16 => ?_) (fun h_16 => ?_)
            · refine xj_iconst F dX7_hears_62 ?_
              refine x_iret F FR dX7_hears_63 rfl (Nat.le_refl _) (Nat.le_refl _) ?_
              first
                | exact ⟨congrArg vI (jb_t (hdef.mpr (by omega))).symm, rfl⟩
                | exact ⟨congrArg vI (jb_f (fun z => absurd (hdef.mp z) (by omega))).symm, rfl⟩
            · refine xj_iconst F dX7_hears_58 ?_
              refine x_goto (tgt := 63) F dX7_hears_59 (by decide) ?_
              refine x_iret F FR dX7_hears_63 rfl (Nat.le_refl _) (Nat.le_refl _) ?_
              first
                | exact ⟨congrArg vI (jb_t (hdef.mpr (by omega))).symm, rfl⟩
                | exact ⟨congrArg vI (jb_f (fun z => absurd (hdef.mp z) (by omega))).symm, rfl⟩
      · refine x_iload F dX7_hears_31 rfl ?_
        refine x_iload_n F dX7_hears_33 rfl ?_
        refine xj_icmp_lt (tgt := 58) F dX7_hears_34 (by decide) (by omega) (fun h_17 => ?_) (fun h_17 => ?_)
        · refine xj_iconst F dX7_hears_58 ?_
          refine x_goto (tgt := 63) F dX7_hears_59 (by decide) ?_
          refine x_iret F FR dX7_hears_63 rfl (Nat.le_refl _) (Nat.le_refl _) ?_
          first
            | exact ⟨congrArg vI (jb_t (hdef.mpr (by omega))).symm, rfl⟩
            | exact ⟨congrArg vI (jb_f (fun z => absurd (hdef.mp z) (by omega))).symm, rfl⟩
        · refine x_aload_n F dX7_hears_37 rfl ?_
          refine x_iload_n F dX7_hears_38 rfl ?_
          refine x_V1 F (m_X7_hearsBehind (by first | assumption | omega | decide)) mlX7_70 mvX7_hearsBehind rfl dX7_hears_39 (by decide) rfl ⟨Nat.le_of_ble_eq_true rfl, Nat.le_of_ble_eq_true rfl⟩ ⟨Nat.zero_le _, Nat.zero_le _⟩ (Nat.le_of_ble_eq_true rfl) ?_
          refine xb_if_eq (tgt := 62) F dX7_hears_42 (by decide) (fun h_18 => ?_) (fun h_18 => ?_)
          · refine xj_iconst F dX7_hears_62 ?_
            refine x_iret F FR dX7_hears_63 rfl (Nat.le_refl _) (Nat.le_refl _) ?_
            first
              | exact ⟨congrArg vI (jb_t (hdef.mpr (by omega))).symm, rfl⟩
              | exact ⟨congrArg vI (jb_f (fun z => absurd (hdef.mp z) (by omega))).symm, rfl⟩
          · refine x_iload_n F dX7_hears_45 rfl ?_
            refine x_iload_n F dX7_hears_46 rfl ?_
            refine xj_iconst F dX7_hears_47 ?_
            refine xj_iadd F dX7_hears_48 ?_
            refine xj_icmp_ne (tgt := 62) F dX7_hears_49 (by decide) (by omega) (fun h_19 => ?_) (fun h_19 => ?_)
            · refine xj_iconst F dX7_hears_62 ?_
              refine x_iret F FR dX7_hears_63 rfl (Nat.le_refl _) (Nat.le_refl _) ?_
              first
                | exact ⟨congrArg vI (jb_t (hdef.mpr (by omega))).symm, rfl⟩
                | exact ⟨congrArg vI (jb_f (fun z => absurd (hdef.mp z) (by omega))).symm, rfl⟩
            · refine x_iload F dX7_hears_52 rfl ?_
              refine x_iload_n F dX7_hears_54 rfl ?_
              refine xj_icmp_gt (tgt := 62) F dX7_hears_55 (by decide) (by omega) (fun h_20 => ?_) (fun h_20 => ?_)
              · refine xj_iconst F dX7_hears_62 ?_
                refine x_iret F FR dX7_hears_63 rfl (Nat.le_refl _) (Nat.le_refl _) ?_
                first
                  | exact ⟨congrArg vI (jb_t (hdef.mpr (by omega))).symm, rfl⟩
                  | exact ⟨congrArg vI (jb_f (fun z => absurd (hdef.mp z) (by omega))).symm, rfl⟩
              · refine xj_iconst F dX7_hears_58 ?_
                refine x_goto (tgt := 63) F dX7_hears_59 (by decide) ?_
                refine x_iret F FR dX7_hears_63 rfl (Nat.le_refl _) (Nat.le_refl _) ?_
                first
                  | exact ⟨congrArg vI (jb_t (hdef.mpr (by omega))).symm, rfl⟩
                  | exact ⟨congrArg vI (jb_f (fun z => absurd (hdef.mp z) (by omega))).symm, rfl⟩
def hdZ (M : xM) (r p : Int) : Int := sumI (fun rr => sumI (fun pp => b01 (hrB M r p rr pp)) (zI M rr).toNat) 4
def hsZ (M : xM) (r p : Int) : Int := sumI (fun rr => sumI (fun pp => b01 (hrB M rr pp r p)) (zI M rr).toNat) 4
def hiB (M : xM) (r p rr pp : Int) : Bool := hrB M r p rr pp && decide (zI M (28 + 6 * r + p) < zI M (28 + 6 * rr + pp))
theorem hiB_iff {M : xM} {r p rr pp : Int} : hiB M r p rr pp = true ↔ hrB M r p rr pp = true ∧ zI M (28 + 6 * r + p) < zI M (28 + 6 * rr + pp) := by unfold hiB; rw [Bool.and_eq_true, decide_eq_true_eq]
def hhZ (M : xM) (r p : Int) : Int := sumI (fun rr => sumI (fun pp => b01 (hiB M r p rr pp)) (zI M rr).toNat) 4
set_option maxRecDepth 20000 in
theorem L_X7_heard_14 {l : Launch} {E : xE} {r p : Int} {M : xM} (hZ : okZ M) (hr : 0 ≤ r ∧ r < 4) (hp : 0 ≤ p ∧ p < 6) {m : Nat} (hm : m < 4) {Y : xY} (F : xFix E (xA E) Y cX7_heard yX7_heard.cls 6) (FR : xRet E Y (some FieldType.int) 0 0 (fun r' M'' => r' = vI (jI (hdZ M r p)) ∧ M'' = M) (fun _ _ => False)) : ∀ (k : Nat) (n : Nat), (n : Int) ≤ zI M m → (∀ (w : xV), WP l E (xRm 3 0 0) (xA E) Y 0 0 55 [vA 68, vI (jI r), vI (jI p), vI (jI (sumI (fun rr => sumI (fun pp => b01 (hrB M r p rr pp)) (zI M rr).toNat) m + sumI (fun pp => b01 (hrB M r p ((m : Int)) pp)) (zI M (m : Int)).toNat)), vI (jI (m : Int)), w] [] M) → (zI M m - n).toNat < k → WP l E (xRm 3 0 0) (xA E) Y 0 0 14 [vA 68, vI (jI r), vI (jI p), vI (jI (sumI (fun rr => sumI (fun pp => b01 (hrB M r p rr pp)) (zI M rr).toNat) m + sumI (fun pp => b01 (hrB M r p ((m : Int)) pp)) n)), vI (jI (m : Int)), vI (jI (n : Int))] [] M := by
  intro k
  induction k with
  | zero => intro n hn hex hk; exact absurd hk (Nat.not_lt_zero _)
  | succ k ih =>
    intro n hn hex hk
    have hzm := hZ.1 (m : Int) (by omega) (by omega)
    have e0 : (M.1 69 (0 + (m : Int)).toNat).toInt = zI M m := by rw [Int.zero_add]; rfl
    refine x_iload F dX7_heard_14 rfl ?_
    refine x_aload_n F dX7_heard_16 rfl ?_
    refine x_getc (v := 69) F flX7_7 rfl dX7_heard_17 (by decide) (by decide) rfl rfl ?_
    refine xj_iconst F dX7_heard_20 ?_
    refine x_iload F dX7_heard_21 rfl ?_
    refine xj_iadd F dX7_heard_23 ?_
    refine xj_lald2 F rfl dX7_heard_24 (by omega) (fun hg_1 => ?_)
    refine xj_icmp_ge (tgt := 55) F dX7_heard_25 (by decide) (by omega) (fun h_2 => ?_) (fun h_2 => ?_)
    · have e : n = (zI M (m : Int)).toNat := by omega
      subst e
      exact hex _
    · refine x_iload_n F dX7_heard_28 rfl ?_
      refine x_aload_n F dX7_heard_29 rfl ?_
      refine x_iload_n F dX7_heard_30 rfl ?_
      refine x_iload_n F dX7_heard_31 rfl ?_
      refine x_iload F dX7_heard_32 rfl ?_
      refine x_iload F dX7_heard_34 rfl ?_
      refine x_V4 F (m_X7_hears (by first | assumption | omega | decide) (by first | assumption | omega | decide) (by first | assumption | omega | decide) (by first | assumption | omega | decide) (by first | assumption | omega | decide)) mlX7_73 mvX7_hears rfl dX7_heard_36 (by decide) rfl ⟨Nat.le_of_ble_eq_true rfl, Nat.le_of_ble_eq_true rfl⟩ ⟨Nat.zero_le _, Nat.zero_le _⟩ (Nat.le_of_ble_eq_true rfl) ?_
      refine xb_if_eq (tgt := 46) F dX7_heard_39 (by decide) (fun h_3 => ?_) (fun h_3 => ?_)
      · have hst : sumI (fun pp => b01 (hrB M r p ((m : Int)) pp)) (n + 1) = sumI (fun pp => b01 (hrB M r p ((m : Int)) pp)) n + 0 := by show sumI (fun pp => b01 (hrB M r p ((m : Int)) pp)) n + b01 (hrB M r p (m : Int) (n : Int)) = _; rw [b01_f (show ¬ hrB M r p (m : Int) (n : Int) = true from h_3)]
        refine xj_iconst F dX7_heard_46 ?_
        refine xj_iadd F dX7_heard_47 ?_
        refine x_istore_n F dX7_heard_48 (by decide) ?_
        refine xj_iinc F dX7_heard_49 rfl ?_
        refine x_goto (tgt := 14) F dX7_heard_52 (by decide) ?_
        have g := ih (n + 1) (by omega) hex (by omega)
        rw [hst, ← Int.add_assoc] at g
        exact g
      · have hst : sumI (fun pp => b01 (hrB M r p ((m : Int)) pp)) (n + 1) = sumI (fun pp => b01 (hrB M r p ((m : Int)) pp)) n + 1 := by show sumI (fun pp => b01 (hrB M r p ((m : Int)) pp)) n + b01 (hrB M r p (m : Int) (n : Int)) = _; rw [b01_t (show hrB M r p (m : Int) (n : Int) = true from h_3)]
        refine xj_iconst F dX7_heard_42 ?_
        refine x_goto (tgt := 47) F dX7_heard_43 (by decide) ?_
        refine xj_iadd F dX7_heard_47 ?_
        refine x_istore_n F dX7_heard_48 (by decide) ?_
        refine xj_iinc F dX7_heard_49 rfl ?_
        refine x_goto (tgt := 14) F dX7_heard_52 (by decide) ?_
        have g := ih (n + 1) (by omega) hex (by omega)
        rw [hst, ← Int.add_assoc] at g
        exact g
set_option maxRecDepth 20000 in
theorem L_X7_heard {l : Launch} {E : xE} {r p : Int} {M : xM} (hZ : okZ M) (hr : 0 ≤ r ∧ r < 4) (hp : 0 ≤ p ∧ p < 6) {Y : xY} (F : xFix E (xA E) Y cX7_heard yX7_heard.cls 6) (FR : xRet E Y (some FieldType.int) 0 0 (fun r' M'' => r' = vI (jI (hdZ M r p)) ∧ M'' = M) (fun _ _ => False)) : ∀ (k : Nat) (m : Nat) (y : xV), m ≤ 4 → 4 - m < k → WP l E (xRm 3 0 0) (xA E) Y 0 0 5 [vA 68, vI (jI r), vI (jI p), vI (jI (sumI (fun rr => sumI (fun pp => b01 (hrB M r p rr pp)) (zI M rr).toNat) m)), vI (jI (m : Int)), y] [] M := by
  intro k
  induction k with
  | zero => intro m y hn hk; exact absurd hk (Nat.not_lt_zero _)
  | succ k ih =>
    intro m y hn hk
    refine x_iload F dX7_heard_5 rfl ?_
    refine xj_iconst F dX7_heard_7 ?_
    refine xj_icmp_ge (tgt := 61) F dX7_heard_8 (by decide) (by omega) (fun h_1 => ?_) (fun h_1 => ?_)
    · refine x_iload_n F dX7_heard_61 rfl ?_
      refine x_iret F FR dX7_heard_62 rfl (Nat.le_refl _) (Nat.le_refl _) ?_
      have e : m = 4 := by omega
      subst e
      exact ⟨rfl, rfl⟩
    · refine xj_iconst F dX7_heard_11 ?_
      refine x_istore F dX7_heard_12 (by decide) ?_
      refine L_X7_heard_14 (l := l) hZ hr hp (m := m) (by omega) F FR _ 0 (by have := hZ.1 (m : Int) (by omega) (by omega); omega) (fun w9 => ?_) (Nat.lt_succ_self _) |> fun g => ?_
      · simp only [sumI, Int.add_zero] at g
        exact g
      · refine xj_iinc F dX7_heard_55 rfl ?_
        refine x_goto (tgt := 5) F dX7_heard_58 (by decide) ?_
        exact ih (m + 1) w9 (by omega) (by omega)
set_option maxRecDepth 20000 in
theorem m_X7_heard {l : Launch} {E : xE} {r p : Int} {M : xM} (hZ : okZ M) (hr : 0 ≤ r ∧ r < 4) (hp : 0 ≤ p ∧ p < 6) : XF l E 3 yX7_heard cX7_heard 6 (some FieldType.int) [vA 68, vI (jI r), vI (jI p)] M (vI (jI (hdZ M r p))) (M) := by
  refine xp_start (plainFor_of_name (by decide)) rfl (Nat.le_of_ble_eq_true rfl) ?_
  intro Y F FR
  refine xj_iconst F dX7_heard_0 ?_
  refine x_istore_n F dX7_heard_1 (by decide) ?_
  refine xj_iconst F dX7_heard_2 ?_
  refine x_istore F dX7_heard_3 (by decide) ?_
  exact L_X7_heard hZ hr hp F FR _ 0 vU (by omega) (Nat.lt_succ_self _)
set_option maxRecDepth 20000 in
theorem L_X7_hearers_14 {l : Launch} {E : xE} {r p : Int} {M : xM} (hZ : okZ M) (hr : 0 ≤ r ∧ r < 4) (hp : 0 ≤ p ∧ p < 6) {m : Nat} (hm : m < 4) {Y : xY} (F : xFix E (xA E) Y cX7_hearers yX7_hearers.cls 6) (FR : xRet E Y (some FieldType.int) 0 0 (fun r' M'' => r' = vI (jI (hsZ M r p)) ∧ M'' = M) (fun _ _ => False)) : ∀ (k : Nat) (n : Nat), (n : Int) ≤ zI M m → (∀ (w : xV), WP l E (xRm 3 0 0) (xA E) Y 0 0 55 [vA 68, vI (jI r), vI (jI p), vI (jI (sumI (fun rr => sumI (fun pp => b01 (hrB M rr pp r p)) (zI M rr).toNat) m + sumI (fun pp => b01 (hrB M ((m : Int)) pp r p)) (zI M (m : Int)).toNat)), vI (jI (m : Int)), w] [] M) → (zI M m - n).toNat < k → WP l E (xRm 3 0 0) (xA E) Y 0 0 14 [vA 68, vI (jI r), vI (jI p), vI (jI (sumI (fun rr => sumI (fun pp => b01 (hrB M rr pp r p)) (zI M rr).toNat) m + sumI (fun pp => b01 (hrB M ((m : Int)) pp r p)) n)), vI (jI (m : Int)), vI (jI (n : Int))] [] M := by
  intro k
  induction k with
  | zero => intro n hn hex hk; exact absurd hk (Nat.not_lt_zero _)
  | succ k ih =>
    intro n hn hex hk
    have hzm := hZ.1 (m : Int) (by omega) (by omega)
    have e0 : (M.1 69 (0 + (m : Int)).toNat).toInt = zI M m := by rw [Int.zero_add]; rfl
    refine x_iload F dX7_hearers_14 rfl ?_
    refine x_aload_n F dX7_hearers_16 rfl ?_
    refine x_getc (v := 69) F flX7_7 rfl dX7_hearers_17 (by decide) (by decide) rfl rfl ?_
    refine xj_iconst F dX7_hearers_20 ?_
    refine x_iload F dX7_hearers_21 rfl ?_
    refine xj_iadd F dX7_hearers_23 ?_
    refine xj_lald2 F rfl dX7_hearers_24 (by omega) (fun hg_1 => ?_)
    refine xj_icmp_ge (tgt := 55) F dX7_hearers_25 (by decide) (by omega) (fun h_2 => ?_) (fun h_2 => ?_)
    · have e : n = (zI M (m : Int)).toNat := by omega
      subst e
      exact hex _
    · refine x_iload_n F dX7_hearers_28 rfl ?_
      refine x_aload_n F dX7_hearers_29 rfl ?_
      refine x_iload F dX7_hearers_30 rfl ?_
      refine x_iload F dX7_hearers_32 rfl ?_
      refine x_iload_n F dX7_hearers_34 rfl ?_
      refine x_iload_n F dX7_hearers_35 rfl ?_
      refine x_V4 F (m_X7_hears (by first | assumption | omega | decide) (by first | assumption | omega | decide) (by first | assumption | omega | decide) (by first | assumption | omega | decide) (by first | assumption | omega | decide)) mlX7_73 mvX7_hears rfl dX7_hearers_36 (by decide) rfl ⟨Nat.le_of_ble_eq_true rfl, Nat.le_of_ble_eq_true rfl⟩ ⟨Nat.zero_le _, Nat.zero_le _⟩ (Nat.le_of_ble_eq_true rfl) ?_
      refine xb_if_eq (tgt := 46) F dX7_hearers_39 (by decide) (fun h_3 => ?_) (fun h_3 => ?_)
      · have hst : sumI (fun pp => b01 (hrB M ((m : Int)) pp r p)) (n + 1) = sumI (fun pp => b01 (hrB M ((m : Int)) pp r p)) n + 0 := by show sumI (fun pp => b01 (hrB M ((m : Int)) pp r p)) n + b01 (hrB M (m : Int) (n : Int) r p) = _; rw [b01_f (show ¬ hrB M (m : Int) (n : Int) r p = true from h_3)]
        refine xj_iconst F dX7_hearers_46 ?_
        refine xj_iadd F dX7_hearers_47 ?_
        refine x_istore_n F dX7_hearers_48 (by decide) ?_
        refine xj_iinc F dX7_hearers_49 rfl ?_
        refine x_goto (tgt := 14) F dX7_hearers_52 (by decide) ?_
        have g := ih (n + 1) (by omega) hex (by omega)
        rw [hst, ← Int.add_assoc] at g
        exact g
      · have hst : sumI (fun pp => b01 (hrB M ((m : Int)) pp r p)) (n + 1) = sumI (fun pp => b01 (hrB M ((m : Int)) pp r p)) n + 1 := by show sumI (fun pp => b01 (hrB M ((m : Int)) pp r p)) n + b01 (hrB M (m : Int) (n : Int) r p) = _; rw [b01_t (show hrB M (m : Int) (n : Int) r p = true from h_3)]
        refine xj_iconst F dX7_hearers_42 ?_
        refine x_goto (tgt := 47) F dX7_hearers_43 (by decide) ?_
        refine xj_iadd F dX7_hearers_47 ?_
        refine x_istore_n F dX7_hearers_48 (by decide) ?_
        refine xj_iinc F dX7_hearers_49 rfl ?_
        refine x_goto (tgt := 14) F dX7_hearers_52 (by decide) ?_
        have g := ih (n + 1) (by omega) hex (by omega)
        rw [hst, ← Int.add_assoc] at g
        exact g
set_option maxRecDepth 20000 in
theorem L_X7_hearers {l : Launch} {E : xE} {r p : Int} {M : xM} (hZ : okZ M) (hr : 0 ≤ r ∧ r < 4) (hp : 0 ≤ p ∧ p < 6) {Y : xY} (F : xFix E (xA E) Y cX7_hearers yX7_hearers.cls 6) (FR : xRet E Y (some FieldType.int) 0 0 (fun r' M'' => r' = vI (jI (hsZ M r p)) ∧ M'' = M) (fun _ _ => False)) : ∀ (k : Nat) (m : Nat) (y : xV), m ≤ 4 → 4 - m < k → WP l E (xRm 3 0 0) (xA E) Y 0 0 5 [vA 68, vI (jI r), vI (jI p), vI (jI (sumI (fun rr => sumI (fun pp => b01 (hrB M rr pp r p)) (zI M rr).toNat) m)), vI (jI (m : Int)), y] [] M := by
  intro k
  induction k with
  | zero => intro m y hn hk; exact absurd hk (Nat.not_lt_zero _)
  | succ k ih =>
    intro m y hn hk
    refine x_iload F dX7_hearers_5 rfl ?_
    refine xj_iconst F dX7_hearers_7 ?_
    refine xj_icmp_ge (tgt := 61) F dX7_hearers_8 (by decide) (by omega) (fun h_1 => ?_) (fun h_1 => ?_)
    · refine x_iload_n F dX7_hearers_61 rfl ?_
      refine x_iret F FR dX7_hearers_62 rfl (Nat.le_refl _) (Nat.le_refl _) ?_
      have e : m = 4 := by omega
      subst e
      exact ⟨rfl, rfl⟩
    · refine xj_iconst F dX7_hearers_11 ?_
      refine x_istore F dX7_hearers_12 (by decide) ?_
      refine L_X7_hearers_14 (l := l) hZ hr hp (m := m) (by omega) F FR _ 0 (by have := hZ.1 (m : Int) (by omega) (by omega); omega) (fun w9 => ?_) (Nat.lt_succ_self _) |> fun g => ?_
      · simp only [sumI, Int.add_zero] at g
        exact g
      · refine xj_iinc F dX7_hearers_55 rfl ?_
        refine x_goto (tgt := 5) F dX7_hearers_58 (by decide) ?_
        exact ih (m + 1) w9 (by omega) (by omega)
set_option maxRecDepth 20000 in
theorem m_X7_hearers {l : Launch} {E : xE} {r p : Int} {M : xM} (hZ : okZ M) (hr : 0 ≤ r ∧ r < 4) (hp : 0 ≤ p ∧ p < 6) : XF l E 3 yX7_hearers cX7_hearers 6 (some FieldType.int) [vA 68, vI (jI r), vI (jI p)] M (vI (jI (hsZ M r p))) (M) := by
  refine xp_start (plainFor_of_name (by decide)) rfl (Nat.le_of_ble_eq_true rfl) ?_
  intro Y F FR
  refine xj_iconst F dX7_hearers_0 ?_
  refine x_istore_n F dX7_hearers_1 (by decide) ?_
  refine xj_iconst F dX7_hearers_2 ?_
  refine x_istore F dX7_hearers_3 (by decide) ?_
  exact L_X7_hearers hZ hr hp F FR _ 0 vU (by omega) (Nat.lt_succ_self _)
set_option maxRecDepth 20000 in
theorem L_X7_higher_14 {l : Launch} {E : xE} {r p : Int} {M : xM} (hZ : okZ M) (hr : 0 ≤ r ∧ r < 4) (hp : 0 ≤ p ∧ p < 6) {m : Nat} (hm : m < 4) {Y : xY} (F : xFix E (xA E) Y cX7_higher yX7_higher.cls 6) (FR : xRet E Y (some FieldType.int) 0 0 (fun r' M'' => r' = vI (jI (hhZ M r p)) ∧ M'' = M) (fun _ _ => False)) : ∀ (k : Nat) (n : Nat), (n : Int) ≤ zI M m → (∀ (w : xV), WP l E (xRm 3 0 0) (xA E) Y 0 0 72 [vA 68, vI (jI r), vI (jI p), vI (jI (sumI (fun rr => sumI (fun pp => b01 (hiB M r p rr pp)) (zI M rr).toNat) m + sumI (fun pp => b01 (hiB M r p ((m : Int)) pp)) (zI M (m : Int)).toNat)), vI (jI (m : Int)), w] [] M) → (zI M m - n).toNat < k → WP l E (xRm 3 0 0) (xA E) Y 0 0 14 [vA 68, vI (jI r), vI (jI p), vI (jI (sumI (fun rr => sumI (fun pp => b01 (hiB M r p rr pp)) (zI M rr).toNat) m + sumI (fun pp => b01 (hiB M r p ((m : Int)) pp)) n)), vI (jI (m : Int)), vI (jI (n : Int))] [] M := by
  intro k
  induction k with
  | zero => intro n hn hex hk; exact absurd hk (Nat.not_lt_zero _)
  | succ k ih =>
    intro n hn hex hk
    have hzm := hZ.1 (m : Int) (by omega) (by omega)
    have e0 : (M.1 69 (0 + (m : Int)).toNat).toInt = zI M m := by rw [Int.zero_add]; rfl
    refine x_iload F dX7_higher_14 rfl ?_
    refine x_aload_n F dX7_higher_16 rfl ?_
    refine x_getc (v := 69) F flX7_7 rfl dX7_higher_17 (by decide) (by decide) rfl rfl ?_
    refine xj_iconst F dX7_higher_20 ?_
    refine x_iload F dX7_higher_21 rfl ?_
    refine xj_iadd F dX7_higher_23 ?_
    refine xj_lald2 F rfl dX7_higher_24 (by omega) (fun hg_1 => ?_)
    refine xj_icmp_ge (tgt := 72) F dX7_higher_25 (by decide) (by omega) (fun h_2 => ?_) (fun h_2 => ?_)
    · have e : n = (zI M (m : Int)).toNat := by omega
      subst e
      exact hex _
    · refine x_iload_n F dX7_higher_28 rfl ?_
      refine x_aload_n F dX7_higher_29 rfl ?_
      refine x_iload_n F dX7_higher_30 rfl ?_
      refine x_iload_n F dX7_higher_31 rfl ?_
      refine x_iload F dX7_higher_32 rfl ?_
      refine x_iload F dX7_higher_34 rfl ?_
      refine x_V4 F (m_X7_hears (by first | assumption | omega | decide) (by first | assumption | omega | decide) (by first | assumption | omega | decide) (by first | assumption | omega | decide) (by first | assumption | omega | decide)) mlX7_73 mvX7_hears rfl dX7_higher_36 (by decide) rfl ⟨Nat.le_of_ble_eq_true rfl, Nat.le_of_ble_eq_true rfl⟩ ⟨Nat.zero_le _, Nat.zero_le _⟩ (Nat.le_of_ble_eq_true rfl) ?_
      refine xb_if_eq (tgt := 63) F dX7_higher_39 (by decide) (fun h_3 => ?_) (fun h_3 => ?_)
      · have hst : sumI (fun pp => b01 (hiB M r p ((m : Int)) pp)) (n + 1) = sumI (fun pp => b01 (hiB M r p ((m : Int)) pp)) n + 0 := by show sumI (fun pp => b01 (hiB M r p ((m : Int)) pp)) n + b01 (hiB M r p (m : Int) (n : Int)) = _; rw [b01_f (show ¬ hiB M r p (m : Int) (n : Int) = true from fun z => h_3 (hiB_iff.mp z).1)]
        refine xj_iconst F dX7_higher_63 ?_
        refine xj_iadd F dX7_higher_64 ?_
        refine x_istore_n F dX7_higher_65 (by decide) ?_
        refine xj_iinc F dX7_higher_66 rfl ?_
        refine x_goto (tgt := 14) F dX7_higher_69 (by decide) ?_
        have g := ih (n + 1) (by omega) hex (by omega)
        rw [hst, ← Int.add_assoc] at g
        exact g
      · have hyes := h_3
        refine x_aload_n F dX7_higher_42 rfl ?_
        refine x_iload F dX7_higher_43 rfl ?_
        refine x_iload F dX7_higher_45 rfl ?_
        refine x_V2 F (m_X7_heightAt (by first | assumption | omega | decide) (by first | assumption | omega | decide)) mlX7_77 mvX7_heightAt rfl dX7_higher_47 (by decide) rfl ⟨Nat.le_of_ble_eq_true rfl, Nat.le_of_ble_eq_true rfl⟩ ⟨Nat.zero_le _, Nat.zero_le _⟩ (Nat.le_of_ble_eq_true rfl) ?_
        have hf_4 := rg_zI M (28 + 6 * (m : Int) + (n : Int))
        refine x_aload_n F dX7_higher_50 rfl ?_
        refine x_iload_n F dX7_higher_51 rfl ?_
        refine x_iload_n F dX7_higher_52 rfl ?_
        refine x_V2 F (m_X7_heightAt (by first | assumption | omega | decide) (by first | assumption | omega | decide)) mlX7_77 mvX7_heightAt rfl dX7_higher_53 (by decide) rfl ⟨Nat.le_of_ble_eq_true rfl, Nat.le_of_ble_eq_true rfl⟩ ⟨Nat.zero_le _, Nat.zero_le _⟩ (Nat.le_of_ble_eq_true rfl) ?_
        have hf_5 := rg_zI M (28 + 6 * r + p)
        refine xj_icmp_le (tgt := 63) F dX7_higher_56 (by decide) (by omega) (fun h_6 => ?_) (fun h_6 => ?_)
        · have hst : sumI (fun pp => b01 (hiB M r p ((m : Int)) pp)) (n + 1) = sumI (fun pp => b01 (hiB M r p ((m : Int)) pp)) n + 0 := by show sumI (fun pp => b01 (hiB M r p ((m : Int)) pp)) n + b01 (hiB M r p (m : Int) (n : Int)) = _; rw [b01_f (show ¬ hiB M r p (m : Int) (n : Int) = true from fun z => absurd (hiB_iff.mp z).2 (by omega))]
          refine xj_iconst F dX7_higher_63 ?_
          refine xj_iadd F dX7_higher_64 ?_
          refine x_istore_n F dX7_higher_65 (by decide) ?_
          refine xj_iinc F dX7_higher_66 rfl ?_
          refine x_goto (tgt := 14) F dX7_higher_69 (by decide) ?_
          have g := ih (n + 1) (by omega) hex (by omega)
          rw [hst, ← Int.add_assoc] at g
          exact g
        · have hst : sumI (fun pp => b01 (hiB M r p ((m : Int)) pp)) (n + 1) = sumI (fun pp => b01 (hiB M r p ((m : Int)) pp)) n + 1 := by show sumI (fun pp => b01 (hiB M r p ((m : Int)) pp)) n + b01 (hiB M r p (m : Int) (n : Int)) = _; rw [b01_t (show hiB M r p (m : Int) (n : Int) = true from hiB_iff.mpr ⟨hyes, by omega⟩)]
          refine xj_iconst F dX7_higher_59 ?_
          refine x_goto (tgt := 64) F dX7_higher_60 (by decide) ?_
          refine xj_iadd F dX7_higher_64 ?_
          refine x_istore_n F dX7_higher_65 (by decide) ?_
          refine xj_iinc F dX7_higher_66 rfl ?_
          refine x_goto (tgt := 14) F dX7_higher_69 (by decide) ?_
          have g := ih (n + 1) (by omega) hex (by omega)
          rw [hst, ← Int.add_assoc] at g
          exact g
set_option maxRecDepth 20000 in
theorem L_X7_higher {l : Launch} {E : xE} {r p : Int} {M : xM} (hZ : okZ M) (hr : 0 ≤ r ∧ r < 4) (hp : 0 ≤ p ∧ p < 6) {Y : xY} (F : xFix E (xA E) Y cX7_higher yX7_higher.cls 6) (FR : xRet E Y (some FieldType.int) 0 0 (fun r' M'' => r' = vI (jI (hhZ M r p)) ∧ M'' = M) (fun _ _ => False)) : ∀ (k : Nat) (m : Nat) (y : xV), m ≤ 4 → 4 - m < k → WP l E (xRm 3 0 0) (xA E) Y 0 0 5 [vA 68, vI (jI r), vI (jI p), vI (jI (sumI (fun rr => sumI (fun pp => b01 (hiB M r p rr pp)) (zI M rr).toNat) m)), vI (jI (m : Int)), y] [] M := by
  intro k
  induction k with
  | zero => intro m y hn hk; exact absurd hk (Nat.not_lt_zero _)
  | succ k ih =>
    intro m y hn hk
    refine x_iload F dX7_higher_5 rfl ?_
    refine xj_iconst F dX7_higher_7 ?_
    refine xj_icmp_ge (tgt := 78) F dX7_higher_8 (by decide) (by omega) (fun h_1 => ?_) (fun h_1 => ?_)
    · refine x_iload_n F dX7_higher_78 rfl ?_
      refine x_iret F FR dX7_higher_79 rfl (Nat.le_refl _) (Nat.le_refl _) ?_
      have e : m = 4 := by omega
      subst e
      exact ⟨rfl, rfl⟩
    · refine xj_iconst F dX7_higher_11 ?_
      refine x_istore F dX7_higher_12 (by decide) ?_
      refine L_X7_higher_14 (l := l) hZ hr hp (m := m) (by omega) F FR _ 0 (by have := hZ.1 (m : Int) (by omega) (by omega); omega) (fun w9 => ?_) (Nat.lt_succ_self _) |> fun g => ?_
      · simp only [sumI, Int.add_zero] at g
        exact g
      · refine xj_iinc F dX7_higher_72 rfl ?_
        refine x_goto (tgt := 5) F dX7_higher_75 (by decide) ?_
        exact ih (m + 1) w9 (by omega) (by omega)
set_option maxRecDepth 20000 in
theorem m_X7_higher {l : Launch} {E : xE} {r p : Int} {M : xM} (hZ : okZ M) (hr : 0 ≤ r ∧ r < 4) (hp : 0 ≤ p ∧ p < 6) : XF l E 3 yX7_higher cX7_higher 6 (some FieldType.int) [vA 68, vI (jI r), vI (jI p)] M (vI (jI (hhZ M r p))) (M) := by
  refine xp_start (plainFor_of_name (by decide)) rfl (Nat.le_of_ble_eq_true rfl) ?_
  intro Y F FR
  refine xj_iconst F dX7_higher_0 ?_
  refine x_istore_n F dX7_higher_1 (by decide) ?_
  refine xj_iconst F dX7_higher_2 ?_
  refine x_istore F dX7_higher_3 (by decide) ?_
  exact L_X7_higher hZ hr hp F FR _ 0 vU (by omega) (Nat.lt_succ_self _)
theorem hhZ_b {M : xM} (hZ : okZ M) (r p : Int) : 0 ≤ hhZ M r p ∧ hhZ M r p ≤ 24 := by
  unfold hhZ
  refine sumI_b (b := 6) 4 (fun i h0 h1 => ?_)
  have hz := hZ.1 i h0 (by omega)
  have := sumI_b (f := fun pp => b01 (hiB M r p i pp)) (b := 1) (zI M i).toNat (fun j _ _ => b01_b _)
  omega
def odZ (M : xM) (r : Int) : Int := sumI (fun p => hhZ M r p % 2) (zI M r).toNat
theorem odZ_b {M : xM} (hZ : okZ M) {r : Int} (hr : 0 ≤ r ∧ r < 4) : 0 ≤ odZ M r ∧ odZ M r ≤ 6 := by
  have hz := hZ.1 r hr.1 hr.2
  unfold odZ
  have := sumI_b (f := fun p => hhZ M r p % 2) (b := 1) (zI M r).toNat (fun j _ _ => by omega)
  omega
def oaZ (M : xM) : Int := odZ M 0 + odZ M 1 + odZ M 2 + odZ M 3
def dcZ (M : xM) (r : Int) : Int := sumI (fun p => sumI (fun q => b01 (decide (zI M (28 + 6 * r + p) < zI M (28 + 6 * r + q)))) p.toNat) (zI M r).toNat
set_option maxRecDepth 20000 in
theorem L_X7_oddIn {l : Launch} {E : xE} {r : Int} {M : xM} (hZ : okZ M) (hr : 0 ≤ r ∧ r < 4) {Y : xY} (F : xFix E (xA E) Y cX7_oddIn yX7_oddIn.cls 4) (FR : xRet E Y (some FieldType.int) 0 0 (fun r' M'' => r' = vI (jI (odZ M r)) ∧ M'' = M) (fun _ _ => False)) : ∀ (k : Nat) (n : Nat), (n : Int) ≤ zI M r → (zI M r - n).toNat < k → WP l E (xRm 4 0 0) (xA E) Y 0 0 4 [vA 68, vI (jI r), vI (jI (sumI (fun p => hhZ M r p % 2) n)), vI (jI (n : Int))] [] M := by
  intro k
  induction k with
  | zero => intro n hn hk; exact absurd hk (Nat.not_lt_zero _)
  | succ k ih =>
    intro n hn hk
    have hz := hZ.1 r hr.1 hr.2
    have e0 : (M.1 69 (0 + r).toNat).toInt = zI M r := by rw [Int.zero_add]; rfl
    refine x_iload_n F dX7_oddIn_4 rfl ?_
    refine x_aload_n F dX7_oddIn_5 rfl ?_
    refine x_getc (v := 69) F flX7_7 rfl dX7_oddIn_6 (by decide) (by decide) rfl rfl ?_
    refine xj_iconst F dX7_oddIn_9 ?_
    refine x_iload_n F dX7_oddIn_10 rfl ?_
    refine xj_iadd F dX7_oddIn_11 ?_
    refine xj_lald2 F rfl dX7_oddIn_12 (by omega) (fun hg_1 => ?_)
    refine xj_icmp_ge (tgt := 33) F dX7_oddIn_13 (by decide) (by omega) (fun h_2 => ?_) (fun h_2 => ?_)
    · refine x_iload_n F dX7_oddIn_33 rfl ?_
      refine x_iret F FR dX7_oddIn_34 rfl (Nat.le_refl _) (Nat.le_refl _) ?_
      have e : n = (zI M r).toNat := by omega
      subst e
      exact ⟨rfl, rfl⟩
    · refine x_iload_n F dX7_oddIn_16 rfl ?_
      refine x_aload_n F dX7_oddIn_17 rfl ?_
      refine x_iload_n F dX7_oddIn_18 rfl ?_
      refine x_iload_n F dX7_oddIn_19 rfl ?_
      refine x_V2 F (m_X7_higher hZ hr (by omega)) mlX7_81 mvX7_higher rfl dX7_oddIn_20 (by decide) rfl ⟨Nat.le_of_ble_eq_true rfl, Nat.le_of_ble_eq_true rfl⟩ ⟨Nat.zero_le _, Nat.zero_le _⟩ (Nat.le_of_ble_eq_true rfl) ?_
      have hf_3 := hhZ_b hZ r (n : Int)
      refine xj_iconst F dX7_oddIn_23 ?_
      refine xj_irem F dX7_oddIn_24 (by omega) ?_
      refine xj_iadd F dX7_oddIn_25 ?_
      refine x_istore_n F dX7_oddIn_26 (by decide) ?_
      refine xj_iinc F dX7_oddIn_27 rfl ?_
      refine x_goto (tgt := 4) F dX7_oddIn_30 (by decide) ?_
      exact ih (n + 1) (by omega) (by omega)
set_option maxRecDepth 20000 in
theorem m_X7_oddIn {l : Launch} {E : xE} {r : Int} {M : xM} (hZ : okZ M) (hr : 0 ≤ r ∧ r < 4) : XF l E 4 yX7_oddIn cX7_oddIn 4 (some FieldType.int) [vA 68, vI (jI r)] M (vI (jI (odZ M r))) (M) := by
  refine xp_start (plainFor_of_name (by decide)) rfl (Nat.le_of_ble_eq_true rfl) ?_
  intro Y F FR
  have hz := hZ.1 r hr.1 hr.2
  refine xj_iconst F dX7_oddIn_0 ?_
  refine x_istore_n F dX7_oddIn_1 (by decide) ?_
  refine xj_iconst F dX7_oddIn_2 ?_
  refine x_istore_n F dX7_oddIn_3 (by decide) ?_
  exact L_X7_oddIn hZ hr F FR _ 0 (by omega) (Nat.lt_succ_self _)
set_option maxRecDepth 20000 in
theorem m_X7_odd {l : Launch} {E : xE} {M : xM} (hZ : okZ M) : XF l E 5 yX7_odd cX7_odd 1 (some FieldType.int) [vA 68] M (vI (jI (oaZ M))) (M) := by
  refine xp_start (plainFor_of_name (by decide)) rfl (Nat.le_of_ble_eq_true rfl) ?_
  intro Y F FR
  refine x_aload_n F dX7_odd_0 rfl ?_
  refine xj_iconst F dX7_odd_1 ?_
  refine x_V1 F (m_X7_oddIn hZ (by decide)) mlX7_84 mvX7_oddIn rfl dX7_odd_2 (by decide) rfl ⟨Nat.le_of_ble_eq_true rfl, Nat.le_of_ble_eq_true rfl⟩ ⟨Nat.zero_le _, Nat.zero_le _⟩ (Nat.le_of_ble_eq_true rfl) ?_
  refine x_aload_n F dX7_odd_5 rfl ?_
  refine xj_iconst F dX7_odd_6 ?_
  refine x_V1 F (m_X7_oddIn hZ (by decide)) mlX7_84 mvX7_oddIn rfl dX7_odd_7 (by decide) rfl ⟨Nat.le_of_ble_eq_true rfl, Nat.le_of_ble_eq_true rfl⟩ ⟨Nat.zero_le _, Nat.zero_le _⟩ (Nat.le_of_ble_eq_true rfl) ?_
  refine xj_iadd F dX7_odd_10 ?_
  refine x_aload_n F dX7_odd_11 rfl ?_
  refine xj_iconst F dX7_odd_12 ?_
  refine x_V1 F (m_X7_oddIn hZ (by decide)) mlX7_84 mvX7_oddIn rfl dX7_odd_13 (by decide) rfl ⟨Nat.le_of_ble_eq_true rfl, Nat.le_of_ble_eq_true rfl⟩ ⟨Nat.zero_le _, Nat.zero_le _⟩ (Nat.le_of_ble_eq_true rfl) ?_
  refine xj_iadd F dX7_odd_16 ?_
  refine x_aload_n F dX7_odd_17 rfl ?_
  refine xj_iconst F dX7_odd_18 ?_
  refine x_V1 F (m_X7_oddIn hZ (by decide)) mlX7_84 mvX7_oddIn rfl dX7_odd_19 (by decide) rfl ⟨Nat.le_of_ble_eq_true rfl, Nat.le_of_ble_eq_true rfl⟩ ⟨Nat.zero_le _, Nat.zero_le _⟩ (Nat.le_of_ble_eq_true rfl) ?_
  refine xj_iadd F dX7_odd_22 ?_
  refine x_iret F FR dX7_odd_23 rfl (Nat.le_refl _) (Nat.le_refl _) ?_
  exact ⟨rfl, rfl⟩
set_option maxRecDepth 20000 in
theorem L_X7_discord_19 {l : Launch} {E : xE} {r : Int} {M : xM} (hZ : okZ M) (hr : 0 ≤ r ∧ r < 4) {m : Nat} (hm : (m : Int) < zI M r) {Y : xY} (F : xFix E (xA E) Y cX7_discord yX7_discord.cls 5) (FR : xRet E Y (some FieldType.int) 0 0 (fun r' M'' => r' = vI (jI (dcZ M r)) ∧ M'' = M) (fun _ _ => False)) : ∀ (k : Nat) (n : Nat), n ≤ m → (∀ (w : xV), WP l E (xRm 4 0 0) (xA E) Y 0 0 55 [vA 68, vI (jI r), vI (jI (sumI (fun p => sumI (fun q => b01 (decide (zI M (28 + 6 * r + p) < zI M (28 + 6 * r + q)))) p.toNat) m + sumI (fun q => b01 (decide (zI M (28 + 6 * r + (m : Int)) < zI M (28 + 6 * r + q)))) m)), vI (jI (m : Int)), w] [] M) → m - n < k → WP l E (xRm 4 0 0) (xA E) Y 0 0 19 [vA 68, vI (jI r), vI (jI (sumI (fun p => sumI (fun q => b01 (decide (zI M (28 + 6 * r + p) < zI M (28 + 6 * r + q)))) p.toNat) m + sumI (fun q => b01 (decide (zI M (28 + 6 * r + (m : Int)) < zI M (28 + 6 * r + q)))) n)), vI (jI (m : Int)), vI (jI (n : Int))] [] M := by
  intro k
  induction k with
  | zero => intro n hn hex hk; exact absurd hk (Nat.not_lt_zero _)
  | succ k ih =>
    intro n hn hex hk
    have hz := hZ.1 r hr.1 hr.2
    refine x_iload F dX7_discord_19 rfl ?_
    refine x_iload_n F dX7_discord_21 rfl ?_
    refine xj_icmp_ge (tgt := 55) F dX7_discord_22 (by decide) (by omega) (fun h_1 => ?_) (fun h_1 => ?_)
    · have e : n = m := by omega
      subst e
      exact hex _
    · refine x_iload_n F dX7_discord_25 rfl ?_
      refine x_aload_n F dX7_discord_26 rfl ?_
      refine x_iload_n F dX7_discord_27 rfl ?_
      refine x_iload F dX7_discord_28 rfl ?_
      refine x_V2 F (m_X7_heightAt (by first | assumption | omega | decide) (by first | assumption | omega | decide)) mlX7_77 mvX7_heightAt rfl dX7_discord_30 (by decide) rfl ⟨Nat.le_of_ble_eq_true rfl, Nat.le_of_ble_eq_true rfl⟩ ⟨Nat.zero_le _, Nat.zero_le _⟩ (Nat.le_of_ble_eq_true rfl) ?_
      have hf_2 := rg_zI M (28 + 6 * r + (n : Int))
      refine x_aload_n F dX7_discord_33 rfl ?_
      refine x_iload_n F dX7_discord_34 rfl ?_
      refine x_iload_n F dX7_discord_35 rfl ?_
      refine x_V2 F (m_X7_heightAt (by first | assumption | omega | decide) (by first | assumption | omega | decide)) mlX7_77 mvX7_heightAt rfl dX7_discord_36 (by decide) rfl ⟨Nat.le_of_ble_eq_true rfl, Nat.le_of_ble_eq_true rfl⟩ ⟨Nat.zero_le _, Nat.zero_le _⟩ (Nat.le_of_ble_eq_true rfl) ?_
      have hf_3 := rg_zI M (28 + 6 * r + (m : Int))
      refine xj_icmp_le (tgt := 46) F dX7_discord_39 (by decide) (by omega) (fun h_4 => ?_) (fun h_4 => ?_)
      · have hst : sumI (fun q => b01 (decide (zI M (28 + 6 * r + (m : Int)) < zI M (28 + 6 * r + q)))) (n + 1) = sumI (fun q => b01 (decide (zI M (28 + 6 * r + (m : Int)) < zI M (28 + 6 * r + q)))) n + 0 := by show sumI (fun q => b01 (decide (zI M (28 + 6 * r + (m : Int)) < zI M (28 + 6 * r + q)))) n + b01 (decide (zI M (28 + 6 * r + (m : Int)) < zI M (28 + 6 * r + (n : Int)))) = _; rw [b01_f (fun z => absurd (of_decide_eq_true z) (by omega))]
        refine xj_iconst F dX7_discord_46 ?_
        refine xj_iadd F dX7_discord_47 ?_
        refine x_istore_n F dX7_discord_48 (by decide) ?_
        refine xj_iinc F dX7_discord_49 rfl ?_
        refine x_goto (tgt := 19) F dX7_discord_52 (by decide) ?_
        have g := ih (n + 1) (by omega) hex (by omega)
        rw [hst, ← Int.add_assoc] at g
        exact g
      · have hst : sumI (fun q => b01 (decide (zI M (28 + 6 * r + (m : Int)) < zI M (28 + 6 * r + q)))) (n + 1) = sumI (fun q => b01 (decide (zI M (28 + 6 * r + (m : Int)) < zI M (28 + 6 * r + q)))) n + 1 := by show sumI (fun q => b01 (decide (zI M (28 + 6 * r + (m : Int)) < zI M (28 + 6 * r + q)))) n + b01 (decide (zI M (28 + 6 * r + (m : Int)) < zI M (28 + 6 * r + (n : Int)))) = _; rw [b01_t (decide_eq_true (by omega))]
        refine xj_iconst F dX7_discord_42 ?_
        refine x_goto (tgt := 47) F dX7_discord_43 (by decide) ?_
        refine xj_iadd F dX7_discord_47 ?_
        refine x_istore_n F dX7_discord_48 (by decide) ?_
        refine xj_iinc F dX7_discord_49 rfl ?_
        refine x_goto (tgt := 19) F dX7_discord_52 (by decide) ?_
        have g := ih (n + 1) (by omega) hex (by omega)
        rw [hst, ← Int.add_assoc] at g
        exact g
set_option maxRecDepth 20000 in
theorem L_X7_discord {l : Launch} {E : xE} {r : Int} {M : xM} (hZ : okZ M) (hr : 0 ≤ r ∧ r < 4) {Y : xY} (F : xFix E (xA E) Y cX7_discord yX7_discord.cls 5) (FR : xRet E Y (some FieldType.int) 0 0 (fun r' M'' => r' = vI (jI (dcZ M r)) ∧ M'' = M) (fun _ _ => False)) : ∀ (k : Nat) (m : Nat) (y : xV), (m : Int) ≤ zI M r → (zI M r - m).toNat < k → WP l E (xRm 4 0 0) (xA E) Y 0 0 4 [vA 68, vI (jI r), vI (jI (sumI (fun p => sumI (fun q => b01 (decide (zI M (28 + 6 * r + p) < zI M (28 + 6 * r + q)))) p.toNat) m)), vI (jI (m : Int)), y] [] M := by
  intro k
  induction k with
  | zero => intro m y hn hk; exact absurd hk (Nat.not_lt_zero _)
  | succ k ih =>
    intro m y hn hk
    have hz := hZ.1 r hr.1 hr.2
    have e0 : (M.1 69 (0 + r).toNat).toInt = zI M r := by rw [Int.zero_add]; rfl
    refine x_iload_n F dX7_discord_4 rfl ?_
    refine x_aload_n F dX7_discord_5 rfl ?_
    refine x_getc (v := 69) F flX7_7 rfl dX7_discord_6 (by decide) (by decide) rfl rfl ?_
    refine xj_iconst F dX7_discord_9 ?_
    refine x_iload_n F dX7_discord_10 rfl ?_
    refine xj_iadd F dX7_discord_11 ?_
    refine xj_lald2 F rfl dX7_discord_12 (by omega) (fun hg_1 => ?_)
    refine xj_icmp_ge (tgt := 61) F dX7_discord_13 (by decide) (by omega) (fun h_2 => ?_) (fun h_2 => ?_)
    · refine x_iload_n F dX7_discord_61 rfl ?_
      refine x_iret F FR dX7_discord_62 rfl (Nat.le_refl _) (Nat.le_refl _) ?_
      have e : m = (zI M r).toNat := by omega
      subst e
      exact ⟨rfl, rfl⟩
    · refine xj_iconst F dX7_discord_16 ?_
      refine x_istore F dX7_discord_17 (by decide) ?_
      refine L_X7_discord_19 (l := l) hZ hr (m := m) (by omega) F FR _ 0 (by omega) (fun w9 => ?_) (Nat.lt_succ_self _) |> fun g => ?_
      · simp only [sumI, Int.add_zero] at g
        exact g
      · refine xj_iinc F dX7_discord_55 rfl ?_
        refine x_goto (tgt := 4) F dX7_discord_58 (by decide) ?_
        exact ih (m + 1) w9 (by omega) (by omega)
set_option maxRecDepth 20000 in
theorem m_X7_discord {l : Launch} {E : xE} {r : Int} {M : xM} (hZ : okZ M) (hr : 0 ≤ r ∧ r < 4) : XF l E 4 yX7_discord cX7_discord 5 (some FieldType.int) [vA 68, vI (jI r)] M (vI (jI (dcZ M r))) (M) := by
  refine xp_start (plainFor_of_name (by decide)) rfl (Nat.le_of_ble_eq_true rfl) ?_
  intro Y F FR
  have hz := hZ.1 r hr.1 hr.2
  refine xj_iconst F dX7_discord_0 ?_
  refine x_istore_n F dX7_discord_1 (by decide) ?_
  refine xj_iconst F dX7_discord_2 ?_
  refine x_istore_n F dX7_discord_3 (by decide) ?_
  exact L_X7_discord hZ hr F FR _ 0 vU (by omega) (Nat.lt_succ_self _)
set_option maxRecDepth 20000 in
theorem m_X7_swapOrder {l : Launch} {E : xE} {a b : Int} {M : xM} (ha : 0 ≤ a ∧ a < 6) (hb : 0 ≤ b ∧ b < 6) : XF l E 1 yX7_swapOrder cX7_swapOrder 4 none [vA 68, vI (jI a), vI (jI b)] M (vU) ((upI (upI M 72 a.toNat (jI (M.1 72 b.toNat).toInt)) 72 b.toNat (jI (M.1 72 a.toNat).toInt))) := by
  refine xp_start (plainFor_of_name (by decide)) rfl (Nat.le_of_ble_eq_true rfl) ?_
  intro Y F FR
  refine x_aload_n F dX7_swapOrder_0 rfl ?_
  refine x_getc (v := 72) F flX7_19 rfl dX7_swapOrder_1 (by decide) (by decide) rfl rfl ?_
  refine x_iload_n F dX7_swapOrder_4 rfl ?_
  refine xj_lald2 F rfl dX7_swapOrder_5 (by omega) (fun hg_1 => ?_)
  refine x_istore_n F dX7_swapOrder_6 (by decide) ?_
  refine x_aload_n F dX7_swapOrder_7 rfl ?_
  refine x_getc (v := 72) F flX7_19 rfl dX7_swapOrder_8 (by decide) (by decide) rfl rfl ?_
  refine x_iload_n F dX7_swapOrder_11 rfl ?_
  refine x_aload_n F dX7_swapOrder_12 rfl ?_
  refine x_getc (v := 72) F flX7_19 rfl dX7_swapOrder_13 (by decide) (by decide) rfl rfl ?_
  refine x_iload_n F dX7_swapOrder_16 rfl ?_
  refine xj_lald2 F rfl dX7_swapOrder_17 (by omega) (fun hg_2 => ?_)
  refine xj_iast F rfl dX7_swapOrder_18 (by omega) ?_
  refine x_aload_n F dX7_swapOrder_19 rfl ?_
  refine x_getc (v := 72) F flX7_19 rfl dX7_swapOrder_20 (by decide) (by decide) rfl rfl ?_
  refine x_iload_n F dX7_swapOrder_23 rfl ?_
  refine x_iload_n F dX7_swapOrder_24 rfl ?_
  refine xj_iast F rfl dX7_swapOrder_25 (by omega) ?_
  refine x_vret F FR dX7_swapOrder_26 (Nat.le_refl _) (Nat.le_refl _) ?_
  exact ⟨rfl, rfl⟩
/-- singer b's place gets what stands at place a -/
def cpZ (M : xM) (a b : Int) : xM :=
  let M1 := upI M 69 (4 + b).toNat (jI (zI M (4 + a)))
  let M2 := upI M1 69 (28 + b).toNat (jI (zI M1 (28 + a)))
  upI M2 69 (52 + b).toNat (jI (zI M2 (52 + a)))
def clZ (M : xM) (a : Int) : xM := upI (upI (upI M 69 (4 + a).toNat (jI 0)) 69 (28 + a).toNat (jI 0)) 69 (52 + a).toNat (jI 0)
def exZ (M : xM) (a b : Int) : xM := upI (upI (upI (cpZ M b a) 69 (4 + b).toNat (jI (zI M (4 + a)))) 69 (28 + b).toNat (jI (zI M (28 + a)))) 69 (52 + b).toNat (jI (zI M (52 + a)))
set_option maxRecDepth 20000 in
theorem m_X7_copy {l : Launch} {E : xE} {a b : Int} {M : xM} (ha : 0 ≤ a ∧ a < 24) (hb : 0 ≤ b ∧ b < 24) : XF l E 1 yX7_copy cX7_copy 3 none [vA 68, vI (jI a), vI (jI b)] M (vU) ((cpZ M a b)) := by
  refine xp_start (plainFor_of_name (by decide)) rfl (Nat.le_of_ble_eq_true rfl) ?_
  intro Y F FR
  refine x_aload_n F dX7_copy_0 rfl ?_
  refine x_getc (v := 69) F flX7_7 rfl dX7_copy_1 (by decide) (by decide) rfl rfl ?_
  refine xj_iconst F dX7_copy_4 ?_
  refine x_iload_n F dX7_copy_5 rfl ?_
  refine xj_iadd F dX7_copy_6 ?_
  refine x_aload_n F dX7_copy_7 rfl ?_
  refine x_getc (v := 69) F flX7_7 rfl dX7_copy_8 (by decide) (by decide) rfl rfl ?_
  refine xj_iconst F dX7_copy_11 ?_
  refine x_iload_n F dX7_copy_12 rfl ?_
  refine xj_iadd F dX7_copy_13 ?_
  refine xj_lald2 F rfl dX7_copy_14 (by omega) (fun hg_1 => ?_)
  refine xj_iast F rfl dX7_copy_15 (by omega) ?_
  refine x_aload_n F dX7_copy_16 rfl ?_
  refine x_getc (v := 69) F flX7_7 rfl dX7_copy_17 (by decide) (by decide) rfl rfl ?_
  refine xj_bipush F dX7_copy_20 (by decide) ?_
  refine x_iload_n F dX7_copy_22 rfl ?_
  refine xj_iadd F dX7_copy_23 ?_
  refine x_aload_n F dX7_copy_24 rfl ?_
  refine x_getc (v := 69) F flX7_7 rfl dX7_copy_25 (by decide) (by decide) rfl rfl ?_
  refine xj_bipush F dX7_copy_28 (by decide) ?_
  refine x_iload_n F dX7_copy_30 rfl ?_
  refine xj_iadd F dX7_copy_31 ?_
  refine xj_lald2 F rfl dX7_copy_32 (by omega) (fun hg_2 => ?_)
  refine xj_iast F rfl dX7_copy_33 (by omega) ?_
  refine x_aload_n F dX7_copy_34 rfl ?_
  refine x_getc (v := 69) F flX7_7 rfl dX7_copy_35 (by decide) (by decide) rfl rfl ?_
  refine xj_bipush F dX7_copy_38 (by decide) ?_
  refine x_iload_n F dX7_copy_40 rfl ?_
  refine xj_iadd F dX7_copy_41 ?_
  refine x_aload_n F dX7_copy_42 rfl ?_
  refine x_getc (v := 69) F flX7_7 rfl dX7_copy_43 (by decide) (by decide) rfl rfl ?_
  refine xj_bipush F dX7_copy_46 (by decide) ?_
  refine x_iload_n F dX7_copy_48 rfl ?_
  refine xj_iadd F dX7_copy_49 ?_
  refine xj_lald2 F rfl dX7_copy_50 (by omega) (fun hg_3 => ?_)
  refine xj_iast F rfl dX7_copy_51 (by omega) ?_
  refine x_vret F FR dX7_copy_52 (Nat.le_refl _) (Nat.le_refl _) ?_
  exact ⟨rfl, rfl⟩
set_option maxRecDepth 20000 in
theorem m_X7_clear {l : Launch} {E : xE} {a : Int} {M : xM} (ha : 0 ≤ a ∧ a < 24) : XF l E 1 yX7_clear cX7_clear 2 none [vA 68, vI (jI a)] M (vU) ((clZ M a)) := by
  refine xp_start (plainFor_of_name (by decide)) rfl (Nat.le_of_ble_eq_true rfl) ?_
  intro Y F FR
  refine x_aload_n F dX7_clear_0 rfl ?_
  refine x_getc (v := 69) F flX7_7 rfl dX7_clear_1 (by decide) (by decide) rfl rfl ?_
  refine xj_iconst F dX7_clear_4 ?_
  refine x_iload_n F dX7_clear_5 rfl ?_
  refine xj_iadd F dX7_clear_6 ?_
  refine xj_iconst F dX7_clear_7 ?_
  refine xj_iast F rfl dX7_clear_8 (by omega) ?_
  refine x_aload_n F dX7_clear_9 rfl ?_
  refine x_getc (v := 69) F flX7_7 rfl dX7_clear_10 (by decide) (by decide) rfl rfl ?_
  refine xj_bipush F dX7_clear_13 (by decide) ?_
  refine x_iload_n F dX7_clear_15 rfl ?_
  refine xj_iadd F dX7_clear_16 ?_
  refine xj_iconst F dX7_clear_17 ?_
  refine xj_iast F rfl dX7_clear_18 (by omega) ?_
  refine x_aload_n F dX7_clear_19 rfl ?_
  refine x_getc (v := 69) F flX7_7 rfl dX7_clear_20 (by decide) (by decide) rfl rfl ?_
  refine xj_bipush F dX7_clear_23 (by decide) ?_
  refine x_iload_n F dX7_clear_25 rfl ?_
  refine xj_iadd F dX7_clear_26 ?_
  refine xj_iconst F dX7_clear_27 ?_
  refine xj_iast F rfl dX7_clear_28 (by omega) ?_
  refine x_vret F FR dX7_clear_29 (Nat.le_refl _) (Nat.le_refl _) ?_
  exact ⟨rfl, rfl⟩
set_option maxRecDepth 20000 in
theorem m_X7_exchange {l : Launch} {E : xE} {a b : Int} {M : xM} (ha : 0 ≤ a ∧ a < 24) (hb : 0 ≤ b ∧ b < 24) : XF l E 2 yX7_exchange cX7_exchange 6 none [vA 68, vI (jI a), vI (jI b)] M (vU) ((exZ M a b)) := by
  refine xp_start (plainFor_of_name (by decide)) rfl (Nat.le_of_ble_eq_true rfl) ?_
  intro Y F FR
  refine x_aload_n F dX7_exchange_0 rfl ?_
  refine x_getc (v := 69) F flX7_7 rfl dX7_exchange_1 (by decide) (by decide) rfl rfl ?_
  refine xj_iconst F dX7_exchange_4 ?_
  refine x_iload_n F dX7_exchange_5 rfl ?_
  refine xj_iadd F dX7_exchange_6 ?_
  refine xj_lald2 F rfl dX7_exchange_7 (by omega) (fun hg_1 => ?_)
  refine x_istore_n F dX7_exchange_8 (by decide) ?_
  refine x_aload_n F dX7_exchange_9 rfl ?_
  refine x_getc (v := 69) F flX7_7 rfl dX7_exchange_10 (by decide) (by decide) rfl rfl ?_
  refine xj_bipush F dX7_exchange_13 (by decide) ?_
  refine x_iload_n F dX7_exchange_15 rfl ?_
  refine xj_iadd F dX7_exchange_16 ?_
  refine xj_lald2 F rfl dX7_exchange_17 (by omega) (fun hg_2 => ?_)
  refine x_istore F dX7_exchange_18 (by decide) ?_
  refine x_aload_n F dX7_exchange_20 rfl ?_
  refine x_getc (v := 69) F flX7_7 rfl dX7_exchange_21 (by decide) (by decide) rfl rfl ?_
  refine xj_bipush F dX7_exchange_24 (by decide) ?_
  refine x_iload_n F dX7_exchange_26 rfl ?_
  refine xj_iadd F dX7_exchange_27 ?_
  refine xj_lald2 F rfl dX7_exchange_28 (by omega) (fun hg_3 => ?_)
  refine x_istore F dX7_exchange_29 (by decide) ?_
  refine x_aload_n F dX7_exchange_31 rfl ?_
  refine x_iload_n F dX7_exchange_32 rfl ?_
  refine x_iload_n F dX7_exchange_33 rfl ?_
  refine x_V2 F (m_X7_copy hb ha) mlX7_103 mvX7_copy rfl dX7_exchange_34 (by decide) rfl ⟨Nat.le_of_ble_eq_true rfl, Nat.le_of_ble_eq_true rfl⟩ ⟨Nat.zero_le _, Nat.zero_le _⟩ (Nat.le_of_ble_eq_true rfl) ?_
  refine x_aload_n F dX7_exchange_37 rfl ?_
  refine x_getc (v := 69) F flX7_7 rfl dX7_exchange_38 (by decide) (by decide) rfl rfl ?_
  refine xj_iconst F dX7_exchange_41 ?_
  refine x_iload_n F dX7_exchange_42 rfl ?_
  refine xj_iadd F dX7_exchange_43 ?_
  refine x_iload_n F dX7_exchange_44 rfl ?_
  refine xj_iast F rfl dX7_exchange_45 (by omega) ?_
  refine x_aload_n F dX7_exchange_46 rfl ?_
  refine x_getc (v := 69) F flX7_7 rfl dX7_exchange_47 (by decide) (by decide) rfl rfl ?_
  refine xj_bipush F dX7_exchange_50 (by decide) ?_
  refine x_iload_n F dX7_exchange_52 rfl ?_
  refine xj_iadd F dX7_exchange_53 ?_
  refine x_iload F dX7_exchange_54 rfl ?_
  refine xj_iast F rfl dX7_exchange_56 (by omega) ?_
  refine x_aload_n F dX7_exchange_57 rfl ?_
  refine x_getc (v := 69) F flX7_7 rfl dX7_exchange_58 (by decide) (by decide) rfl rfl ?_
  refine xj_bipush F dX7_exchange_61 (by decide) ?_
  refine x_iload_n F dX7_exchange_63 rfl ?_
  refine xj_iadd F dX7_exchange_64 ?_
  refine x_iload F dX7_exchange_65 rfl ?_
  refine xj_iast F rfl dX7_exchange_67 (by omega) ?_
  refine x_vret F FR dX7_exchange_68 (Nat.le_refl _) (Nat.le_refl _) ?_
  exact ⟨rfl, rfl⟩
