/-! THE PUBLIC METHODS. ..X: which exception a call throws (1 index, 2 argument, 3 state), 0 none -/
def plX (M : xM) (r p : Int) : Int := if ¬ (0 ≤ p ∧ p < szI M 1 r) then 1 else 0
def roX (r : Int) : Int := if ¬ (0 ≤ r ∧ r ≤ 3) then 1 else 0
def hgX (h : Int) : Int := if ¬ (100 ≤ h ∧ h ≤ 220) then 2 else 0
def joX (M : xM) (r h v : Int) : Int := if ¬ (0 ≤ r ∧ r ≤ 3) then 1 else if ¬ (100 ≤ h ∧ h ≤ 220) then 2 else if ¬ (0 ≤ v ∧ v ≤ 3) then 2 else if ¬ (szI M 1 r < 6 ∧ (M.1 1 6).toInt < 999) then 3 else 0
def grX (M : xM) (r p h : Int) : Int := if ¬ (0 ≤ p ∧ p < szI M 1 r) then 1 else if ¬ (100 ≤ h ∧ h ≤ 220) then 2 else 0
def swX (M : xM) (r p r2 p2 : Int) : Int := if ¬ (0 ≤ p ∧ p < szI M 1 r) then 1 else if ¬ (0 ≤ p2 ∧ p2 < szI M 1 r2) then 1 else 0
def crX (M : xM) (r p t : Int) : Int := if ¬ (0 ≤ p ∧ p < szI M 1 r) then 1 else if ¬ (0 ≤ t ∧ t ≤ 3) then 1 else if ¬ (r ≠ t ∧ szI M 1 t < 6) then 3 else 0
def rwX (r a b z : Int) : Int := if ¬ (0 ≤ r ∧ r ≤ 3) then 1 else if ¬ (a ≤ z ∧ z ≤ b) then 2 else 0
def seX (s x : Int) : Int := if ¬ (0 ≤ s ∧ s ≤ 1) then 1 else if s = 0 ∧ ¬ (1 ≤ x ∧ x ≤ 6) then 2 else if s ≠ 0 ∧ ¬ (0 ≤ x ∧ x ≤ 1) then 2 else 0
def apX (M : xM) (x : Int) : Int := if ¬ (33 ≤ x ∧ x ≤ 126) then 2 else if ¬ (tlI M < 60) then 3 else 0
def wrX (r i : Int) : Int := if ¬ (0 ≤ r ∧ r ≤ 3) then 1 else if ¬ (0 ≤ i) then 2 else 0
def bwX (a b z : Int) : Int := if ¬ (a ≤ z ∧ z ≤ b) then 2 else 0
def siX (M : xM) (r p z : Int) : Int := if ¬ (0 ≤ p ∧ p < szI M 1 r) then 1 else if ¬ (0 ≤ z ∧ z ≤ 7) then 2 else 0
def unX (M : xM) : Int := if ¬ (0 < (M.1 16 2).toInt) then 3 else 0
def reX (M : xM) : Int := if ¬ ((M.1 0 3).toInt = 1) then 3 else 0
def fiX (x : Int) : Int := if ¬ (0 ≤ x) then 2 else 0
def swM (M : xM) (r p r2 p2 : Int) : xM := upI (swP M 1 (spI r p) (spI r2 p2)) 1 8 (jI (((swP M 1 (spI r p) (spI r2 p2)).1 1 8).toInt + 1))
def leM (M : xM) (r p : Int) : xM := upI (dsM M 1 r p) 1 7 (jI (((dsM M 1 r p).1 1 7).toInt + 1))
def adM (M : xM) (x : Int) : xM := if 0 ≤ tlI M ∧ tlI M < 60 then upI (upI M 49 (tlI M).toNat (jI x)) 48 1 (jI (tlI M + 1)) else M
theorem i2cN : ∀ n : Nat, n < 128 → ((nI n).toUInt32 % 65536).toInt32 = nI n := by decide +kernel
theorem i2cT {x : Int} (h : 0 ≤ x ∧ x < 128) : ((jI x).toUInt32 % 65536).toInt32 = jI x := by
  have e : jI x = nI x.toNat := by
    rw [← jI_nat]
    congr 1
    omega
  rw [e]
  exact i2cN x.toNat (by omega)
set_option maxRecDepth 20000 in
theorem m_X6_join {l : Launch} {E : xE} (hl : l.stackTraces = false) {r h v : Int} {M : xM} (hO : okC M 1) (hH : okH M) (hr : rg r) (hh : rg h) (hv : rg v) : XT l E 20 6 36 yX6_join cX6_join 4 (some FieldType.int) [vA 0, vI (jI r), vI (jI h), vI (jI v)] M (fun r' M' => r' = vI (jI ((svM M 1).1 1 6).toInt) ∧ M' = arM (svM M 1) 1 r h v ∧ joX M r h v = 0) (fun C M' => ∃ q9 : Int, joX M r h v = q9 ∧ q9 ≠ 0 ∧ C = xcl q9 ∧ M' = M) := by
  refine xt_start (plainFor_of_name (by decide)) rfl (Nat.le_of_ble_eq_true rfl) ?_
  intro Y F FR
  have hC : isCh 1 := ch1
  have hC6 : isCh 6 := ch6
  have hS := hS_of hO
  refine x_iload_n F dX6_join_0 rfl ?_
  refine x_callST (As := [_]) F (m_X6_needRow hl (by first | assumption | omega | decide)) mlX6_54 msX6_needRow ⟨Nat.le_of_ble_eq_true rfl, Nat.le_of_ble_eq_true rfl⟩ ⟨Nat.le_of_ble_eq_true rfl, Nat.le_of_ble_eq_true rfl⟩ (Nat.le_of_ble_eq_true rfl) rfl dX6_join_1 (fun C9 M9 hx9 => x_out F FR (Nat.le_of_ble_eq_true rfl) (Nat.le_of_ble_eq_true rfl) ?_) (fun r9 M9 q9 => ?_)
  · obtain ⟨⟨rfl, e9⟩, hx_1⟩ := hx9
    have e9 := e9.symm
    subst e9
    exact ⟨1, by unfold joX; (repeat' split) <;> first | rfl | omega | contradiction | exact absurd trivial hx_1, by decide, rfl, rfl⟩
  obtain ⟨⟨rfl, e9⟩, hp_2⟩ := q9
  have e9 := e9.symm
  subst e9
  refine x_iload_n F dX6_join_4 rfl ?_
  refine x_callST (As := [_]) F (m_X6_needHeight hl (by first | assumption | omega | decide)) mlX6_58 msX6_needHeight ⟨Nat.le_of_ble_eq_true rfl, Nat.le_of_ble_eq_true rfl⟩ ⟨Nat.le_of_ble_eq_true rfl, Nat.le_of_ble_eq_true rfl⟩ (Nat.le_of_ble_eq_true rfl) rfl dX6_join_5 (fun C9 M9 hx9 => x_out F FR (Nat.le_of_ble_eq_true rfl) (Nat.le_of_ble_eq_true rfl) ?_) (fun r9 M9 q9 => ?_)
  · obtain ⟨⟨rfl, e9⟩, hx_3⟩ := hx9
    have e9 := e9.symm
    subst e9
    exact ⟨2, by unfold joX; (repeat' split) <;> first | rfl | omega | contradiction | exact absurd trivial hx_3, by decide, rfl, rfl⟩
  obtain ⟨⟨rfl, e9⟩, hp_4⟩ := q9
  have e9 := e9.symm
  subst e9
  refine x_iload_n F dX6_join_8 rfl ?_
  refine xj_iconst F dX6_join_9 ?_
  refine xj_iconst F dX6_join_10 ?_
  refine x_S3 F (m_X6_isBetween (by first | assumption | omega | decide) (by first | assumption | omega | decide) (by first | assumption | omega | decide)) mlX6_61 msX6_isBetween dX6_join_11 ⟨Nat.le_of_ble_eq_true rfl, Nat.le_of_ble_eq_true rfl⟩ ⟨Nat.le_of_ble_eq_true rfl, Nat.le_of_ble_eq_true rfl⟩ (Nat.le_of_ble_eq_true rfl) ?_
  refine x_callST (As := [_]) F (m_X6_needArgument hl (p := (0 ≤ v ∧ v ≤ 3))) mlX6_65 msX6_needArgument ⟨Nat.le_of_ble_eq_true rfl, Nat.le_of_ble_eq_true rfl⟩ ⟨Nat.le_of_ble_eq_true rfl, Nat.le_of_ble_eq_true rfl⟩ (Nat.le_of_ble_eq_true rfl) rfl dX6_join_14 (fun C9 M9 hx9 => x_out F FR (Nat.le_of_ble_eq_true rfl) (Nat.le_of_ble_eq_true rfl) ?_) (fun r9 M9 q9 => ?_)
  · obtain ⟨⟨rfl, e9⟩, hx_5⟩ := hx9
    have e9 := e9.symm
    subst e9
    exact ⟨2, by unfold joX; (repeat' split) <;> first | rfl | omega | contradiction | exact absurd trivial hx_5, by decide, rfl, rfl⟩
  obtain ⟨⟨rfl, e9⟩, hp_6⟩ := q9
  have e9 := e9.symm
  subst e9
  refine x_aload_n F dX6_join_17 rfl ?_
  refine x_getc (v := 1) F flX6_12 rfl dX6_join_18 (by decide) (by decide) rfl rfl ?_
  refine x_iload_n F dX6_join_21 rfl ?_
  refine x_V1 F (m_X1_hasRoomFor hC (by omega)) mlX6_69 mvX1_hasRoomFor rfl dX6_join_22 (by decide) rfl ⟨Nat.le_of_ble_eq_true rfl, Nat.le_of_ble_eq_true rfl⟩ ⟨Nat.le_of_ble_eq_true rfl, Nat.le_of_ble_eq_true rfl⟩ (Nat.le_of_ble_eq_true rfl) ?_
  refine x_callST (As := [_]) F (m_X6_needState hl (p := (szI M 1 r < 6 ∧ (M.1 1 6).toInt < 999))) mlX6_73 msX6_needState ⟨Nat.le_of_ble_eq_true rfl, Nat.le_of_ble_eq_true rfl⟩ ⟨Nat.le_of_ble_eq_true rfl, Nat.le_of_ble_eq_true rfl⟩ (Nat.le_of_ble_eq_true rfl) rfl dX6_join_25 (fun C9 M9 hx9 => x_out F FR (Nat.le_of_ble_eq_true rfl) (Nat.le_of_ble_eq_true rfl) ?_) (fun r9 M9 q9 => ?_)
  · obtain ⟨⟨rfl, e9⟩, hx_7⟩ := hx9
    have e9 := e9.symm
    subst e9
    exact ⟨3, by unfold joX; (repeat' split) <;> first | rfl | omega | contradiction | exact absurd trivial hx_7, by decide, rfl, rfl⟩
  obtain ⟨⟨rfl, e9⟩, hp_8⟩ := q9
  have e9 := e9.symm
  subst e9
  refine x_aload_n F dX6_join_28 rfl ?_
  refine x_getc (v := 16) F flX6_29 rfl dX6_join_29 (by decide) (by decide) rfl rfl ?_
  refine x_aload_n F dX6_join_32 rfl ?_
  refine x_getc (v := 1) F flX6_12 rfl dX6_join_33 (by decide) (by decide) rfl rfl ?_
  refine x_V1 F (m_X3_save hC hH) mlX6_76 mvX3_save rfl dX6_join_36 (by decide) rfl ⟨Nat.le_of_ble_eq_true rfl, Nat.le_of_ble_eq_true rfl⟩ ⟨Nat.le_of_ble_eq_true rfl, Nat.le_of_ble_eq_true rfl⟩ (Nat.le_of_ble_eq_true rfl) ?_
  have hO2 := okC_sv hO
  have hS2 := hS_of hO2
  refine x_aload_n F dX6_join_39 rfl ?_
  refine x_getc (v := 1) F flX6_12 rfl dX6_join_40 (by decide) (by decide) rfl rfl ?_
  refine x_iload_n F dX6_join_43 rfl ?_
  refine x_iload_n F dX6_join_44 rfl ?_
  refine x_iload_n F dX6_join_45 rfl ?_
  refine x_V3 F (m_X1_arrive hC hS2 (by omega)) mlX6_80 mvX1_arrive rfl dX6_join_46 (by decide) rfl ⟨Nat.le_of_ble_eq_true rfl, Nat.le_of_ble_eq_true rfl⟩ ⟨Nat.le_of_ble_eq_true rfl, Nat.le_of_ble_eq_true rfl⟩ (Nat.le_of_ble_eq_true rfl) ?_
  refine x_iret F FR dX6_join_49 rfl (Nat.le_of_ble_eq_true rfl) (Nat.le_of_ble_eq_true rfl) ?_
  exact ⟨rfl, rfl, by unfold joX; (repeat' split) <;> first | rfl | omega⟩
set_option maxRecDepth 20000 in
theorem m_X6_leave {l : Launch} {E : xE} (hl : l.stackTraces = false) {r p : Int} {M : xM} (hO : okC M 1) (hH : okH M) (hr : rg r) (hp : rg p) : XT l E 20 6 36 yX6_leave cX6_leave 3 (some FieldType.int) [vA 0, vI (jI r), vI (jI p)] M (fun r' M' => r' = vI (jI (rdI ((svM M 1).1 (1 + 2)) 24 (spI r p))) ∧ M' = leM (svM M 1) r p ∧ plX M r p = 0) (fun C M' => ∃ q9 : Int, plX M r p = q9 ∧ q9 ≠ 0 ∧ C = xcl q9 ∧ M' = M) := by
  refine xt_start (plainFor_of_name (by decide)) rfl (Nat.le_of_ble_eq_true rfl) ?_
  intro Y F FR
  have hC : isCh 1 := ch1
  have hC6 : isCh 6 := ch6
  have hS := hS_of hO
  refine x_aload_n F dX6_leave_0 rfl ?_
  refine x_iload_n F dX6_leave_1 rfl ?_
  refine x_iload_n F dX6_leave_2 rfl ?_
  refine x_callVT (As := [_, _]) F (m_X6_needSinger hl (by first | assumption | omega | decide) (by first | assumption | omega | decide)) mlX6_84 mvX6_needSinger rfl (by decide) rfl ⟨Nat.le_of_ble_eq_true rfl, Nat.le_of_ble_eq_true rfl⟩ ⟨Nat.le_of_ble_eq_true rfl, Nat.le_of_ble_eq_true rfl⟩ (Nat.le_of_ble_eq_true rfl) rfl dX6_leave_3 (fun C9 M9 hx9 => x_out F FR (Nat.le_of_ble_eq_true rfl) (Nat.le_of_ble_eq_true rfl) ?_) (fun r9 M9 q9 => ?_)
  · obtain ⟨⟨rfl, e9⟩, hx_1⟩ := hx9
    have e9 := e9.symm
    subst e9
    exact ⟨1, by unfold plX; (repeat' split) <;> first | rfl | omega | contradiction | exact absurd trivial hx_1, by decide, rfl, rfl⟩
  obtain ⟨⟨rfl, e9⟩, hp_2⟩ := q9
  have e9 := e9.symm
  subst e9
  have hinhp_2 := szI_in (M := M) (c := 1) (r := r) (by omega)
  have hshp_2 := hS r
  refine x_aload_n F dX6_leave_6 rfl ?_
  refine x_getc (v := 16) F flX6_29 rfl dX6_leave_7 (by decide) (by decide) rfl rfl ?_
  refine x_aload_n F dX6_leave_10 rfl ?_
  refine x_getc (v := 1) F flX6_12 rfl dX6_leave_11 (by decide) (by decide) rfl rfl ?_
  refine x_V1 F (m_X3_save hC hH) mlX6_76 mvX3_save rfl dX6_leave_14 (by decide) rfl ⟨Nat.le_of_ble_eq_true rfl, Nat.le_of_ble_eq_true rfl⟩ ⟨Nat.le_of_ble_eq_true rfl, Nat.le_of_ble_eq_true rfl⟩ (Nat.le_of_ble_eq_true rfl) ?_
  have hO2 := okC_sv hO
  have hS2 := hS_of hO2
  refine x_aload_n F dX6_leave_17 rfl ?_
  refine x_getc (v := 1) F flX6_12 rfl dX6_leave_18 (by decide) (by decide) rfl rfl ?_
  refine x_iload_n F dX6_leave_21 rfl ?_
  refine x_iload_n F dX6_leave_22 rfl ?_
  refine x_V2 F (m_X1_dismiss hC hS2 (by omega) (by omega)) mlX6_88 mvX1_dismiss rfl dX6_leave_23 (by decide) rfl ⟨Nat.le_of_ble_eq_true rfl, Nat.le_of_ble_eq_true rfl⟩ ⟨Nat.le_of_ble_eq_true rfl, Nat.le_of_ble_eq_true rfl⟩ (Nat.le_of_ble_eq_true rfl) ?_
  refine x_iret F FR dX6_leave_26 rfl (Nat.le_of_ble_eq_true rfl) (Nat.le_of_ble_eq_true rfl) ?_
  exact ⟨rfl, rfl, by unfold plX; (repeat' split) <;> first | rfl | omega⟩
set_option maxRecDepth 20000 in
theorem m_X6_grow {l : Launch} {E : xE} (hl : l.stackTraces = false) {r p h : Int} {M : xM} (hO : okC M 1) (hH : okH M) (hr : rg r) (hp : rg p) (hh : rg h) : XT l E 20 6 36 yX6_grow cX6_grow 5 (some FieldType.int) [vA 0, vI (jI r), vI (jI p), vI (jI h)] M (fun r' M' => r' = vI (jI (heI (svM M 1) 1 r p)) ∧ M' = wrI (svM M 1) (1 + 3) 24 (spI r p) (jI h) ∧ grX M r p h = 0) (fun C M' => ∃ q9 : Int, grX M r p h = q9 ∧ q9 ≠ 0 ∧ C = xcl q9 ∧ M' = M) := by
  refine xt_start (plainFor_of_name (by decide)) rfl (Nat.le_of_ble_eq_true rfl) ?_
  intro Y F FR
  have hC : isCh 1 := ch1
  have hC6 : isCh 6 := ch6
  have hS := hS_of hO
  refine x_aload_n F dX6_grow_0 rfl ?_
  refine x_iload_n F dX6_grow_1 rfl ?_
  refine x_iload_n F dX6_grow_2 rfl ?_
  refine x_callVT (As := [_, _]) F (m_X6_needSinger hl (by first | assumption | omega | decide) (by first | assumption | omega | decide)) mlX6_84 mvX6_needSinger rfl (by decide) rfl ⟨Nat.le_of_ble_eq_true rfl, Nat.le_of_ble_eq_true rfl⟩ ⟨Nat.le_of_ble_eq_true rfl, Nat.le_of_ble_eq_true rfl⟩ (Nat.le_of_ble_eq_true rfl) rfl dX6_grow_3 (fun C9 M9 hx9 => x_out F FR (Nat.le_of_ble_eq_true rfl) (Nat.le_of_ble_eq_true rfl) ?_) (fun r9 M9 q9 => ?_)
  · obtain ⟨⟨rfl, e9⟩, hx_1⟩ := hx9
    have e9 := e9.symm
    subst e9
    exact ⟨1, by unfold grX; (repeat' split) <;> first | rfl | omega | contradiction | exact absurd trivial hx_1, by decide, rfl, rfl⟩
  obtain ⟨⟨rfl, e9⟩, hp_2⟩ := q9
  have e9 := e9.symm
  subst e9
  have hinhp_2 := szI_in (M := M) (c := 1) (r := r) (by omega)
  have hshp_2 := hS r
  refine x_iload_n F dX6_grow_6 rfl ?_
  refine x_callST (As := [_]) F (m_X6_needHeight hl (by first | assumption | omega | decide)) mlX6_58 msX6_needHeight ⟨Nat.le_of_ble_eq_true rfl, Nat.le_of_ble_eq_true rfl⟩ ⟨Nat.le_of_ble_eq_true rfl, Nat.le_of_ble_eq_true rfl⟩ (Nat.le_of_ble_eq_true rfl) rfl dX6_grow_7 (fun C9 M9 hx9 => x_out F FR (Nat.le_of_ble_eq_true rfl) (Nat.le_of_ble_eq_true rfl) ?_) (fun r9 M9 q9 => ?_)
  · obtain ⟨⟨rfl, e9⟩, hx_3⟩ := hx9
    have e9 := e9.symm
    subst e9
    exact ⟨2, by unfold grX; (repeat' split) <;> first | rfl | omega | contradiction | exact absurd trivial hx_3, by decide, rfl, rfl⟩
  obtain ⟨⟨rfl, e9⟩, hp_4⟩ := q9
  have e9 := e9.symm
  subst e9
  refine x_aload_n F dX6_grow_10 rfl ?_
  refine x_getc (v := 16) F flX6_29 rfl dX6_grow_11 (by decide) (by decide) rfl rfl ?_
  refine x_aload_n F dX6_grow_14 rfl ?_
  refine x_getc (v := 1) F flX6_12 rfl dX6_grow_15 (by decide) (by decide) rfl rfl ?_
  refine x_V1 F (m_X3_save hC hH) mlX6_76 mvX3_save rfl dX6_grow_18 (by decide) rfl ⟨Nat.le_of_ble_eq_true rfl, Nat.le_of_ble_eq_true rfl⟩ ⟨Nat.le_of_ble_eq_true rfl, Nat.le_of_ble_eq_true rfl⟩ (Nat.le_of_ble_eq_true rfl) ?_
  have hO2 := okC_sv hO
  have hS2 := hS_of hO2
  refine x_aload_n F dX6_grow_21 rfl ?_
  refine x_getc (v := 1) F flX6_12 rfl dX6_grow_22 (by decide) (by decide) rfl rfl ?_
  refine x_iload_n F dX6_grow_25 rfl ?_
  refine x_iload_n F dX6_grow_26 rfl ?_
  refine x_V2 F (m_X1_heightAt (by first | assumption | omega | decide) (by first | assumption | omega | decide) (by first | assumption | omega | decide)) mlX6_92 mvX1_heightAt rfl dX6_grow_27 (by decide) rfl ⟨Nat.le_of_ble_eq_true rfl, Nat.le_of_ble_eq_true rfl⟩ ⟨Nat.le_of_ble_eq_true rfl, Nat.le_of_ble_eq_true rfl⟩ (Nat.le_of_ble_eq_true rfl) ?_
  have hf_5 := rg_heI (svM M 1) 1 r p
  refine x_istore F dX6_grow_30 (by decide) ?_
  refine x_aload_n F dX6_grow_32 rfl ?_
  refine x_getc (v := 1) F flX6_12 rfl dX6_grow_33 (by decide) (by decide) rfl rfl ?_
  refine x_iload_n F dX6_grow_36 rfl ?_
  refine x_iload_n F dX6_grow_37 rfl ?_
  refine x_iload_n F dX6_grow_38 rfl ?_
  refine x_V3 F (m_X1_changeHeight (by first | assumption | omega | decide) (by first | assumption | omega | decide) (by first | assumption | omega | decide)) mlX6_95 mvX1_changeHeight rfl dX6_grow_39 (by decide) rfl ⟨Nat.le_of_ble_eq_true rfl, Nat.le_of_ble_eq_true rfl⟩ ⟨Nat.le_of_ble_eq_true rfl, Nat.le_of_ble_eq_true rfl⟩ (Nat.le_of_ble_eq_true rfl) ?_
  refine x_iload F dX6_grow_42 rfl ?_
  refine x_iret F FR dX6_grow_44 rfl (Nat.le_of_ble_eq_true rfl) (Nat.le_of_ble_eq_true rfl) ?_
  exact ⟨rfl, rfl, by unfold grX; (repeat' split) <;> first | rfl | omega⟩
theorem okC_tot {M : xM} {c k : Nat} {x : Int32} (hO : okC M c) (hk : 6 ≤ k) : okC (upI M c k x) c := by
  refine ⟨fun q => by rw [szI_up (by omega)]; exact hO.1 q, ?_, ?_, hLo_of (upI_row (by omega)) hO.2.2.2⟩
  · rw [upI_1, if_neg (by omega)]; exact hO.2.1
  · rw [upI_1, if_neg (by omega)]; exact hO.2.2.1
theorem okC_sw {M : xM} {r p r2 p2 : Int} (hO : okC M 1) : okC (swM M r p r2 p2) 1 := okC_tot (okC_swP hO _ _) (by decide)
set_option maxRecDepth 20000 in
theorem m_X6_swap {l : Launch} {E : xE} (hl : l.stackTraces = false) {r p r2 p2 : Int} {M : xM} (hO : okC M 1) (hH : okH M) (hr : rg r) (hp : rg p) (hr2 : rg r2) (hp2 : rg p2) : XT l E 20 6 36 yX6_swap cX6_swap 5 (some FieldType.int) [vA 0, vI (jI r), vI (jI p), vI (jI r2), vI (jI p2)] M (fun r' M' => r' = vI (jI (oaI (swM (svM M 1) r p r2 p2) 1)) ∧ M' = swM (svM M 1) r p r2 p2 ∧ swX M r p r2 p2 = 0) (fun C M' => ∃ q9 : Int, swX M r p r2 p2 = q9 ∧ q9 ≠ 0 ∧ C = xcl q9 ∧ M' = M) := by
  refine xt_start (plainFor_of_name (by decide)) rfl (Nat.le_of_ble_eq_true rfl) ?_
  intro Y F FR
  have hC : isCh 1 := ch1
  have hC6 : isCh 6 := ch6
  have hS := hS_of hO
  refine x_aload_n F dX6_swap_0 rfl ?_
  refine x_iload_n F dX6_swap_1 rfl ?_
  refine x_iload_n F dX6_swap_2 rfl ?_
  refine x_callVT (As := [_, _]) F (m_X6_needSinger hl (by first | assumption | omega | decide) (by first | assumption | omega | decide)) mlX6_84 mvX6_needSinger rfl (by decide) rfl ⟨Nat.le_of_ble_eq_true rfl, Nat.le_of_ble_eq_true rfl⟩ ⟨Nat.le_of_ble_eq_true rfl, Nat.le_of_ble_eq_true rfl⟩ (Nat.le_of_ble_eq_true rfl) rfl dX6_swap_3 (fun C9 M9 hx9 => x_out F FR (Nat.le_of_ble_eq_true rfl) (Nat.le_of_ble_eq_true rfl) ?_) (fun r9 M9 q9 => ?_)
  · obtain ⟨⟨rfl, e9⟩, hx_1⟩ := hx9
    have e9 := e9.symm
    subst e9
    exact ⟨1, by unfold swX; (repeat' split) <;> first | rfl | omega | contradiction | exact absurd trivial hx_1, by decide, rfl, rfl⟩
  obtain ⟨⟨rfl, e9⟩, hp_2⟩ := q9
  have e9 := e9.symm
  subst e9
  have hinhp_2 := szI_in (M := M) (c := 1) (r := r) (by omega)
  have hshp_2 := hS r
  refine x_aload_n F dX6_swap_6 rfl ?_
  refine x_iload_n F dX6_swap_7 rfl ?_
  refine x_iload F dX6_swap_8 rfl ?_
  refine x_callVT (As := [_, _]) F (m_X6_needSinger hl (by first | assumption | omega | decide) (by first | assumption | omega | decide)) mlX6_84 mvX6_needSinger rfl (by decide) rfl ⟨Nat.le_of_ble_eq_true rfl, Nat.le_of_ble_eq_true rfl⟩ ⟨Nat.le_of_ble_eq_true rfl, Nat.le_of_ble_eq_true rfl⟩ (Nat.le_of_ble_eq_true rfl) rfl dX6_swap_10 (fun C9 M9 hx9 => x_out F FR (Nat.le_of_ble_eq_true rfl) (Nat.le_of_ble_eq_true rfl) ?_) (fun r9 M9 q9 => ?_)
  · obtain ⟨⟨rfl, e9⟩, hx_3⟩ := hx9
    have e9 := e9.symm
    subst e9
    exact ⟨1, by unfold swX; (repeat' split) <;> first | rfl | omega | contradiction | exact absurd trivial hx_3, by decide, rfl, rfl⟩
  obtain ⟨⟨rfl, e9⟩, hp_4⟩ := q9
  have e9 := e9.symm
  subst e9
  have hinhp_4 := szI_in (M := M) (c := 1) (r := r2) (by omega)
  have hshp_4 := hS r2
  refine x_aload_n F dX6_swap_13 rfl ?_
  refine x_getc (v := 16) F flX6_29 rfl dX6_swap_14 (by decide) (by decide) rfl rfl ?_
  refine x_aload_n F dX6_swap_17 rfl ?_
  refine x_getc (v := 1) F flX6_12 rfl dX6_swap_18 (by decide) (by decide) rfl rfl ?_
  refine x_V1 F (m_X3_save hC hH) mlX6_76 mvX3_save rfl dX6_swap_21 (by decide) rfl ⟨Nat.le_of_ble_eq_true rfl, Nat.le_of_ble_eq_true rfl⟩ ⟨Nat.le_of_ble_eq_true rfl, Nat.le_of_ble_eq_true rfl⟩ (Nat.le_of_ble_eq_true rfl) ?_
  have hO2 := okC_sv hO
  have hS2 := hS_of hO2
  refine x_aload_n F dX6_swap_24 rfl ?_
  refine x_getc (v := 1) F flX6_12 rfl dX6_swap_25 (by decide) (by decide) rfl rfl ?_
  refine x_iload_n F dX6_swap_28 rfl ?_
  refine x_iload_n F dX6_swap_29 rfl ?_
  refine x_iload_n F dX6_swap_30 rfl ?_
  refine x_iload F dX6_swap_31 rfl ?_
  refine x_V4 F (m_X1_swapAndCount (by first | assumption | omega | decide) (by first | assumption | omega | decide) (by first | assumption | omega | decide) (by first | assumption | omega | decide) (by first | assumption | omega | decide)) mlX6_99 mvX1_swapAndCount rfl dX6_swap_33 (by decide) rfl ⟨Nat.le_of_ble_eq_true rfl, Nat.le_of_ble_eq_true rfl⟩ ⟨Nat.le_of_ble_eq_true rfl, Nat.le_of_ble_eq_true rfl⟩ (Nat.le_of_ble_eq_true rfl) ?_
  have hO3 : okC (swM (svM M 1) r p r2 p2) 1 := okC_sw hO2
  refine x_aload_n F dX6_swap_36 rfl ?_
  refine x_getc (v := 1) F flX6_12 rfl dX6_swap_37 (by decide) (by decide) rfl rfl ?_
  refine x_V0 F (m_X1_oddOfAll hC hO3) mlX6_103 mvX1_oddOfAll rfl dX6_swap_40 (by decide) rfl ⟨Nat.le_of_ble_eq_true rfl, Nat.le_of_ble_eq_true rfl⟩ ⟨Nat.le_of_ble_eq_true rfl, Nat.le_of_ble_eq_true rfl⟩ (Nat.le_of_ble_eq_true rfl) ?_
  refine x_iret F FR dX6_swap_43 rfl (Nat.le_of_ble_eq_true rfl) (Nat.le_of_ble_eq_true rfl) ?_
  exact ⟨rfl, rfl, by unfold swX; (repeat' split) <;> first | rfl | omega⟩
set_option maxRecDepth 20000 in
theorem m_X6_cross {l : Launch} {E : xE} (hl : l.stackTraces = false) {r p t : Int} {M : xM} (hO : okC M 1) (hH : okH M) (hr : rg r) (hp : rg p) (ht : rg t) : XT l E 20 6 36 yX6_cross cX6_cross 4 (some FieldType.int) [vA 0, vI (jI r), vI (jI p), vI (jI t)] M (fun r' M' => r' = vI (jI (szI (svM M 1) 1 t)) ∧ M' = moM (svM M 1) 1 r p t ∧ crX M r p t = 0) (fun C M' => ∃ q9 : Int, crX M r p t = q9 ∧ q9 ≠ 0 ∧ C = xcl q9 ∧ M' = M) := by
  refine xt_start (plainFor_of_name (by decide)) rfl (Nat.le_of_ble_eq_true rfl) ?_
  intro Y F FR
  have hC : isCh 1 := ch1
  have hC6 : isCh 6 := ch6
  have hS := hS_of hO
  refine x_aload_n F dX6_cross_0 rfl ?_
  refine x_iload_n F dX6_cross_1 rfl ?_
  refine x_iload_n F dX6_cross_2 rfl ?_
  refine x_callVT (As := [_, _]) F (m_X6_needSinger hl (by first | assumption | omega | decide) (by first | assumption | omega | decide)) mlX6_84 mvX6_needSinger rfl (by decide) rfl ⟨Nat.le_of_ble_eq_true rfl, Nat.le_of_ble_eq_true rfl⟩ ⟨Nat.le_of_ble_eq_true rfl, Nat.le_of_ble_eq_true rfl⟩ (Nat.le_of_ble_eq_true rfl) rfl dX6_cross_3 (fun C9 M9 hx9 => x_out F FR (Nat.le_of_ble_eq_true rfl) (Nat.le_of_ble_eq_true rfl) ?_) (fun r9 M9 q9 => ?_)
  · obtain ⟨⟨rfl, e9⟩, hx_1⟩ := hx9
    have e9 := e9.symm
    subst e9
    exact ⟨1, by unfold crX; (repeat' split) <;> first | rfl | omega | contradiction | exact absurd trivial hx_1, by decide, rfl, rfl⟩
  obtain ⟨⟨rfl, e9⟩, hp_2⟩ := q9
  have e9 := e9.symm
  subst e9
  have hinhp_2 := szI_in (M := M) (c := 1) (r := r) (by omega)
  have hshp_2 := hS r
  refine x_iload_n F dX6_cross_6 rfl ?_
  refine x_callST (As := [_]) F (m_X6_needRow hl (by first | assumption | omega | decide)) mlX6_54 msX6_needRow ⟨Nat.le_of_ble_eq_true rfl, Nat.le_of_ble_eq_true rfl⟩ ⟨Nat.le_of_ble_eq_true rfl, Nat.le_of_ble_eq_true rfl⟩ (Nat.le_of_ble_eq_true rfl) rfl dX6_cross_7 (fun C9 M9 hx9 => x_out F FR (Nat.le_of_ble_eq_true rfl) (Nat.le_of_ble_eq_true rfl) ?_) (fun r9 M9 q9 => ?_)
  · obtain ⟨⟨rfl, e9⟩, hx_3⟩ := hx9
    have e9 := e9.symm
    subst e9
    exact ⟨1, by unfold crX; (repeat' split) <;> first | rfl | omega | contradiction | exact absurd trivial hx_3, by decide, rfl, rfl⟩
  obtain ⟨⟨rfl, e9⟩, hp_4⟩ := q9
  have e9 := e9.symm
  subst e9
  refine x_iload_n F dX6_cross_10 rfl ?_
  refine x_iload_n F dX6_cross_11 rfl ?_
  refine xj_icmp_eq (tgt := 32) F dX6_cross_12 (by decide) (by omega) (fun h_5 => ?_) (fun h_5 => ?_)
  · refine xj_iconst F dX6_cross_32 ?_
    refine x_callST (As := [_]) F (m_X6_needState hl (p := False)) mlX6_73 msX6_needState ⟨Nat.le_of_ble_eq_true rfl, Nat.le_of_ble_eq_true rfl⟩ ⟨Nat.le_of_ble_eq_true rfl, Nat.le_of_ble_eq_true rfl⟩ (Nat.le_of_ble_eq_true rfl) rfl dX6_cross_33 (fun C9 M9 hx9 => x_out F FR (Nat.le_of_ble_eq_true rfl) (Nat.le_of_ble_eq_true rfl) ?_) (fun r9 M9 q9 => ?_)
    · obtain ⟨⟨rfl, e9⟩, hx_6⟩ := hx9
      have e9 := e9.symm
      subst e9
      exact ⟨3, by unfold crX; (repeat' split) <;> first | rfl | omega | contradiction | exact absurd trivial hx_6, by decide, rfl, rfl⟩
    exact q9.2.elim
  · refine x_aload_n F dX6_cross_15 rfl ?_
    refine x_getc (v := 1) F flX6_12 rfl dX6_cross_16 (by decide) (by decide) rfl rfl ?_
    refine x_iload_n F dX6_cross_19 rfl ?_
    refine x_V1 F (m_X1_sizeOf (by first | assumption | omega | decide) (by first | assumption | omega | decide)) mlX6_107 mvX1_sizeOf rfl dX6_cross_20 (by decide) rfl ⟨Nat.le_of_ble_eq_true rfl, Nat.le_of_ble_eq_true rfl⟩ ⟨Nat.le_of_ble_eq_true rfl, Nat.le_of_ble_eq_true rfl⟩ (Nat.le_of_ble_eq_true rfl) ?_
    have hf_8 := rg_szI M 1 t
    refine xj_bipush F dX6_cross_23 (by decide) ?_
    refine xj_icmp_ge (tgt := 32) F dX6_cross_25 (by decide) (by omega) (fun h_9 => ?_) (fun h_9 => ?_)
    · refine xj_iconst F dX6_cross_32 ?_
      refine x_callST (As := [_]) F (m_X6_needState hl (p := False)) mlX6_73 msX6_needState ⟨Nat.le_of_ble_eq_true rfl, Nat.le_of_ble_eq_true rfl⟩ ⟨Nat.le_of_ble_eq_true rfl, Nat.le_of_ble_eq_true rfl⟩ (Nat.le_of_ble_eq_true rfl) rfl dX6_cross_33 (fun C9 M9 hx9 => x_out F FR (Nat.le_of_ble_eq_true rfl) (Nat.le_of_ble_eq_true rfl) ?_) (fun r9 M9 q9 => ?_)
      · obtain ⟨⟨rfl, e9⟩, hx_10⟩ := hx9
        have e9 := e9.symm
        subst e9
        exact ⟨3, by unfold crX; (repeat' split) <;> first | rfl | omega | contradiction | exact absurd trivial hx_10, by decide, rfl, rfl⟩
      exact q9.2.elim
    · refine xj_iconst F dX6_cross_28 ?_
      refine x_goto (tgt := 33) F dX6_cross_29 (by decide) ?_
      refine x_callST (As := [_]) F (m_X6_needState hl (p := True)) mlX6_73 msX6_needState ⟨Nat.le_of_ble_eq_true rfl, Nat.le_of_ble_eq_true rfl⟩ ⟨Nat.le_of_ble_eq_true rfl, Nat.le_of_ble_eq_true rfl⟩ (Nat.le_of_ble_eq_true rfl) rfl dX6_cross_33 (fun C9 M9 hx9 => x_out F FR (Nat.le_of_ble_eq_true rfl) (Nat.le_of_ble_eq_true rfl) ?_) (fun r9 M9 q9 => ?_)
      · obtain ⟨⟨rfl, e9⟩, hx_12⟩ := hx9
        have e9 := e9.symm
        subst e9
        exact ⟨3, by unfold crX; (repeat' split) <;> first | rfl | omega | contradiction | exact absurd trivial hx_12, by decide, rfl, rfl⟩
      obtain ⟨⟨rfl, e9⟩, hp_13⟩ := q9
      have e9 := e9.symm
      subst e9
      refine x_aload_n F dX6_cross_36 rfl ?_
      refine x_getc (v := 16) F flX6_29 rfl dX6_cross_37 (by decide) (by decide) rfl rfl ?_
      refine x_aload_n F dX6_cross_40 rfl ?_
      refine x_getc (v := 1) F flX6_12 rfl dX6_cross_41 (by decide) (by decide) rfl rfl ?_
      refine x_V1 F (m_X3_save hC hH) mlX6_76 mvX3_save rfl dX6_cross_44 (by decide) rfl ⟨Nat.le_of_ble_eq_true rfl, Nat.le_of_ble_eq_true rfl⟩ ⟨Nat.le_of_ble_eq_true rfl, Nat.le_of_ble_eq_true rfl⟩ (Nat.le_of_ble_eq_true rfl) ?_
      have hO2 := okC_sv hO
      have hS2 := hS_of hO2
      refine x_aload_n F dX6_cross_47 rfl ?_
      refine x_getc (v := 1) F flX6_12 rfl dX6_cross_48 (by decide) (by decide) rfl rfl ?_
      refine x_iload_n F dX6_cross_51 rfl ?_
      refine x_iload_n F dX6_cross_52 rfl ?_
      refine x_iload_n F dX6_cross_53 rfl ?_
      refine x_V3 F (m_X1_moveOver hC hS2 (by omega) (by omega) (by omega) (by omega)) mlX6_111 mvX1_moveOver rfl dX6_cross_54 (by decide) rfl ⟨Nat.le_of_ble_eq_true rfl, Nat.le_of_ble_eq_true rfl⟩ ⟨Nat.le_of_ble_eq_true rfl, Nat.le_of_ble_eq_true rfl⟩ (Nat.le_of_ble_eq_true rfl) ?_
      refine x_iret F FR dX6_cross_57 rfl (Nat.le_of_ble_eq_true rfl) (Nat.le_of_ble_eq_true rfl) ?_
      exact ⟨rfl, rfl, by unfold crX; (repeat' split) <;> first | rfl | omega⟩
theorem okC_trM {M : xM} {c : Nat} {r : Int} (hO : okC M c) : ∀ n, okC (trM M c r n) c
  | 0 => hO
  | n + 1 => okC_swP (okC_trM hO n) _ _
theorem okC_inM {c : Nat} {r z : Int} : ∀ (n : Nat) (M : xM), okC M c → okC (inM c r z n M) c
  | 0, _, h => h
  | n + 1, M, h => by
    simp only [inM]
    split
    · exact okC_inM n _ (okC_swP h _ _)
    · exact h
theorem okC_srM {M : xM} {c : Nat} {r z : Int} (hO : okC M c) : ∀ n, okC (srM M c r z n) c
  | 0 => hO
  | n + 1 => okC_inM _ _ (okC_srM hO n)
set_option maxRecDepth 20000 in
theorem m_X6_turn {l : Launch} {E : xE} (hl : l.stackTraces = false) {r : Int} {M : xM} (hO : okC M 1) (hH : okH M) (hr : rg r) : XT l E 20 6 36 yX6_turn cX6_turn 2 (some FieldType.int) [vA 0, vI (jI r)] M (fun r' M' => r' = vI (jI (oaI (trM (svM M 1) 1 r (szI (svM M 1) 1 r / 2).toNat) 1)) ∧ M' = trM (svM M 1) 1 r (szI (svM M 1) 1 r / 2).toNat ∧ roX r = 0) (fun C M' => ∃ q9 : Int, roX r = q9 ∧ q9 ≠ 0 ∧ C = xcl q9 ∧ M' = M) := by
  refine xt_start (plainFor_of_name (by decide)) rfl (Nat.le_of_ble_eq_true rfl) ?_
  intro Y F FR
  have hC : isCh 1 := ch1
  have hC6 : isCh 6 := ch6
  have hS := hS_of hO
  refine x_iload_n F dX6_turn_0 rfl ?_
  refine x_callST (As := [_]) F (m_X6_needRow hl (by first | assumption | omega | decide)) mlX6_54 msX6_needRow ⟨Nat.le_of_ble_eq_true rfl, Nat.le_of_ble_eq_true rfl⟩ ⟨Nat.le_of_ble_eq_true rfl, Nat.le_of_ble_eq_true rfl⟩ (Nat.le_of_ble_eq_true rfl) rfl dX6_turn_1 (fun C9 M9 hx9 => x_out F FR (Nat.le_of_ble_eq_true rfl) (Nat.le_of_ble_eq_true rfl) ?_) (fun r9 M9 q9 => ?_)
  · obtain ⟨⟨rfl, e9⟩, hx_1⟩ := hx9
    have e9 := e9.symm
    subst e9
    exact ⟨1, by unfold roX; (repeat' split) <;> first | rfl | omega | contradiction | exact absurd trivial hx_1, by decide, rfl, rfl⟩
  obtain ⟨⟨rfl, e9⟩, hp_2⟩ := q9
  have e9 := e9.symm
  subst e9
  refine x_aload_n F dX6_turn_4 rfl ?_
  refine x_getc (v := 16) F flX6_29 rfl dX6_turn_5 (by decide) (by decide) rfl rfl ?_
  refine x_aload_n F dX6_turn_8 rfl ?_
  refine x_getc (v := 1) F flX6_12 rfl dX6_turn_9 (by decide) (by decide) rfl rfl ?_
  refine x_V1 F (m_X3_save hC hH) mlX6_76 mvX3_save rfl dX6_turn_12 (by decide) rfl ⟨Nat.le_of_ble_eq_true rfl, Nat.le_of_ble_eq_true rfl⟩ ⟨Nat.le_of_ble_eq_true rfl, Nat.le_of_ble_eq_true rfl⟩ (Nat.le_of_ble_eq_true rfl) ?_
  have hO2 := okC_sv hO
  have hS2 := hS_of hO2
  refine x_aload_n F dX6_turn_15 rfl ?_
  refine x_getc (v := 1) F flX6_12 rfl dX6_turn_16 (by decide) (by decide) rfl rfl ?_
  refine x_iload_n F dX6_turn_19 rfl ?_
  refine x_V1 F (m_X1_turnRound hC hS2 (by omega)) mlX6_114 mvX1_turnRound rfl dX6_turn_20 (by decide) rfl ⟨Nat.le_of_ble_eq_true rfl, Nat.le_of_ble_eq_true rfl⟩ ⟨Nat.le_of_ble_eq_true rfl, Nat.le_of_ble_eq_true rfl⟩ (Nat.le_of_ble_eq_true rfl) ?_
  have hO3 : okC (trM (svM M 1) 1 r (szI (svM M 1) 1 r / 2).toNat) 1 := okC_trM hO2 _
  refine x_aload_n F dX6_turn_23 rfl ?_
  refine x_getc (v := 1) F flX6_12 rfl dX6_turn_24 (by decide) (by decide) rfl rfl ?_
  refine x_V0 F (m_X1_oddOfAll hC hO3) mlX6_103 mvX1_oddOfAll rfl dX6_turn_27 (by decide) rfl ⟨Nat.le_of_ble_eq_true rfl, Nat.le_of_ble_eq_true rfl⟩ ⟨Nat.le_of_ble_eq_true rfl, Nat.le_of_ble_eq_true rfl⟩ (Nat.le_of_ble_eq_true rfl) ?_
  refine x_iret F FR dX6_turn_30 rfl (Nat.le_of_ble_eq_true rfl) (Nat.le_of_ble_eq_true rfl) ?_
  exact ⟨rfl, rfl, by unfold roX; (repeat' split) <;> first | rfl | omega⟩
set_option maxRecDepth 20000 in
theorem m_X6_sort {l : Launch} {E : xE} (hl : l.stackTraces = false) {r z : Int} {M : xM} (hO : okC M 1) (hH : okH M) (hr : rg r) (hz : rg z) : XT l E 20 6 36 yX6_sort cX6_sort 3 (some FieldType.int) [vA 0, vI (jI r), vI (jI z)] M (fun r' M' => r' = vI (jI (dcI (srM (svM M 1) 1 r z (szI (svM M 1) 1 r - 1).toNat) 1 r)) ∧ M' = (srM (svM M 1) 1 r z (szI (svM M 1) 1 r - 1).toNat) ∧ rwX r 0 2 z = 0) (fun C M' => ∃ q9 : Int, rwX r 0 2 z = q9 ∧ q9 ≠ 0 ∧ C = xcl q9 ∧ M' = M) := by
  refine xt_start (plainFor_of_name (by decide)) rfl (Nat.le_of_ble_eq_true rfl) ?_
  intro Y F FR
  have hC : isCh 1 := ch1
  have hC6 : isCh 6 := ch6
  have hS := hS_of hO
  refine x_iload_n F dX6_sort_0 rfl ?_
  refine x_callST (As := [_]) F (m_X6_needRow hl (by first | assumption | omega | decide)) mlX6_54 msX6_needRow ⟨Nat.le_of_ble_eq_true rfl, Nat.le_of_ble_eq_true rfl⟩ ⟨Nat.le_of_ble_eq_true rfl, Nat.le_of_ble_eq_true rfl⟩ (Nat.le_of_ble_eq_true rfl) rfl dX6_sort_1 (fun C9 M9 hx9 => x_out F FR (Nat.le_of_ble_eq_true rfl) (Nat.le_of_ble_eq_true rfl) ?_) (fun r9 M9 q9 => ?_)
  · obtain ⟨⟨rfl, e9⟩, hx_1⟩ := hx9
    have e9 := e9.symm
    subst e9
    exact ⟨1, by unfold rwX; (repeat' split) <;> first | rfl | omega | contradiction | exact absurd trivial hx_1, by decide, rfl, rfl⟩
  obtain ⟨⟨rfl, e9⟩, hp_2⟩ := q9
  have e9 := e9.symm
  subst e9
  refine x_iload_n F dX6_sort_4 rfl ?_
  refine xj_iconst F dX6_sort_5 ?_
  refine xj_iconst F dX6_sort_6 ?_
  refine x_S3 F (m_X6_isBetween (by first | assumption | omega | decide) (by first | assumption | omega | decide) (by first | assumption | omega | decide)) mlX6_61 msX6_isBetween dX6_sort_7 ⟨Nat.le_of_ble_eq_true rfl, Nat.le_of_ble_eq_true rfl⟩ ⟨Nat.le_of_ble_eq_true rfl, Nat.le_of_ble_eq_true rfl⟩ (Nat.le_of_ble_eq_true rfl) ?_
  refine x_callST (As := [_]) F (m_X6_needArgument hl (p := (0 ≤ z ∧ z ≤ 2))) mlX6_65 msX6_needArgument ⟨Nat.le_of_ble_eq_true rfl, Nat.le_of_ble_eq_true rfl⟩ ⟨Nat.le_of_ble_eq_true rfl, Nat.le_of_ble_eq_true rfl⟩ (Nat.le_of_ble_eq_true rfl) rfl dX6_sort_10 (fun C9 M9 hx9 => x_out F FR (Nat.le_of_ble_eq_true rfl) (Nat.le_of_ble_eq_true rfl) ?_) (fun r9 M9 q9 => ?_)
  · obtain ⟨⟨rfl, e9⟩, hx_3⟩ := hx9
    have e9 := e9.symm
    subst e9
    exact ⟨2, by unfold rwX; (repeat' split) <;> first | rfl | omega | contradiction | exact absurd trivial hx_3, by decide, rfl, rfl⟩
  obtain ⟨⟨rfl, e9⟩, hp_4⟩ := q9
  have e9 := e9.symm
  subst e9
  refine x_aload_n F dX6_sort_13 rfl ?_
  refine x_getc (v := 16) F flX6_29 rfl dX6_sort_14 (by decide) (by decide) rfl rfl ?_
  refine x_aload_n F dX6_sort_17 rfl ?_
  refine x_getc (v := 1) F flX6_12 rfl dX6_sort_18 (by decide) (by decide) rfl rfl ?_
  refine x_V1 F (m_X3_save hC hH) mlX6_76 mvX3_save rfl dX6_sort_21 (by decide) rfl ⟨Nat.le_of_ble_eq_true rfl, Nat.le_of_ble_eq_true rfl⟩ ⟨Nat.le_of_ble_eq_true rfl, Nat.le_of_ble_eq_true rfl⟩ (Nat.le_of_ble_eq_true rfl) ?_
  have hO2 := okC_sv hO
  have hS2 := hS_of hO2
  refine x_aload_n F dX6_sort_24 rfl ?_
  refine x_getc (v := 1) F flX6_12 rfl dX6_sort_25 (by decide) (by decide) rfl rfl ?_
  refine x_iload_n F dX6_sort_28 rfl ?_
  refine x_iload_n F dX6_sort_29 rfl ?_
  refine x_V2 F (m_X1_putInOrder hC hS2 (by omega) hO2.2.2.2 (by omega)) mlX6_117 mvX1_putInOrder rfl dX6_sort_30 (by decide) rfl ⟨Nat.le_of_ble_eq_true rfl, Nat.le_of_ble_eq_true rfl⟩ ⟨Nat.le_of_ble_eq_true rfl, Nat.le_of_ble_eq_true rfl⟩ (Nat.le_of_ble_eq_true rfl) ?_
  have hO3 : okC (srM (svM M 1) 1 r z (szI (svM M 1) 1 r - 1).toNat) 1 := okC_srM hO2 _
  have hS3 := hS_of hO3
  refine x_aload_n F dX6_sort_33 rfl ?_
  refine x_getc (v := 1) F flX6_12 rfl dX6_sort_34 (by decide) (by decide) rfl rfl ?_
  refine x_iload_n F dX6_sort_37 rfl ?_
  refine x_V1 F (m_X1_discordOf hC hO3 (by omega)) mlX6_120 mvX1_discordOf rfl dX6_sort_38 (by decide) rfl ⟨Nat.le_of_ble_eq_true rfl, Nat.le_of_ble_eq_true rfl⟩ ⟨Nat.le_of_ble_eq_true rfl, Nat.le_of_ble_eq_true rfl⟩ (Nat.le_of_ble_eq_true rfl) ?_
  refine x_iret F FR dX6_sort_41 rfl (Nat.le_of_ble_eq_true rfl) (Nat.le_of_ble_eq_true rfl) ?_
  exact ⟨rfl, rfl, by unfold rwX; (repeat' split) <;> first | rfl | omega⟩
set_option maxRecDepth 20000 in
theorem m_X6_set {l : Launch} {E : xE} (hl : l.stackTraces = false) {s x : Int} {M : xM} (hO : okC M 1) (hH : okH M) (hs : rg s) (hx : rg x) : XT l E 20 6 36 yX6_set cX6_set 4 (some FieldType.int) [vA 0, vI (jI s), vI (jI x)] M (fun r' M' => r' = vI (jI (if s = 0 then ((svM M 1).1 1 4).toInt else ((svM M 1).1 1 5).toInt)) ∧ M' = upI (svM M 1) 1 (if s = 0 then 4 else 5) (jI x) ∧ seX s x = 0) (fun C M' => ∃ q9 : Int, seX s x = q9 ∧ q9 ≠ 0 ∧ C = xcl q9 ∧ M' = M) := by
  refine xt_start (plainFor_of_name (by decide)) rfl (Nat.le_of_ble_eq_true rfl) ?_
  intro Y F FR
  have hC : isCh 1 := ch1
  have hC6 : isCh 6 := ch6
  have hS := hS_of hO
  refine x_iload_n F dX6_set_0 rfl ?_
  refine xj_iconst F dX6_set_1 ?_
  refine xj_iconst F dX6_set_2 ?_
  refine x_S3 F (m_X6_isBetween (by first | assumption | omega | decide) (by first | assumption | omega | decide) (by first | assumption | omega | decide)) mlX6_61 msX6_isBetween dX6_set_3 ⟨Nat.le_of_ble_eq_true rfl, Nat.le_of_ble_eq_true rfl⟩ ⟨Nat.le_of_ble_eq_true rfl, Nat.le_of_ble_eq_true rfl⟩ (Nat.le_of_ble_eq_true rfl) ?_
  refine x_callST (As := [_]) F (m_X6_needIndex hl (p := (0 ≤ s ∧ s ≤ 1))) mlX6_123 msX6_needIndex ⟨Nat.le_of_ble_eq_true rfl, Nat.le_of_ble_eq_true rfl⟩ ⟨Nat.le_of_ble_eq_true rfl, Nat.le_of_ble_eq_true rfl⟩ (Nat.le_of_ble_eq_true rfl) rfl dX6_set_6 (fun C9 M9 hx9 => x_out F FR (Nat.le_of_ble_eq_true rfl) (Nat.le_of_ble_eq_true rfl) ?_) (fun r9 M9 q9 => ?_)
  · obtain ⟨⟨rfl, e9⟩, hx_1⟩ := hx9
    have e9 := e9.symm
    subst e9
    exact ⟨1, by unfold seX; (repeat' split) <;> first | rfl | omega | contradiction | exact absurd trivial hx_1, by decide, rfl, rfl⟩
  obtain ⟨⟨rfl, e9⟩, hp_2⟩ := q9
  have e9 := e9.symm
  subst e9
  refine x_iload_n F dX6_set_9 rfl ?_
  refine xj_if_ne (tgt := 23) F dX6_set_10 (by decide) (by omega) (fun h_3 => ?_) (fun h_3 => ?_)
  · refine x_iload_n F dX6_set_23 rfl ?_
    refine xj_iconst F dX6_set_24 ?_
    refine xj_iconst F dX6_set_25 ?_
    refine x_S3 F (m_X6_isBetween (by first | assumption | omega | decide) (by first | assumption | omega | decide) (by first | assumption | omega | decide)) mlX6_61 msX6_isBetween dX6_set_26 ⟨Nat.le_of_ble_eq_true rfl, Nat.le_of_ble_eq_true rfl⟩ ⟨Nat.le_of_ble_eq_true rfl, Nat.le_of_ble_eq_true rfl⟩ (Nat.le_of_ble_eq_true rfl) ?_
    refine x_callST (As := [_]) F (m_X6_needArgument hl (p := (0 ≤ x ∧ x ≤ 1))) mlX6_65 msX6_needArgument ⟨Nat.le_of_ble_eq_true rfl, Nat.le_of_ble_eq_true rfl⟩ ⟨Nat.le_of_ble_eq_true rfl, Nat.le_of_ble_eq_true rfl⟩ (Nat.le_of_ble_eq_true rfl) rfl dX6_set_29 (fun C9 M9 hx9 => x_out F FR (Nat.le_of_ble_eq_true rfl) (Nat.le_of_ble_eq_true rfl) ?_) (fun r9 M9 q9 => ?_)
    · obtain ⟨⟨rfl, e9⟩, hx_4⟩ := hx9
      have e9 := e9.symm
      subst e9
      exact ⟨2, by unfold seX; (repeat' split) <;> first | rfl | omega | contradiction | exact absurd trivial hx_4, by decide, rfl, rfl⟩
    obtain ⟨⟨rfl, e9⟩, hp_5⟩ := q9
    have e9 := e9.symm
    subst e9
    refine x_aload_n F dX6_set_32 rfl ?_
    refine x_getc (v := 16) F flX6_29 rfl dX6_set_33 (by decide) (by decide) rfl rfl ?_
    refine x_aload_n F dX6_set_36 rfl ?_
    refine x_getc (v := 1) F flX6_12 rfl dX6_set_37 (by decide) (by decide) rfl rfl ?_
    refine x_V1 F (m_X3_save hC hH) mlX6_76 mvX3_save rfl dX6_set_40 (by decide) rfl ⟨Nat.le_of_ble_eq_true rfl, Nat.le_of_ble_eq_true rfl⟩ ⟨Nat.le_of_ble_eq_true rfl, Nat.le_of_ble_eq_true rfl⟩ (Nat.le_of_ble_eq_true rfl) ?_
    have hO2 := okC_sv hO
    have hS2 := hS_of hO2
    refine x_aload_n F dX6_set_43 rfl ?_
    refine x_getc (v := 1) F flX6_12 rfl dX6_set_44 (by decide) (by decide) rfl rfl ?_
    refine x_iload_n F dX6_set_47 rfl ?_
    refine x_V1 F (m_X1_settingAt hC (by omega)) mlX6_126 mvX1_settingAt rfl dX6_set_48 (by decide) rfl ⟨Nat.le_of_ble_eq_true rfl, Nat.le_of_ble_eq_true rfl⟩ ⟨Nat.le_of_ble_eq_true rfl, Nat.le_of_ble_eq_true rfl⟩ (Nat.le_of_ble_eq_true rfl) ?_
    refine x_istore_n F dX6_set_51 (by decide) ?_
    refine x_aload_n F dX6_set_52 rfl ?_
    refine x_getc (v := 1) F flX6_12 rfl dX6_set_53 (by decide) (by decide) rfl rfl ?_
    refine x_iload_n F dX6_set_56 rfl ?_
    refine x_iload_n F dX6_set_57 rfl ?_
    refine x_V2 F (m_X1_changeSetting hC (by omega)) mlX6_129 mvX1_changeSetting rfl dX6_set_58 (by decide) rfl ⟨Nat.le_of_ble_eq_true rfl, Nat.le_of_ble_eq_true rfl⟩ ⟨Nat.le_of_ble_eq_true rfl, Nat.le_of_ble_eq_true rfl⟩ (Nat.le_of_ble_eq_true rfl) ?_
    refine x_iload_n F dX6_set_61 rfl ?_
    refine x_iret F FR dX6_set_62 rfl (Nat.le_of_ble_eq_true rfl) (Nat.le_of_ble_eq_true rfl) ?_
    exact ⟨rfl, rfl, by unfold seX; (repeat' split) <;> first | rfl | omega⟩
  · refine x_iload_n F dX6_set_13 rfl ?_
    refine xj_iconst F dX6_set_14 ?_
    refine xj_bipush F dX6_set_15 (by decide) ?_
    refine x_S3 F (m_X6_isBetween (by first | assumption | omega | decide) (by first | assumption | omega | decide) (by first | assumption | omega | decide)) mlX6_61 msX6_isBetween dX6_set_17 ⟨Nat.le_of_ble_eq_true rfl, Nat.le_of_ble_eq_true rfl⟩ ⟨Nat.le_of_ble_eq_true rfl, Nat.le_of_ble_eq_true rfl⟩ (Nat.le_of_ble_eq_true rfl) ?_
    refine x_goto (tgt := 29) F dX6_set_20 (by decide) ?_
    refine x_callST (As := [_]) F (m_X6_needArgument hl (p := (1 ≤ x ∧ x ≤ 6))) mlX6_65 msX6_needArgument ⟨Nat.le_of_ble_eq_true rfl, Nat.le_of_ble_eq_true rfl⟩ ⟨Nat.le_of_ble_eq_true rfl, Nat.le_of_ble_eq_true rfl⟩ (Nat.le_of_ble_eq_true rfl) rfl dX6_set_29 (fun C9 M9 hx9 => x_out F FR (Nat.le_of_ble_eq_true rfl) (Nat.le_of_ble_eq_true rfl) ?_) (fun r9 M9 q9 => ?_)
    · obtain ⟨⟨rfl, e9⟩, hx_6⟩ := hx9
      have e9 := e9.symm
      subst e9
      exact ⟨2, by unfold seX; (repeat' split) <;> first | rfl | omega | contradiction | exact absurd trivial hx_6, by decide, rfl, rfl⟩
    obtain ⟨⟨rfl, e9⟩, hp_7⟩ := q9
    have e9 := e9.symm
    subst e9
    refine x_aload_n F dX6_set_32 rfl ?_
    refine x_getc (v := 16) F flX6_29 rfl dX6_set_33 (by decide) (by decide) rfl rfl ?_
    refine x_aload_n F dX6_set_36 rfl ?_
    refine x_getc (v := 1) F flX6_12 rfl dX6_set_37 (by decide) (by decide) rfl rfl ?_
    refine x_V1 F (m_X3_save hC hH) mlX6_76 mvX3_save rfl dX6_set_40 (by decide) rfl ⟨Nat.le_of_ble_eq_true rfl, Nat.le_of_ble_eq_true rfl⟩ ⟨Nat.le_of_ble_eq_true rfl, Nat.le_of_ble_eq_true rfl⟩ (Nat.le_of_ble_eq_true rfl) ?_
    have hO2 := okC_sv hO
    have hS2 := hS_of hO2
    refine x_aload_n F dX6_set_43 rfl ?_
    refine x_getc (v := 1) F flX6_12 rfl dX6_set_44 (by decide) (by decide) rfl rfl ?_
    refine x_iload_n F dX6_set_47 rfl ?_
    refine x_V1 F (m_X1_settingAt hC (by omega)) mlX6_126 mvX1_settingAt rfl dX6_set_48 (by decide) rfl ⟨Nat.le_of_ble_eq_true rfl, Nat.le_of_ble_eq_true rfl⟩ ⟨Nat.le_of_ble_eq_true rfl, Nat.le_of_ble_eq_true rfl⟩ (Nat.le_of_ble_eq_true rfl) ?_
    refine x_istore_n F dX6_set_51 (by decide) ?_
    refine x_aload_n F dX6_set_52 rfl ?_
    refine x_getc (v := 1) F flX6_12 rfl dX6_set_53 (by decide) (by decide) rfl rfl ?_
    refine x_iload_n F dX6_set_56 rfl ?_
    refine x_iload_n F dX6_set_57 rfl ?_
    refine x_V2 F (m_X1_changeSetting hC (by omega)) mlX6_129 mvX1_changeSetting rfl dX6_set_58 (by decide) rfl ⟨Nat.le_of_ble_eq_true rfl, Nat.le_of_ble_eq_true rfl⟩ ⟨Nat.le_of_ble_eq_true rfl, Nat.le_of_ble_eq_true rfl⟩ (Nat.le_of_ble_eq_true rfl) ?_
    refine x_iload_n F dX6_set_61 rfl ?_
    refine x_iret F FR dX6_set_62 rfl (Nat.le_of_ble_eq_true rfl) (Nat.le_of_ble_eq_true rfl) ?_
    exact ⟨rfl, rfl, by unfold seX; (repeat' split) <;> first | rfl | omega⟩
set_option maxRecDepth 20000 in
theorem m_X6_append {l : Launch} {E : xE} (hl : l.stackTraces = false) {x : Int} {M : xM} (hO : okC M 1) (hB : okB M) (hx : rg x) : XT l E 20 6 36 yX6_append cX6_append 2 (some FieldType.int) [vA 0, vI (jI x)] M (fun r' M' => r' = vI (jI (tlI (adM M x))) ∧ M' = adM M x ∧ apX M x = 0) (fun C M' => ∃ q9 : Int, apX M x = q9 ∧ q9 ≠ 0 ∧ C = xcl q9 ∧ M' = M) := by
  refine xt_start (plainFor_of_name (by decide)) rfl (Nat.le_of_ble_eq_true rfl) ?_
  intro Y F FR
  have hC : isCh 1 := ch1
  have hC6 : isCh 6 := ch6
  have hS := hS_of hO
  have hb := hB.1
  refine x_iload_n F dX6_append_0 rfl ?_
  refine xj_bipush F dX6_append_1 (by decide) ?_
  refine xj_bipush F dX6_append_3 (by decide) ?_
  refine x_S3 F (m_X6_isBetween (by first | assumption | omega | decide) (by first | assumption | omega | decide) (by first | assumption | omega | decide)) mlX6_61 msX6_isBetween dX6_append_5 ⟨Nat.le_of_ble_eq_true rfl, Nat.le_of_ble_eq_true rfl⟩ ⟨Nat.le_of_ble_eq_true rfl, Nat.le_of_ble_eq_true rfl⟩ (Nat.le_of_ble_eq_true rfl) ?_
  refine x_callST (As := [_]) F (m_X6_needArgument hl (p := (33 ≤ x ∧ x ≤ 126))) mlX6_65 msX6_needArgument ⟨Nat.le_of_ble_eq_true rfl, Nat.le_of_ble_eq_true rfl⟩ ⟨Nat.le_of_ble_eq_true rfl, Nat.le_of_ble_eq_true rfl⟩ (Nat.le_of_ble_eq_true rfl) rfl dX6_append_8 (fun C9 M9 hx9 => x_out F FR (Nat.le_of_ble_eq_true rfl) (Nat.le_of_ble_eq_true rfl) ?_) (fun r9 M9 q9 => ?_)
  · obtain ⟨⟨rfl, e9⟩, hx_1⟩ := hx9
    have e9 := e9.symm
    subst e9
    exact ⟨2, by unfold apX; (repeat' split) <;> first | rfl | omega | contradiction | exact absurd trivial hx_1, by decide, rfl, rfl⟩
  obtain ⟨⟨rfl, e9⟩, hp_2⟩ := q9
  have e9 := e9.symm
  subst e9
  refine x_aload_n F dX6_append_11 rfl ?_
  refine x_getc (v := 48) F flX6_36 rfl dX6_append_12 (by decide) (by decide) rfl rfl ?_
  refine x_V0 F (m_X0_size) mlX6_132 mvX0_size rfl dX6_append_15 (by decide) rfl ⟨Nat.le_of_ble_eq_true rfl, Nat.le_of_ble_eq_true rfl⟩ ⟨Nat.le_of_ble_eq_true rfl, Nat.le_of_ble_eq_true rfl⟩ (Nat.le_of_ble_eq_true rfl) ?_
  refine xj_bipush F dX6_append_18 (by decide) ?_
  refine xj_icmp_ge (tgt := 27) F dX6_append_20 (by decide) (by omega) (fun h_3 => ?_) (fun h_3 => ?_)
  · refine xj_iconst F dX6_append_27 ?_
    refine x_callST (As := [_]) F (m_X6_needState hl (p := False)) mlX6_73 msX6_needState ⟨Nat.le_of_ble_eq_true rfl, Nat.le_of_ble_eq_true rfl⟩ ⟨Nat.le_of_ble_eq_true rfl, Nat.le_of_ble_eq_true rfl⟩ (Nat.le_of_ble_eq_true rfl) rfl dX6_append_28 (fun C9 M9 hx9 => x_out F FR (Nat.le_of_ble_eq_true rfl) (Nat.le_of_ble_eq_true rfl) ?_) (fun r9 M9 q9 => ?_)
    · obtain ⟨⟨rfl, e9⟩, hx_4⟩ := hx9
      have e9 := e9.symm
      subst e9
      exact ⟨3, by unfold apX; (repeat' split) <;> first | rfl | omega | contradiction | exact absurd trivial hx_4, by decide, rfl, rfl⟩
    exact q9.2.elim
  · refine xj_iconst F dX6_append_23 ?_
    refine x_goto (tgt := 28) F dX6_append_24 (by decide) ?_
    refine x_callST (As := [_]) F (m_X6_needState hl (p := True)) mlX6_73 msX6_needState ⟨Nat.le_of_ble_eq_true rfl, Nat.le_of_ble_eq_true rfl⟩ ⟨Nat.le_of_ble_eq_true rfl, Nat.le_of_ble_eq_true rfl⟩ (Nat.le_of_ble_eq_true rfl) rfl dX6_append_28 (fun C9 M9 hx9 => x_out F FR (Nat.le_of_ble_eq_true rfl) (Nat.le_of_ble_eq_true rfl) ?_) (fun r9 M9 q9 => ?_)
    · obtain ⟨⟨rfl, e9⟩, hx_6⟩ := hx9
      have e9 := e9.symm
      subst e9
      exact ⟨3, by unfold apX; (repeat' split) <;> first | rfl | omega | contradiction | exact absurd trivial hx_6, by decide, rfl, rfl⟩
    obtain ⟨⟨rfl, e9⟩, hp_7⟩ := q9
    have e9 := e9.symm
    subst e9
    refine x_aload_n F dX6_append_31 rfl ?_
    refine x_getc (v := 48) F flX6_36 rfl dX6_append_32 (by decide) (by decide) rfl rfl ?_
    refine x_iload_n F dX6_append_35 rfl ?_
    refine x_i2c F dX6_append_36 ?_
    rw [i2cT (by omega)]
    refine x_V1 F (m_X0_add (by omega) (by omega)) mlX6_135 mvX0_add rfl dX6_append_37 (by decide) rfl ⟨Nat.le_of_ble_eq_true rfl, Nat.le_of_ble_eq_true rfl⟩ ⟨Nat.le_of_ble_eq_true rfl, Nat.le_of_ble_eq_true rfl⟩ (Nat.le_of_ble_eq_true rfl) ?_
    have hadm : upI (upI M 49 (tlI M).toNat (jI x)) 48 1 (jI (tlI M + 1)) = adM M x := by unfold adM; exact (if_pos (by omega)).symm
    rw [hadm]
    refine x_aload_n F dX6_append_40 rfl ?_
    refine x_getc (v := 48) F flX6_36 rfl dX6_append_41 (by decide) (by decide) rfl rfl ?_
    refine x_V0 F (m_X0_size) mlX6_132 mvX0_size rfl dX6_append_44 (by decide) rfl ⟨Nat.le_of_ble_eq_true rfl, Nat.le_of_ble_eq_true rfl⟩ ⟨Nat.le_of_ble_eq_true rfl, Nat.le_of_ble_eq_true rfl⟩ (Nat.le_of_ble_eq_true rfl) ?_
    refine x_iret F FR dX6_append_47 rfl (Nat.le_of_ble_eq_true rfl) (Nat.le_of_ble_eq_true rfl) ?_
    exact ⟨rfl, rfl, by unfold apX; (repeat' split) <;> first | rfl | omega⟩
set_option maxRecDepth 20000 in
theorem m_X6_written {l : Launch} {E : xE} (hl : l.stackTraces = false) {r i : Int} {M : xM} (hO : okC M 1) (hr : rg r) (hi : rg i) : XT l E 20 6 36 yX6_written cX6_written 3 (some FieldType.int) [vA 0, vI (jI r), vI (jI i)] M (fun r' M' => r' = vI (wcI M 1 r i) ∧ M' = M ∧ wrX r i = 0) (fun C M' => ∃ q9 : Int, wrX r i = q9 ∧ q9 ≠ 0 ∧ C = xcl q9 ∧ M' = M) := by
  refine xt_start (plainFor_of_name (by decide)) rfl (Nat.le_of_ble_eq_true rfl) ?_
  intro Y F FR
  have hC : isCh 1 := ch1
  have hC6 : isCh 6 := ch6
  have hS := hS_of hO
  refine x_iload_n F dX6_written_0 rfl ?_
  refine x_callST (As := [_]) F (m_X6_needRow hl (by first | assumption | omega | decide)) mlX6_54 msX6_needRow ⟨Nat.le_of_ble_eq_true rfl, Nat.le_of_ble_eq_true rfl⟩ ⟨Nat.le_of_ble_eq_true rfl, Nat.le_of_ble_eq_true rfl⟩ (Nat.le_of_ble_eq_true rfl) rfl dX6_written_1 (fun C9 M9 hx9 => x_out F FR (Nat.le_of_ble_eq_true rfl) (Nat.le_of_ble_eq_true rfl) ?_) (fun r9 M9 q9 => ?_)
  · obtain ⟨⟨rfl, e9⟩, hx_1⟩ := hx9
    have e9 := e9.symm
    subst e9
    exact ⟨1, by unfold wrX; (repeat' split) <;> first | rfl | omega | contradiction | exact absurd trivial hx_1, by decide, rfl, rfl⟩
  obtain ⟨⟨rfl, e9⟩, hp_2⟩ := q9
  have e9 := e9.symm
  subst e9
  refine x_iload_n F dX6_written_4 rfl ?_
  refine xj_if_lt (tgt := 12) F dX6_written_5 (by decide) (by omega) (fun h_3 => ?_) (fun h_3 => ?_)
  · refine xj_iconst F dX6_written_12 ?_
    refine x_callST (As := [_]) F (m_X6_needArgument hl (p := False)) mlX6_65 msX6_needArgument ⟨Nat.le_of_ble_eq_true rfl, Nat.le_of_ble_eq_true rfl⟩ ⟨Nat.le_of_ble_eq_true rfl, Nat.le_of_ble_eq_true rfl⟩ (Nat.le_of_ble_eq_true rfl) rfl dX6_written_13 (fun C9 M9 hx9 => x_out F FR (Nat.le_of_ble_eq_true rfl) (Nat.le_of_ble_eq_true rfl) ?_) (fun r9 M9 q9 => ?_)
    · obtain ⟨⟨rfl, e9⟩, hx_4⟩ := hx9
      have e9 := e9.symm
      subst e9
      exact ⟨2, by unfold wrX; (repeat' split) <;> first | rfl | omega | contradiction | exact absurd trivial hx_4, by decide, rfl, rfl⟩
    exact q9.2.elim
  · refine xj_iconst F dX6_written_8 ?_
    refine x_goto (tgt := 13) F dX6_written_9 (by decide) ?_
    refine x_callST (As := [_]) F (m_X6_needArgument hl (p := True)) mlX6_65 msX6_needArgument ⟨Nat.le_of_ble_eq_true rfl, Nat.le_of_ble_eq_true rfl⟩ ⟨Nat.le_of_ble_eq_true rfl, Nat.le_of_ble_eq_true rfl⟩ (Nat.le_of_ble_eq_true rfl) rfl dX6_written_13 (fun C9 M9 hx9 => x_out F FR (Nat.le_of_ble_eq_true rfl) (Nat.le_of_ble_eq_true rfl) ?_) (fun r9 M9 q9 => ?_)
    · obtain ⟨⟨rfl, e9⟩, hx_6⟩ := hx9
      have e9 := e9.symm
      subst e9
      exact ⟨2, by unfold wrX; (repeat' split) <;> first | rfl | omega | contradiction | exact absurd trivial hx_6, by decide, rfl, rfl⟩
    obtain ⟨⟨rfl, e9⟩, hp_7⟩ := q9
    have e9 := e9.symm
    subst e9
    refine x_aload_n F dX6_written_16 rfl ?_
    refine x_getc (v := 1) F flX6_12 rfl dX6_written_17 (by decide) (by decide) rfl rfl ?_
    refine x_iload_n F dX6_written_20 rfl ?_
    refine x_iload_n F dX6_written_21 rfl ?_
    refine x_V2 F (m_X1_writtenCode hC hS (by omega) (by omega)) mlX6_155 mvX1_writtenCode rfl dX6_written_22 (by decide) rfl ⟨Nat.le_of_ble_eq_true rfl, Nat.le_of_ble_eq_true rfl⟩ ⟨Nat.le_of_ble_eq_true rfl, Nat.le_of_ble_eq_true rfl⟩ (Nat.le_of_ble_eq_true rfl) ?_
    refine x_iret F FR dX6_written_25 rfl (Nat.le_of_ble_eq_true rfl) (Nat.le_of_ble_eq_true rfl) ?_
    exact ⟨rfl, rfl, by unfold wrX; (repeat' split) <;> first | rfl | omega⟩
set_option maxRecDepth 20000 in
theorem m_X6_undo {l : Launch} {E : xE} (hl : l.stackTraces = false) {M : xM} (hO : okC M 1) (hH : okH M) : XT l E 20 6 36 yX6_undo cX6_undo 1 (some FieldType.int) [vA 0] M (fun r' M' => r' = vI (jI ((tkM M 1).1 16 2).toInt) ∧ M' = tkM M 1 ∧ unX M = 0) (fun C M' => ∃ q9 : Int, unX M = q9 ∧ q9 ≠ 0 ∧ C = xcl q9 ∧ M' = M) := by
  refine xt_start (plainFor_of_name (by decide)) rfl (Nat.le_of_ble_eq_true rfl) ?_
  intro Y F FR
  have hC : isCh 1 := ch1
  have hC6 : isCh 6 := ch6
  have hS := hS_of hO
  have hh2 := hH.2
  refine x_aload_n F dX6_undo_0 rfl ?_
  refine x_getc (v := 16) F flX6_29 rfl dX6_undo_1 (by decide) (by decide) rfl rfl ?_
  refine x_V0 F (m_X3_size) mlX6_158 mvX3_size rfl dX6_undo_4 (by decide) rfl ⟨Nat.le_of_ble_eq_true rfl, Nat.le_of_ble_eq_true rfl⟩ ⟨Nat.le_of_ble_eq_true rfl, Nat.le_of_ble_eq_true rfl⟩ (Nat.le_of_ble_eq_true rfl) ?_
  refine xj_if_le (tgt := 14) F dX6_undo_7 (by decide) (by omega) (fun h_1 => ?_) (fun h_1 => ?_)
  · refine xj_iconst F dX6_undo_14 ?_
    refine x_callST (As := [_]) F (m_X6_needState hl (p := False)) mlX6_73 msX6_needState ⟨Nat.le_of_ble_eq_true rfl, Nat.le_of_ble_eq_true rfl⟩ ⟨Nat.le_of_ble_eq_true rfl, Nat.le_of_ble_eq_true rfl⟩ (Nat.le_of_ble_eq_true rfl) rfl dX6_undo_15 (fun C9 M9 hx9 => x_out F FR (Nat.le_of_ble_eq_true rfl) (Nat.le_of_ble_eq_true rfl) ?_) (fun r9 M9 q9 => ?_)
    · obtain ⟨⟨rfl, e9⟩, hx_2⟩ := hx9
      have e9 := e9.symm
      subst e9
      exact ⟨3, by unfold unX; (repeat' split) <;> first | rfl | omega | contradiction | exact absurd trivial hx_2, by decide, rfl, rfl⟩
    exact q9.2.elim
  · refine xj_iconst F dX6_undo_10 ?_
    refine x_goto (tgt := 15) F dX6_undo_11 (by decide) ?_
    refine x_callST (As := [_]) F (m_X6_needState hl (p := True)) mlX6_73 msX6_needState ⟨Nat.le_of_ble_eq_true rfl, Nat.le_of_ble_eq_true rfl⟩ ⟨Nat.le_of_ble_eq_true rfl, Nat.le_of_ble_eq_true rfl⟩ (Nat.le_of_ble_eq_true rfl) rfl dX6_undo_15 (fun C9 M9 hx9 => x_out F FR (Nat.le_of_ble_eq_true rfl) (Nat.le_of_ble_eq_true rfl) ?_) (fun r9 M9 q9 => ?_)
    · obtain ⟨⟨rfl, e9⟩, hx_4⟩ := hx9
      have e9 := e9.symm
      subst e9
      exact ⟨3, by unfold unX; (repeat' split) <;> first | rfl | omega | contradiction | exact absurd trivial hx_4, by decide, rfl, rfl⟩
    obtain ⟨⟨rfl, e9⟩, hp_5⟩ := q9
    have e9 := e9.symm
    subst e9
    refine x_aload_n F dX6_undo_18 rfl ?_
    refine x_getc (v := 16) F flX6_29 rfl dX6_undo_19 (by decide) (by decide) rfl rfl ?_
    refine x_aload_n F dX6_undo_22 rfl ?_
    refine x_getc (v := 1) F flX6_12 rfl dX6_undo_23 (by decide) (by decide) rfl rfl ?_
    refine x_V1 F (m_X3_takeBack hC hH) mlX6_159 mvX3_takeBack rfl dX6_undo_26 (by decide) rfl ⟨Nat.le_of_ble_eq_true rfl, Nat.le_of_ble_eq_true rfl⟩ ⟨Nat.le_of_ble_eq_true rfl, Nat.le_of_ble_eq_true rfl⟩ (Nat.le_of_ble_eq_true rfl) ?_
    refine x_aload_n F dX6_undo_29 rfl ?_
    refine x_getc (v := 16) F flX6_29 rfl dX6_undo_30 (by decide) (by decide) rfl rfl ?_
    refine x_V0 F (m_X3_size) mlX6_158 mvX3_size rfl dX6_undo_33 (by decide) rfl ⟨Nat.le_of_ble_eq_true rfl, Nat.le_of_ble_eq_true rfl⟩ ⟨Nat.le_of_ble_eq_true rfl, Nat.le_of_ble_eq_true rfl⟩ (Nat.le_of_ble_eq_true rfl) ?_
    refine x_iret F FR dX6_undo_36 rfl (Nat.le_of_ble_eq_true rfl) (Nat.le_of_ble_eq_true rfl) ?_
    exact ⟨rfl, rfl, by unfold unX; (repeat' split) <;> first | rfl | omega⟩
set_option maxRecDepth 20000 in
theorem m_X6_restore {l : Launch} {E : xE} (hl : l.stackTraces = false) {M : xM} (hO : okC M 1) (hH : okH M) (hK : okC M 11) (h01 : (M.1 0 3).toInt = 0 ∨ (M.1 0 3).toInt = 1) : XT l E 20 6 36 yX6_restore cX6_restore 1 (some FieldType.int) [vA 0] M (fun r' M' => r' = vI (jI (sumI (szI (bcM (svM M 1) 1 11) 1) 4)) ∧ M' = bcM (svM M 1) 1 11 ∧ reX M = 0) (fun C M' => ∃ q9 : Int, reX M = q9 ∧ q9 ≠ 0 ∧ C = xcl q9 ∧ M' = M) := by
  refine xt_start (plainFor_of_name (by decide)) rfl (Nat.le_of_ble_eq_true rfl) ?_
  intro Y F FR
  have hC : isCh 1 := ch1
  have hC6 : isCh 6 := ch6
  have hS := hS_of hO
  have hC11 : isCh 11 := ch11
  have hsn : jI (M.1 0 3).toInt = jb ((M.1 0 3).toInt = 1) := by (rcases h01 with h | h <;> rw [h] <;> rfl)
  refine x_aload_n F dX6_restore_0 rfl ?_
  refine xj_geti F flX6_22 rfl dX6_restore_1 (by decide) (by decide) rfl (fun hg_1 => ?_)
  rw [hsn]
  refine x_callST (As := [_]) F (m_X6_needState hl (p := ((M.1 0 3).toInt = 1))) mlX6_73 msX6_needState ⟨Nat.le_of_ble_eq_true rfl, Nat.le_of_ble_eq_true rfl⟩ ⟨Nat.le_of_ble_eq_true rfl, Nat.le_of_ble_eq_true rfl⟩ (Nat.le_of_ble_eq_true rfl) rfl dX6_restore_4 (fun C9 M9 hx9 => x_out F FR (Nat.le_of_ble_eq_true rfl) (Nat.le_of_ble_eq_true rfl) ?_) (fun r9 M9 q9 => ?_)
  · obtain ⟨⟨rfl, e9⟩, hx_2⟩ := hx9
    have e9 := e9.symm
    subst e9
    exact ⟨3, by unfold reX; (repeat' split) <;> first | rfl | omega | contradiction | exact absurd trivial hx_2, by decide, rfl, rfl⟩
  obtain ⟨⟨rfl, e9⟩, hp_3⟩ := q9
  have e9 := e9.symm
  subst e9
  refine x_aload_n F dX6_restore_7 rfl ?_
  refine x_getc (v := 16) F flX6_29 rfl dX6_restore_8 (by decide) (by decide) rfl rfl ?_
  refine x_aload_n F dX6_restore_11 rfl ?_
  refine x_getc (v := 1) F flX6_12 rfl dX6_restore_12 (by decide) (by decide) rfl rfl ?_
  refine x_V1 F (m_X3_save hC hH) mlX6_76 mvX3_save rfl dX6_restore_15 (by decide) rfl ⟨Nat.le_of_ble_eq_true rfl, Nat.le_of_ble_eq_true rfl⟩ ⟨Nat.le_of_ble_eq_true rfl, Nat.le_of_ble_eq_true rfl⟩ (Nat.le_of_ble_eq_true rfl) ?_
  have hO2 := okC_sv hO
  have hS2 := hS_of hO2
  refine x_aload_n F dX6_restore_18 rfl ?_
  refine x_getc (v := 1) F flX6_12 rfl dX6_restore_19 (by decide) (by decide) rfl rfl ?_
  refine x_aload_n F dX6_restore_22 rfl ?_
  refine x_getc (v := 11) F flX6_19 rfl dX6_restore_23 (by decide) (by decide) rfl rfl ?_
  refine x_V1 F (m_X1_become hC hC11) mlX6_162 mvX1_become rfl dX6_restore_26 (by decide) rfl ⟨Nat.le_of_ble_eq_true rfl, Nat.le_of_ble_eq_true rfl⟩ ⟨Nat.le_of_ble_eq_true rfl, Nat.le_of_ble_eq_true rfl⟩ (Nat.le_of_ble_eq_true rfl) ?_
  have hO3 : okC (bcM (svM M 1) 1 11) 1 := okC_e (bcM_eq ch1 ch11 (by decide)) (okC_e (eqC_of fun a h1 h2 => svM_row (by omega)) hK)
  have hS3 := hS_of hO3
  refine x_aload_n F dX6_restore_29 rfl ?_
  refine x_getc (v := 1) F flX6_12 rfl dX6_restore_30 (by decide) (by decide) rfl rfl ?_
  refine x_V0 F (m_X1_sizeOfAll hC hS3) mlX6_165 mvX1_sizeOfAll rfl dX6_restore_33 (by decide) rfl ⟨Nat.le_of_ble_eq_true rfl, Nat.le_of_ble_eq_true rfl⟩ ⟨Nat.le_of_ble_eq_true rfl, Nat.le_of_ble_eq_true rfl⟩ (Nat.le_of_ble_eq_true rfl) ?_
  refine x_iret F FR dX6_restore_36 rfl (Nat.le_of_ble_eq_true rfl) (Nat.le_of_ble_eq_true rfl) ?_
  exact ⟨rfl, rfl, by unfold reX; (repeat' split) <;> first | rfl | omega⟩
set_option maxRecDepth 20000 in
theorem m_X6_singer {l : Launch} {E : xE} (hl : l.stackTraces = false) {r p z : Int} {M : xM} (hO : okC M 1) (hT : okT M) (hr : rg r) (hp : rg p) (hz : rg z) : XT l E 20 6 36 yX6_singer cX6_singer 4 (some FieldType.int) [vA 0, vI (jI r), vI (jI p), vI (jI z)] M (fun r' M' => r' = vI (jI (osI M 1 r p z)) ∧ qX M M' ∧ siX M r p z = 0) (fun C M' => ∃ q9 : Int, siX M r p z = q9 ∧ q9 ≠ 0 ∧ C = xcl q9 ∧ M' = M) := by
  refine xt_start (plainFor_of_name (by decide)) rfl (Nat.le_of_ble_eq_true rfl) ?_
  intro Y F FR
  have hC : isCh 1 := ch1
  have hC6 : isCh 6 := ch6
  have hS := hS_of hO
  refine x_aload_n F dX6_singer_0 rfl ?_
  refine x_iload_n F dX6_singer_1 rfl ?_
  refine x_iload_n F dX6_singer_2 rfl ?_
  refine x_callVT (As := [_, _]) F (m_X6_needSinger hl (by first | assumption | omega | decide) (by first | assumption | omega | decide)) mlX6_84 mvX6_needSinger rfl (by decide) rfl ⟨Nat.le_of_ble_eq_true rfl, Nat.le_of_ble_eq_true rfl⟩ ⟨Nat.le_of_ble_eq_true rfl, Nat.le_of_ble_eq_true rfl⟩ (Nat.le_of_ble_eq_true rfl) rfl dX6_singer_3 (fun C9 M9 hx9 => x_out F FR (Nat.le_of_ble_eq_true rfl) (Nat.le_of_ble_eq_true rfl) ?_) (fun r9 M9 q9 => ?_)
  · obtain ⟨⟨rfl, e9⟩, hx_1⟩ := hx9
    have e9 := e9.symm
    subst e9
    exact ⟨1, by unfold siX; (repeat' split) <;> first | rfl | omega | contradiction | exact absurd trivial hx_1, by decide, rfl, rfl⟩
  obtain ⟨⟨rfl, e9⟩, hp_2⟩ := q9
  have e9 := e9.symm
  subst e9
  have hinhp_2 := szI_in (M := M) (c := 1) (r := r) (by omega)
  have hshp_2 := hS r
  refine x_iload_n F dX6_singer_6 rfl ?_
  refine xj_iconst F dX6_singer_7 ?_
  refine xj_bipush F dX6_singer_8 (by decide) ?_
  refine x_S3 F (m_X6_isBetween (by first | assumption | omega | decide) (by first | assumption | omega | decide) (by first | assumption | omega | decide)) mlX6_61 msX6_isBetween dX6_singer_10 ⟨Nat.le_of_ble_eq_true rfl, Nat.le_of_ble_eq_true rfl⟩ ⟨Nat.le_of_ble_eq_true rfl, Nat.le_of_ble_eq_true rfl⟩ (Nat.le_of_ble_eq_true rfl) ?_
  refine x_callST (As := [_]) F (m_X6_needArgument hl (p := (0 ≤ z ∧ z ≤ 7))) mlX6_65 msX6_needArgument ⟨Nat.le_of_ble_eq_true rfl, Nat.le_of_ble_eq_true rfl⟩ ⟨Nat.le_of_ble_eq_true rfl, Nat.le_of_ble_eq_true rfl⟩ (Nat.le_of_ble_eq_true rfl) rfl dX6_singer_13 (fun C9 M9 hx9 => x_out F FR (Nat.le_of_ble_eq_true rfl) (Nat.le_of_ble_eq_true rfl) ?_) (fun r9 M9 q9 => ?_)
  · obtain ⟨⟨rfl, e9⟩, hx_3⟩ := hx9
    have e9 := e9.symm
    subst e9
    exact ⟨2, by unfold siX; (repeat' split) <;> first | rfl | omega | contradiction | exact absurd trivial hx_3, by decide, rfl, rfl⟩
  obtain ⟨⟨rfl, e9⟩, hp_4⟩ := q9
  have e9 := e9.symm
  subst e9
  refine x_aload_n F dX6_singer_16 rfl ?_
  refine x_iload_n F dX6_singer_17 rfl ?_
  refine x_iload_n F dX6_singer_18 rfl ?_
  refine x_iload_n F dX6_singer_19 rfl ?_
  refine x_V3P F (m_X6_ofSinger hO hT (by omega) (by omega) (by omega)) mlX6_168 mvX6_ofSinger rfl dX6_singer_20 (by decide) rfl ⟨Nat.le_of_ble_eq_true rfl, Nat.le_of_ble_eq_true rfl⟩ ⟨Nat.le_of_ble_eq_true rfl, Nat.le_of_ble_eq_true rfl⟩ (Nat.le_of_ble_eq_true rfl) (fun r_20 M_20 q_20 => ?_)
  obtain ⟨rfl, q_20⟩ := q_20
  refine x_iret F FR dX6_singer_23 rfl (Nat.le_of_ble_eq_true rfl) (Nat.le_of_ble_eq_true rfl) ?_
  exact ⟨rfl, qX_same q_20, (by unfold siX; (repeat' split) <;> first | rfl | omega)⟩
set_option maxRecDepth 20000 in
theorem m_X6_row {l : Launch} {E : xE} (hl : l.stackTraces = false) {r z : Int} {M : xM} (hO : okC M 1) (hr : rg r) (hz : rg z) : XT l E 20 6 36 yX6_row cX6_row 3 (some FieldType.int) [vA 0, vI (jI r), vI (jI z)] M (fun r' M' => r' = vI (jI (owI M 1 r z)) ∧ qX M M' ∧ rwX r 0 6 z = 0) (fun C M' => ∃ q9 : Int, rwX r 0 6 z = q9 ∧ q9 ≠ 0 ∧ C = xcl q9 ∧ M' = M) := by
  refine xt_start (plainFor_of_name (by decide)) rfl (Nat.le_of_ble_eq_true rfl) ?_
  intro Y F FR
  have hC : isCh 1 := ch1
  have hC6 : isCh 6 := ch6
  have hS := hS_of hO
  refine x_iload_n F dX6_row_0 rfl ?_
  refine x_callST (As := [_]) F (m_X6_needRow hl (by first | assumption | omega | decide)) mlX6_54 msX6_needRow ⟨Nat.le_of_ble_eq_true rfl, Nat.le_of_ble_eq_true rfl⟩ ⟨Nat.le_of_ble_eq_true rfl, Nat.le_of_ble_eq_true rfl⟩ (Nat.le_of_ble_eq_true rfl) rfl dX6_row_1 (fun C9 M9 hx9 => x_out F FR (Nat.le_of_ble_eq_true rfl) (Nat.le_of_ble_eq_true rfl) ?_) (fun r9 M9 q9 => ?_)
  · obtain ⟨⟨rfl, e9⟩, hx_1⟩ := hx9
    have e9 := e9.symm
    subst e9
    exact ⟨1, by unfold rwX; (repeat' split) <;> first | rfl | omega | contradiction | exact absurd trivial hx_1, by decide, rfl, rfl⟩
  obtain ⟨⟨rfl, e9⟩, hp_2⟩ := q9
  have e9 := e9.symm
  subst e9
  refine x_iload_n F dX6_row_4 rfl ?_
  refine xj_iconst F dX6_row_5 ?_
  refine xj_bipush F dX6_row_6 (by decide) ?_
  refine x_S3 F (m_X6_isBetween (by first | assumption | omega | decide) (by first | assumption | omega | decide) (by first | assumption | omega | decide)) mlX6_61 msX6_isBetween dX6_row_8 ⟨Nat.le_of_ble_eq_true rfl, Nat.le_of_ble_eq_true rfl⟩ ⟨Nat.le_of_ble_eq_true rfl, Nat.le_of_ble_eq_true rfl⟩ (Nat.le_of_ble_eq_true rfl) ?_
  refine x_callST (As := [_]) F (m_X6_needArgument hl (p := (0 ≤ z ∧ z ≤ 6))) mlX6_65 msX6_needArgument ⟨Nat.le_of_ble_eq_true rfl, Nat.le_of_ble_eq_true rfl⟩ ⟨Nat.le_of_ble_eq_true rfl, Nat.le_of_ble_eq_true rfl⟩ (Nat.le_of_ble_eq_true rfl) rfl dX6_row_11 (fun C9 M9 hx9 => x_out F FR (Nat.le_of_ble_eq_true rfl) (Nat.le_of_ble_eq_true rfl) ?_) (fun r9 M9 q9 => ?_)
  · obtain ⟨⟨rfl, e9⟩, hx_3⟩ := hx9
    have e9 := e9.symm
    subst e9
    exact ⟨2, by unfold rwX; (repeat' split) <;> first | rfl | omega | contradiction | exact absurd trivial hx_3, by decide, rfl, rfl⟩
  obtain ⟨⟨rfl, e9⟩, hp_4⟩ := q9
  have e9 := e9.symm
  subst e9
  refine x_aload_n F dX6_row_14 rfl ?_
  refine x_iload_n F dX6_row_15 rfl ?_
  refine x_iload_n F dX6_row_16 rfl ?_
  refine x_V2P F (m_X6_ofRow hO (by omega) (by omega)) mlX6_171 mvX6_ofRow rfl dX6_row_17 (by decide) rfl ⟨Nat.le_of_ble_eq_true rfl, Nat.le_of_ble_eq_true rfl⟩ ⟨Nat.le_of_ble_eq_true rfl, Nat.le_of_ble_eq_true rfl⟩ (Nat.le_of_ble_eq_true rfl) (fun r_17 M_17 q_17 => ?_)
  obtain ⟨rfl, q_17⟩ := q_17
  refine x_iret F FR dX6_row_20 rfl (Nat.le_of_ble_eq_true rfl) (Nat.le_of_ble_eq_true rfl) ?_
  exact ⟨rfl, qX_same q_17, (by unfold rwX; (repeat' split) <;> first | rfl | omega)⟩
set_option maxRecDepth 20000 in
theorem m_X6_find {l : Launch} {E : xE} (hl : l.stackTraces = false) {x : Int} {M : xM} (hO : okC M 1) (hx : rg x) : XT l E 20 6 36 yX6_find cX6_find 2 (some FieldType.int) [vA 0, vI (jI x)] M (fun r' M' => r' = vI (jI (fnR M 1 x 0 4)) ∧ M' = M ∧ fiX x = 0) (fun C M' => ∃ q9 : Int, fiX x = q9 ∧ q9 ≠ 0 ∧ C = xcl q9 ∧ M' = M) := by
  refine xt_start (plainFor_of_name (by decide)) rfl (Nat.le_of_ble_eq_true rfl) ?_
  intro Y F FR
  have hC : isCh 1 := ch1
  have hC6 : isCh 6 := ch6
  have hS := hS_of hO
  refine x_iload_n F dX6_find_0 rfl ?_
  refine xj_if_lt (tgt := 8) F dX6_find_1 (by decide) (by omega) (fun h_1 => ?_) (fun h_1 => ?_)
  · refine xj_iconst F dX6_find_8 ?_
    refine x_callST (As := [_]) F (m_X6_needArgument hl (p := False)) mlX6_65 msX6_needArgument ⟨Nat.le_of_ble_eq_true rfl, Nat.le_of_ble_eq_true rfl⟩ ⟨Nat.le_of_ble_eq_true rfl, Nat.le_of_ble_eq_true rfl⟩ (Nat.le_of_ble_eq_true rfl) rfl dX6_find_9 (fun C9 M9 hx9 => x_out F FR (Nat.le_of_ble_eq_true rfl) (Nat.le_of_ble_eq_true rfl) ?_) (fun r9 M9 q9 => ?_)
    · obtain ⟨⟨rfl, e9⟩, hx_2⟩ := hx9
      have e9 := e9.symm
      subst e9
      exact ⟨2, by unfold fiX; (repeat' split) <;> first | rfl | omega | contradiction | exact absurd trivial hx_2, by decide, rfl, rfl⟩
    exact q9.2.elim
  · refine xj_iconst F dX6_find_4 ?_
    refine x_goto (tgt := 9) F dX6_find_5 (by decide) ?_
    refine x_callST (As := [_]) F (m_X6_needArgument hl (p := True)) mlX6_65 msX6_needArgument ⟨Nat.le_of_ble_eq_true rfl, Nat.le_of_ble_eq_true rfl⟩ ⟨Nat.le_of_ble_eq_true rfl, Nat.le_of_ble_eq_true rfl⟩ (Nat.le_of_ble_eq_true rfl) rfl dX6_find_9 (fun C9 M9 hx9 => x_out F FR (Nat.le_of_ble_eq_true rfl) (Nat.le_of_ble_eq_true rfl) ?_) (fun r9 M9 q9 => ?_)
    · obtain ⟨⟨rfl, e9⟩, hx_4⟩ := hx9
      have e9 := e9.symm
      subst e9
      exact ⟨2, by unfold fiX; (repeat' split) <;> first | rfl | omega | contradiction | exact absurd trivial hx_4, by decide, rfl, rfl⟩
    obtain ⟨⟨rfl, e9⟩, hp_5⟩ := q9
    have e9 := e9.symm
    subst e9
    refine x_aload_n F dX6_find_12 rfl ?_
    refine x_getc (v := 1) F flX6_12 rfl dX6_find_13 (by decide) (by decide) rfl rfl ?_
    refine x_iload_n F dX6_find_16 rfl ?_
    refine x_V1 F (m_X1_spotOfNumber hC hS hx) mlX6_174 mvX1_spotOfNumber rfl dX6_find_17 (by decide) rfl ⟨Nat.le_of_ble_eq_true rfl, Nat.le_of_ble_eq_true rfl⟩ ⟨Nat.le_of_ble_eq_true rfl, Nat.le_of_ble_eq_true rfl⟩ (Nat.le_of_ble_eq_true rfl) ?_
    refine x_iret F FR dX6_find_20 rfl (Nat.le_of_ble_eq_true rfl) (Nat.le_of_ble_eq_true rfl) ?_
    exact ⟨rfl, rfl, by unfold fiX; (repeat' split) <;> first | rfl | omega⟩
set_option maxRecDepth 20000 in
theorem m_X6_count {l : Launch} {E : xE} (hl : l.stackTraces = false) {z : Int} {M : xM} (hO : okC M 1) (hz : rg z) : XT l E 20 6 36 yX6_count cX6_count 2 (some FieldType.int) [vA 0, vI (jI z)] M (fun r' M' => r' = vI (jI (ohI M z)) ∧ M' = M ∧ bwX 0 8 z = 0) (fun C M' => ∃ q9 : Int, bwX 0 8 z = q9 ∧ q9 ≠ 0 ∧ C = xcl q9 ∧ M' = M) := by
  refine xt_start (plainFor_of_name (by decide)) rfl (Nat.le_of_ble_eq_true rfl) ?_
  intro Y F FR
  have hC : isCh 1 := ch1
  have hC6 : isCh 6 := ch6
  have hS := hS_of hO
  refine x_iload_n F dX6_count_0 rfl ?_
  refine xj_iconst F dX6_count_1 ?_
  refine xj_bipush F dX6_count_2 (by decide) ?_
  refine x_S3 F (m_X6_isBetween (by first | assumption | omega | decide) (by first | assumption | omega | decide) (by first | assumption | omega | decide)) mlX6_61 msX6_isBetween dX6_count_4 ⟨Nat.le_of_ble_eq_true rfl, Nat.le_of_ble_eq_true rfl⟩ ⟨Nat.le_of_ble_eq_true rfl, Nat.le_of_ble_eq_true rfl⟩ (Nat.le_of_ble_eq_true rfl) ?_
  refine x_callST (As := [_]) F (m_X6_needArgument hl (p := (0 ≤ z ∧ z ≤ 8))) mlX6_65 msX6_needArgument ⟨Nat.le_of_ble_eq_true rfl, Nat.le_of_ble_eq_true rfl⟩ ⟨Nat.le_of_ble_eq_true rfl, Nat.le_of_ble_eq_true rfl⟩ (Nat.le_of_ble_eq_true rfl) rfl dX6_count_7 (fun C9 M9 hx9 => x_out F FR (Nat.le_of_ble_eq_true rfl) (Nat.le_of_ble_eq_true rfl) ?_) (fun r9 M9 q9 => ?_)
  · obtain ⟨⟨rfl, e9⟩, hx_1⟩ := hx9
    have e9 := e9.symm
    subst e9
    exact ⟨2, by unfold bwX; (repeat' split) <;> first | rfl | omega | contradiction | exact absurd trivial hx_1, by decide, rfl, rfl⟩
  obtain ⟨⟨rfl, e9⟩, hp_2⟩ := q9
  have e9 := e9.symm
  subst e9
  refine x_aload_n F dX6_count_10 rfl ?_
  refine x_iload_n F dX6_count_11 rfl ?_
  refine x_V1 F (m_X6_ofAll hO (by omega)) mlX6_177 mvX6_ofAll rfl dX6_count_12 (by decide) rfl ⟨Nat.le_of_ble_eq_true rfl, Nat.le_of_ble_eq_true rfl⟩ ⟨Nat.le_of_ble_eq_true rfl, Nat.le_of_ble_eq_true rfl⟩ (Nat.le_of_ble_eq_true rfl) ?_
  refine x_iret F FR dX6_count_15 rfl (Nat.le_of_ble_eq_true rfl) (Nat.le_of_ble_eq_true rfl) ?_
  exact ⟨rfl, rfl, by unfold bwX; (repeat' split) <;> first | rfl | omega⟩
set_option maxRecDepth 20000 in
theorem m_X6_ifSwapped {l : Launch} {E : xE} (hl : l.stackTraces = false) {r p r2 p2 : Int} {M : xM} (hO : okC M 1) (hr : rg r) (hp : rg p) (hr2 : rg r2) (hp2 : rg p2) : XT l E 20 6 36 yX6_ifSwapped cX6_ifSwapped 5 (some FieldType.int) [vA 0, vI (jI r), vI (jI p), vI (jI r2), vI (jI p2)] M (fun r' M' => r' = vI (jI (oaI (swP M 1 (spI r p) (spI r2 p2)) 1)) ∧ qX M M' ∧ swX M r p r2 p2 = 0) (fun C M' => ∃ q9 : Int, swX M r p r2 p2 = q9 ∧ q9 ≠ 0 ∧ C = xcl q9 ∧ M' = M) := by
  refine xt_start (plainFor_of_name (by decide)) rfl (Nat.le_of_ble_eq_true rfl) ?_
  intro Y F FR
  have hC : isCh 1 := ch1
  have hC6 : isCh 6 := ch6
  have hS := hS_of hO
  refine x_aload_n F dX6_ifSwapped_0 rfl ?_
  refine x_iload_n F dX6_ifSwapped_1 rfl ?_
  refine x_iload_n F dX6_ifSwapped_2 rfl ?_
  refine x_callVT (As := [_, _]) F (m_X6_needSinger hl (by first | assumption | omega | decide) (by first | assumption | omega | decide)) mlX6_84 mvX6_needSinger rfl (by decide) rfl ⟨Nat.le_of_ble_eq_true rfl, Nat.le_of_ble_eq_true rfl⟩ ⟨Nat.le_of_ble_eq_true rfl, Nat.le_of_ble_eq_true rfl⟩ (Nat.le_of_ble_eq_true rfl) rfl dX6_ifSwapped_3 (fun C9 M9 hx9 => x_out F FR (Nat.le_of_ble_eq_true rfl) (Nat.le_of_ble_eq_true rfl) ?_) (fun r9 M9 q9 => ?_)
  · obtain ⟨⟨rfl, e9⟩, hx_1⟩ := hx9
    have e9 := e9.symm
    subst e9
    exact ⟨1, by unfold swX; (repeat' split) <;> first | rfl | omega | contradiction | exact absurd trivial hx_1, by decide, rfl, rfl⟩
  obtain ⟨⟨rfl, e9⟩, hp_2⟩ := q9
  have e9 := e9.symm
  subst e9
  have hinhp_2 := szI_in (M := M) (c := 1) (r := r) (by omega)
  have hshp_2 := hS r
  refine x_aload_n F dX6_ifSwapped_6 rfl ?_
  refine x_iload_n F dX6_ifSwapped_7 rfl ?_
  refine x_iload F dX6_ifSwapped_8 rfl ?_
  refine x_callVT (As := [_, _]) F (m_X6_needSinger hl (by first | assumption | omega | decide) (by first | assumption | omega | decide)) mlX6_84 mvX6_needSinger rfl (by decide) rfl ⟨Nat.le_of_ble_eq_true rfl, Nat.le_of_ble_eq_true rfl⟩ ⟨Nat.le_of_ble_eq_true rfl, Nat.le_of_ble_eq_true rfl⟩ (Nat.le_of_ble_eq_true rfl) rfl dX6_ifSwapped_10 (fun C9 M9 hx9 => x_out F FR (Nat.le_of_ble_eq_true rfl) (Nat.le_of_ble_eq_true rfl) ?_) (fun r9 M9 q9 => ?_)
  · obtain ⟨⟨rfl, e9⟩, hx_3⟩ := hx9
    have e9 := e9.symm
    subst e9
    exact ⟨1, by unfold swX; (repeat' split) <;> first | rfl | omega | contradiction | exact absurd trivial hx_3, by decide, rfl, rfl⟩
  obtain ⟨⟨rfl, e9⟩, hp_4⟩ := q9
  have e9 := e9.symm
  subst e9
  have hinhp_4 := szI_in (M := M) (c := 1) (r := r2) (by omega)
  have hshp_4 := hS r2
  refine x_aload_n F dX6_ifSwapped_13 rfl ?_
  refine x_getc (v := 6) F flX6_16 rfl dX6_ifSwapped_14 (by decide) (by decide) rfl rfl ?_
  refine x_aload_n F dX6_ifSwapped_17 rfl ?_
  refine x_getc (v := 1) F flX6_12 rfl dX6_ifSwapped_18 (by decide) (by decide) rfl rfl ?_
  refine x_V1 F (m_X1_become hC6 hC) mlX6_162 mvX1_become rfl dX6_ifSwapped_21 (by decide) rfl ⟨Nat.le_of_ble_eq_true rfl, Nat.le_of_ble_eq_true rfl⟩ ⟨Nat.le_of_ble_eq_true rfl, Nat.le_of_ble_eq_true rfl⟩ (Nat.le_of_ble_eq_true rfl) ?_
  refine x_aload_n F dX6_ifSwapped_24 rfl ?_
  refine x_getc (v := 6) F flX6_16 rfl dX6_ifSwapped_25 (by decide) (by decide) rfl rfl ?_
  refine x_iload_n F dX6_ifSwapped_28 rfl ?_
  refine x_iload_n F dX6_ifSwapped_29 rfl ?_
  refine x_iload_n F dX6_ifSwapped_30 rfl ?_
  refine x_iload F dX6_ifSwapped_31 rfl ?_
  refine x_V4 F (m_X1_swapPlaces hC6 (by omega) (by omega) (by omega) (by omega)) mlX6_180 mvX1_swapPlaces rfl dX6_ifSwapped_33 (by decide) rfl ⟨Nat.le_of_ble_eq_true rfl, Nat.le_of_ble_eq_true rfl⟩ ⟨Nat.le_of_ble_eq_true rfl, Nat.le_of_ble_eq_true rfl⟩ (Nat.le_of_ble_eq_true rfl) ?_
  have hO6 : okC (swP (bcM M 6 1) 6 (spI r p) (spI r2 p2)) 6 := okC_swP (bc_okC hO) _ _
  refine x_aload_n F dX6_ifSwapped_36 rfl ?_
  refine x_getc (v := 6) F flX6_16 rfl dX6_ifSwapped_37 (by decide) (by decide) rfl rfl ?_
  refine x_V0 F (m_X1_oddOfAll hC6 hO6) mlX6_103 mvX1_oddOfAll rfl dX6_ifSwapped_40 (by decide) rfl ⟨Nat.le_of_ble_eq_true rfl, Nat.le_of_ble_eq_true rfl⟩ ⟨Nat.le_of_ble_eq_true rfl, Nat.le_of_ble_eq_true rfl⟩ (Nat.le_of_ble_eq_true rfl) ?_
  refine x_iret F FR dX6_ifSwapped_43 rfl (Nat.le_of_ble_eq_true rfl) (Nat.le_of_ble_eq_true rfl) ?_
  exact ⟨vj2 (oaI_e (eqC_swQ (bcM_eq ch6 ch1 (by decide)) _ _)).symm, qX_trans (bc_qX M) (qX_of6 (fun a ha => swP_row (by omega)) (swP_2 _ _ _ _)), (by unfold swX; (repeat' split) <;> first | rfl | omega)⟩
set_option maxRecDepth 20000 in
theorem m_X6_bestSwap {l : Launch} {E : xE} (hl : l.stackTraces = false) {r : Int} {M : xM} (hO : okC M 1) (hr : rg r) : XT l E 20 6 36 yX6_bestSwap cX6_bestSwap 2 (some FieldType.int) [vA 0, vI (jI r)] M (fun r' M' => r' = vI (jI (bpI M r)) ∧ qX M M' ∧ roX r = 0) (fun C M' => ∃ q9 : Int, roX r = q9 ∧ q9 ≠ 0 ∧ C = xcl q9 ∧ M' = M) := by
  refine xt_start (plainFor_of_name (by decide)) rfl (Nat.le_of_ble_eq_true rfl) ?_
  intro Y F FR
  have hC : isCh 1 := ch1
  have hC6 : isCh 6 := ch6
  have hS := hS_of hO
  refine x_iload_n F dX6_bestSwap_0 rfl ?_
  refine x_callST (As := [_]) F (m_X6_needRow hl (by first | assumption | omega | decide)) mlX6_54 msX6_needRow ⟨Nat.le_of_ble_eq_true rfl, Nat.le_of_ble_eq_true rfl⟩ ⟨Nat.le_of_ble_eq_true rfl, Nat.le_of_ble_eq_true rfl⟩ (Nat.le_of_ble_eq_true rfl) rfl dX6_bestSwap_1 (fun C9 M9 hx9 => x_out F FR (Nat.le_of_ble_eq_true rfl) (Nat.le_of_ble_eq_true rfl) ?_) (fun r9 M9 q9 => ?_)
  · obtain ⟨⟨rfl, e9⟩, hx_1⟩ := hx9
    have e9 := e9.symm
    subst e9
    exact ⟨1, by unfold roX; (repeat' split) <;> first | rfl | omega | contradiction | exact absurd trivial hx_1, by decide, rfl, rfl⟩
  obtain ⟨⟨rfl, e9⟩, hp_2⟩ := q9
  have e9 := e9.symm
  subst e9
  refine x_aload_n F dX6_bestSwap_4 rfl ?_
  refine x_iload_n F dX6_bestSwap_5 rfl ?_
  refine x_V1P F (m_X6_bestPair hO (by omega)) mlX6_183 mvX6_bestPair rfl dX6_bestSwap_6 (by decide) rfl ⟨Nat.le_of_ble_eq_true rfl, Nat.le_of_ble_eq_true rfl⟩ ⟨Nat.le_of_ble_eq_true rfl, Nat.le_of_ble_eq_true rfl⟩ (Nat.le_of_ble_eq_true rfl) (fun r_6 M_6 q_6 => ?_)
  obtain ⟨rfl, rfl⟩ := q_6
  refine x_iret F FR dX6_bestSwap_9 rfl (Nat.le_of_ble_eq_true rfl) (Nat.le_of_ble_eq_true rfl) ?_
  exact ⟨rfl, bc_qX M, (by unfold roX; (repeat' split) <;> first | rfl | omega)⟩
set_option maxRecDepth 20000 in
theorem m_X6_bestRow {l : Launch} {E : xE} (hl : l.stackTraces = false) {x : Int} {M : xM} (hO : okC M 1) (hx : rg x) : XT l E 20 6 36 yX6_bestRow cX6_bestRow 2 (some FieldType.int) [vA 0, vI (jI x)] M (fun r' M' => r' = vI (jI (brF M x 4).2) ∧ qX M M' ∧ hgX x = 0) (fun C M' => ∃ q9 : Int, hgX x = q9 ∧ q9 ≠ 0 ∧ C = xcl q9 ∧ M' = M) := by
  refine xt_start (plainFor_of_name (by decide)) rfl (Nat.le_of_ble_eq_true rfl) ?_
  intro Y F FR
  have hC : isCh 1 := ch1
  have hC6 : isCh 6 := ch6
  have hS := hS_of hO
  refine x_iload_n F dX6_bestRow_0 rfl ?_
  refine x_callST (As := [_]) F (m_X6_needHeight hl (by first | assumption | omega | decide)) mlX6_58 msX6_needHeight ⟨Nat.le_of_ble_eq_true rfl, Nat.le_of_ble_eq_true rfl⟩ ⟨Nat.le_of_ble_eq_true rfl, Nat.le_of_ble_eq_true rfl⟩ (Nat.le_of_ble_eq_true rfl) rfl dX6_bestRow_1 (fun C9 M9 hx9 => x_out F FR (Nat.le_of_ble_eq_true rfl) (Nat.le_of_ble_eq_true rfl) ?_) (fun r9 M9 q9 => ?_)
  · obtain ⟨⟨rfl, e9⟩, hx_1⟩ := hx9
    have e9 := e9.symm
    subst e9
    exact ⟨2, by unfold hgX; (repeat' split) <;> first | rfl | omega | contradiction | exact absurd trivial hx_1, by decide, rfl, rfl⟩
  obtain ⟨⟨rfl, e9⟩, hp_2⟩ := q9
  have e9 := e9.symm
  subst e9
  refine x_aload_n F dX6_bestRow_4 rfl ?_
  refine x_iload_n F dX6_bestRow_5 rfl ?_
  refine x_V1P F (m_X6_bestRowFor hO (by omega)) mlX6_186 mvX6_bestRowFor rfl dX6_bestRow_6 (by decide) rfl ⟨Nat.le_of_ble_eq_true rfl, Nat.le_of_ble_eq_true rfl⟩ ⟨Nat.le_of_ble_eq_true rfl, Nat.le_of_ble_eq_true rfl⟩ (Nat.le_of_ble_eq_true rfl) (fun r_6 M_6 q_6 => ?_)
  obtain ⟨rfl, q_6⟩ := q_6
  refine x_iret F FR dX6_bestRow_9 rfl (Nat.le_of_ble_eq_true rfl) (Nat.le_of_ble_eq_true rfl) ?_
  exact ⟨rfl, q_6, (by unfold hgX; (repeat' split) <;> first | rfl | omega)⟩
set_option maxRecDepth 20000 in
theorem m_X6_ifReach {l : Launch} {E : xE} (hl : l.stackTraces = false) {z : Int} {M : xM} (hO : okC M 1) (hz : rg z) : XT l E 20 6 36 yX6_ifReach cX6_ifReach 2 (some FieldType.int) [vA 0, vI (jI z)] M (fun r' M' => r' = vI (jI (orI M z)) ∧ qX M M' ∧ bwX 1 6 z = 0) (fun C M' => ∃ q9 : Int, bwX 1 6 z = q9 ∧ q9 ≠ 0 ∧ C = xcl q9 ∧ M' = M) := by
  refine xt_start (plainFor_of_name (by decide)) rfl (Nat.le_of_ble_eq_true rfl) ?_
  intro Y F FR
  have hC : isCh 1 := ch1
  have hC6 : isCh 6 := ch6
  have hS := hS_of hO
  refine x_iload_n F dX6_ifReach_0 rfl ?_
  refine xj_iconst F dX6_ifReach_1 ?_
  refine xj_bipush F dX6_ifReach_2 (by decide) ?_
  refine x_S3 F (m_X6_isBetween (by first | assumption | omega | decide) (by first | assumption | omega | decide) (by first | assumption | omega | decide)) mlX6_61 msX6_isBetween dX6_ifReach_4 ⟨Nat.le_of_ble_eq_true rfl, Nat.le_of_ble_eq_true rfl⟩ ⟨Nat.le_of_ble_eq_true rfl, Nat.le_of_ble_eq_true rfl⟩ (Nat.le_of_ble_eq_true rfl) ?_
  refine x_callST (As := [_]) F (m_X6_needArgument hl (p := (1 ≤ z ∧ z ≤ 6))) mlX6_65 msX6_needArgument ⟨Nat.le_of_ble_eq_true rfl, Nat.le_of_ble_eq_true rfl⟩ ⟨Nat.le_of_ble_eq_true rfl, Nat.le_of_ble_eq_true rfl⟩ (Nat.le_of_ble_eq_true rfl) rfl dX6_ifReach_7 (fun C9 M9 hx9 => x_out F FR (Nat.le_of_ble_eq_true rfl) (Nat.le_of_ble_eq_true rfl) ?_) (fun r9 M9 q9 => ?_)
  · obtain ⟨⟨rfl, e9⟩, hx_1⟩ := hx9
    have e9 := e9.symm
    subst e9
    exact ⟨2, by unfold bwX; (repeat' split) <;> first | rfl | omega | contradiction | exact absurd trivial hx_1, by decide, rfl, rfl⟩
  obtain ⟨⟨rfl, e9⟩, hp_2⟩ := q9
  have e9 := e9.symm
  subst e9
  refine x_aload_n F dX6_ifReach_10 rfl ?_
  refine x_iload_n F dX6_ifReach_11 rfl ?_
  refine x_V1P F (m_X6_oddWithReach hO (by omega)) mlX6_189 mvX6_oddWithReach rfl dX6_ifReach_12 (by decide) rfl ⟨Nat.le_of_ble_eq_true rfl, Nat.le_of_ble_eq_true rfl⟩ ⟨Nat.le_of_ble_eq_true rfl, Nat.le_of_ble_eq_true rfl⟩ (Nat.le_of_ble_eq_true rfl) (fun r_12 M_12 q_12 => ?_)
  obtain ⟨rfl, q_12⟩ := q_12
  refine x_iret F FR dX6_ifReach_15 rfl (Nat.le_of_ble_eq_true rfl) (Nat.le_of_ble_eq_true rfl) ?_
  exact ⟨rfl, q_12, (by unfold bwX; (repeat' split) <;> first | rfl | omega)⟩
set_option maxRecDepth 20000 in
theorem m_X6_clearBuffer {l : Launch} {E : xE} {M : xM} : XF l E 20 yX6_clearBuffer cX6_clearBuffer 2 (some FieldType.int) [vA 0] M (vI (jI (tlI M))) (upI M 48 1 (jI 0)) := by
  refine xp_start (plainFor_of_name (by decide)) rfl (Nat.le_of_ble_eq_true rfl) ?_
  intro Y F FR
  refine x_aload_n F dX6_clearBuffer_0 rfl ?_
  refine x_getc (v := 48) F flX6_36 rfl dX6_clearBuffer_1 (by decide) (by decide) rfl rfl ?_
  refine x_V0 F (m_X0_size) mlX6_132 mvX0_size rfl dX6_clearBuffer_4 (by decide) rfl ⟨Nat.le_of_ble_eq_true rfl, Nat.le_of_ble_eq_true rfl⟩ ⟨Nat.zero_le _, Nat.zero_le _⟩ (Nat.le_of_ble_eq_true rfl) ?_
  refine x_istore_n F dX6_clearBuffer_7 (by decide) ?_
  refine x_aload_n F dX6_clearBuffer_8 rfl ?_
  refine x_getc (v := 48) F flX6_36 rfl dX6_clearBuffer_9 (by decide) (by decide) rfl rfl ?_
  refine x_V0 F (m_X0_empty) mlX6_139 mvX0_empty rfl dX6_clearBuffer_12 (by decide) rfl ⟨Nat.le_of_ble_eq_true rfl, Nat.le_of_ble_eq_true rfl⟩ ⟨Nat.zero_le _, Nat.zero_le _⟩ (Nat.le_of_ble_eq_true rfl) ?_
  refine x_iload_n F dX6_clearBuffer_15 rfl ?_
  refine x_iret F FR dX6_clearBuffer_16 rfl (Nat.le_refl _) (Nat.le_refl _) ?_
  exact ⟨rfl, rfl⟩
set_option maxRecDepth 20000 in
theorem m_X6_firstError {l : Launch} {E : xE} {M : xM} (hB : okB M) : XF l E 20 yX6_firstError cX6_firstError 1 (some FieldType.int) [vA 0] M (vI (jI (fmI M))) (M) := by
  refine xp_start (plainFor_of_name (by decide)) rfl (Nat.le_of_ble_eq_true rfl) ?_
  intro Y F FR
  refine x_aload_n F dX6_firstError_0 rfl ?_
  refine x_getc (v := 48) F flX6_36 rfl dX6_firstError_1 (by decide) (by decide) rfl rfl ?_
  refine x_V0 F (m_X0_firstMisfit (by first | assumption | omega | decide)) mlX6_142 mvX0_firstMisfit rfl dX6_firstError_4 (by decide) rfl ⟨Nat.le_of_ble_eq_true rfl, Nat.le_of_ble_eq_true rfl⟩ ⟨Nat.zero_le _, Nat.zero_le _⟩ (Nat.le_of_ble_eq_true rfl) ?_
  have hf_1 := fmI_b hB
  refine x_iret F FR dX6_firstError_7 rfl (Nat.le_refl _) (Nat.le_refl _) ?_
  exact ⟨rfl, rfl⟩
set_option maxRecDepth 20000 in
theorem m_X6_keep {l : Launch} {E : xE} {M : xM} (hO : okC M 1) : XF l E 20 yX6_keep cX6_keep 1 (some FieldType.int) [vA 0] M (vI (jI (sumI (szI M 1) 4))) (upI (bcM M 11 1) 0 3 (jI 1)) := by
  refine xp_start (plainFor_of_name (by decide)) rfl (Nat.le_of_ble_eq_true rfl) ?_
  intro Y F FR
  have hC : isCh 1 := ch1
  have hC11 : isCh 11 := ch11
  have hS := hS_of hO
  refine x_aload_n F dX6_keep_0 rfl ?_
  refine x_getc (v := 11) F flX6_19 rfl dX6_keep_1 (by decide) (by decide) rfl rfl ?_
  refine x_aload_n F dX6_keep_4 rfl ?_
  refine x_getc (v := 1) F flX6_12 rfl dX6_keep_5 (by decide) (by decide) rfl rfl ?_
  refine x_V1 F (m_X1_become hC11 hC) mlX6_162 mvX1_become rfl dX6_keep_8 (by decide) rfl ⟨Nat.le_of_ble_eq_true rfl, Nat.le_of_ble_eq_true rfl⟩ ⟨Nat.zero_le _, Nat.zero_le _⟩ (Nat.le_of_ble_eq_true rfl) ?_
  refine x_aload_n F dX6_keep_11 rfl ?_
  refine xj_iconst F dX6_keep_12 ?_
  refine x_puti F flX6_22 rfl dX6_keep_13 (by decide) (by decide) rfl fw6_3 rfl rfl ?_
  have hE : eqC M (upI (bcM M 11 1) 0 3 (jI 1)) 1 1 := eqC_of fun a h1 h2 => by rw [upI_row (by omega)]; exact (bcM_at ch11 ch1 (by decide)).2.2.2.2.2.1 a (by omega)
  have hS3 := hS_of (okC_e hE hO)
  refine x_aload_n F dX6_keep_16 rfl ?_
  refine x_getc (v := 1) F flX6_12 rfl dX6_keep_17 (by decide) (by decide) rfl rfl ?_
  refine x_V0 F (m_X1_sizeOfAll hC hS3) mlX6_165 mvX1_sizeOfAll rfl dX6_keep_20 (by decide) rfl ⟨Nat.le_of_ble_eq_true rfl, Nat.le_of_ble_eq_true rfl⟩ ⟨Nat.zero_le _, Nat.zero_le _⟩ (Nat.le_of_ble_eq_true rfl) ?_
  refine x_iret F FR dX6_keep_23 rfl (Nat.le_refl _) (Nat.le_refl _) ?_
  exact ⟨by rw [show szI (upI (bcM M 11 1) 0 3 (jI 1)) 1 = szI M 1 from funext fun r => szI_e hE r], rfl⟩
