/-! THE NEEDS, where they are met -/
set_option maxRecDepth 20000 in
theorem m_X6_needIndex {l : Launch} {E : xE} {p : Prop} [Decidable p] (hp : p) {M : xM} : XF l E 1 yX6_needIndex cX6_needIndex 1 none [vI (jb p)] M vU M := by
  refine xp_start (plainFor_of_name (by decide)) rfl (Nat.le_of_ble_eq_true rfl) ?_
  intro Y F FR
  refine x_iload_n F dX6_needIndex_0 rfl ?_
  refine xb_if_ne (tgt := 12) F dX6_needIndex_1 (by decide) (fun h => ?_) (fun h => absurd hp h)
  exact x_vret F FR dX6_needIndex_12 (Nat.zero_le _) (Nat.zero_le _) ⟨rfl, rfl⟩
set_option maxRecDepth 20000 in
theorem m_X6_needArgument {l : Launch} {E : xE} {p : Prop} [Decidable p] (hp : p) {M : xM} : XF l E 1 yX6_needArgument cX6_needArgument 1 none [vI (jb p)] M vU M := by
  refine xp_start (plainFor_of_name (by decide)) rfl (Nat.le_of_ble_eq_true rfl) ?_
  intro Y F FR
  refine x_iload_n F dX6_needArgument_0 rfl ?_
  refine xb_if_ne (tgt := 12) F dX6_needArgument_1 (by decide) (fun h => ?_) (fun h => absurd hp h)
  exact x_vret F FR dX6_needArgument_12 (Nat.zero_le _) (Nat.zero_le _) ⟨rfl, rfl⟩
set_option maxRecDepth 20000 in
theorem m_X6_needState {l : Launch} {E : xE} {p : Prop} [Decidable p] (hp : p) {M : xM} : XF l E 1 yX6_needState cX6_needState 1 none [vI (jb p)] M vU M := by
  refine xp_start (plainFor_of_name (by decide)) rfl (Nat.le_of_ble_eq_true rfl) ?_
  intro Y F FR
  refine x_iload_n F dX6_needState_0 rfl ?_
  refine xb_if_ne (tgt := 12) F dX6_needState_1 (by decide) (fun h => ?_) (fun h => absurd hp h)
  exact x_vret F FR dX6_needState_12 (Nat.zero_le _) (Nat.zero_le _) ⟨rfl, rfl⟩
theorem j1_b : jI 1 = jb True := rfl
theorem szI_in {M : xM} {c : Nat} {r : Int} (h : 0 < szI M c r) : 0 ≤ r ∧ r < 4 := by
  unfold szI at h
  split at h
  · assumption
  · omega
theorem slN_b (M : xM) (g : Int) : 18 ≤ slN M g ∧ slN M g ≤ 43 := by unfold slN; omega
theorem sv0_row {M : xM} {a : Nat} (h : a ≠ 16) : (sv0 M).1 a = M.1 a := by
  unfold sv0
  split
  · rw [upI_row h, upI_row h]
  · rfl
theorem sv0_2 (M : xM) : (sv0 M).2 = M.2 := by unfold sv0; split <;> rfl
theorem svM_b (M : xM) : (∀ a, a < slN (sv0 M) ((sv0 M).1 16 2).toInt ∨ slN (sv0 M) ((sv0 M).1 16 2).toInt + 4 < a → (bcM (sv0 M) (slN (sv0 M) ((sv0 M).1 16 2).toInt) 1).1 a = (sv0 M).1 a) ∧ (bcM (sv0 M) (slN (sv0 M) ((sv0 M).1 16 2).toInt) 1).2 = (sv0 M).2 := by
  have hb := slN_b (sv0 M) ((sv0 M).1 16 2).toInt
  obtain ⟨-, -, -, -, -, h6, h7⟩ := bcM_at (M := sv0 M) (slN_ch (sv0 M) ((sv0 M).1 16 2).toInt) ch1 (by omega)
  exact ⟨h6, h7⟩
theorem svM_row {M : xM} {a : Nat} (h : a < 16 ∨ 48 ≤ a) : (svM M 1).1 a = M.1 a := by
  have hb := slN_b (sv0 M) ((sv0 M).1 16 2).toInt
  unfold svM
  dsimp only
  rw [upI_row (by omega), (svM_b M).1 a (by omega), sv0_row (by omega)]
theorem svM_2 (M : xM) : (svM M 1).2 = M.2 := by
  unfold svM
  dsimp only
  rw [upI_2, (svM_b M).2, sv0_2]
theorem sv0_h {M : xM} (h : okH M) : (0 ≤ ((sv0 M).1 16 1).toInt ∧ ((sv0 M).1 16 1).toInt < 6) ∧ (0 ≤ ((sv0 M).1 16 2).toInt ∧ ((sv0 M).1 16 2).toInt ≤ 5) := by
  obtain ⟨h1, h2⟩ := h
  unfold sv0
  split
  · rw [upI_1, if_neg (by omega), upI_1, if_pos ⟨rfl, rfl⟩, upI_1, if_pos ⟨rfl, rfl⟩, jI_toInt (by omega), jI_toInt (by omega)]
    omega
  · omega
theorem okH_svM {M : xM} (h : okH M) : okH (svM M 1) := by
  have hb := slN_b (sv0 M) ((sv0 M).1 16 2).toInt
  obtain ⟨h1, h2⟩ := sv0_h h
  unfold svM
  dsimp only
  unfold okH
  rw [upI_1, if_neg (by omega), upI_1, if_pos ⟨rfl, rfl⟩, (svM_b M).1 16 (by omega), jI_toInt (by omega)]
  omega
theorem svM_eq (M : xM) : eqC M (svM M 1) 1 1 := eqC_of fun a h1 h2 => svM_row (by omega)
theorem okC_sv {M : xM} (h : okC M 1) : okC (svM M 1) 1 := okC_e (svM_eq M) h
set_option maxRecDepth 20000 in
theorem m_X6_needRow {l : Launch} {E : xE} {r : Int} {M : xM} (hr : 0 ≤ r ∧ r < 4) : XF l E 2 yX6_needRow cX6_needRow 1 none [vI (jI r)] M (vU) (M) := by
  refine xp_start (plainFor_of_name (by decide)) rfl (Nat.le_of_ble_eq_true rfl) ?_
  intro Y F FR
  refine x_iload_n F dX6_needRow_0 rfl ?_
  refine xj_iconst F dX6_needRow_1 ?_
  refine xj_iconst F dX6_needRow_2 ?_
  refine x_S3 F (m_X6_isBetween (by first | assumption | omega | decide) (by first | assumption | omega | decide) (by first | assumption | omega | decide)) mlX6_61 msX6_isBetween dX6_needRow_3 ⟨Nat.le_of_ble_eq_true rfl, Nat.le_of_ble_eq_true rfl⟩ ⟨Nat.zero_le _, Nat.zero_le _⟩ (Nat.le_of_ble_eq_true rfl) ?_
  refine x_S1 F (m_X6_needIndex (p := (0 ≤ r ∧ r ≤ 3)) (by omega)) mlX6_123 msX6_needIndex dX6_needRow_6 ⟨Nat.le_of_ble_eq_true rfl, Nat.le_of_ble_eq_true rfl⟩ ⟨Nat.zero_le _, Nat.zero_le _⟩ (Nat.le_of_ble_eq_true rfl) ?_
  refine x_vret F FR dX6_needRow_9 (Nat.le_refl _) (Nat.le_refl _) ?_
  exact ⟨rfl, rfl⟩
set_option maxRecDepth 20000 in
theorem m_X6_needHeight {l : Launch} {E : xE} {r : Int} {M : xM} (hr : 100 ≤ r ∧ r ≤ 220) : XF l E 2 yX6_needHeight cX6_needHeight 1 none [vI (jI r)] M (vU) (M) := by
  refine xp_start (plainFor_of_name (by decide)) rfl (Nat.le_of_ble_eq_true rfl) ?_
  intro Y F FR
  refine x_iload_n F dX6_needHeight_0 rfl ?_
  refine xj_bipush F dX6_needHeight_1 (by decide) ?_
  refine xj_sipush F dX6_needHeight_3 (by decide) ?_
  refine x_S3 F (m_X6_isBetween (by first | assumption | omega | decide) (by first | assumption | omega | decide) (by first | assumption | omega | decide)) mlX6_61 msX6_isBetween dX6_needHeight_6 ⟨Nat.le_of_ble_eq_true rfl, Nat.le_of_ble_eq_true rfl⟩ ⟨Nat.zero_le _, Nat.zero_le _⟩ (Nat.le_of_ble_eq_true rfl) ?_
  refine x_S1 F (m_X6_needArgument (p := (100 ≤ r ∧ r ≤ 220)) (by first | exact trivial | assumption | omega)) mlX6_65 msX6_needArgument dX6_needHeight_9 ⟨Nat.le_of_ble_eq_true rfl, Nat.le_of_ble_eq_true rfl⟩ ⟨Nat.zero_le _, Nat.zero_le _⟩ (Nat.le_of_ble_eq_true rfl) ?_
  refine x_vret F FR dX6_needHeight_12 (Nat.le_refl _) (Nat.le_refl _) ?_
  exact ⟨rfl, rfl⟩
set_option maxRecDepth 20000 in
theorem m_X6_needSinger {l : Launch} {E : xE} {r p : Int} {M : xM} (hr : 0 ≤ r ∧ r < 4) (hp : 0 ≤ p ∧ p < szI M 1 r ∧ p < 6) : XF l E 3 yX6_needSinger cX6_needSinger 3 none [vA 0, vI (jI r), vI (jI p)] M (vU) (M) := by
  refine xp_start (plainFor_of_name (by decide)) rfl (Nat.le_of_ble_eq_true rfl) ?_
  intro Y F FR
  have hC : isCh 1 := ch1
  refine x_aload_n F dX6_needSinger_0 rfl ?_
  refine x_getc (v := 1) F flX6_12 rfl dX6_needSinger_1 (by decide) (by decide) rfl rfl ?_
  refine x_iload_n F dX6_needSinger_4 rfl ?_
  refine x_iload_n F dX6_needSinger_5 rfl ?_
  refine x_V2 F (m_X1_isTaken (by first | assumption | omega | decide) (by first | assumption | omega | decide) (by first | assumption | omega | decide)) mlX6_226 mvX1_isTaken rfl dX6_needSinger_6 (by decide) rfl ⟨Nat.le_of_ble_eq_true rfl, Nat.le_of_ble_eq_true rfl⟩ ⟨Nat.zero_le _, Nat.zero_le _⟩ (Nat.le_of_ble_eq_true rfl) ?_
  refine x_S1 F (m_X6_needIndex (p := (0 ≤ p ∧ p < szI M 1 r)) (by first | exact trivial | assumption | omega)) mlX6_123 msX6_needIndex dX6_needSinger_9 ⟨Nat.le_of_ble_eq_true rfl, Nat.le_of_ble_eq_true rfl⟩ ⟨Nat.zero_le _, Nat.zero_le _⟩ (Nat.le_of_ble_eq_true rfl) ?_
  refine x_vret F FR dX6_needSinger_12 (Nat.le_refl _) (Nat.le_refl _) ?_
  exact ⟨rfl, rfl⟩
