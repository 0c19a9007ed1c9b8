/-! THE PUBLIC METHODS, with arguments that are valid -/
def swM (M : xM) (r p r2 p2 : Int) : xM := upI (swP M 1 (spI r p) (spI r2 p2)) 1 8 (jI (((swP M 1 (spI r p) (spI r2 p2)).1 1 8).toInt + 1))
def leM (M : xM) (r p : Int) : xM := upI (dsM M 1 r p) 1 7 (jI (((dsM M 1 r p).1 1 7).toInt + 1))
theorem okC_tot {M : xM} {c k : Nat} {x : Int32} (hO : okC M c) (hk : 6 ≤ k) : okC (upI M c k x) c := by
  refine ⟨fun q => by rw [szI_up (by omega)]; exact hO.1 q, ?_, ?_, hLo_of (upI_row (by omega)) hO.2.2.2⟩
  · rw [upI_1, if_neg (by omega)]; exact hO.2.1
  · rw [upI_1, if_neg (by omega)]; exact hO.2.2.1
theorem okC_sw {M : xM} {r p r2 p2 : Int} (hO : okC M 1) : okC (swM M r p r2 p2) 1 := okC_tot (okC_swP hO _ _) (by decide)
theorem okC_trM {M : xM} {c : Nat} {r : Int} (hO : okC M c) : ∀ n, okC (trM M c r n) c
  | 0 => hO
  | n + 1 => okC_swP (okC_trM hO n) _ _
theorem okC_inM {c : Nat} {r z : Int} : ∀ (n : Nat) (M : xM), okC M c → okC (inM c r z n M) c
  | 0, _, h => h
  | n + 1, M, h => by
    simp only [inM]
    split
    · exact okC_inM n _ (okC_swP h _ _)
    · exact h
theorem okC_srM {M : xM} {c : Nat} {r z : Int} (hO : okC M c) : ∀ n, okC (srM M c r z n) c
  | 0 => hO
  | n + 1 => okC_inM _ _ (okC_srM hO n)
set_option maxRecDepth 20000 in
theorem m_X6_join {l : Launch} {E : xE} {r h v : Int} {M : xM} (hO : okC M 1) (hH : okH M) (hr : 0 ≤ r ∧ r < 4) (hh : 100 ≤ h ∧ h ≤ 220) (hv : 0 ≤ v ∧ v ≤ 3) (hs : szI M 1 r < 6 ∧ (M.1 1 6).toInt < 999) : XF l E 18 yX6_join cX6_join 4 (some FieldType.int) [vA 0, vI (jI r), vI (jI h), vI (jI v)] M (vI (jI ((svM M 1).1 1 6).toInt)) (arM (svM M 1) 1 r h v) := by
  refine xp_start (plainFor_of_name (by decide)) rfl (Nat.le_of_ble_eq_true rfl) ?_
  intro Y F FR
  have hC : isCh 1 := ch1
  have hC6 : isCh 6 := ch6
  have hS := hS_of hO
  refine x_iload_n F dX6_join_0 rfl ?_
  refine x_S1 F (m_X6_needRow (by first | assumption | omega | decide)) mlX6_54 msX6_needRow dX6_join_1 ⟨Nat.le_of_ble_eq_true rfl, Nat.le_of_ble_eq_true rfl⟩ ⟨Nat.zero_le _, Nat.zero_le _⟩ (Nat.le_of_ble_eq_true rfl) ?_
  refine x_iload_n F dX6_join_4 rfl ?_
  refine x_S1 F (m_X6_needHeight (by first | assumption | omega | decide)) mlX6_58 msX6_needHeight dX6_join_5 ⟨Nat.le_of_ble_eq_true rfl, Nat.le_of_ble_eq_true rfl⟩ ⟨Nat.zero_le _, Nat.zero_le _⟩ (Nat.le_of_ble_eq_true rfl) ?_
  refine x_iload_n F dX6_join_8 rfl ?_
  refine xj_iconst F dX6_join_9 ?_
  refine xj_iconst F dX6_join_10 ?_
  refine x_S3 F (m_X6_isBetween (by first | assumption | omega | decide) (by first | assumption | omega | decide) (by first | assumption | omega | decide)) mlX6_61 msX6_isBetween dX6_join_11 ⟨Nat.le_of_ble_eq_true rfl, Nat.le_of_ble_eq_true rfl⟩ ⟨Nat.zero_le _, Nat.zero_le _⟩ (Nat.le_of_ble_eq_true rfl) ?_
  refine x_S1 F (m_X6_needArgument (p := (0 ≤ v ∧ v ≤ 3)) (by first | exact trivial | assumption | omega)) mlX6_65 msX6_needArgument dX6_join_14 ⟨Nat.le_of_ble_eq_true rfl, Nat.le_of_ble_eq_true rfl⟩ ⟨Nat.zero_le _, Nat.zero_le _⟩ (Nat.le_of_ble_eq_true rfl) ?_
  refine x_aload_n F dX6_join_17 rfl ?_
  refine x_getc (v := 1) F flX6_12 rfl dX6_join_18 (by decide) (by decide) rfl rfl ?_
  refine x_iload_n F dX6_join_21 rfl ?_
  refine x_V1 F (m_X1_hasRoomFor hC (by omega)) mlX6_69 mvX1_hasRoomFor rfl dX6_join_22 (by decide) rfl ⟨Nat.le_of_ble_eq_true rfl, Nat.le_of_ble_eq_true rfl⟩ ⟨Nat.zero_le _, Nat.zero_le _⟩ (Nat.le_of_ble_eq_true rfl) ?_
  refine x_S1 F (m_X6_needState (p := (szI M 1 r < 6 ∧ (M.1 1 6).toInt < 999)) (by first | exact trivial | assumption | omega)) mlX6_73 msX6_needState dX6_join_25 ⟨Nat.le_of_ble_eq_true rfl, Nat.le_of_ble_eq_true rfl⟩ ⟨Nat.zero_le _, Nat.zero_le _⟩ (Nat.le_of_ble_eq_true rfl) ?_
  refine x_aload_n F dX6_join_28 rfl ?_
  refine x_getc (v := 16) F flX6_29 rfl dX6_join_29 (by decide) (by decide) rfl rfl ?_
  refine x_aload_n F dX6_join_32 rfl ?_
  refine x_getc (v := 1) F flX6_12 rfl dX6_join_33 (by decide) (by decide) rfl rfl ?_
  refine x_V1 F (m_X3_save hC hH) mlX6_76 mvX3_save rfl dX6_join_36 (by decide) rfl ⟨Nat.le_of_ble_eq_true rfl, Nat.le_of_ble_eq_true rfl⟩ ⟨Nat.zero_le _, Nat.zero_le _⟩ (Nat.le_of_ble_eq_true rfl) ?_
  have hO2 := okC_sv hO
  have hS2 := hS_of hO2
  refine x_aload_n F dX6_join_39 rfl ?_
  refine x_getc (v := 1) F flX6_12 rfl dX6_join_40 (by decide) (by decide) rfl rfl ?_
  refine x_iload_n F dX6_join_43 rfl ?_
  refine x_iload_n F dX6_join_44 rfl ?_
  refine x_iload_n F dX6_join_45 rfl ?_
  refine x_V3 F (m_X1_arrive hC hS2 (by omega)) mlX6_80 mvX1_arrive rfl dX6_join_46 (by decide) rfl ⟨Nat.le_of_ble_eq_true rfl, Nat.le_of_ble_eq_true rfl⟩ ⟨Nat.zero_le _, Nat.zero_le _⟩ (Nat.le_of_ble_eq_true rfl) ?_
  refine x_iret F FR dX6_join_49 rfl (Nat.le_refl _) (Nat.le_refl _) ?_
  exact ⟨rfl, rfl⟩
set_option maxRecDepth 20000 in
theorem m_X6_leave {l : Launch} {E : xE} {r p : Int} {M : xM} (hO : okC M 1) (hH : okH M) (hr : 0 ≤ r ∧ r < 4) (hp : 0 ≤ p ∧ p < szI M 1 r ∧ p < 6) : XF l E 18 yX6_leave cX6_leave 3 (some FieldType.int) [vA 0, vI (jI r), vI (jI p)] M (vI (jI (rdI ((svM M 1).1 (1 + 2)) 24 (spI r p)))) (leM (svM M 1) r p) := by
  refine xp_start (plainFor_of_name (by decide)) rfl (Nat.le_of_ble_eq_true rfl) ?_
  intro Y F FR
  have hC : isCh 1 := ch1
  have hC6 : isCh 6 := ch6
  have hS := hS_of hO
  refine x_aload_n F dX6_leave_0 rfl ?_
  refine x_iload_n F dX6_leave_1 rfl ?_
  refine x_iload_n F dX6_leave_2 rfl ?_
  refine x_V2 F (m_X6_needSinger (by first | assumption | omega | decide) (by first | assumption | omega | decide)) mlX6_84 mvX6_needSinger rfl dX6_leave_3 (by decide) rfl ⟨Nat.le_of_ble_eq_true rfl, Nat.le_of_ble_eq_true rfl⟩ ⟨Nat.zero_le _, Nat.zero_le _⟩ (Nat.le_of_ble_eq_true rfl) ?_
  refine x_aload_n F dX6_leave_6 rfl ?_
  refine x_getc (v := 16) F flX6_29 rfl dX6_leave_7 (by decide) (by decide) rfl rfl ?_
  refine x_aload_n F dX6_leave_10 rfl ?_
  refine x_getc (v := 1) F flX6_12 rfl dX6_leave_11 (by decide) (by decide) rfl rfl ?_
  refine x_V1 F (m_X3_save hC hH) mlX6_76 mvX3_save rfl dX6_leave_14 (by decide) rfl ⟨Nat.le_of_ble_eq_true rfl, Nat.le_of_ble_eq_true rfl⟩ ⟨Nat.zero_le _, Nat.zero_le _⟩ (Nat.le_of_ble_eq_true rfl) ?_
  have hO2 := okC_sv hO
  have hS2 := hS_of hO2
  refine x_aload_n F dX6_leave_17 rfl ?_
  refine x_getc (v := 1) F flX6_12 rfl dX6_leave_18 (by decide) (by decide) rfl rfl ?_
  refine x_iload_n F dX6_leave_21 rfl ?_
  refine x_iload_n F dX6_leave_22 rfl ?_
  refine x_V2 F (m_X1_dismiss hC hS2 (by omega) (by omega)) mlX6_88 mvX1_dismiss rfl dX6_leave_23 (by decide) rfl ⟨Nat.le_of_ble_eq_true rfl, Nat.le_of_ble_eq_true rfl⟩ ⟨Nat.zero_le _, Nat.zero_le _⟩ (Nat.le_of_ble_eq_true rfl) ?_
  refine x_iret F FR dX6_leave_26 rfl (Nat.le_refl _) (Nat.le_refl _) ?_
  exact ⟨rfl, rfl⟩
set_option maxRecDepth 20000 in
theorem m_X6_grow {l : Launch} {E : xE} {r p h : Int} {M : xM} (hO : okC M 1) (hH : okH M) (hr : 0 ≤ r ∧ r < 4) (hp : 0 ≤ p ∧ p < szI M 1 r ∧ p < 6) (hh : 100 ≤ h ∧ h ≤ 220) : XF l E 18 yX6_grow cX6_grow 5 (some FieldType.int) [vA 0, vI (jI r), vI (jI p), vI (jI h)] M (vI (jI (heI (svM M 1) 1 r p))) (wrI (svM M 1) (1 + 3) 24 (spI r p) (jI h)) := by
  refine xp_start (plainFor_of_name (by decide)) rfl (Nat.le_of_ble_eq_true rfl) ?_
  intro Y F FR
  have hC : isCh 1 := ch1
  have hC6 : isCh 6 := ch6
  have hS := hS_of hO
  refine x_aload_n F dX6_grow_0 rfl ?_
  refine x_iload_n F dX6_grow_1 rfl ?_
  refine x_iload_n F dX6_grow_2 rfl ?_
  refine x_V2 F (m_X6_needSinger (by first | assumption | omega | decide) (by first | assumption | omega | decide)) mlX6_84 mvX6_needSinger rfl dX6_grow_3 (by decide) rfl ⟨Nat.le_of_ble_eq_true rfl, Nat.le_of_ble_eq_true rfl⟩ ⟨Nat.zero_le _, Nat.zero_le _⟩ (Nat.le_of_ble_eq_true rfl) ?_
  refine x_iload_n F dX6_grow_6 rfl ?_
  refine x_S1 F (m_X6_needHeight (by first | assumption | omega | decide)) mlX6_58 msX6_needHeight dX6_grow_7 ⟨Nat.le_of_ble_eq_true rfl, Nat.le_of_ble_eq_true rfl⟩ ⟨Nat.zero_le _, Nat.zero_le _⟩ (Nat.le_of_ble_eq_true rfl) ?_
  refine x_aload_n F dX6_grow_10 rfl ?_
  refine x_getc (v := 16) F flX6_29 rfl dX6_grow_11 (by decide) (by decide) rfl rfl ?_
  refine x_aload_n F dX6_grow_14 rfl ?_
  refine x_getc (v := 1) F flX6_12 rfl dX6_grow_15 (by decide) (by decide) rfl rfl ?_
  refine x_V1 F (m_X3_save hC hH) mlX6_76 mvX3_save rfl dX6_grow_18 (by decide) rfl ⟨Nat.le_of_ble_eq_true rfl, Nat.le_of_ble_eq_true rfl⟩ ⟨Nat.zero_le _, Nat.zero_le _⟩ (Nat.le_of_ble_eq_true rfl) ?_
  have hO2 := okC_sv hO
  have hS2 := hS_of hO2
  refine x_aload_n F dX6_grow_21 rfl ?_
  refine x_getc (v := 1) F flX6_12 rfl dX6_grow_22 (by decide) (by decide) rfl rfl ?_
  refine x_iload_n F dX6_grow_25 rfl ?_
  refine x_iload_n F dX6_grow_26 rfl ?_
  refine x_V2 F (m_X1_heightAt (by first | assumption | omega | decide) (by first | assumption | omega | decide) (by first | assumption | omega | decide)) mlX6_92 mvX1_heightAt rfl dX6_grow_27 (by decide) rfl ⟨Nat.le_of_ble_eq_true rfl, Nat.le_of_ble_eq_true rfl⟩ ⟨Nat.zero_le _, Nat.zero_le _⟩ (Nat.le_of_ble_eq_true rfl) ?_
  have hf_1 := rg_heI (svM M 1) 1 r p
  refine x_istore F dX6_grow_30 (by decide) ?_
  refine x_aload_n F dX6_grow_32 rfl ?_
  refine x_getc (v := 1) F flX6_12 rfl dX6_grow_33 (by decide) (by decide) rfl rfl ?_
  refine x_iload_n F dX6_grow_36 rfl ?_
  refine x_iload_n F dX6_grow_37 rfl ?_
  refine x_iload_n F dX6_grow_38 rfl ?_
  refine x_V3 F (m_X1_changeHeight (by first | assumption | omega | decide) (by first | assumption | omega | decide) (by first | assumption | omega | decide)) mlX6_95 mvX1_changeHeight rfl dX6_grow_39 (by decide) rfl ⟨Nat.le_of_ble_eq_true rfl, Nat.le_of_ble_eq_true rfl⟩ ⟨Nat.zero_le _, Nat.zero_le _⟩ (Nat.le_of_ble_eq_true rfl) ?_
  refine x_iload F dX6_grow_42 rfl ?_
  refine x_iret F FR dX6_grow_44 rfl (Nat.le_refl _) (Nat.le_refl _) ?_
  exact ⟨rfl, rfl⟩
set_option maxRecDepth 20000 in
theorem m_X6_swap {l : Launch} {E : xE} {r p r2 p2 : Int} {M : xM} (hO : okC M 1) (hH : okH M) (hr : 0 ≤ r ∧ r < 4) (hp : 0 ≤ p ∧ p < szI M 1 r ∧ p < 6) (hr2 : 0 ≤ r2 ∧ r2 < 4) (hp2 : 0 ≤ p2 ∧ p2 < szI M 1 r2 ∧ p2 < 6) : XF l E 18 yX6_swap cX6_swap 5 (some FieldType.int) [vA 0, vI (jI r), vI (jI p), vI (jI r2), vI (jI p2)] M (vI (jI (oaI (swM (svM M 1) r p r2 p2) 1))) (swM (svM M 1) r p r2 p2) := by
  refine xp_start (plainFor_of_name (by decide)) rfl (Nat.le_of_ble_eq_true rfl) ?_
  intro Y F FR
  have hC : isCh 1 := ch1
  have hC6 : isCh 6 := ch6
  have hS := hS_of hO
  refine x_aload_n F dX6_swap_0 rfl ?_
  refine x_iload_n F dX6_swap_1 rfl ?_
  refine x_iload_n F dX6_swap_2 rfl ?_
  refine x_V2 F (m_X6_needSinger (by first | assumption | omega | decide) (by first | assumption | omega | decide)) mlX6_84 mvX6_needSinger rfl dX6_swap_3 (by decide) rfl ⟨Nat.le_of_ble_eq_true rfl, Nat.le_of_ble_eq_true rfl⟩ ⟨Nat.zero_le _, Nat.zero_le _⟩ (Nat.le_of_ble_eq_true rfl) ?_
  refine x_aload_n F dX6_swap_6 rfl ?_
  refine x_iload_n F dX6_swap_7 rfl ?_
  refine x_iload F dX6_swap_8 rfl ?_
  refine x_V2 F (m_X6_needSinger (by first | assumption | omega | decide) (by first | assumption | omega | decide)) mlX6_84 mvX6_needSinger rfl dX6_swap_10 (by decide) rfl ⟨Nat.le_of_ble_eq_true rfl, Nat.le_of_ble_eq_true rfl⟩ ⟨Nat.zero_le _, Nat.zero_le _⟩ (Nat.le_of_ble_eq_true rfl) ?_
  refine x_aload_n F dX6_swap_13 rfl ?_
  refine x_getc (v := 16) F flX6_29 rfl dX6_swap_14 (by decide) (by decide) rfl rfl ?_
  refine x_aload_n F dX6_swap_17 rfl ?_
  refine x_getc (v := 1) F flX6_12 rfl dX6_swap_18 (by decide) (by decide) rfl rfl ?_
  refine x_V1 F (m_X3_save hC hH) mlX6_76 mvX3_save rfl dX6_swap_21 (by decide) rfl ⟨Nat.le_of_ble_eq_true rfl, Nat.le_of_ble_eq_true rfl⟩ ⟨Nat.zero_le _, Nat.zero_le _⟩ (Nat.le_of_ble_eq_true rfl) ?_
  have hO2 := okC_sv hO
  have hS2 := hS_of hO2
  refine x_aload_n F dX6_swap_24 rfl ?_
  refine x_getc (v := 1) F flX6_12 rfl dX6_swap_25 (by decide) (by decide) rfl rfl ?_
  refine x_iload_n F dX6_swap_28 rfl ?_
  refine x_iload_n F dX6_swap_29 rfl ?_
  refine x_iload_n F dX6_swap_30 rfl ?_
  refine x_iload F dX6_swap_31 rfl ?_
  refine x_V4 F (m_X1_swapAndCount (by first | assumption | omega | decide) (by first | assumption | omega | decide) (by first | assumption | omega | decide) (by first | assumption | omega | decide) (by first | assumption | omega | decide)) mlX6_99 mvX1_swapAndCount rfl dX6_swap_33 (by decide) rfl ⟨Nat.le_of_ble_eq_true rfl, Nat.le_of_ble_eq_true rfl⟩ ⟨Nat.zero_le _, Nat.zero_le _⟩ (Nat.le_of_ble_eq_true rfl) ?_
  have hO3 : okC (swM (svM M 1) r p r2 p2) 1 := okC_sw hO2
  refine x_aload_n F dX6_swap_36 rfl ?_
  refine x_getc (v := 1) F flX6_12 rfl dX6_swap_37 (by decide) (by decide) rfl rfl ?_
  refine x_V0 F (m_X1_oddOfAll hC hO3) mlX6_103 mvX1_oddOfAll rfl dX6_swap_40 (by decide) rfl ⟨Nat.le_of_ble_eq_true rfl, Nat.le_of_ble_eq_true rfl⟩ ⟨Nat.zero_le _, Nat.zero_le _⟩ (Nat.le_of_ble_eq_true rfl) ?_
  refine x_iret F FR dX6_swap_43 rfl (Nat.le_refl _) (Nat.le_refl _) ?_
  exact ⟨rfl, rfl⟩
set_option maxRecDepth 20000 in
theorem m_X6_cross {l : Launch} {E : xE} {r p t : Int} {M : xM} (hO : okC M 1) (hH : okH M) (hr : 0 ≤ r ∧ r < 4) (hp : 0 ≤ p ∧ p < szI M 1 r ∧ p < 6) (ht : 0 ≤ t ∧ t < 4) (hrt : r ≠ t ∧ szI M 1 t < 6) : XF l E 18 yX6_cross cX6_cross 4 (some FieldType.int) [vA 0, vI (jI r), vI (jI p), vI (jI t)] M (vI (jI (szI (svM M 1) 1 t))) (moM (svM M 1) 1 r p t) := by
  refine xp_start (plainFor_of_name (by decide)) rfl (Nat.le_of_ble_eq_true rfl) ?_
  intro Y F FR
  have hC : isCh 1 := ch1
  have hC6 : isCh 6 := ch6
  have hS := hS_of hO
  refine x_aload_n F dX6_cross_0 rfl ?_
  refine x_iload_n F dX6_cross_1 rfl ?_
  refine x_iload_n F dX6_cross_2 rfl ?_
  refine x_V2 F (m_X6_needSinger (by first | assumption | omega | decide) (by first | assumption | omega | decide)) mlX6_84 mvX6_needSinger rfl dX6_cross_3 (by decide) rfl ⟨Nat.le_of_ble_eq_true rfl, Nat.le_of_ble_eq_true rfl⟩ ⟨Nat.zero_le _, Nat.zero_le _⟩ (Nat.le_of_ble_eq_true rfl) ?_
  refine x_iload_n F dX6_cross_6 rfl ?_
  refine x_S1 F (m_X6_needRow (by first | assumption | omega | decide)) mlX6_54 msX6_needRow dX6_cross_7 ⟨Nat.le_of_ble_eq_true rfl, Nat.le_of_ble_eq_true rfl⟩ ⟨Nat.zero_le _, Nat.zero_le _⟩ (Nat.le_of_ble_eq_true rfl) ?_
  refine x_iload_n F dX6_cross_10 rfl ?_
  refine x_iload_n F dX6_cross_11 rfl ?_
  refine xj_icmp_eq (tgt := 32) F dX6_cross_12 (by decide) (by omega) (fun h_1 => ?_) (fun h_1 => ?_)
  · refine xj_iconst F dX6_cross_32 ?_
    refine x_S1 F (m_X6_needState (p := False) (by first | exact trivial | assumption | omega)) mlX6_73 msX6_needState dX6_cross_33 ⟨Nat.le_of_ble_eq_true rfl, Nat.le_of_ble_eq_true rfl⟩ ⟨Nat.zero_le _, Nat.zero_le _⟩ (Nat.le_of_ble_eq_true rfl) ?_
    refine x_aload_n F dX6_cross_36 rfl ?_
    refine x_getc (v := 16) F flX6_29 rfl dX6_cross_37 (by decide) (by decide) rfl rfl ?_
    refine x_aload_n F dX6_cross_40 rfl ?_
    refine x_getc (v := 1) F flX6_12 rfl dX6_cross_41 (by decide) (by decide) rfl rfl ?_
    refine x_V1 F (m_X3_save hC hH) mlX6_76 mvX3_save rfl dX6_cross_44 (by decide) rfl ⟨Nat.le_of_ble_eq_true rfl, Nat.le_of_ble_eq_true rfl⟩ ⟨Nat.zero_le _, Nat.zero_le _⟩ (Nat.le_of_ble_eq_true rfl) ?_
    have hO2 := okC_sv hO
    have hS2 := hS_of hO2
    refine x_aload_n F dX6_cross_47 rfl ?_
    refine x_getc (v := 1) F flX6_12 rfl dX6_cross_48 (by decide) (by decide) rfl rfl ?_
    refine x_iload_n F dX6_cross_51 rfl ?_
    refine x_iload_n F dX6_cross_52 rfl ?_
    refine x_iload_n F dX6_cross_53 rfl ?_
    refine x_V3 F (m_X1_moveOver hC hS2 (by omega) (by omega) (by omega) (by omega)) mlX6_111 mvX1_moveOver rfl dX6_cross_54 (by decide) rfl ⟨Nat.le_of_ble_eq_true rfl, Nat.le_of_ble_eq_true rfl⟩ ⟨Nat.zero_le _, Nat.zero_le _⟩ (Nat.le_of_ble_eq_true rfl) ?_
    refine x_iret F FR dX6_cross_57 rfl (Nat.le_refl _) (Nat.le_refl _) ?_
    exact ⟨rfl, rfl⟩
  · refine x_aload_n F dX6_cross_15 rfl ?_
    refine x_getc (v := 1) F flX6_12 rfl dX6_cross_16 (by decide) (by decide) rfl rfl ?_
    refine x_iload_n F dX6_cross_19 rfl ?_
    refine x_V1 F (m_X1_sizeOf (by first | assumption | omega | decide) (by first | assumption | omega | decide)) mlX6_107 mvX1_sizeOf rfl dX6_cross_20 (by decide) rfl ⟨Nat.le_of_ble_eq_true rfl, Nat.le_of_ble_eq_true rfl⟩ ⟨Nat.zero_le _, Nat.zero_le _⟩ (Nat.le_of_ble_eq_true rfl) ?_
    have hf_2 := rg_szI M 1 t
    refine xj_bipush F dX6_cross_23 (by decide) ?_
    refine xj_icmp_ge (tgt := 32) F dX6_cross_25 (by decide) (by omega) (fun h_3 => ?_) (fun h_3 => ?_)
    · refine xj_iconst F dX6_cross_32 ?_
      refine x_S1 F (m_X6_needState (p := False) (by first | exact trivial | assumption | omega)) mlX6_73 msX6_needState dX6_cross_33 ⟨Nat.le_of_ble_eq_true rfl, Nat.le_of_ble_eq_true rfl⟩ ⟨Nat.zero_le _, Nat.zero_le _⟩ (Nat.le_of_ble_eq_true rfl) ?_
      refine x_aload_n F dX6_cross_36 rfl ?_
      refine x_getc (v := 16) F flX6_29 rfl dX6_cross_37 (by decide) (by decide) rfl rfl ?_
      refine x_aload_n F dX6_cross_40 rfl ?_
      refine x_getc (v := 1) F flX6_12 rfl dX6_cross_41 (by decide) (by decide) rfl rfl ?_
      refine x_V1 F (m_X3_save hC hH) mlX6_76 mvX3_save rfl dX6_cross_44 (by decide) rfl ⟨Nat.le_of_ble_eq_true rfl, Nat.le_of_ble_eq_true rfl⟩ ⟨Nat.zero_le _, Nat.zero_le _⟩ (Nat.le_of_ble_eq_true rfl) ?_
      have hO2 := okC_sv hO
      have hS2 := hS_of hO2
      refine x_aload_n F dX6_cross_47 rfl ?_
      refine x_getc (v := 1) F flX6_12 rfl dX6_cross_48 (by decide) (by decide) rfl rfl ?_
      refine x_iload_n F dX6_cross_51 rfl ?_
      refine x_iload_n F dX6_cross_52 rfl ?_
      refine x_iload_n F dX6_cross_53 rfl ?_
      refine x_V3 F (m_X1_moveOver hC hS2 (by omega) (by omega) (by omega) (by omega)) mlX6_111 mvX1_moveOver rfl dX6_cross_54 (by decide) rfl ⟨Nat.le_of_ble_eq_true rfl, Nat.le_of_ble_eq_true rfl⟩ ⟨Nat.zero_le _, Nat.zero_le _⟩ (Nat.le_of_ble_eq_true rfl) ?_
      refine x_iret F FR dX6_cross_57 rfl (Nat.le_refl _) (Nat.le_refl _) ?_
      exact ⟨rfl, rfl⟩
    · refine xj_iconst F dX6_cross_28 ?_
      refine x_goto (tgt := 33) F dX6_cross_29 (by decide) ?_
      refine x_S1 F (m_X6_needState (p := True) (by first | exact trivial | assumption | omega)) mlX6_73 msX6_needState dX6_cross_33 ⟨Nat.le_of_ble_eq_true rfl, Nat.le_of_ble_eq_true rfl⟩ ⟨Nat.zero_le _, Nat.zero_le _⟩ (Nat.le_of_ble_eq_true rfl) ?_
      refine x_aload_n F dX6_cross_36 rfl ?_
      refine x_getc (v := 16) F flX6_29 rfl dX6_cross_37 (by decide) (by decide) rfl rfl ?_
      refine x_aload_n F dX6_cross_40 rfl ?_
      refine x_getc (v := 1) F flX6_12 rfl dX6_cross_41 (by decide) (by decide) rfl rfl ?_
      refine x_V1 F (m_X3_save hC hH) mlX6_76 mvX3_save rfl dX6_cross_44 (by decide) rfl ⟨Nat.le_of_ble_eq_true rfl, Nat.le_of_ble_eq_true rfl⟩ ⟨Nat.zero_le _, Nat.zero_le _⟩ (Nat.le_of_ble_eq_true rfl) ?_
      have hO2 := okC_sv hO
      have hS2 := hS_of hO2
      refine x_aload_n F dX6_cross_47 rfl ?_
      refine x_getc (v := 1) F flX6_12 rfl dX6_cross_48 (by decide) (by decide) rfl rfl ?_
      refine x_iload_n F dX6_cross_51 rfl ?_
      refine x_iload_n F dX6_cross_52 rfl ?_
      refine x_iload_n F dX6_cross_53 rfl ?_
      refine x_V3 F (m_X1_moveOver hC hS2 (by omega) (by omega) (by omega) (by omega)) mlX6_111 mvX1_moveOver rfl dX6_cross_54 (by decide) rfl ⟨Nat.le_of_ble_eq_true rfl, Nat.le_of_ble_eq_true rfl⟩ ⟨Nat.zero_le _, Nat.zero_le _⟩ (Nat.le_of_ble_eq_true rfl) ?_
      refine x_iret F FR dX6_cross_57 rfl (Nat.le_refl _) (Nat.le_refl _) ?_
      exact ⟨rfl, rfl⟩
set_option maxRecDepth 20000 in
theorem m_X6_turn {l : Launch} {E : xE} {r : Int} {M : xM} (hO : okC M 1) (hH : okH M) (hr : 0 ≤ r ∧ r < 4) : XF l E 18 yX6_turn cX6_turn 2 (some FieldType.int) [vA 0, vI (jI r)] M (vI (jI (oaI (trM (svM M 1) 1 r (szI (svM M 1) 1 r / 2).toNat) 1))) (trM (svM M 1) 1 r (szI (svM M 1) 1 r / 2).toNat) := by
  refine xp_start (plainFor_of_name (by decide)) rfl (Nat.le_of_ble_eq_true rfl) ?_
  intro Y F FR
  have hC : isCh 1 := ch1
  have hC6 : isCh 6 := ch6
  have hS := hS_of hO
  refine x_iload_n F dX6_turn_0 rfl ?_
  refine x_S1 F (m_X6_needRow (by first | assumption | omega | decide)) mlX6_54 msX6_needRow dX6_turn_1 ⟨Nat.le_of_ble_eq_true rfl, Nat.le_of_ble_eq_true rfl⟩ ⟨Nat.zero_le _, Nat.zero_le _⟩ (Nat.le_of_ble_eq_true rfl) ?_
  refine x_aload_n F dX6_turn_4 rfl ?_
  refine x_getc (v := 16) F flX6_29 rfl dX6_turn_5 (by decide) (by decide) rfl rfl ?_
  refine x_aload_n F dX6_turn_8 rfl ?_
  refine x_getc (v := 1) F flX6_12 rfl dX6_turn_9 (by decide) (by decide) rfl rfl ?_
  refine x_V1 F (m_X3_save hC hH) mlX6_76 mvX3_save rfl dX6_turn_12 (by decide) rfl ⟨Nat.le_of_ble_eq_true rfl, Nat.le_of_ble_eq_true rfl⟩ ⟨Nat.zero_le _, Nat.zero_le _⟩ (Nat.le_of_ble_eq_true rfl) ?_
  have hO2 := okC_sv hO
  have hS2 := hS_of hO2
  refine x_aload_n F dX6_turn_15 rfl ?_
  refine x_getc (v := 1) F flX6_12 rfl dX6_turn_16 (by decide) (by decide) rfl rfl ?_
  refine x_iload_n F dX6_turn_19 rfl ?_
  refine x_V1 F (m_X1_turnRound hC hS2 (by omega)) mlX6_114 mvX1_turnRound rfl dX6_turn_20 (by decide) rfl ⟨Nat.le_of_ble_eq_true rfl, Nat.le_of_ble_eq_true rfl⟩ ⟨Nat.zero_le _, Nat.zero_le _⟩ (Nat.le_of_ble_eq_true rfl) ?_
  have hO3 : okC (trM (svM M 1) 1 r (szI (svM M 1) 1 r / 2).toNat) 1 := okC_trM hO2 _
  refine x_aload_n F dX6_turn_23 rfl ?_
  refine x_getc (v := 1) F flX6_12 rfl dX6_turn_24 (by decide) (by decide) rfl rfl ?_
  refine x_V0 F (m_X1_oddOfAll hC hO3) mlX6_103 mvX1_oddOfAll rfl dX6_turn_27 (by decide) rfl ⟨Nat.le_of_ble_eq_true rfl, Nat.le_of_ble_eq_true rfl⟩ ⟨Nat.zero_le _, Nat.zero_le _⟩ (Nat.le_of_ble_eq_true rfl) ?_
  refine x_iret F FR dX6_turn_30 rfl (Nat.le_refl _) (Nat.le_refl _) ?_
  exact ⟨rfl, rfl⟩
set_option maxRecDepth 20000 in
theorem m_X6_sort {l : Launch} {E : xE} {r z : Int} {M : xM} (hO : okC M 1) (hH : okH M) (hr : 0 ≤ r ∧ r < 4) (hz : 0 ≤ z ∧ z ≤ 2) : XF l E 18 yX6_sort cX6_sort 3 (some FieldType.int) [vA 0, vI (jI r), vI (jI z)] M (vI (jI (dcI (srM (svM M 1) 1 r z (szI (svM M 1) 1 r - 1).toNat) 1 r))) ((srM (svM M 1) 1 r z (szI (svM M 1) 1 r - 1).toNat)) := by
  refine xp_start (plainFor_of_name (by decide)) rfl (Nat.le_of_ble_eq_true rfl) ?_
  intro Y F FR
  have hC : isCh 1 := ch1
  have hC6 : isCh 6 := ch6
  have hS := hS_of hO
  refine x_iload_n F dX6_sort_0 rfl ?_
  refine x_S1 F (m_X6_needRow (by first | assumption | omega | decide)) mlX6_54 msX6_needRow dX6_sort_1 ⟨Nat.le_of_ble_eq_true rfl, Nat.le_of_ble_eq_true rfl⟩ ⟨Nat.zero_le _, Nat.zero_le _⟩ (Nat.le_of_ble_eq_true rfl) ?_
  refine x_iload_n F dX6_sort_4 rfl ?_
  refine xj_iconst F dX6_sort_5 ?_
  refine xj_iconst F dX6_sort_6 ?_
  refine x_S3 F (m_X6_isBetween (by first | assumption | omega | decide) (by first | assumption | omega | decide) (by first | assumption | omega | decide)) mlX6_61 msX6_isBetween dX6_sort_7 ⟨Nat.le_of_ble_eq_true rfl, Nat.le_of_ble_eq_true rfl⟩ ⟨Nat.zero_le _, Nat.zero_le _⟩ (Nat.le_of_ble_eq_true rfl) ?_
  refine x_S1 F (m_X6_needArgument (p := (0 ≤ z ∧ z ≤ 2)) (by first | exact trivial | assumption | omega)) mlX6_65 msX6_needArgument dX6_sort_10 ⟨Nat.le_of_ble_eq_true rfl, Nat.le_of_ble_eq_true rfl⟩ ⟨Nat.zero_le _, Nat.zero_le _⟩ (Nat.le_of_ble_eq_true rfl) ?_
  refine x_aload_n F dX6_sort_13 rfl ?_
  refine x_getc (v := 16) F flX6_29 rfl dX6_sort_14 (by decide) (by decide) rfl rfl ?_
  refine x_aload_n F dX6_sort_17 rfl ?_
  refine x_getc (v := 1) F flX6_12 rfl dX6_sort_18 (by decide) (by decide) rfl rfl ?_
  refine x_V1 F (m_X3_save hC hH) mlX6_76 mvX3_save rfl dX6_sort_21 (by decide) rfl ⟨Nat.le_of_ble_eq_true rfl, Nat.le_of_ble_eq_true rfl⟩ ⟨Nat.zero_le _, Nat.zero_le _⟩ (Nat.le_of_ble_eq_true rfl) ?_
  have hO2 := okC_sv hO
  have hS2 := hS_of hO2
  refine x_aload_n F dX6_sort_24 rfl ?_
  refine x_getc (v := 1) F flX6_12 rfl dX6_sort_25 (by decide) (by decide) rfl rfl ?_
  refine x_iload_n F dX6_sort_28 rfl ?_
  refine x_iload_n F dX6_sort_29 rfl ?_
  refine x_V2 F (m_X1_putInOrder hC hS2 (by omega) hO2.2.2.2 (by omega)) mlX6_117 mvX1_putInOrder rfl dX6_sort_30 (by decide) rfl ⟨Nat.le_of_ble_eq_true rfl, Nat.le_of_ble_eq_true rfl⟩ ⟨Nat.zero_le _, Nat.zero_le _⟩ (Nat.le_of_ble_eq_true rfl) ?_
  have hO3 : okC (srM (svM M 1) 1 r z (szI (svM M 1) 1 r - 1).toNat) 1 := okC_srM hO2 _
  have hS3 := hS_of hO3
  refine x_aload_n F dX6_sort_33 rfl ?_
  refine x_getc (v := 1) F flX6_12 rfl dX6_sort_34 (by decide) (by decide) rfl rfl ?_
  refine x_iload_n F dX6_sort_37 rfl ?_
  refine x_V1 F (m_X1_discordOf hC hO3 (by omega)) mlX6_120 mvX1_discordOf rfl dX6_sort_38 (by decide) rfl ⟨Nat.le_of_ble_eq_true rfl, Nat.le_of_ble_eq_true rfl⟩ ⟨Nat.zero_le _, Nat.zero_le _⟩ (Nat.le_of_ble_eq_true rfl) ?_
  refine x_iret F FR dX6_sort_41 rfl (Nat.le_refl _) (Nat.le_refl _) ?_
  exact ⟨rfl, rfl⟩
set_option maxRecDepth 20000 in
theorem m_X6_set {l : Launch} {E : xE} {s x : Int} {M : xM} (hO : okC M 1) (hH : okH M) (hs : 0 ≤ s ∧ s ≤ 1) (hx : (s = 0 → 1 ≤ x ∧ x ≤ 6) ∧ (s = 1 → 0 ≤ x ∧ x ≤ 1) ∧ 0 ≤ x ∧ x ≤ 6) : XF l E 18 yX6_set cX6_set 4 (some FieldType.int) [vA 0, vI (jI s), vI (jI x)] M (vI (jI (if s = 0 then ((svM M 1).1 1 4).toInt else ((svM M 1).1 1 5).toInt))) (upI (svM M 1) 1 (if s = 0 then 4 else 5) (jI x)) := by
  refine xp_start (plainFor_of_name (by decide)) rfl (Nat.le_of_ble_eq_true rfl) ?_
  intro Y F FR
  have hC : isCh 1 := ch1
  have hC6 : isCh 6 := ch6
  have hS := hS_of hO
  refine x_iload_n F dX6_set_0 rfl ?_
  refine xj_iconst F dX6_set_1 ?_
  refine xj_iconst F dX6_set_2 ?_
  refine x_S3 F (m_X6_isBetween (by first | assumption | omega | decide) (by first | assumption | omega | decide) (by first | assumption | omega | decide)) mlX6_61 msX6_isBetween dX6_set_3 ⟨Nat.le_of_ble_eq_true rfl, Nat.le_of_ble_eq_true rfl⟩ ⟨Nat.zero_le _, Nat.zero_le _⟩ (Nat.le_of_ble_eq_true rfl) ?_
  refine x_S1 F (m_X6_needIndex (p := (0 ≤ s ∧ s ≤ 1)) (by first | exact trivial | assumption | omega)) mlX6_123 msX6_needIndex dX6_set_6 ⟨Nat.le_of_ble_eq_true rfl, Nat.le_of_ble_eq_true rfl⟩ ⟨Nat.zero_le _, Nat.zero_le _⟩ (Nat.le_of_ble_eq_true rfl) ?_
  refine x_iload_n F dX6_set_9 rfl ?_
  refine xj_if_ne (tgt := 23) F dX6_set_10 (by decide) (by omega) (fun h_1 => ?_) (fun h_1 => ?_)
  · refine x_iload_n F dX6_set_23 rfl ?_
    refine xj_iconst F dX6_set_24 ?_
    refine xj_iconst F dX6_set_25 ?_
    refine x_S3 F (m_X6_isBetween (by first | assumption | omega | decide) (by first | assumption | omega | decide) (by first | assumption | omega | decide)) mlX6_61 msX6_isBetween dX6_set_26 ⟨Nat.le_of_ble_eq_true rfl, Nat.le_of_ble_eq_true rfl⟩ ⟨Nat.zero_le _, Nat.zero_le _⟩ (Nat.le_of_ble_eq_true rfl) ?_
    refine x_S1 F (m_X6_needArgument (p := (0 ≤ x ∧ x ≤ 1)) (by first | exact trivial | assumption | omega)) mlX6_65 msX6_needArgument dX6_set_29 ⟨Nat.le_of_ble_eq_true rfl, Nat.le_of_ble_eq_true rfl⟩ ⟨Nat.zero_le _, Nat.zero_le _⟩ (Nat.le_of_ble_eq_true rfl) ?_
    refine x_aload_n F dX6_set_32 rfl ?_
    refine x_getc (v := 16) F flX6_29 rfl dX6_set_33 (by decide) (by decide) rfl rfl ?_
    refine x_aload_n F dX6_set_36 rfl ?_
    refine x_getc (v := 1) F flX6_12 rfl dX6_set_37 (by decide) (by decide) rfl rfl ?_
    refine x_V1 F (m_X3_save hC hH) mlX6_76 mvX3_save rfl dX6_set_40 (by decide) rfl ⟨Nat.le_of_ble_eq_true rfl, Nat.le_of_ble_eq_true rfl⟩ ⟨Nat.zero_le _, Nat.zero_le _⟩ (Nat.le_of_ble_eq_true rfl) ?_
    have hO2 := okC_sv hO
    have hS2 := hS_of hO2
    refine x_aload_n F dX6_set_43 rfl ?_
    refine x_getc (v := 1) F flX6_12 rfl dX6_set_44 (by decide) (by decide) rfl rfl ?_
    refine x_iload_n F dX6_set_47 rfl ?_
    refine x_V1 F (m_X1_settingAt hC (by omega)) mlX6_126 mvX1_settingAt rfl dX6_set_48 (by decide) rfl ⟨Nat.le_of_ble_eq_true rfl, Nat.le_of_ble_eq_true rfl⟩ ⟨Nat.zero_le _, Nat.zero_le _⟩ (Nat.le_of_ble_eq_true rfl) ?_
    refine x_istore_n F dX6_set_51 (by decide) ?_
    refine x_aload_n F dX6_set_52 rfl ?_
    refine x_getc (v := 1) F flX6_12 rfl dX6_set_53 (by decide) (by decide) rfl rfl ?_
    refine x_iload_n F dX6_set_56 rfl ?_
    refine x_iload_n F dX6_set_57 rfl ?_
    refine x_V2 F (m_X1_changeSetting hC (by omega)) mlX6_129 mvX1_changeSetting rfl dX6_set_58 (by decide) rfl ⟨Nat.le_of_ble_eq_true rfl, Nat.le_of_ble_eq_true rfl⟩ ⟨Nat.zero_le _, Nat.zero_le _⟩ (Nat.le_of_ble_eq_true rfl) ?_
    refine x_iload_n F dX6_set_61 rfl ?_
    refine x_iret F FR dX6_set_62 rfl (Nat.le_refl _) (Nat.le_refl _) ?_
    exact ⟨rfl, rfl⟩
  · refine x_iload_n F dX6_set_13 rfl ?_
    refine xj_iconst F dX6_set_14 ?_
    refine xj_bipush F dX6_set_15 (by decide) ?_
    refine x_S3 F (m_X6_isBetween (by first | assumption | omega | decide) (by first | assumption | omega | decide) (by first | assumption | omega | decide)) mlX6_61 msX6_isBetween dX6_set_17 ⟨Nat.le_of_ble_eq_true rfl, Nat.le_of_ble_eq_true rfl⟩ ⟨Nat.zero_le _, Nat.zero_le _⟩ (Nat.le_of_ble_eq_true rfl) ?_
    refine x_goto (tgt := 29) F dX6_set_20 (by decide) ?_
    refine x_S1 F (m_X6_needArgument (p := (1 ≤ x ∧ x ≤ 6)) (by first | exact trivial | assumption | omega)) mlX6_65 msX6_needArgument dX6_set_29 ⟨Nat.le_of_ble_eq_true rfl, Nat.le_of_ble_eq_true rfl⟩ ⟨Nat.zero_le _, Nat.zero_le _⟩ (Nat.le_of_ble_eq_true rfl) ?_
    refine x_aload_n F dX6_set_32 rfl ?_
    refine x_getc (v := 16) F flX6_29 rfl dX6_set_33 (by decide) (by decide) rfl rfl ?_
    refine x_aload_n F dX6_set_36 rfl ?_
    refine x_getc (v := 1) F flX6_12 rfl dX6_set_37 (by decide) (by decide) rfl rfl ?_
    refine x_V1 F (m_X3_save hC hH) mlX6_76 mvX3_save rfl dX6_set_40 (by decide) rfl ⟨Nat.le_of_ble_eq_true rfl, Nat.le_of_ble_eq_true rfl⟩ ⟨Nat.zero_le _, Nat.zero_le _⟩ (Nat.le_of_ble_eq_true rfl) ?_
    have hO2 := okC_sv hO
    have hS2 := hS_of hO2
    refine x_aload_n F dX6_set_43 rfl ?_
    refine x_getc (v := 1) F flX6_12 rfl dX6_set_44 (by decide) (by decide) rfl rfl ?_
    refine x_iload_n F dX6_set_47 rfl ?_
    refine x_V1 F (m_X1_settingAt hC (by omega)) mlX6_126 mvX1_settingAt rfl dX6_set_48 (by decide) rfl ⟨Nat.le_of_ble_eq_true rfl, Nat.le_of_ble_eq_true rfl⟩ ⟨Nat.zero_le _, Nat.zero_le _⟩ (Nat.le_of_ble_eq_true rfl) ?_
    refine x_istore_n F dX6_set_51 (by decide) ?_
    refine x_aload_n F dX6_set_52 rfl ?_
    refine x_getc (v := 1) F flX6_12 rfl dX6_set_53 (by decide) (by decide) rfl rfl ?_
    refine x_iload_n F dX6_set_56 rfl ?_
    refine x_iload_n F dX6_set_57 rfl ?_
    refine x_V2 F (m_X1_changeSetting hC (by omega)) mlX6_129 mvX1_changeSetting rfl dX6_set_58 (by decide) rfl ⟨Nat.le_of_ble_eq_true rfl, Nat.le_of_ble_eq_true rfl⟩ ⟨Nat.zero_le _, Nat.zero_le _⟩ (Nat.le_of_ble_eq_true rfl) ?_
    refine x_iload_n F dX6_set_61 rfl ?_
    refine x_iret F FR dX6_set_62 rfl (Nat.le_refl _) (Nat.le_refl _) ?_
    exact ⟨rfl, rfl⟩
set_option maxRecDepth 20000 in
theorem m_X6_written {l : Launch} {E : xE} {M0 M : xM} (hO0 : okC M0 1) (hT0 : okT M0) (hX : qX M0 M) {r i : Int} (hr : 0 ≤ r ∧ r < 4) (hi : 0 ≤ i ∧ i < 1000) : XP l E 18 yX6_written cX6_written 3 (some FieldType.int) [vA 0, vI (jI r), vI (jI i)] M (fun r' M' => r' = vI (wcI M0 1 r i) ∧ qX M0 M') := by
  refine xp_start (plainFor_of_name (by decide)) rfl (Nat.le_of_ble_eq_true rfl) ?_
  intro Y F FR
  have hO : okC M 1 := okC_e (qX_e hX) hO0
  have hT : okT M := hX.2.1 hT0
  have hE := qX_e hX
  have hsz : ∀ q : Int, szI M 1 q = szI M0 1 q := szI_e hE
  have hC : isCh 1 := ch1
  have hC6 : isCh 6 := ch6
  have hS := hS_of hO
  refine x_iload_n F dX6_written_0 rfl ?_
  refine x_S1 F (m_X6_needRow (by first | assumption | omega | decide)) mlX6_54 msX6_needRow dX6_written_1 ⟨Nat.le_of_ble_eq_true rfl, Nat.le_of_ble_eq_true rfl⟩ ⟨Nat.zero_le _, Nat.zero_le _⟩ (Nat.le_of_ble_eq_true rfl) ?_
  refine x_iload_n F dX6_written_4 rfl ?_
  refine xj_if_lt (tgt := 12) F dX6_written_5 (by decide) (by omega) (fun h_1 => ?_) (fun h_1 => ?_)
  · refine xj_iconst F dX6_written_12 ?_
    refine x_S1 F (m_X6_needArgument (p := False) (by first | exact trivial | assumption | omega)) mlX6_65 msX6_needArgument dX6_written_13 ⟨Nat.le_of_ble_eq_true rfl, Nat.le_of_ble_eq_true rfl⟩ ⟨Nat.zero_le _, Nat.zero_le _⟩ (Nat.le_of_ble_eq_true rfl) ?_
    refine x_aload_n F dX6_written_16 rfl ?_
    refine x_getc (v := 1) F flX6_12 rfl dX6_written_17 (by decide) (by decide) rfl rfl ?_
    refine x_iload_n F dX6_written_20 rfl ?_
    refine x_iload_n F dX6_written_21 rfl ?_
    refine x_V2 F (m_X1_writtenCode hC hS (by omega) (by omega)) mlX6_155 mvX1_writtenCode rfl dX6_written_22 (by decide) rfl ⟨Nat.le_of_ble_eq_true rfl, Nat.le_of_ble_eq_true rfl⟩ ⟨Nat.zero_le _, Nat.zero_le _⟩ (Nat.le_of_ble_eq_true rfl) ?_
    refine x_iret F FR dX6_written_25 rfl (Nat.le_refl _) (Nat.le_refl _) ?_
    exact ⟨by rw [wcI_e hE], hX⟩
  · refine xj_iconst F dX6_written_8 ?_
    refine x_goto (tgt := 13) F dX6_written_9 (by decide) ?_
    refine x_S1 F (m_X6_needArgument (p := True) (by first | exact trivial | assumption | omega)) mlX6_65 msX6_needArgument dX6_written_13 ⟨Nat.le_of_ble_eq_true rfl, Nat.le_of_ble_eq_true rfl⟩ ⟨Nat.zero_le _, Nat.zero_le _⟩ (Nat.le_of_ble_eq_true rfl) ?_
    refine x_aload_n F dX6_written_16 rfl ?_
    refine x_getc (v := 1) F flX6_12 rfl dX6_written_17 (by decide) (by decide) rfl rfl ?_
    refine x_iload_n F dX6_written_20 rfl ?_
    refine x_iload_n F dX6_written_21 rfl ?_
    refine x_V2 F (m_X1_writtenCode hC hS (by omega) (by omega)) mlX6_155 mvX1_writtenCode rfl dX6_written_22 (by decide) rfl ⟨Nat.le_of_ble_eq_true rfl, Nat.le_of_ble_eq_true rfl⟩ ⟨Nat.zero_le _, Nat.zero_le _⟩ (Nat.le_of_ble_eq_true rfl) ?_
    refine x_iret F FR dX6_written_25 rfl (Nat.le_refl _) (Nat.le_refl _) ?_
    exact ⟨by rw [wcI_e hE], hX⟩
set_option maxRecDepth 20000 in
theorem m_X6_singer {l : Launch} {E : xE} {M0 M : xM} (hO0 : okC M0 1) (hT0 : okT M0) (hX : qX M0 M) {r p z : Int} (hr : 0 ≤ r ∧ r < 4) (hp : 0 ≤ p ∧ p < szI M0 1 r ∧ p < 6) (hz : 0 ≤ z ∧ z ≤ 7) : XP l E 18 yX6_singer cX6_singer 4 (some FieldType.int) [vA 0, vI (jI r), vI (jI p), vI (jI z)] M (fun r' M' => r' = vI (jI (osI M0 1 r p z)) ∧ qX M0 M') := by
  refine xp_start (plainFor_of_name (by decide)) rfl (Nat.le_of_ble_eq_true rfl) ?_
  intro Y F FR
  have hO : okC M 1 := okC_e (qX_e hX) hO0
  have hT : okT M := hX.2.1 hT0
  have hE := qX_e hX
  have hsz : ∀ q : Int, szI M 1 q = szI M0 1 q := szI_e hE
  have hC : isCh 1 := ch1
  have hC6 : isCh 6 := ch6
  have hS := hS_of hO
  refine x_aload_n F dX6_singer_0 rfl ?_
  refine x_iload_n F dX6_singer_1 rfl ?_
  refine x_iload_n F dX6_singer_2 rfl ?_
  refine x_V2 F (m_X6_needSinger (by omega) (by rw [hsz]; omega)) mlX6_84 mvX6_needSinger rfl dX6_singer_3 (by decide) rfl ⟨Nat.le_of_ble_eq_true rfl, Nat.le_of_ble_eq_true rfl⟩ ⟨Nat.zero_le _, Nat.zero_le _⟩ (Nat.le_of_ble_eq_true rfl) ?_
  refine x_iload_n F dX6_singer_6 rfl ?_
  refine xj_iconst F dX6_singer_7 ?_
  refine xj_bipush F dX6_singer_8 (by decide) ?_
  refine x_S3 F (m_X6_isBetween (by first | assumption | omega | decide) (by first | assumption | omega | decide) (by first | assumption | omega | decide)) mlX6_61 msX6_isBetween dX6_singer_10 ⟨Nat.le_of_ble_eq_true rfl, Nat.le_of_ble_eq_true rfl⟩ ⟨Nat.zero_le _, Nat.zero_le _⟩ (Nat.le_of_ble_eq_true rfl) ?_
  refine x_S1 F (m_X6_needArgument (p := (0 ≤ z ∧ z ≤ 7)) (by first | exact trivial | assumption | omega)) mlX6_65 msX6_needArgument dX6_singer_13 ⟨Nat.le_of_ble_eq_true rfl, Nat.le_of_ble_eq_true rfl⟩ ⟨Nat.zero_le _, Nat.zero_le _⟩ (Nat.le_of_ble_eq_true rfl) ?_
  refine x_aload_n F dX6_singer_16 rfl ?_
  refine x_iload_n F dX6_singer_17 rfl ?_
  refine x_iload_n F dX6_singer_18 rfl ?_
  refine x_iload_n F dX6_singer_19 rfl ?_
  refine x_V3P F (m_X6_ofSinger hO hT (by omega) (by omega) (by omega)) mlX6_168 mvX6_ofSinger rfl dX6_singer_20 (by decide) rfl ⟨Nat.le_of_ble_eq_true rfl, Nat.le_of_ble_eq_true rfl⟩ ⟨Nat.zero_le _, Nat.zero_le _⟩ (Nat.le_of_ble_eq_true rfl) (fun r_20 M_20 q_20 => ?_)
  obtain ⟨rfl, q_20⟩ := q_20
  refine x_iret F FR dX6_singer_23 rfl (Nat.le_refl _) (Nat.le_refl _) ?_
  exact ⟨vj (osI_e hE _ _ _), qX_trans hX (qX_same q_20)⟩
set_option maxRecDepth 20000 in
theorem m_X6_row {l : Launch} {E : xE} {M0 M : xM} (hO0 : okC M0 1) (hT0 : okT M0) (hX : qX M0 M) {r z : Int} (hr : 0 ≤ r ∧ r < 4) (hz : 0 ≤ z ∧ z ≤ 6) : XP l E 18 yX6_row cX6_row 3 (some FieldType.int) [vA 0, vI (jI r), vI (jI z)] M (fun r' M' => r' = vI (jI (owI M0 1 r z)) ∧ qX M0 M') := by
  refine xp_start (plainFor_of_name (by decide)) rfl (Nat.le_of_ble_eq_true rfl) ?_
  intro Y F FR
  have hO : okC M 1 := okC_e (qX_e hX) hO0
  have hT : okT M := hX.2.1 hT0
  have hE := qX_e hX
  have hsz : ∀ q : Int, szI M 1 q = szI M0 1 q := szI_e hE
  have hC : isCh 1 := ch1
  have hC6 : isCh 6 := ch6
  have hS := hS_of hO
  refine x_iload_n F dX6_row_0 rfl ?_
  refine x_S1 F (m_X6_needRow (by first | assumption | omega | decide)) mlX6_54 msX6_needRow dX6_row_1 ⟨Nat.le_of_ble_eq_true rfl, Nat.le_of_ble_eq_true rfl⟩ ⟨Nat.zero_le _, Nat.zero_le _⟩ (Nat.le_of_ble_eq_true rfl) ?_
  refine x_iload_n F dX6_row_4 rfl ?_
  refine xj_iconst F dX6_row_5 ?_
  refine xj_bipush F dX6_row_6 (by decide) ?_
  refine x_S3 F (m_X6_isBetween (by first | assumption | omega | decide) (by first | assumption | omega | decide) (by first | assumption | omega | decide)) mlX6_61 msX6_isBetween dX6_row_8 ⟨Nat.le_of_ble_eq_true rfl, Nat.le_of_ble_eq_true rfl⟩ ⟨Nat.zero_le _, Nat.zero_le _⟩ (Nat.le_of_ble_eq_true rfl) ?_
  refine x_S1 F (m_X6_needArgument (p := (0 ≤ z ∧ z ≤ 6)) (by first | exact trivial | assumption | omega)) mlX6_65 msX6_needArgument dX6_row_11 ⟨Nat.le_of_ble_eq_true rfl, Nat.le_of_ble_eq_true rfl⟩ ⟨Nat.zero_le _, Nat.zero_le _⟩ (Nat.le_of_ble_eq_true rfl) ?_
  refine x_aload_n F dX6_row_14 rfl ?_
  refine x_iload_n F dX6_row_15 rfl ?_
  refine x_iload_n F dX6_row_16 rfl ?_
  refine x_V2P F (m_X6_ofRow hO (by omega) (by omega)) mlX6_171 mvX6_ofRow rfl dX6_row_17 (by decide) rfl ⟨Nat.le_of_ble_eq_true rfl, Nat.le_of_ble_eq_true rfl⟩ ⟨Nat.zero_le _, Nat.zero_le _⟩ (Nat.le_of_ble_eq_true rfl) (fun r_17 M_17 q_17 => ?_)
  obtain ⟨rfl, q_17⟩ := q_17
  refine x_iret F FR dX6_row_20 rfl (Nat.le_refl _) (Nat.le_refl _) ?_
  exact ⟨vj (owI_e hE _ _), qX_trans hX (qX_same q_17)⟩
theorem fnR_e {M M' : xM} (h : eqC M M' 1 1) (x : Int) : ∀ (n : Nat) (r : Int), fnR M' 1 x r n = fnR M 1 x r n
  | 0, _ => rfl
  | n + 1, r => by
    simp only [fnR]
    rw [szI_e h, show nuP M' 1 x r = nuP M 1 x r from funext fun p => by unfold nuP; rw [rd2_e h], fnR_e h x n (r + 1)]
set_option maxRecDepth 20000 in
theorem m_X6_find {l : Launch} {E : xE} {M0 M : xM} (hO0 : okC M0 1) (hT0 : okT M0) (hX : qX M0 M) {x : Int} (hx : 0 ≤ x ∧ rg x) : XP l E 18 yX6_find cX6_find 2 (some FieldType.int) [vA 0, vI (jI x)] M (fun r' M' => r' = vI (jI (fnR M0 1 x 0 4)) ∧ qX M0 M') := by
  refine xp_start (plainFor_of_name (by decide)) rfl (Nat.le_of_ble_eq_true rfl) ?_
  intro Y F FR
  have hO : okC M 1 := okC_e (qX_e hX) hO0
  have hT : okT M := hX.2.1 hT0
  have hE := qX_e hX
  have hsz : ∀ q : Int, szI M 1 q = szI M0 1 q := szI_e hE
  have hC : isCh 1 := ch1
  have hC6 : isCh 6 := ch6
  have hS := hS_of hO
  refine x_iload_n F dX6_find_0 rfl ?_
  refine xj_if_lt (tgt := 8) F dX6_find_1 (by decide) (by omega) (fun h_1 => ?_) (fun h_1 => ?_)
  · refine xj_iconst F dX6_find_8 ?_
    refine x_S1 F (m_X6_needArgument (p := False) (by first | exact trivial | assumption | omega)) mlX6_65 msX6_needArgument dX6_find_9 ⟨Nat.le_of_ble_eq_true rfl, Nat.le_of_ble_eq_true rfl⟩ ⟨Nat.zero_le _, Nat.zero_le _⟩ (Nat.le_of_ble_eq_true rfl) ?_
    refine x_aload_n F dX6_find_12 rfl ?_
    refine x_getc (v := 1) F flX6_12 rfl dX6_find_13 (by decide) (by decide) rfl rfl ?_
    refine x_iload_n F dX6_find_16 rfl ?_
    refine x_V1 F (m_X1_spotOfNumber hC hS hx.2) mlX6_174 mvX1_spotOfNumber rfl dX6_find_17 (by decide) rfl ⟨Nat.le_of_ble_eq_true rfl, Nat.le_of_ble_eq_true rfl⟩ ⟨Nat.zero_le _, Nat.zero_le _⟩ (Nat.le_of_ble_eq_true rfl) ?_
    refine x_iret F FR dX6_find_20 rfl (Nat.le_refl _) (Nat.le_refl _) ?_
    exact ⟨by rw [fnR_e hE], hX⟩
  · refine xj_iconst F dX6_find_4 ?_
    refine x_goto (tgt := 9) F dX6_find_5 (by decide) ?_
    refine x_S1 F (m_X6_needArgument (p := True) (by first | exact trivial | assumption | omega)) mlX6_65 msX6_needArgument dX6_find_9 ⟨Nat.le_of_ble_eq_true rfl, Nat.le_of_ble_eq_true rfl⟩ ⟨Nat.zero_le _, Nat.zero_le _⟩ (Nat.le_of_ble_eq_true rfl) ?_
    refine x_aload_n F dX6_find_12 rfl ?_
    refine x_getc (v := 1) F flX6_12 rfl dX6_find_13 (by decide) (by decide) rfl rfl ?_
    refine x_iload_n F dX6_find_16 rfl ?_
    refine x_V1 F (m_X1_spotOfNumber hC hS hx.2) mlX6_174 mvX1_spotOfNumber rfl dX6_find_17 (by decide) rfl ⟨Nat.le_of_ble_eq_true rfl, Nat.le_of_ble_eq_true rfl⟩ ⟨Nat.zero_le _, Nat.zero_le _⟩ (Nat.le_of_ble_eq_true rfl) ?_
    refine x_iret F FR dX6_find_20 rfl (Nat.le_refl _) (Nat.le_refl _) ?_
    exact ⟨by rw [fnR_e hE], hX⟩
set_option maxRecDepth 20000 in
theorem m_X6_count {l : Launch} {E : xE} {M0 M : xM} (hO0 : okC M0 1) (hT0 : okT M0) (hX : qX M0 M) {z : Int} (hz : 0 ≤ z ∧ z ≤ 7) : XP l E 18 yX6_count cX6_count 2 (some FieldType.int) [vA 0, vI (jI z)] M (fun r' M' => r' = vI (jI (ohI M0 z)) ∧ qX M0 M') := by
  refine xp_start (plainFor_of_name (by decide)) rfl (Nat.le_of_ble_eq_true rfl) ?_
  intro Y F FR
  have hO : okC M 1 := okC_e (qX_e hX) hO0
  have hT : okT M := hX.2.1 hT0
  have hE := qX_e hX
  have hsz : ∀ q : Int, szI M 1 q = szI M0 1 q := szI_e hE
  have hC : isCh 1 := ch1
  have hC6 : isCh 6 := ch6
  have hS := hS_of hO
  refine x_iload_n F dX6_count_0 rfl ?_
  refine xj_iconst F dX6_count_1 ?_
  refine xj_bipush F dX6_count_2 (by decide) ?_
  refine x_S3 F (m_X6_isBetween (by first | assumption | omega | decide) (by first | assumption | omega | decide) (by first | assumption | omega | decide)) mlX6_61 msX6_isBetween dX6_count_4 ⟨Nat.le_of_ble_eq_true rfl, Nat.le_of_ble_eq_true rfl⟩ ⟨Nat.zero_le _, Nat.zero_le _⟩ (Nat.le_of_ble_eq_true rfl) ?_
  refine x_S1 F (m_X6_needArgument (p := (0 ≤ z ∧ z ≤ 8)) (by first | exact trivial | assumption | omega)) mlX6_65 msX6_needArgument dX6_count_7 ⟨Nat.le_of_ble_eq_true rfl, Nat.le_of_ble_eq_true rfl⟩ ⟨Nat.zero_le _, Nat.zero_le _⟩ (Nat.le_of_ble_eq_true rfl) ?_
  refine x_aload_n F dX6_count_10 rfl ?_
  refine x_iload_n F dX6_count_11 rfl ?_
  refine x_V1 F (m_X6_ofAll hO (by omega)) mlX6_177 mvX6_ofAll rfl dX6_count_12 (by decide) rfl ⟨Nat.le_of_ble_eq_true rfl, Nat.le_of_ble_eq_true rfl⟩ ⟨Nat.zero_le _, Nat.zero_le _⟩ (Nat.le_of_ble_eq_true rfl) ?_
  refine x_iret F FR dX6_count_15 rfl (Nat.le_refl _) (Nat.le_refl _) ?_
  exact ⟨vj (ohI_e hE (by rw [hX.1 16 (by omega)]) _), hX⟩
set_option maxRecDepth 20000 in
theorem m_X6_ifSwapped {l : Launch} {E : xE} {M0 M : xM} (hO0 : okC M0 1) (hT0 : okT M0) (hX : qX M0 M) {r p r2 p2 : Int} (hr : 0 ≤ r ∧ r < 4) (hp : 0 ≤ p ∧ p < szI M0 1 r ∧ p < 6) (hr2 : 0 ≤ r2 ∧ r2 < 4) (hp2 : 0 ≤ p2 ∧ p2 < szI M0 1 r2 ∧ p2 < 6) : XP l E 18 yX6_ifSwapped cX6_ifSwapped 5 (some FieldType.int) [vA 0, vI (jI r), vI (jI p), vI (jI r2), vI (jI p2)] M (fun r' M' => r' = vI (jI (oaI (swP M0 1 (spI r p) (spI r2 p2)) 1)) ∧ qX M0 M') := by
  refine xp_start (plainFor_of_name (by decide)) rfl (Nat.le_of_ble_eq_true rfl) ?_
  intro Y F FR
  have hO : okC M 1 := okC_e (qX_e hX) hO0
  have hT : okT M := hX.2.1 hT0
  have hE := qX_e hX
  have hsz : ∀ q : Int, szI M 1 q = szI M0 1 q := szI_e hE
  have hC : isCh 1 := ch1
  have hC6 : isCh 6 := ch6
  have hS := hS_of hO
  refine x_aload_n F dX6_ifSwapped_0 rfl ?_
  refine x_iload_n F dX6_ifSwapped_1 rfl ?_
  refine x_iload_n F dX6_ifSwapped_2 rfl ?_
  refine x_V2 F (m_X6_needSinger (by omega) (by rw [hsz]; omega)) mlX6_84 mvX6_needSinger rfl dX6_ifSwapped_3 (by decide) rfl ⟨Nat.le_of_ble_eq_true rfl, Nat.le_of_ble_eq_true rfl⟩ ⟨Nat.zero_le _, Nat.zero_le _⟩ (Nat.le_of_ble_eq_true rfl) ?_
  refine x_aload_n F dX6_ifSwapped_6 rfl ?_
  refine x_iload_n F dX6_ifSwapped_7 rfl ?_
  refine x_iload F dX6_ifSwapped_8 rfl ?_
  refine x_V2 F (m_X6_needSinger (by omega) (by rw [hsz]; omega)) mlX6_84 mvX6_needSinger rfl dX6_ifSwapped_10 (by decide) rfl ⟨Nat.le_of_ble_eq_true rfl, Nat.le_of_ble_eq_true rfl⟩ ⟨Nat.zero_le _, Nat.zero_le _⟩ (Nat.le_of_ble_eq_true rfl) ?_
  refine x_aload_n F dX6_ifSwapped_13 rfl ?_
  refine x_getc (v := 6) F flX6_16 rfl dX6_ifSwapped_14 (by decide) (by decide) rfl rfl ?_
  refine x_aload_n F dX6_ifSwapped_17 rfl ?_
  refine x_getc (v := 1) F flX6_12 rfl dX6_ifSwapped_18 (by decide) (by decide) rfl rfl ?_
  refine x_V1 F (m_X1_become hC6 hC) mlX6_162 mvX1_become rfl dX6_ifSwapped_21 (by decide) rfl ⟨Nat.le_of_ble_eq_true rfl, Nat.le_of_ble_eq_true rfl⟩ ⟨Nat.zero_le _, Nat.zero_le _⟩ (Nat.le_of_ble_eq_true rfl) ?_
  refine x_aload_n F dX6_ifSwapped_24 rfl ?_
  refine x_getc (v := 6) F flX6_16 rfl dX6_ifSwapped_25 (by decide) (by decide) rfl rfl ?_
  refine x_iload_n F dX6_ifSwapped_28 rfl ?_
  refine x_iload_n F dX6_ifSwapped_29 rfl ?_
  refine x_iload_n F dX6_ifSwapped_30 rfl ?_
  refine x_iload F dX6_ifSwapped_31 rfl ?_
  refine x_V4 F (m_X1_swapPlaces hC6 (by omega) (by omega) (by omega) (by omega)) mlX6_180 mvX1_swapPlaces rfl dX6_ifSwapped_33 (by decide) rfl ⟨Nat.le_of_ble_eq_true rfl, Nat.le_of_ble_eq_true rfl⟩ ⟨Nat.zero_le _, Nat.zero_le _⟩ (Nat.le_of_ble_eq_true rfl) ?_
  have hO6 : okC (swP (bcM M 6 1) 6 (spI r p) (spI r2 p2)) 6 := okC_swP (bc_okC hO) _ _
  refine x_aload_n F dX6_ifSwapped_36 rfl ?_
  refine x_getc (v := 6) F flX6_16 rfl dX6_ifSwapped_37 (by decide) (by decide) rfl rfl ?_
  refine x_V0 F (m_X1_oddOfAll hC6 hO6) mlX6_103 mvX1_oddOfAll rfl dX6_ifSwapped_40 (by decide) rfl ⟨Nat.le_of_ble_eq_true rfl, Nat.le_of_ble_eq_true rfl⟩ ⟨Nat.zero_le _, Nat.zero_le _⟩ (Nat.le_of_ble_eq_true rfl) ?_
  refine x_iret F FR dX6_ifSwapped_43 rfl (Nat.le_refl _) (Nat.le_refl _) ?_
  exact ⟨vj2 ((oaI_e (eqC_swQ (bcM_eq ch6 ch1 (by decide)) _ _)).trans (oaI_e (eqC_swQ hE _ _))).symm, qX_trans hX (qX_trans (bc_qX M) (qX_of6 (fun a ha => swP_row (by omega)) (swP_2 _ _ _ _)))⟩
set_option maxRecDepth 20000 in
theorem m_X6_bestSwap {l : Launch} {E : xE} {M0 M : xM} (hO0 : okC M0 1) (hT0 : okT M0) (hX : qX M0 M) {r : Int} (hr : 0 ≤ r ∧ r < 4) : XP l E 18 yX6_bestSwap cX6_bestSwap 2 (some FieldType.int) [vA 0, vI (jI r)] M (fun r' M' => r' = vI (jI (bpI M0 r)) ∧ qX M0 M') := by
  refine xp_start (plainFor_of_name (by decide)) rfl (Nat.le_of_ble_eq_true rfl) ?_
  intro Y F FR
  have hO : okC M 1 := okC_e (qX_e hX) hO0
  have hT : okT M := hX.2.1 hT0
  have hE := qX_e hX
  have hsz : ∀ q : Int, szI M 1 q = szI M0 1 q := szI_e hE
  have hC : isCh 1 := ch1
  have hC6 : isCh 6 := ch6
  have hS := hS_of hO
  refine x_iload_n F dX6_bestSwap_0 rfl ?_
  refine x_S1 F (m_X6_needRow (by first | assumption | omega | decide)) mlX6_54 msX6_needRow dX6_bestSwap_1 ⟨Nat.le_of_ble_eq_true rfl, Nat.le_of_ble_eq_true rfl⟩ ⟨Nat.zero_le _, Nat.zero_le _⟩ (Nat.le_of_ble_eq_true rfl) ?_
  refine x_aload_n F dX6_bestSwap_4 rfl ?_
  refine x_iload_n F dX6_bestSwap_5 rfl ?_
  refine x_V1P F (m_X6_bestPair hO (by omega)) mlX6_183 mvX6_bestPair rfl dX6_bestSwap_6 (by decide) rfl ⟨Nat.le_of_ble_eq_true rfl, Nat.le_of_ble_eq_true rfl⟩ ⟨Nat.zero_le _, Nat.zero_le _⟩ (Nat.le_of_ble_eq_true rfl) (fun r_6 M_6 q_6 => ?_)
  obtain ⟨rfl, rfl⟩ := q_6
  refine x_iret F FR dX6_bestSwap_9 rfl (Nat.le_refl _) (Nat.le_refl _) ?_
  exact ⟨vj (bpI_e hE _), qX_trans hX (bc_qX M)⟩
set_option maxRecDepth 20000 in
theorem m_X6_bestRow {l : Launch} {E : xE} {M0 M : xM} (hO0 : okC M0 1) (hT0 : okT M0) (hX : qX M0 M) {x : Int} (hx : 100 ≤ x ∧ x ≤ 220) : XP l E 18 yX6_bestRow cX6_bestRow 2 (some FieldType.int) [vA 0, vI (jI x)] M (fun r' M' => r' = vI (jI (brF M0 x 4).2) ∧ qX M0 M') := by
  refine xp_start (plainFor_of_name (by decide)) rfl (Nat.le_of_ble_eq_true rfl) ?_
  intro Y F FR
  have hO : okC M 1 := okC_e (qX_e hX) hO0
  have hT : okT M := hX.2.1 hT0
  have hE := qX_e hX
  have hsz : ∀ q : Int, szI M 1 q = szI M0 1 q := szI_e hE
  have hC : isCh 1 := ch1
  have hC6 : isCh 6 := ch6
  have hS := hS_of hO
  refine x_iload_n F dX6_bestRow_0 rfl ?_
  refine x_S1 F (m_X6_needHeight (by first | assumption | omega | decide)) mlX6_58 msX6_needHeight dX6_bestRow_1 ⟨Nat.le_of_ble_eq_true rfl, Nat.le_of_ble_eq_true rfl⟩ ⟨Nat.zero_le _, Nat.zero_le _⟩ (Nat.le_of_ble_eq_true rfl) ?_
  refine x_aload_n F dX6_bestRow_4 rfl ?_
  refine x_iload_n F dX6_bestRow_5 rfl ?_
  refine x_V1P F (m_X6_bestRowFor hO (by omega)) mlX6_186 mvX6_bestRowFor rfl dX6_bestRow_6 (by decide) rfl ⟨Nat.le_of_ble_eq_true rfl, Nat.le_of_ble_eq_true rfl⟩ ⟨Nat.zero_le _, Nat.zero_le _⟩ (Nat.le_of_ble_eq_true rfl) (fun r_6 M_6 q_6 => ?_)
  obtain ⟨rfl, q_6⟩ := q_6
  refine x_iret F FR dX6_bestRow_9 rfl (Nat.le_refl _) (Nat.le_refl _) ?_
  exact ⟨by rw [brF_e hE], qX_trans hX q_6⟩
set_option maxRecDepth 20000 in
theorem m_X6_ifReach {l : Launch} {E : xE} {M0 M : xM} (hO0 : okC M0 1) (hT0 : okT M0) (hX : qX M0 M) {z : Int} (hz : 1 ≤ z ∧ z ≤ 6) : XP l E 18 yX6_ifReach cX6_ifReach 2 (some FieldType.int) [vA 0, vI (jI z)] M (fun r' M' => r' = vI (jI (orI M0 z)) ∧ qX M0 M') := by
  refine xp_start (plainFor_of_name (by decide)) rfl (Nat.le_of_ble_eq_true rfl) ?_
  intro Y F FR
  have hO : okC M 1 := okC_e (qX_e hX) hO0
  have hT : okT M := hX.2.1 hT0
  have hE := qX_e hX
  have hsz : ∀ q : Int, szI M 1 q = szI M0 1 q := szI_e hE
  have hC : isCh 1 := ch1
  have hC6 : isCh 6 := ch6
  have hS := hS_of hO
  refine x_iload_n F dX6_ifReach_0 rfl ?_
  refine xj_iconst F dX6_ifReach_1 ?_
  refine xj_bipush F dX6_ifReach_2 (by decide) ?_
  refine x_S3 F (m_X6_isBetween (by first | assumption | omega | decide) (by first | assumption | omega | decide) (by first | assumption | omega | decide)) mlX6_61 msX6_isBetween dX6_ifReach_4 ⟨Nat.le_of_ble_eq_true rfl, Nat.le_of_ble_eq_true rfl⟩ ⟨Nat.zero_le _, Nat.zero_le _⟩ (Nat.le_of_ble_eq_true rfl) ?_
  refine x_S1 F (m_X6_needArgument (p := (1 ≤ z ∧ z ≤ 6)) (by first | exact trivial | assumption | omega)) mlX6_65 msX6_needArgument dX6_ifReach_7 ⟨Nat.le_of_ble_eq_true rfl, Nat.le_of_ble_eq_true rfl⟩ ⟨Nat.zero_le _, Nat.zero_le _⟩ (Nat.le_of_ble_eq_true rfl) ?_
  refine x_aload_n F dX6_ifReach_10 rfl ?_
  refine x_iload_n F dX6_ifReach_11 rfl ?_
  refine x_V1P F (m_X6_oddWithReach hO (by omega)) mlX6_189 mvX6_oddWithReach rfl dX6_ifReach_12 (by decide) rfl ⟨Nat.le_of_ble_eq_true rfl, Nat.le_of_ble_eq_true rfl⟩ ⟨Nat.zero_le _, Nat.zero_le _⟩ (Nat.le_of_ble_eq_true rfl) (fun r_12 M_12 q_12 => ?_)
  obtain ⟨rfl, q_12⟩ := q_12
  refine x_iret F FR dX6_ifReach_15 rfl (Nat.le_refl _) (Nat.le_refl _) ?_
  exact ⟨vj (orI_e hE _), qX_trans hX q_12⟩
