/-! THE THROWS -/
def xThr (own : String) (ik ic : Nat) (cls : String) : Prop := Cond.classLink own ik cls ∈ LW ∧ Cond.initialized cls ∈ LW ∧ (∀ w ∈ vx_at0 own ic cls ["java/lang/RuntimeException", "java/lang/Exception"], w ∈ LW ∨ w ∈ NW) ∧ Bundle.fit cls = true ∧ (∀ n ∈ ["java/lang/RuntimeException", "java/lang/Exception"], Bundle.fit n = true) ∧ ∀ w ∈ Cond.classLink own ik cls :: Cond.initialized cls :: vx_at0 own ic cls ["java/lang/RuntimeException", "java/lang/Exception"], vx_ot w = true
theorem xThr_of {own : String} {ik ic : Nat} {cls : String} (h1 : Cond.classLink own ik cls ∈ LW) (h2 : Cond.initialized cls ∈ LW) (h3 : (vx_at0 own ic cls ["java/lang/RuntimeException", "java/lang/Exception"]).all (fun w => lw_tbl.contains w && (goodWord w || xnw w)) = true) (h4 : Bundle.fit cls = true) (h5 : (Cond.classLink own ik cls :: Cond.initialized cls :: vx_at0 own ic cls ["java/lang/RuntimeException", "java/lang/Exception"]).all vx_ot = true) : xThr own ik ic cls := by
  refine ⟨h1, h2, fun w hw => ?_, h4, by decide +kernel, fun w hw => List.all_eq_true.mp h5 w hw⟩
  have h9 := List.all_eq_true.mp h3 w hw
  simp only [Bool.and_eq_true, Bool.or_eq_true, List.contains_iff_mem] at h9
  rcases h9.2 with hg | hg
  · exact Or.inl (List.mem_filter.mpr ⟨h9.1, hg⟩)
  · exact Or.inr (List.mem_filter.mpr ⟨h9.1, hg⟩)
theorem xnw_tab {w : Cond} (hw : xnw w = true) : w.onTables = true := by
  cases w <;> simp only [xnw, Bool.false_eq_true] at hw
  all_goals rfl
theorem x_throw {l : Launch} {E : xE} {R : Room} {Y : xY} {cc : ByteArray} {own : String} {nL : Nat} {k n pc mc ms : Nat} {ls : List xV} {M : xM} {post : xV → xM → Prop} {xpost : String → xM → Prop} {rt : Option FieldType} {ik ic : Nat} {cls : String} (F : xFix E (xA E) Y cc own nL) (FR : xRet E Y rt mc ms post xpost) (hl : l.stackTraces = false) (hT : xThr own ik ic cls)
    (d0 : decode cc pc = .ok (.new ik, 3)) (d3 : decode cc (pc + 3) = .ok (.dup, 1)) (d4 : decode cc (pc + 4) = .ok (.invokespecial ic, 3)) (d7 : decode cc (pc + 7) = .ok (.athrow, 1))
    (hR : 5 < R.frames ∧ 81 ≤ R.locals) (hcs : k + 1 ≤ R.cells ∧ n + 6 ≤ R.slots) (hk : k + 1 ≤ mc) (hs : n + 6 ≤ ms) (h : xpost cls M) : WP l E R (xA E) Y k n pc ls [] M := by
  intro H locs lr hP hS hlr hn
  obtain ⟨t1, t2, t3, t4, t5, t6⟩ := hT
  have hkn := F.2.2.2.2.2.1
  rw [show yQ Y = _ from FR.1]
  refine vx_throw0 (names := ["java/lang/RuntimeException", "java/lang/Exception"]) (A := xA E) F.1 F.2.1 hl F.2.2.2.1 t4 t5 (F.2.2.2.2.1 _ t1) (F.2.2.2.2.1 _ t2) (fun w hw => ?_) t6 hkn.2.2.2.1 hkn.2.2.2.2.1 hS hlr.1 d0 d3 d4 d7 (fun x hx => (FR.2.2 x hx).elim) hR.1 (by simpa using hR.2) hcs.1 hcs.2 F.2.2.2.2.2.2.2.2 (fun t _ h2 h3 => ⟨M, h, ?_, ?_, ?_⟩) hS.2.2 hk hs
  · rcases t3 w hw with hw | hw
    · exact F.2.2.2.2.1 _ hw
    · exact va_Nw.use (xnw_tab (List.mem_filter.mp hw).2) (hkn.2.1 w hw)
  · exact hP.kept (fun k q hk => h3 q.1 ((hP k q hk).lt))
  · exact Nat.le_trans hS.1 h2
  · intro q h4 h5
    exact (h3 q (Nat.lt_of_lt_of_le h4 hS.1)).trans (hS.2.1 q h4 h5)
theorem tr217 : xThr RX6 217 219 "java/lang/IndexOutOfBoundsException" := by
  refine xThr_of ?_ ?_ (by decide +kernel) (by decide +kernel) (by decide +kernel)
  · exact List.mem_filter.mpr ⟨by decide +kernel, by decide +kernel⟩
  · exact List.mem_filter.mpr ⟨by decide +kernel, by decide +kernel⟩
set_option maxRecDepth 20000 in
theorem m_X6_needIndex {l : Launch} {E : xE} (hl : l.stackTraces = false) {p : Prop} [Decidable p] {M : xM} : XT l E 6 1 6 yX6_needIndex cX6_needIndex 1 none [vI (jb p)] M (fun r' M' => (r' = vU ∧ M' = M) ∧ p) (fun C M' => (C = "java/lang/IndexOutOfBoundsException" ∧ M' = M) ∧ ¬ p) := by
  refine xt_start (plainFor_of_name (by decide)) rfl (Nat.le_of_ble_eq_true rfl) ?_
  intro Y F FR
  refine x_iload_n F dX6_needIndex_0 rfl ?_
  refine xb_if_ne (tgt := 12) F dX6_needIndex_1 (by decide) (fun h => ?_) (fun h => ?_)
  · exact x_vret F FR dX6_needIndex_12 (Nat.zero_le _) (Nat.zero_le _) ⟨⟨rfl, rfl⟩, h⟩
  · exact x_throw F FR hl tr217 dX6_needIndex_4 dX6_needIndex_7 dX6_needIndex_8 dX6_needIndex_11 ⟨Nat.le_of_ble_eq_true rfl, Nat.le_of_ble_eq_true rfl⟩ ⟨Nat.le_of_ble_eq_true rfl, Nat.le_of_ble_eq_true rfl⟩ (Nat.le_refl _) (Nat.le_refl _) ⟨⟨rfl, rfl⟩, h⟩
theorem tr220 : xThr RX6 220 222 "java/lang/IllegalArgumentException" := by
  refine xThr_of ?_ ?_ (by decide +kernel) (by decide +kernel) (by decide +kernel)
  · exact List.mem_filter.mpr ⟨by decide +kernel, by decide +kernel⟩
  · exact List.mem_filter.mpr ⟨by decide +kernel, by decide +kernel⟩
set_option maxRecDepth 20000 in
theorem m_X6_needArgument {l : Launch} {E : xE} (hl : l.stackTraces = false) {p : Prop} [Decidable p] {M : xM} : XT l E 6 1 6 yX6_needArgument cX6_needArgument 1 none [vI (jb p)] M (fun r' M' => (r' = vU ∧ M' = M) ∧ p) (fun C M' => (C = "java/lang/IllegalArgumentException" ∧ M' = M) ∧ ¬ p) := by
  refine xt_start (plainFor_of_name (by decide)) rfl (Nat.le_of_ble_eq_true rfl) ?_
  intro Y F FR
  refine x_iload_n F dX6_needArgument_0 rfl ?_
  refine xb_if_ne (tgt := 12) F dX6_needArgument_1 (by decide) (fun h => ?_) (fun h => ?_)
  · exact x_vret F FR dX6_needArgument_12 (Nat.zero_le _) (Nat.zero_le _) ⟨⟨rfl, rfl⟩, h⟩
  · exact x_throw F FR hl tr220 dX6_needArgument_4 dX6_needArgument_7 dX6_needArgument_8 dX6_needArgument_11 ⟨Nat.le_of_ble_eq_true rfl, Nat.le_of_ble_eq_true rfl⟩ ⟨Nat.le_of_ble_eq_true rfl, Nat.le_of_ble_eq_true rfl⟩ (Nat.le_refl _) (Nat.le_refl _) ⟨⟨rfl, rfl⟩, h⟩
theorem tr223 : xThr RX6 223 225 "java/lang/IllegalStateException" := by
  refine xThr_of ?_ ?_ (by decide +kernel) (by decide +kernel) (by decide +kernel)
  · exact List.mem_filter.mpr ⟨by decide +kernel, by decide +kernel⟩
  · exact List.mem_filter.mpr ⟨by decide +kernel, by decide +kernel⟩
set_option maxRecDepth 20000 in
theorem m_X6_needState {l : Launch} {E : xE} (hl : l.stackTraces = false) {p : Prop} [Decidable p] {M : xM} : XT l E 6 1 6 yX6_needState cX6_needState 1 none [vI (jb p)] M (fun r' M' => (r' = vU ∧ M' = M) ∧ p) (fun C M' => (C = "java/lang/IllegalStateException" ∧ M' = M) ∧ ¬ p) := by
  refine xt_start (plainFor_of_name (by decide)) rfl (Nat.le_of_ble_eq_true rfl) ?_
  intro Y F FR
  refine x_iload_n F dX6_needState_0 rfl ?_
  refine xb_if_ne (tgt := 12) F dX6_needState_1 (by decide) (fun h => ?_) (fun h => ?_)
  · exact x_vret F FR dX6_needState_12 (Nat.zero_le _) (Nat.zero_le _) ⟨⟨rfl, rfl⟩, h⟩
  · exact x_throw F FR hl tr223 dX6_needState_4 dX6_needState_7 dX6_needState_8 dX6_needState_11 ⟨Nat.le_of_ble_eq_true rfl, Nat.le_of_ble_eq_true rfl⟩ ⟨Nat.le_of_ble_eq_true rfl, Nat.le_of_ble_eq_true rfl⟩ (Nat.le_refl _) (Nat.le_refl _) ⟨⟨rfl, rfl⟩, h⟩
def xcl (z : Int) : String := if z = 1 then "java/lang/IndexOutOfBoundsException" else if z = 2 then "java/lang/IllegalArgumentException" else "java/lang/IllegalStateException"
theorem szI_in {M : xM} {c : Nat} {r : Int} (h : 0 < szI M c r) : 0 ≤ r ∧ r < 4 := by
  unfold szI at h
  split at h
  · assumption
  · omega
theorem slN_b (M : xM) (g : Int) : 18 ≤ slN M g ∧ slN M g ≤ 43 := by unfold slN; omega
theorem sv0_row {M : xM} {a : Nat} (h : a ≠ 16) : (sv0 M).1 a = M.1 a := by
  unfold sv0
  split
  · rw [upI_row h, upI_row h]
  · rfl
theorem sv0_2 (M : xM) : (sv0 M).2 = M.2 := by unfold sv0; split <;> rfl
theorem svM_b (M : xM) : (∀ a, a < slN (sv0 M) ((sv0 M).1 16 2).toInt ∨ slN (sv0 M) ((sv0 M).1 16 2).toInt + 4 < a → (bcM (sv0 M) (slN (sv0 M) ((sv0 M).1 16 2).toInt) 1).1 a = (sv0 M).1 a) ∧ (bcM (sv0 M) (slN (sv0 M) ((sv0 M).1 16 2).toInt) 1).2 = (sv0 M).2 := by
  have hb := slN_b (sv0 M) ((sv0 M).1 16 2).toInt
  obtain ⟨-, -, -, -, -, h6, h7⟩ := bcM_at (M := sv0 M) (slN_ch (sv0 M) ((sv0 M).1 16 2).toInt) ch1 (by omega)
  exact ⟨h6, h7⟩
theorem svM_row {M : xM} {a : Nat} (h : a < 16 ∨ 48 ≤ a) : (svM M 1).1 a = M.1 a := by
  have hb := slN_b (sv0 M) ((sv0 M).1 16 2).toInt
  unfold svM
  dsimp only
  rw [upI_row (by omega), (svM_b M).1 a (by omega), sv0_row (by omega)]
theorem svM_2 (M : xM) : (svM M 1).2 = M.2 := by
  unfold svM
  dsimp only
  rw [upI_2, (svM_b M).2, sv0_2]
theorem sv0_h {M : xM} (h : okH M) : (0 ≤ ((sv0 M).1 16 1).toInt ∧ ((sv0 M).1 16 1).toInt < 6) ∧ (0 ≤ ((sv0 M).1 16 2).toInt ∧ ((sv0 M).1 16 2).toInt ≤ 5) := by
  obtain ⟨h1, h2⟩ := h
  unfold sv0
  split
  · rw [upI_1, if_neg (by omega), upI_1, if_pos ⟨rfl, rfl⟩, upI_1, if_pos ⟨rfl, rfl⟩, jI_toInt (by omega), jI_toInt (by omega)]
    omega
  · omega
theorem okH_svM {M : xM} (h : okH M) : okH (svM M 1) := by
  have hb := slN_b (sv0 M) ((sv0 M).1 16 2).toInt
  obtain ⟨h1, h2⟩ := sv0_h h
  unfold svM
  dsimp only
  unfold okH
  rw [upI_1, if_neg (by omega), upI_1, if_pos ⟨rfl, rfl⟩, (svM_b M).1 16 (by omega), jI_toInt (by omega)]
  omega
theorem svM_eq (M : xM) : eqC M (svM M 1) 1 1 := eqC_of fun a h1 h2 => svM_row (by omega)
theorem okC_sv {M : xM} (h : okC M 1) : okC (svM M 1) 1 := okC_e (svM_eq M) h
set_option maxRecDepth 20000 in
theorem m_X6_needRow {l : Launch} {E : xE} (hl : l.stackTraces = false) {r : Int} {M : xM} (hr : rg r) : XT l E 7 1 6 yX6_needRow cX6_needRow 1 none [vI (jI r)] M (fun r' M' => (r' = vU ∧ M' = M) ∧ (0 ≤ r ∧ r ≤ 3)) (fun C M' => (C = "java/lang/IndexOutOfBoundsException" ∧ M' = M) ∧ ¬ (0 ≤ r ∧ r ≤ 3)) := by
  refine xt_start (plainFor_of_name (by decide)) rfl (Nat.le_of_ble_eq_true rfl) ?_
  intro Y F FR
  refine x_iload_n F dX6_needRow_0 rfl ?_
  refine xj_iconst F dX6_needRow_1 ?_
  refine xj_iconst F dX6_needRow_2 ?_
  refine x_S3 F (m_X6_isBetween (by first | assumption | omega | decide) (by first | assumption | omega | decide) (by first | assumption | omega | decide)) mlX6_61 msX6_isBetween dX6_needRow_3 ⟨Nat.le_of_ble_eq_true rfl, Nat.le_of_ble_eq_true rfl⟩ ⟨Nat.le_of_ble_eq_true rfl, Nat.le_of_ble_eq_true rfl⟩ (Nat.le_of_ble_eq_true rfl) ?_
  refine x_callST (As := [_]) F (m_X6_needIndex hl (p := (0 ≤ r ∧ r ≤ 3))) mlX6_123 msX6_needIndex ⟨Nat.le_of_ble_eq_true rfl, Nat.le_of_ble_eq_true rfl⟩ ⟨Nat.le_of_ble_eq_true rfl, Nat.le_of_ble_eq_true rfl⟩ (Nat.le_of_ble_eq_true rfl) rfl dX6_needRow_6 (fun C9 M9 hx9 => x_out F FR (Nat.le_of_ble_eq_true rfl) (Nat.le_of_ble_eq_true rfl) ?_) (fun r9 M9 q9 => ?_)
  · obtain ⟨⟨rfl, e9⟩, hx_1⟩ := hx9
    have e9 := e9.symm
    subst e9
    exact ⟨⟨rfl, rfl⟩, hx_1⟩
  obtain ⟨⟨rfl, e9⟩, hp_2⟩ := q9
  have e9 := e9.symm
  subst e9
  refine x_vret F FR dX6_needRow_9 (Nat.le_of_ble_eq_true rfl) (Nat.le_of_ble_eq_true rfl) ?_
  exact ⟨⟨rfl, rfl⟩, hp_2⟩
set_option maxRecDepth 20000 in
theorem m_X6_needHeight {l : Launch} {E : xE} (hl : l.stackTraces = false) {r : Int} {M : xM} (hr : rg r) : XT l E 7 1 6 yX6_needHeight cX6_needHeight 1 none [vI (jI r)] M (fun r' M' => (r' = vU ∧ M' = M) ∧ (100 ≤ r ∧ r ≤ 220)) (fun C M' => (C = "java/lang/IllegalArgumentException" ∧ M' = M) ∧ ¬ (100 ≤ r ∧ r ≤ 220)) := by
  refine xt_start (plainFor_of_name (by decide)) rfl (Nat.le_of_ble_eq_true rfl) ?_
  intro Y F FR
  refine x_iload_n F dX6_needHeight_0 rfl ?_
  refine xj_bipush F dX6_needHeight_1 (by decide) ?_
  refine xj_sipush F dX6_needHeight_3 (by decide) ?_
  refine x_S3 F (m_X6_isBetween (by first | assumption | omega | decide) (by first | assumption | omega | decide) (by first | assumption | omega | decide)) mlX6_61 msX6_isBetween dX6_needHeight_6 ⟨Nat.le_of_ble_eq_true rfl, Nat.le_of_ble_eq_true rfl⟩ ⟨Nat.le_of_ble_eq_true rfl, Nat.le_of_ble_eq_true rfl⟩ (Nat.le_of_ble_eq_true rfl) ?_
  refine x_callST (As := [_]) F (m_X6_needArgument hl (p := (100 ≤ r ∧ r ≤ 220))) mlX6_65 msX6_needArgument ⟨Nat.le_of_ble_eq_true rfl, Nat.le_of_ble_eq_true rfl⟩ ⟨Nat.le_of_ble_eq_true rfl, Nat.le_of_ble_eq_true rfl⟩ (Nat.le_of_ble_eq_true rfl) rfl dX6_needHeight_9 (fun C9 M9 hx9 => x_out F FR (Nat.le_of_ble_eq_true rfl) (Nat.le_of_ble_eq_true rfl) ?_) (fun r9 M9 q9 => ?_)
  · obtain ⟨⟨rfl, e9⟩, hx_1⟩ := hx9
    have e9 := e9.symm
    subst e9
    exact ⟨⟨rfl, rfl⟩, hx_1⟩
  obtain ⟨⟨rfl, e9⟩, hp_2⟩ := q9
  have e9 := e9.symm
  subst e9
  refine x_vret F FR dX6_needHeight_12 (Nat.le_of_ble_eq_true rfl) (Nat.le_of_ble_eq_true rfl) ?_
  exact ⟨⟨rfl, rfl⟩, hp_2⟩
set_option maxRecDepth 20000 in
theorem m_X6_needSinger {l : Launch} {E : xE} (hl : l.stackTraces = false) {r p : Int} {M : xM} (hr : rg r) (hp : rg p) : XT l E 7 1 6 yX6_needSinger cX6_needSinger 3 none [vA 0, vI (jI r), vI (jI p)] M (fun r' M' => (r' = vU ∧ M' = M) ∧ (0 ≤ p ∧ p < szI M 1 r)) (fun C M' => (C = "java/lang/IndexOutOfBoundsException" ∧ M' = M) ∧ ¬ (0 ≤ p ∧ p < szI M 1 r)) := by
  refine xt_start (plainFor_of_name (by decide)) rfl (Nat.le_of_ble_eq_true rfl) ?_
  intro Y F FR
  have hC : isCh 1 := ch1
  refine x_aload_n F dX6_needSinger_0 rfl ?_
  refine x_getc (v := 1) F flX6_12 rfl dX6_needSinger_1 (by decide) (by decide) rfl rfl ?_
  refine x_iload_n F dX6_needSinger_4 rfl ?_
  refine x_iload_n F dX6_needSinger_5 rfl ?_
  refine x_V2 F (m_X1_isTaken (by first | assumption | omega | decide) (by first | assumption | omega | decide) (by first | assumption | omega | decide)) mlX6_226 mvX1_isTaken rfl dX6_needSinger_6 (by decide) rfl ⟨Nat.le_of_ble_eq_true rfl, Nat.le_of_ble_eq_true rfl⟩ ⟨Nat.le_of_ble_eq_true rfl, Nat.le_of_ble_eq_true rfl⟩ (Nat.le_of_ble_eq_true rfl) ?_
  refine x_callST (As := [_]) F (m_X6_needIndex hl (p := (0 ≤ p ∧ p < szI M 1 r))) mlX6_123 msX6_needIndex ⟨Nat.le_of_ble_eq_true rfl, Nat.le_of_ble_eq_true rfl⟩ ⟨Nat.le_of_ble_eq_true rfl, Nat.le_of_ble_eq_true rfl⟩ (Nat.le_of_ble_eq_true rfl) rfl dX6_needSinger_9 (fun C9 M9 hx9 => x_out F FR (Nat.le_of_ble_eq_true rfl) (Nat.le_of_ble_eq_true rfl) ?_) (fun r9 M9 q9 => ?_)
  · obtain ⟨⟨rfl, e9⟩, hx_1⟩ := hx9
    have e9 := e9.symm
    subst e9
    exact ⟨⟨rfl, rfl⟩, hx_1⟩
  obtain ⟨⟨rfl, e9⟩, hp_2⟩ := q9
  have e9 := e9.symm
  subst e9
  refine x_vret F FR dX6_needSinger_12 (Nat.le_of_ble_eq_true rfl) (Nat.le_of_ble_eq_true rfl) ?_
  exact ⟨⟨rfl, rfl⟩, hp_2⟩
