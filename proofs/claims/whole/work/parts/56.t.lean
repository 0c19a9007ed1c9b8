/-! THE LAW'S OWN METHODS, one by one -/
def hhL_join : List (Nat × Nat × Nat × Nat) := [(0, 12, 15, 13), (0, 12, 19, 15), (0, 12, 23, 17)]
theorem mhL_join : xMH yL_join cL_join 6 (some FieldType.int) hhL_join 5 := ⟨⟨LW_of 85 (by decide +kernel) (by decide +kernel), by decide, by decide, by decide +kernel⟩, LW_of 705 (by decide +kernel) (by decide +kernel), LW_of 704 (by decide +kernel) (by decide +kernel)⟩
set_option maxRecDepth 20000 in
theorem h_L_join {l : Launch} {E : xE} (hl : l.stackTraces = false) {r h v : Int} {M : xM} (hO : okC M 1) (hH : okH M) (hr : rg r) (hh : rg h) (hv : rg v) : XH l E 22 6 36 yL_join cL_join 6 (some FieldType.int) hhL_join [vA 0, vI (jI r), vI (jI h), vI (jI v), vA 79] M (fun r' M' => (joX M r h v = 0 → r' = vI (jI 0) ∧ ∃ M1, M1 = arM (svM M 1) 1 r h v ∧ M' = upL M1 79 0 ((jI ((svM M 1).1 1 6).toInt)).toInt64) ∧ (joX M r h v ≠ 0 → r' = vI (jI (if joX M r h v = 1 then 1 else (if joX M r h v = 2 then 2 else 3))) ∧ M' = M)) := by
  refine xh_start (by decide) rfl (Nat.le_of_ble_eq_true rfl) ?_
  intro Y F FR hN
  refine x_aload F dL_join_0 rfl ?_
  refine xj_iconst F dL_join_2 ?_
  refine x_aload_n F dL_join_3 rfl ?_
  refine x_iload_n F dL_join_4 rfl ?_
  refine x_iload_n F dL_join_5 rfl ?_
  refine x_iload_n F dL_join_6 rfl ?_
  refine x_callVT (As := [_, _, _]) F (m_X6_join hl hO hH hr hh hv) mlL_7 mvX6_join rfl (by decide) rfl ⟨Nat.le_of_ble_eq_true rfl, Nat.le_of_ble_eq_true rfl⟩ ⟨Nat.le_of_ble_eq_true rfl, Nat.le_of_ble_eq_true rfl⟩ (Nat.le_of_ble_eq_true rfl) rfl dL_join_7 (fun C9 M9 hx9 => ?_) (fun r9 M9 q9 => ?_)
  · obtain ⟨q, e1, e2, rfl, e3⟩ := hx9
    have e3 := e3.symm
    subst e3
    have hq : q = 1 ∨ q = 2 ∨ q = 3 := by
      have e1 := e1.symm
      subst e1
      unfold joX at e2 ⊢
      (repeat' split) <;> first | (exfalso; omega) | omega
    rcases hq with rfl | rfl | rfl
    · refine x_catch F FR.2.2 [] ⟨0, 12, 15, 13⟩ [⟨0, 12, 19, 15⟩, ⟨0, 12, 23, 17⟩] rfl (fun z hz => by cases hz) rfl (by decide) cl13 ct1 (fun q9 => ?_)
      refine x_astoreQ F dL_join_15 (by decide) ?_
      refine xj_iconst F dL_join_17 ?_
      exact x_iretH F FR dL_join_18 rfl (Nat.le_of_ble_eq_true rfl) (Nat.le_of_ble_eq_true rfl) ⟨fun z => absurd (e1.symm.trans z) (by decide), fun _ => ⟨by first | rfl | (rw [e1]; rfl), rfl⟩⟩
    · refine x_catch F FR.2.2 [⟨0, 12, 15, 13⟩] ⟨0, 12, 19, 15⟩ [⟨0, 12, 23, 17⟩] rfl (fun z hz => by
        rcases List.mem_cons.mp hz with rfl | hz
        · exact Or.inr ⟨by decide, _, cl13, hN.1⟩
        · cases hz) rfl (by decide) cl15 ct2 (fun q9 => ?_)
      refine x_astoreQ F dL_join_19 (by decide) ?_
      refine xj_iconst F dL_join_21 ?_
      exact x_iretH F FR dL_join_22 rfl (Nat.le_of_ble_eq_true rfl) (Nat.le_of_ble_eq_true rfl) ⟨fun z => absurd (e1.symm.trans z) (by decide), fun _ => ⟨by first | rfl | (rw [e1]; rfl), rfl⟩⟩
    · refine x_catch F FR.2.2 [⟨0, 12, 15, 13⟩, ⟨0, 12, 19, 15⟩] ⟨0, 12, 23, 17⟩ [] rfl (fun z hz => by
        rcases List.mem_cons.mp hz with rfl | hz
        · exact Or.inr ⟨by decide, _, cl13, hN.2.1⟩
        rcases List.mem_cons.mp hz with rfl | hz
        · exact Or.inr ⟨by decide, _, cl15, hN.2.2⟩
        · cases hz) rfl (by decide) cl17 ct3 (fun q9 => ?_)
      refine x_astoreQ F dL_join_23 (by decide) ?_
      refine xj_iconst F dL_join_25 ?_
      exact x_iretH F FR dL_join_26 rfl (Nat.le_of_ble_eq_true rfl) (Nat.le_of_ble_eq_true rfl) ⟨fun z => absurd (e1.symm.trans z) (by decide), fun _ => ⟨by first | rfl | (rw [e1]; rfl), rfl⟩⟩
  · obtain ⟨rfl, hq, hX⟩ := q9
    have hq := hq.symm
    subst hq
    refine x_i2l F dL_join_10 ?_
    refine x_last F rfl dL_join_11 (jI_in (z := 0) ⟨by decide, by decide⟩ (by decide)) ?_
    refine x_goto (tgt := 27) F dL_join_12 (by decide) ?_
    refine xj_iconst F dL_join_27 ?_
    exact x_iretH F FR dL_join_28 rfl (Nat.le_of_ble_eq_true rfl) (Nat.le_of_ble_eq_true rfl) ⟨fun _ => ⟨rfl, _, rfl, rfl⟩, fun z => absurd hX z⟩
def hhL_leave : List (Nat × Nat × Nat × Nat) := [(0, 10, 13, 13)]
theorem mhL_leave : xMH yL_leave cL_leave 5 (some FieldType.int) hhL_leave 4 := ⟨⟨LW_of 85 (by decide +kernel) (by decide +kernel), by decide, by decide, by decide +kernel⟩, LW_of 840 (by decide +kernel) (by decide +kernel), LW_of 839 (by decide +kernel) (by decide +kernel)⟩
set_option maxRecDepth 20000 in
theorem h_L_leave {l : Launch} {E : xE} (hl : l.stackTraces = false) {r p : Int} {M : xM} (hO : okC M 1) (hH : okH M) (hr : rg r) (hp : rg p) : XH l E 22 6 36 yL_leave cL_leave 5 (some FieldType.int) hhL_leave [vA 0, vI (jI r), vI (jI p), vA 79] M (fun r' M' => (plX M r p = 0 → r' = vI (jI 0) ∧ ∃ M1, M1 = leM (svM M 1) r p ∧ M' = upL M1 79 0 ((jI (rdI ((svM M 1).1 (1 + 2)) 24 (spI r p)))).toInt64) ∧ (plX M r p ≠ 0 → r' = vI (jI 1) ∧ M' = M)) := by
  refine xh_start (by decide) rfl (Nat.le_of_ble_eq_true rfl) ?_
  intro Y F FR hN
  refine x_aload_n F dL_leave_0 rfl ?_
  refine xj_iconst F dL_leave_1 ?_
  refine x_aload_n F dL_leave_2 rfl ?_
  refine x_iload_n F dL_leave_3 rfl ?_
  refine x_iload_n F dL_leave_4 rfl ?_
  refine x_callVT (As := [_, _]) F (m_X6_leave hl hO hH hr hp) mlL_19 mvX6_leave rfl (by decide) rfl ⟨Nat.le_of_ble_eq_true rfl, Nat.le_of_ble_eq_true rfl⟩ ⟨Nat.le_of_ble_eq_true rfl, Nat.le_of_ble_eq_true rfl⟩ (Nat.le_of_ble_eq_true rfl) rfl dL_leave_5 (fun C9 M9 hx9 => ?_) (fun r9 M9 q9 => ?_)
  · obtain ⟨q, e1, e2, rfl, e3⟩ := hx9
    have e3 := e3.symm
    subst e3
    have hq : q = 1 := by
      have e1 := e1.symm
      subst e1
      unfold plX at e2 ⊢
      (repeat' split) <;> first | (exfalso; omega) | omega
    subst hq
    refine x_catch F FR.2.2 [] ⟨0, 10, 13, 13⟩ [] rfl (fun z hz => by cases hz) rfl (by decide) cl13 ct1 (fun q9 => ?_)
    refine x_astoreQ F dL_leave_13 (by decide) ?_
    refine xj_iconst F dL_leave_15 ?_
    exact x_iretH F FR dL_leave_16 rfl (Nat.le_of_ble_eq_true rfl) (Nat.le_of_ble_eq_true rfl) ⟨fun z => absurd (e1.symm.trans z) (by decide), fun _ => ⟨by first | rfl | (rw [e1]; rfl), rfl⟩⟩
  · obtain ⟨rfl, hq, hX⟩ := q9
    have hq := hq.symm
    subst hq
    refine x_i2l F dL_leave_8 ?_
    refine x_last F rfl dL_leave_9 (jI_in (z := 0) ⟨by decide, by decide⟩ (by decide)) ?_
    refine x_goto (tgt := 17) F dL_leave_10 (by decide) ?_
    refine xj_iconst F dL_leave_17 ?_
    exact x_iretH F FR dL_leave_18 rfl (Nat.le_of_ble_eq_true rfl) (Nat.le_of_ble_eq_true rfl) ⟨fun _ => ⟨rfl, _, rfl, rfl⟩, fun z => absurd hX z⟩
def hhL_grow : List (Nat × Nat × Nat × Nat) := [(0, 12, 15, 13), (0, 12, 19, 15)]
theorem mhL_grow : xMH yL_grow cL_grow 6 (some FieldType.int) hhL_grow 5 := ⟨⟨LW_of 85 (by decide +kernel) (by decide +kernel), by decide, by decide, by decide +kernel⟩, LW_of 865 (by decide +kernel) (by decide +kernel), LW_of 864 (by decide +kernel) (by decide +kernel)⟩
set_option maxRecDepth 20000 in
theorem h_L_grow {l : Launch} {E : xE} (hl : l.stackTraces = false) {r p h : Int} {M : xM} (hO : okC M 1) (hH : okH M) (hr : rg r) (hp : rg p) (hh : rg h) : XH l E 22 6 36 yL_grow cL_grow 6 (some FieldType.int) hhL_grow [vA 0, vI (jI r), vI (jI p), vI (jI h), vA 79] M (fun r' M' => (grX M r p h = 0 → r' = vI (jI 0) ∧ ∃ M1, M1 = wrI (svM M 1) (1 + 3) 24 (spI r p) (jI h) ∧ M' = upL M1 79 0 ((jI (heI (svM M 1) 1 r p))).toInt64) ∧ (grX M r p h ≠ 0 → r' = vI (jI (if grX M r p h = 1 then 1 else (if grX M r p h = 2 then 2 else 3))) ∧ M' = M)) := by
  refine xh_start (by decide) rfl (Nat.le_of_ble_eq_true rfl) ?_
  intro Y F FR hN
  refine x_aload F dL_grow_0 rfl ?_
  refine xj_iconst F dL_grow_2 ?_
  refine x_aload_n F dL_grow_3 rfl ?_
  refine x_iload_n F dL_grow_4 rfl ?_
  refine x_iload_n F dL_grow_5 rfl ?_
  refine x_iload_n F dL_grow_6 rfl ?_
  refine x_callVT (As := [_, _, _]) F (m_X6_grow hl hO hH hr hp hh) mlL_23 mvX6_grow rfl (by decide) rfl ⟨Nat.le_of_ble_eq_true rfl, Nat.le_of_ble_eq_true rfl⟩ ⟨Nat.le_of_ble_eq_true rfl, Nat.le_of_ble_eq_true rfl⟩ (Nat.le_of_ble_eq_true rfl) rfl dL_grow_7 (fun C9 M9 hx9 => ?_) (fun r9 M9 q9 => ?_)
  · obtain ⟨q, e1, e2, rfl, e3⟩ := hx9
    have e3 := e3.symm
    subst e3
    have hq : q = 1 ∨ q = 2 := by
      have e1 := e1.symm
      subst e1
      unfold grX at e2 ⊢
      (repeat' split) <;> first | (exfalso; omega) | omega
    rcases hq with rfl | rfl
    · refine x_catch F FR.2.2 [] ⟨0, 12, 15, 13⟩ [⟨0, 12, 19, 15⟩] rfl (fun z hz => by cases hz) rfl (by decide) cl13 ct1 (fun q9 => ?_)
      refine x_astoreQ F dL_grow_15 (by decide) ?_
      refine xj_iconst F dL_grow_17 ?_
      exact x_iretH F FR dL_grow_18 rfl (Nat.le_of_ble_eq_true rfl) (Nat.le_of_ble_eq_true rfl) ⟨fun z => absurd (e1.symm.trans z) (by decide), fun _ => ⟨by first | rfl | (rw [e1]; rfl), rfl⟩⟩
    · refine x_catch F FR.2.2 [⟨0, 12, 15, 13⟩] ⟨0, 12, 19, 15⟩ [] rfl (fun z hz => by
        rcases List.mem_cons.mp hz with rfl | hz
        · exact Or.inr ⟨by decide, _, cl13, hN.1⟩
        · cases hz) rfl (by decide) cl15 ct2 (fun q9 => ?_)
      refine x_astoreQ F dL_grow_19 (by decide) ?_
      refine xj_iconst F dL_grow_21 ?_
      exact x_iretH F FR dL_grow_22 rfl (Nat.le_of_ble_eq_true rfl) (Nat.le_of_ble_eq_true rfl) ⟨fun z => absurd (e1.symm.trans z) (by decide), fun _ => ⟨by first | rfl | (rw [e1]; rfl), rfl⟩⟩
  · obtain ⟨rfl, hq, hX⟩ := q9
    have hq := hq.symm
    subst hq
    refine x_i2l F dL_grow_10 ?_
    refine x_last F rfl dL_grow_11 (jI_in (z := 0) ⟨by decide, by decide⟩ (by decide)) ?_
    refine x_goto (tgt := 23) F dL_grow_12 (by decide) ?_
    refine xj_iconst F dL_grow_23 ?_
    exact x_iretH F FR dL_grow_24 rfl (Nat.le_of_ble_eq_true rfl) (Nat.le_of_ble_eq_true rfl) ⟨fun _ => ⟨rfl, _, rfl, rfl⟩, fun z => absurd hX z⟩
def hhL_swap : List (Nat × Nat × Nat × Nat) := [(0, 14, 17, 13)]
theorem mhL_swap : xMH yL_swap cL_swap 7 (some FieldType.int) hhL_swap 6 := ⟨⟨LW_of 85 (by decide +kernel) (by decide +kernel), by decide, by decide, by decide +kernel⟩, LW_of 876 (by decide +kernel) (by decide +kernel), LW_of 875 (by decide +kernel) (by decide +kernel)⟩
set_option maxRecDepth 20000 in
theorem h_L_swap {l : Launch} {E : xE} (hl : l.stackTraces = false) {r p r2 p2 : Int} {M : xM} (hO : okC M 1) (hH : okH M) (hr : rg r) (hp : rg p) (hr2 : rg r2) (hp2 : rg p2) : XH l E 22 6 36 yL_swap cL_swap 7 (some FieldType.int) hhL_swap [vA 0, vI (jI r), vI (jI p), vI (jI r2), vI (jI p2), vA 79] M (fun r' M' => (swX M r p r2 p2 = 0 → r' = vI (jI 0) ∧ ∃ M1, M1 = swM (svM M 1) r p r2 p2 ∧ M' = upL M1 79 0 ((jI (oaI (swM (svM M 1) r p r2 p2) 1))).toInt64) ∧ (swX M r p r2 p2 ≠ 0 → r' = vI (jI 1) ∧ M' = M)) := by
  refine xh_start (by decide) rfl (Nat.le_of_ble_eq_true rfl) ?_
  intro Y F FR hN
  refine x_aload F dL_swap_0 rfl ?_
  refine xj_iconst F dL_swap_2 ?_
  refine x_aload_n F dL_swap_3 rfl ?_
  refine x_iload_n F dL_swap_4 rfl ?_
  refine x_iload_n F dL_swap_5 rfl ?_
  refine x_iload_n F dL_swap_6 rfl ?_
  refine x_iload F dL_swap_7 rfl ?_
  refine x_callVT (As := [_, _, _, _]) F (m_X6_swap hl hO hH hr hp hr2 hp2) mlL_26 mvX6_swap rfl (by decide) rfl ⟨Nat.le_of_ble_eq_true rfl, Nat.le_of_ble_eq_true rfl⟩ ⟨Nat.le_of_ble_eq_true rfl, Nat.le_of_ble_eq_true rfl⟩ (Nat.le_of_ble_eq_true rfl) rfl dL_swap_9 (fun C9 M9 hx9 => ?_) (fun r9 M9 q9 => ?_)
  · obtain ⟨q, e1, e2, rfl, e3⟩ := hx9
    have e3 := e3.symm
    subst e3
    have hq : q = 1 := by
      have e1 := e1.symm
      subst e1
      unfold swX at e2 ⊢
      (repeat' split) <;> first | (exfalso; omega) | omega
    subst hq
    refine x_catch F FR.2.2 [] ⟨0, 14, 17, 13⟩ [] rfl (fun z hz => by cases hz) rfl (by decide) cl13 ct1 (fun q9 => ?_)
    refine x_astoreQ F dL_swap_17 (by decide) ?_
    refine xj_iconst F dL_swap_19 ?_
    exact x_iretH F FR dL_swap_20 rfl (Nat.le_of_ble_eq_true rfl) (Nat.le_of_ble_eq_true rfl) ⟨fun z => absurd (e1.symm.trans z) (by decide), fun _ => ⟨by first | rfl | (rw [e1]; rfl), rfl⟩⟩
  · obtain ⟨rfl, hq, hX⟩ := q9
    have hq := hq.symm
    subst hq
    refine x_i2l F dL_swap_12 ?_
    refine x_last F rfl dL_swap_13 (jI_in (z := 0) ⟨by decide, by decide⟩ (by decide)) ?_
    refine x_goto (tgt := 21) F dL_swap_14 (by decide) ?_
    refine xj_iconst F dL_swap_21 ?_
    exact x_iretH F FR dL_swap_22 rfl (Nat.le_of_ble_eq_true rfl) (Nat.le_of_ble_eq_true rfl) ⟨fun _ => ⟨rfl, _, rfl, rfl⟩, fun z => absurd hX z⟩
def hhL_cross : List (Nat × Nat × Nat × Nat) := [(0, 12, 15, 13), (0, 12, 19, 17)]
theorem mhL_cross : xMH yL_cross cL_cross 6 (some FieldType.int) hhL_cross 5 := ⟨⟨LW_of 85 (by decide +kernel) (by decide +kernel), by decide, by decide, by decide +kernel⟩, LW_of 887 (by decide +kernel) (by decide +kernel), LW_of 886 (by decide +kernel) (by decide +kernel)⟩
set_option maxRecDepth 20000 in
theorem h_L_cross {l : Launch} {E : xE} (hl : l.stackTraces = false) {r p t : Int} {M : xM} (hO : okC M 1) (hH : okH M) (hr : rg r) (hp : rg p) (ht : rg t) : XH l E 22 6 36 yL_cross cL_cross 6 (some FieldType.int) hhL_cross [vA 0, vI (jI r), vI (jI p), vI (jI t), vA 79] M (fun r' M' => (crX M r p t = 0 → r' = vI (jI 0) ∧ ∃ M1, M1 = moM (svM M 1) 1 r p t ∧ M' = upL M1 79 0 ((jI (szI (svM M 1) 1 t))).toInt64) ∧ (crX M r p t ≠ 0 → r' = vI (jI (if crX M r p t = 1 then 1 else (if crX M r p t = 3 then 2 else 3))) ∧ M' = M)) := by
  refine xh_start (by decide) rfl (Nat.le_of_ble_eq_true rfl) ?_
  intro Y F FR hN
  refine x_aload F dL_cross_0 rfl ?_
  refine xj_iconst F dL_cross_2 ?_
  refine x_aload_n F dL_cross_3 rfl ?_
  refine x_iload_n F dL_cross_4 rfl ?_
  refine x_iload_n F dL_cross_5 rfl ?_
  refine x_iload_n F dL_cross_6 rfl ?_
  refine x_callVT (As := [_, _, _]) F (m_X6_cross hl hO hH hr hp ht) mlL_30 mvX6_cross rfl (by decide) rfl ⟨Nat.le_of_ble_eq_true rfl, Nat.le_of_ble_eq_true rfl⟩ ⟨Nat.le_of_ble_eq_true rfl, Nat.le_of_ble_eq_true rfl⟩ (Nat.le_of_ble_eq_true rfl) rfl dL_cross_7 (fun C9 M9 hx9 => ?_) (fun r9 M9 q9 => ?_)
  · obtain ⟨q, e1, e2, rfl, e3⟩ := hx9
    have e3 := e3.symm
    subst e3
    have hq : q = 1 ∨ q = 3 := by
      have e1 := e1.symm
      subst e1
      unfold crX at e2 ⊢
      (repeat' split) <;> first | (exfalso; omega) | omega
    rcases hq with rfl | rfl
    · refine x_catch F FR.2.2 [] ⟨0, 12, 15, 13⟩ [⟨0, 12, 19, 17⟩] rfl (fun z hz => by cases hz) rfl (by decide) cl13 ct1 (fun q9 => ?_)
      refine x_astoreQ F dL_cross_15 (by decide) ?_
      refine xj_iconst F dL_cross_17 ?_
      exact x_iretH F FR dL_cross_18 rfl (Nat.le_of_ble_eq_true rfl) (Nat.le_of_ble_eq_true rfl) ⟨fun z => absurd (e1.symm.trans z) (by decide), fun _ => ⟨by first | rfl | (rw [e1]; rfl), rfl⟩⟩
    · refine x_catch F FR.2.2 [⟨0, 12, 15, 13⟩] ⟨0, 12, 19, 17⟩ [] rfl (fun z hz => by
        rcases List.mem_cons.mp hz with rfl | hz
        · exact Or.inr ⟨by decide, _, cl13, hN.2.1⟩
        · cases hz) rfl (by decide) cl17 ct3 (fun q9 => ?_)
      refine x_astoreQ F dL_cross_19 (by decide) ?_
      refine xj_iconst F dL_cross_21 ?_
      exact x_iretH F FR dL_cross_22 rfl (Nat.le_of_ble_eq_true rfl) (Nat.le_of_ble_eq_true rfl) ⟨fun z => absurd (e1.symm.trans z) (by decide), fun _ => ⟨by first | rfl | (rw [e1]; rfl), rfl⟩⟩
  · obtain ⟨rfl, hq, hX⟩ := q9
    have hq := hq.symm
    subst hq
    refine x_i2l F dL_cross_10 ?_
    refine x_last F rfl dL_cross_11 (jI_in (z := 0) ⟨by decide, by decide⟩ (by decide)) ?_
    refine x_goto (tgt := 23) F dL_cross_12 (by decide) ?_
    refine xj_iconst F dL_cross_23 ?_
    exact x_iretH F FR dL_cross_24 rfl (Nat.le_of_ble_eq_true rfl) (Nat.le_of_ble_eq_true rfl) ⟨fun _ => ⟨rfl, _, rfl, rfl⟩, fun z => absurd hX z⟩
def hhL_turn : List (Nat × Nat × Nat × Nat) := [(0, 9, 12, 13)]
theorem mhL_turn : xMH yL_turn cL_turn 4 (some FieldType.int) hhL_turn 3 := ⟨⟨LW_of 85 (by decide +kernel) (by decide +kernel), by decide, by decide, by decide +kernel⟩, LW_of 898 (by decide +kernel) (by decide +kernel), LW_of 897 (by decide +kernel) (by decide +kernel)⟩
set_option maxRecDepth 20000 in
theorem h_L_turn {l : Launch} {E : xE} (hl : l.stackTraces = false) {r : Int} {M : xM} (hO : okC M 1) (hH : okH M) (hr : rg r) : XH l E 22 6 36 yL_turn cL_turn 4 (some FieldType.int) hhL_turn [vA 0, vI (jI r), vA 79] M (fun r' M' => (roX r = 0 → r' = vI (jI 0) ∧ ∃ M1, M1 = trM (svM M 1) 1 r (szI (svM M 1) 1 r / 2).toNat ∧ M' = upL M1 79 0 ((jI (oaI (trM (svM M 1) 1 r (szI (svM M 1) 1 r / 2).toNat) 1))).toInt64) ∧ (roX r ≠ 0 → r' = vI (jI 1) ∧ M' = M)) := by
  refine xh_start (by decide) rfl (Nat.le_of_ble_eq_true rfl) ?_
  intro Y F FR hN
  refine x_aload_n F dL_turn_0 rfl ?_
  refine xj_iconst F dL_turn_1 ?_
  refine x_aload_n F dL_turn_2 rfl ?_
  refine x_iload_n F dL_turn_3 rfl ?_
  refine x_callVT (As := [_]) F (m_X6_turn hl hO hH hr) mlL_33 mvX6_turn rfl (by decide) rfl ⟨Nat.le_of_ble_eq_true rfl, Nat.le_of_ble_eq_true rfl⟩ ⟨Nat.le_of_ble_eq_true rfl, Nat.le_of_ble_eq_true rfl⟩ (Nat.le_of_ble_eq_true rfl) rfl dL_turn_4 (fun C9 M9 hx9 => ?_) (fun r9 M9 q9 => ?_)
  · obtain ⟨q, e1, e2, rfl, e3⟩ := hx9
    have e3 := e3.symm
    subst e3
    have hq : q = 1 := by
      have e1 := e1.symm
      subst e1
      unfold roX at e2 ⊢
      (repeat' split) <;> first | (exfalso; omega) | omega
    subst hq
    refine x_catch F FR.2.2 [] ⟨0, 9, 12, 13⟩ [] rfl (fun z hz => by cases hz) rfl (by decide) cl13 ct1 (fun q9 => ?_)
    refine x_astore_nQ F dL_turn_12 (by decide) ?_
    refine xj_iconst F dL_turn_13 ?_
    exact x_iretH F FR dL_turn_14 rfl (Nat.le_of_ble_eq_true rfl) (Nat.le_of_ble_eq_true rfl) ⟨fun z => absurd (e1.symm.trans z) (by decide), fun _ => ⟨by first | rfl | (rw [e1]; rfl), rfl⟩⟩
  · obtain ⟨rfl, hq, hX⟩ := q9
    have hq := hq.symm
    subst hq
    refine x_i2l F dL_turn_7 ?_
    refine x_last F rfl dL_turn_8 (jI_in (z := 0) ⟨by decide, by decide⟩ (by decide)) ?_
    refine x_goto (tgt := 15) F dL_turn_9 (by decide) ?_
    refine xj_iconst F dL_turn_15 ?_
    exact x_iretH F FR dL_turn_16 rfl (Nat.le_of_ble_eq_true rfl) (Nat.le_of_ble_eq_true rfl) ⟨fun _ => ⟨rfl, _, rfl, rfl⟩, fun z => absurd hX z⟩
def hhL_sort : List (Nat × Nat × Nat × Nat) := [(0, 10, 13, 13), (0, 10, 17, 15)]
theorem mhL_sort : xMH yL_sort cL_sort 5 (some FieldType.int) hhL_sort 4 := ⟨⟨LW_of 85 (by decide +kernel) (by decide +kernel), by decide, by decide, by decide +kernel⟩, LW_of 909 (by decide +kernel) (by decide +kernel), LW_of 908 (by decide +kernel) (by decide +kernel)⟩
set_option maxRecDepth 20000 in
theorem h_L_sort {l : Launch} {E : xE} (hl : l.stackTraces = false) {r z : Int} {M : xM} (hO : okC M 1) (hH : okH M) (hr : rg r) (hz : rg z) : XH l E 22 6 36 yL_sort cL_sort 5 (some FieldType.int) hhL_sort [vA 0, vI (jI r), vI (jI z), vA 79] M (fun r' M' => (rwX r 0 2 z = 0 → r' = vI (jI 0) ∧ ∃ M1, M1 = (srM (svM M 1) 1 r z (szI (svM M 1) 1 r - 1).toNat) ∧ M' = upL M1 79 0 ((jI (dcI (srM (svM M 1) 1 r z (szI (svM M 1) 1 r - 1).toNat) 1 r))).toInt64) ∧ (rwX r 0 2 z ≠ 0 → r' = vI (jI (if rwX r 0 2 z = 1 then 1 else (if rwX r 0 2 z = 2 then 2 else 3))) ∧ M' = M)) := by
  refine xh_start (by decide) rfl (Nat.le_of_ble_eq_true rfl) ?_
  intro Y F FR hN
  refine x_aload_n F dL_sort_0 rfl ?_
  refine xj_iconst F dL_sort_1 ?_
  refine x_aload_n F dL_sort_2 rfl ?_
  refine x_iload_n F dL_sort_3 rfl ?_
  refine x_iload_n F dL_sort_4 rfl ?_
  refine x_callVT (As := [_, _]) F (m_X6_sort hl hO hH hr hz) mlL_37 mvX6_sort rfl (by decide) rfl ⟨Nat.le_of_ble_eq_true rfl, Nat.le_of_ble_eq_true rfl⟩ ⟨Nat.le_of_ble_eq_true rfl, Nat.le_of_ble_eq_true rfl⟩ (Nat.le_of_ble_eq_true rfl) rfl dL_sort_5 (fun C9 M9 hx9 => ?_) (fun r9 M9 q9 => ?_)
  · obtain ⟨q, e1, e2, rfl, e3⟩ := hx9
    have e3 := e3.symm
    subst e3
    have hq : q = 1 ∨ q = 2 := by
      have e1 := e1.symm
      subst e1
      unfold rwX at e2 ⊢
      (repeat' split) <;> first | (exfalso; omega) | omega
    rcases hq with rfl | rfl
    · refine x_catch F FR.2.2 [] ⟨0, 10, 13, 13⟩ [⟨0, 10, 17, 15⟩] rfl (fun z hz => by cases hz) rfl (by decide) cl13 ct1 (fun q9 => ?_)
      refine x_astoreQ F dL_sort_13 (by decide) ?_
      refine xj_iconst F dL_sort_15 ?_
      exact x_iretH F FR dL_sort_16 rfl (Nat.le_of_ble_eq_true rfl) (Nat.le_of_ble_eq_true rfl) ⟨fun z => absurd (e1.symm.trans z) (by decide), fun _ => ⟨by first | rfl | (rw [e1]; rfl), rfl⟩⟩
    · refine x_catch F FR.2.2 [⟨0, 10, 13, 13⟩] ⟨0, 10, 17, 15⟩ [] rfl (fun z hz => by
        rcases List.mem_cons.mp hz with rfl | hz
        · exact Or.inr ⟨by decide, _, cl13, hN.1⟩
        · cases hz) rfl (by decide) cl15 ct2 (fun q9 => ?_)
      refine x_astoreQ F dL_sort_17 (by decide) ?_
      refine xj_iconst F dL_sort_19 ?_
      exact x_iretH F FR dL_sort_20 rfl (Nat.le_of_ble_eq_true rfl) (Nat.le_of_ble_eq_true rfl) ⟨fun z => absurd (e1.symm.trans z) (by decide), fun _ => ⟨by first | rfl | (rw [e1]; rfl), rfl⟩⟩
  · obtain ⟨rfl, hq, hX⟩ := q9
    have hq := hq.symm
    subst hq
    refine x_i2l F dL_sort_8 ?_
    refine x_last F rfl dL_sort_9 (jI_in (z := 0) ⟨by decide, by decide⟩ (by decide)) ?_
    refine x_goto (tgt := 21) F dL_sort_10 (by decide) ?_
    refine xj_iconst F dL_sort_21 ?_
    exact x_iretH F FR dL_sort_22 rfl (Nat.le_of_ble_eq_true rfl) (Nat.le_of_ble_eq_true rfl) ⟨fun _ => ⟨rfl, _, rfl, rfl⟩, fun z => absurd hX z⟩
def hhL_set : List (Nat × Nat × Nat × Nat) := [(0, 10, 13, 13), (0, 10, 17, 15)]
theorem mhL_set : xMH yL_set cL_set 5 (some FieldType.int) hhL_set 4 := ⟨⟨LW_of 85 (by decide +kernel) (by decide +kernel), by decide, by decide, by decide +kernel⟩, LW_of 924 (by decide +kernel) (by decide +kernel), LW_of 923 (by decide +kernel) (by decide +kernel)⟩
set_option maxRecDepth 20000 in
theorem h_L_set {l : Launch} {E : xE} (hl : l.stackTraces = false) {s x : Int} {M : xM} (hO : okC M 1) (hH : okH M) (hs : rg s) (hx : rg x) : XH l E 22 6 36 yL_set cL_set 5 (some FieldType.int) hhL_set [vA 0, vI (jI s), vI (jI x), vA 79] M (fun r' M' => (seX s x = 0 → r' = vI (jI 0) ∧ ∃ M1, M1 = upI (svM M 1) 1 (if s = 0 then 4 else 5) (jI x) ∧ M' = upL M1 79 0 ((jI (if s = 0 then ((svM M 1).1 1 4).toInt else ((svM M 1).1 1 5).toInt))).toInt64) ∧ (seX s x ≠ 0 → r' = vI (jI (if seX s x = 1 then 1 else (if seX s x = 2 then 2 else 3))) ∧ M' = M)) := by
  refine xh_start (by decide) rfl (Nat.le_of_ble_eq_true rfl) ?_
  intro Y F FR hN
  refine x_aload_n F dL_set_0 rfl ?_
  refine xj_iconst F dL_set_1 ?_
  refine x_aload_n F dL_set_2 rfl ?_
  refine x_iload_n F dL_set_3 rfl ?_
  refine x_iload_n F dL_set_4 rfl ?_
  refine x_callVT (As := [_, _]) F (m_X6_set hl hO hH hs hx) mlL_40 mvX6_set rfl (by decide) rfl ⟨Nat.le_of_ble_eq_true rfl, Nat.le_of_ble_eq_true rfl⟩ ⟨Nat.le_of_ble_eq_true rfl, Nat.le_of_ble_eq_true rfl⟩ (Nat.le_of_ble_eq_true rfl) rfl dL_set_5 (fun C9 M9 hx9 => ?_) (fun r9 M9 q9 => ?_)
  · obtain ⟨q, e1, e2, rfl, e3⟩ := hx9
    have e3 := e3.symm
    subst e3
    have hq : q = 1 ∨ q = 2 := by
      have e1 := e1.symm
      subst e1
      unfold seX at e2 ⊢
      (repeat' split) <;> first | (exfalso; omega) | omega
    rcases hq with rfl | rfl
    · refine x_catch F FR.2.2 [] ⟨0, 10, 13, 13⟩ [⟨0, 10, 17, 15⟩] rfl (fun z hz => by cases hz) rfl (by decide) cl13 ct1 (fun q9 => ?_)
      refine x_astoreQ F dL_set_13 (by decide) ?_
      refine xj_iconst F dL_set_15 ?_
      exact x_iretH F FR dL_set_16 rfl (Nat.le_of_ble_eq_true rfl) (Nat.le_of_ble_eq_true rfl) ⟨fun z => absurd (e1.symm.trans z) (by decide), fun _ => ⟨by first | rfl | (rw [e1]; rfl), rfl⟩⟩
    · refine x_catch F FR.2.2 [⟨0, 10, 13, 13⟩] ⟨0, 10, 17, 15⟩ [] rfl (fun z hz => by
        rcases List.mem_cons.mp hz with rfl | hz
        · exact Or.inr ⟨by decide, _, cl13, hN.1⟩
        · cases hz) rfl (by decide) cl15 ct2 (fun q9 => ?_)
      refine x_astoreQ F dL_set_17 (by decide) ?_
      refine xj_iconst F dL_set_19 ?_
      exact x_iretH F FR dL_set_20 rfl (Nat.le_of_ble_eq_true rfl) (Nat.le_of_ble_eq_true rfl) ⟨fun z => absurd (e1.symm.trans z) (by decide), fun _ => ⟨by first | rfl | (rw [e1]; rfl), rfl⟩⟩
  · obtain ⟨rfl, hq, hX⟩ := q9
    have hq := hq.symm
    subst hq
    refine x_i2l F dL_set_8 ?_
    refine x_last F rfl dL_set_9 (jI_in (z := 0) ⟨by decide, by decide⟩ (by decide)) ?_
    refine x_goto (tgt := 21) F dL_set_10 (by decide) ?_
    refine xj_iconst F dL_set_21 ?_
    exact x_iretH F FR dL_set_22 rfl (Nat.le_of_ble_eq_true rfl) (Nat.le_of_ble_eq_true rfl) ⟨fun _ => ⟨rfl, _, rfl, rfl⟩, fun z => absurd hX z⟩
def hhL_append : List (Nat × Nat × Nat × Nat) := [(0, 9, 12, 15), (0, 9, 15, 17)]
theorem mhL_append : xMH yL_append cL_append 4 (some FieldType.int) hhL_append 3 := ⟨⟨LW_of 85 (by decide +kernel) (by decide +kernel), by decide, by decide, by decide +kernel⟩, LW_of 931 (by decide +kernel) (by decide +kernel), LW_of 930 (by decide +kernel) (by decide +kernel)⟩
set_option maxRecDepth 20000 in
theorem h_L_append {l : Launch} {E : xE} (hl : l.stackTraces = false) {x : Int} {M : xM} (hO : okC M 1) (hB : okB M) (hx : rg x) : XH l E 22 6 36 yL_append cL_append 4 (some FieldType.int) hhL_append [vA 0, vI (jI x), vA 79] M (fun r' M' => (apX M x = 0 → r' = vI (jI 0) ∧ ∃ M1, M1 = adM M x ∧ M' = upL M1 79 0 ((jI (tlI (adM M x)))).toInt64) ∧ (apX M x ≠ 0 → r' = vI (jI (if apX M x = 2 then 1 else (if apX M x = 3 then 2 else 3))) ∧ M' = M)) := by
  refine xh_start (by decide) rfl (Nat.le_of_ble_eq_true rfl) ?_
  intro Y F FR hN
  refine x_aload_n F dL_append_0 rfl ?_
  refine xj_iconst F dL_append_1 ?_
  refine x_aload_n F dL_append_2 rfl ?_
  refine x_iload_n F dL_append_3 rfl ?_
  refine x_callVT (As := [_]) F (m_X6_append hl hO hB hx) mlL_43 mvX6_append rfl (by decide) rfl ⟨Nat.le_of_ble_eq_true rfl, Nat.le_of_ble_eq_true rfl⟩ ⟨Nat.le_of_ble_eq_true rfl, Nat.le_of_ble_eq_true rfl⟩ (Nat.le_of_ble_eq_true rfl) rfl dL_append_4 (fun C9 M9 hx9 => ?_) (fun r9 M9 q9 => ?_)
  · obtain ⟨q, e1, e2, rfl, e3⟩ := hx9
    have e3 := e3.symm
    subst e3
    have hq : q = 2 ∨ q = 3 := by
      have e1 := e1.symm
      subst e1
      unfold apX at e2 ⊢
      (repeat' split) <;> first | (exfalso; omega) | omega
    rcases hq with rfl | rfl
    · refine x_catch F FR.2.2 [] ⟨0, 9, 12, 15⟩ [⟨0, 9, 15, 17⟩] rfl (fun z hz => by cases hz) rfl (by decide) cl15 ct2 (fun q9 => ?_)
      refine x_astore_nQ F dL_append_12 (by decide) ?_
      refine xj_iconst F dL_append_13 ?_
      exact x_iretH F FR dL_append_14 rfl (Nat.le_of_ble_eq_true rfl) (Nat.le_of_ble_eq_true rfl) ⟨fun z => absurd (e1.symm.trans z) (by decide), fun _ => ⟨by first | rfl | (rw [e1]; rfl), rfl⟩⟩
    · refine x_catch F FR.2.2 [⟨0, 9, 12, 15⟩] ⟨0, 9, 15, 17⟩ [] rfl (fun z hz => by
        rcases List.mem_cons.mp hz with rfl | hz
        · exact Or.inr ⟨by decide, _, cl15, hN.2.2⟩
        · cases hz) rfl (by decide) cl17 ct3 (fun q9 => ?_)
      refine x_astore_nQ F dL_append_15 (by decide) ?_
      refine xj_iconst F dL_append_16 ?_
      exact x_iretH F FR dL_append_17 rfl (Nat.le_of_ble_eq_true rfl) (Nat.le_of_ble_eq_true rfl) ⟨fun z => absurd (e1.symm.trans z) (by decide), fun _ => ⟨by first | rfl | (rw [e1]; rfl), rfl⟩⟩
  · obtain ⟨rfl, hq, hX⟩ := q9
    have hq := hq.symm
    subst hq
    refine x_i2l F dL_append_7 ?_
    refine x_last F rfl dL_append_8 (jI_in (z := 0) ⟨by decide, by decide⟩ (by decide)) ?_
    refine x_goto (tgt := 18) F dL_append_9 (by decide) ?_
    refine xj_iconst F dL_append_18 ?_
    exact x_iretH F FR dL_append_19 rfl (Nat.le_of_ble_eq_true rfl) (Nat.le_of_ble_eq_true rfl) ⟨fun _ => ⟨rfl, _, rfl, rfl⟩, fun z => absurd hX z⟩
def hhL_chant : List (Nat × Nat × Nat × Nat) := [(0, 8, 11, 15)]
theorem mhL_chant : xMH yL_chant cL_chant 3 (some FieldType.int) hhL_chant 2 := ⟨⟨LW_of 85 (by decide +kernel) (by decide +kernel), by decide, by decide, by decide +kernel⟩, LW_of 942 (by decide +kernel) (by decide +kernel), LW_of 941 (by decide +kernel) (by decide +kernel)⟩
set_option maxRecDepth 20000 in
theorem h_L_chant {l : Launch} {E : xE} (hl : l.stackTraces = false) {M0 : xM} (hO : okC M0 1) (hH : okH M0) (hB : okB M0) : XH l E 22 6 36 yL_chant cL_chant 3 (some FieldType.int) hhL_chant [vA 0, vA 79] M0 (fun r' M' => (chX M0 = 0 → r' = vI (jI 0) ∧ ∃ M1, M1 = upI (chN 60 0 (svM M0 1)).1 48 1 (jI 0) ∧ M' = upL M1 79 0 ((jI (chN 60 0 (svM M0 1)).2)).toInt64) ∧ (chX M0 ≠ 0 → r' = vI (jI 1) ∧ M' = M0)) := by
  refine xh_start (by decide) rfl (Nat.le_of_ble_eq_true rfl) ?_
  intro Y F FR hN
  refine x_aload_n F dL_chant_0 rfl ?_
  refine xj_iconst F dL_chant_1 ?_
  refine x_aload_n F dL_chant_2 rfl ?_
  refine x_callVT (As := []) F (m_X6_chant hl hO hH hB) mlL_46 mvX6_chant rfl (by decide) rfl ⟨Nat.le_of_ble_eq_true rfl, Nat.le_of_ble_eq_true rfl⟩ ⟨Nat.le_of_ble_eq_true rfl, Nat.le_of_ble_eq_true rfl⟩ (Nat.le_of_ble_eq_true rfl) rfl dL_chant_3 (fun C9 M9 hx9 => ?_) (fun r9 M9 q9 => ?_)
  · obtain ⟨q, e1, e2, rfl, e3⟩ := hx9
    have e3 := e3.symm
    subst e3
    have hq : q = 2 := by
      have e1 := e1.symm
      subst e1
      unfold chX at e2 ⊢
      by_cases hw : ¬ (whB M0 = true)
      · rw [if_pos hw]
      · exact absurd (if_neg hw) e2
    subst hq
    refine x_catch F FR.2.2 [] ⟨0, 8, 11, 15⟩ [] rfl (fun z hz => by cases hz) rfl (by decide) cl15 ct2 (fun q9 => ?_)
    refine x_astore_nQ F dL_chant_11 (by decide) ?_
    refine xj_iconst F dL_chant_12 ?_
    exact x_iretH F FR dL_chant_13 rfl (Nat.le_of_ble_eq_true rfl) (Nat.le_of_ble_eq_true rfl) ⟨fun z => absurd (e1.symm.trans z) (by decide), fun _ => ⟨by first | rfl | (rw [e1]; rfl), rfl⟩⟩
  · obtain ⟨rfl, hq, hX⟩ := q9
    have hq := hq.symm
    subst hq
    refine x_i2l F dL_chant_6 ?_
    refine x_last F rfl dL_chant_7 (jI_in (z := 0) ⟨by decide, by decide⟩ (by decide)) ?_
    refine x_goto (tgt := 14) F dL_chant_8 (by decide) ?_
    refine xj_iconst F dL_chant_14 ?_
    exact x_iretH F FR dL_chant_15 rfl (Nat.le_of_ble_eq_true rfl) (Nat.le_of_ble_eq_true rfl) ⟨fun _ => ⟨rfl, _, rfl, rfl⟩, fun z => absurd hX z⟩
def hhL_written : List (Nat × Nat × Nat × Nat) := [(0, 10, 13, 13), (0, 10, 17, 15)]
theorem mhL_written : xMH yL_written cL_written 5 (some FieldType.int) hhL_written 4 := ⟨⟨LW_of 85 (by decide +kernel) (by decide +kernel), by decide, by decide, by decide +kernel⟩, LW_of 973 (by decide +kernel) (by decide +kernel), LW_of 972 (by decide +kernel) (by decide +kernel)⟩
set_option maxRecDepth 20000 in
theorem h_L_written {l : Launch} {E : xE} (hl : l.stackTraces = false) {r i : Int} {M : xM} (hO : okC M 1) (hr : rg r) (hi : rg i) : XH l E 22 6 36 yL_written cL_written 5 (some FieldType.int) hhL_written [vA 0, vI (jI r), vI (jI i), vA 79] M (fun r' M' => (wrX r i = 0 → r' = vI (jI 0) ∧ ∃ M1, M1 = M ∧ M' = upL M1 79 0 ((wcI M 1 r i)).toInt64) ∧ (wrX r i ≠ 0 → r' = vI (jI (if wrX r i = 1 then 1 else (if wrX r i = 2 then 2 else 3))) ∧ M' = M)) := by
  refine xh_start (by decide) rfl (Nat.le_of_ble_eq_true rfl) ?_
  intro Y F FR hN
  refine x_aload_n F dL_written_0 rfl ?_
  refine xj_iconst F dL_written_1 ?_
  refine x_aload_n F dL_written_2 rfl ?_
  refine x_iload_n F dL_written_3 rfl ?_
  refine x_iload_n F dL_written_4 rfl ?_
  refine x_callVT (As := [_, _]) F (m_X6_written hl hO hr hi) mlL_50 mvX6_written rfl (by decide) rfl ⟨Nat.le_of_ble_eq_true rfl, Nat.le_of_ble_eq_true rfl⟩ ⟨Nat.le_of_ble_eq_true rfl, Nat.le_of_ble_eq_true rfl⟩ (Nat.le_of_ble_eq_true rfl) rfl dL_written_5 (fun C9 M9 hx9 => ?_) (fun r9 M9 q9 => ?_)
  · obtain ⟨q, e1, e2, rfl, e3⟩ := hx9
    have e3 := e3.symm
    subst e3
    have hq : q = 1 ∨ q = 2 := by
      have e1 := e1.symm
      subst e1
      unfold wrX at e2 ⊢
      (repeat' split) <;> first | (exfalso; omega) | omega
    rcases hq with rfl | rfl
    · refine x_catch F FR.2.2 [] ⟨0, 10, 13, 13⟩ [⟨0, 10, 17, 15⟩] rfl (fun z hz => by cases hz) rfl (by decide) cl13 ct1 (fun q9 => ?_)
      refine x_astoreQ F dL_written_13 (by decide) ?_
      refine xj_iconst F dL_written_15 ?_
      exact x_iretH F FR dL_written_16 rfl (Nat.le_of_ble_eq_true rfl) (Nat.le_of_ble_eq_true rfl) ⟨fun z => absurd (e1.symm.trans z) (by decide), fun _ => ⟨by first | rfl | (rw [e1]; rfl), rfl⟩⟩
    · refine x_catch F FR.2.2 [⟨0, 10, 13, 13⟩] ⟨0, 10, 17, 15⟩ [] rfl (fun z hz => by
        rcases List.mem_cons.mp hz with rfl | hz
        · exact Or.inr ⟨by decide, _, cl13, hN.1⟩
        · cases hz) rfl (by decide) cl15 ct2 (fun q9 => ?_)
      refine x_astoreQ F dL_written_17 (by decide) ?_
      refine xj_iconst F dL_written_19 ?_
      exact x_iretH F FR dL_written_20 rfl (Nat.le_of_ble_eq_true rfl) (Nat.le_of_ble_eq_true rfl) ⟨fun z => absurd (e1.symm.trans z) (by decide), fun _ => ⟨by first | rfl | (rw [e1]; rfl), rfl⟩⟩
  · obtain ⟨rfl, hq, hX⟩ := q9
    have hq := hq.symm
    subst hq
    refine x_i2l F dL_written_8 ?_
    refine x_last F rfl dL_written_9 (jI_in (z := 0) ⟨by decide, by decide⟩ (by decide)) ?_
    refine x_goto (tgt := 21) F dL_written_10 (by decide) ?_
    refine xj_iconst F dL_written_21 ?_
    exact x_iretH F FR dL_written_22 rfl (Nat.le_of_ble_eq_true rfl) (Nat.le_of_ble_eq_true rfl) ⟨fun _ => ⟨rfl, _, rfl, rfl⟩, fun z => absurd hX z⟩
def hhL_undo : List (Nat × Nat × Nat × Nat) := [(0, 8, 11, 17)]
theorem mhL_undo : xMH yL_undo cL_undo 3 (some FieldType.int) hhL_undo 2 := ⟨⟨LW_of 85 (by decide +kernel) (by decide +kernel), by decide, by decide, by decide +kernel⟩, LW_of 980 (by decide +kernel) (by decide +kernel), LW_of 979 (by decide +kernel) (by decide +kernel)⟩
set_option maxRecDepth 20000 in
theorem h_L_undo {l : Launch} {E : xE} (hl : l.stackTraces = false) {M : xM} (hO : okC M 1) (hH : okH M) : XH l E 22 6 36 yL_undo cL_undo 3 (some FieldType.int) hhL_undo [vA 0, vA 79] M (fun r' M' => (unX M = 0 → r' = vI (jI 0) ∧ ∃ M1, M1 = tkM M 1 ∧ M' = upL M1 79 0 ((jI ((tkM M 1).1 16 2).toInt)).toInt64) ∧ (unX M ≠ 0 → r' = vI (jI 1) ∧ M' = M)) := by
  refine xh_start (by decide) rfl (Nat.le_of_ble_eq_true rfl) ?_
  intro Y F FR hN
  refine x_aload_n F dL_undo_0 rfl ?_
  refine xj_iconst F dL_undo_1 ?_
  refine x_aload_n F dL_undo_2 rfl ?_
  refine x_callVT (As := []) F (m_X6_undo hl hO hH) mlL_53 mvX6_undo rfl (by decide) rfl ⟨Nat.le_of_ble_eq_true rfl, Nat.le_of_ble_eq_true rfl⟩ ⟨Nat.le_of_ble_eq_true rfl, Nat.le_of_ble_eq_true rfl⟩ (Nat.le_of_ble_eq_true rfl) rfl dL_undo_3 (fun C9 M9 hx9 => ?_) (fun r9 M9 q9 => ?_)
  · obtain ⟨q, e1, e2, rfl, e3⟩ := hx9
    have e3 := e3.symm
    subst e3
    have hq : q = 3 := by
      have e1 := e1.symm
      subst e1
      unfold unX at e2 ⊢
      (repeat' split) <;> first | (exfalso; omega) | omega
    subst hq
    refine x_catch F FR.2.2 [] ⟨0, 8, 11, 17⟩ [] rfl (fun z hz => by cases hz) rfl (by decide) cl17 ct3 (fun q9 => ?_)
    refine x_astore_nQ F dL_undo_11 (by decide) ?_
    refine xj_iconst F dL_undo_12 ?_
    exact x_iretH F FR dL_undo_13 rfl (Nat.le_of_ble_eq_true rfl) (Nat.le_of_ble_eq_true rfl) ⟨fun z => absurd (e1.symm.trans z) (by decide), fun _ => ⟨by first | rfl | (rw [e1]; rfl), rfl⟩⟩
  · obtain ⟨rfl, hq, hX⟩ := q9
    have hq := hq.symm
    subst hq
    refine x_i2l F dL_undo_6 ?_
    refine x_last F rfl dL_undo_7 (jI_in (z := 0) ⟨by decide, by decide⟩ (by decide)) ?_
    refine x_goto (tgt := 14) F dL_undo_8 (by decide) ?_
    refine xj_iconst F dL_undo_14 ?_
    exact x_iretH F FR dL_undo_15 rfl (Nat.le_of_ble_eq_true rfl) (Nat.le_of_ble_eq_true rfl) ⟨fun _ => ⟨rfl, _, rfl, rfl⟩, fun z => absurd hX z⟩
def hhL_restore : List (Nat × Nat × Nat × Nat) := [(0, 8, 11, 17)]
theorem mhL_restore : xMH yL_restore cL_restore 3 (some FieldType.int) hhL_restore 2 := ⟨⟨LW_of 85 (by decide +kernel) (by decide +kernel), by decide, by decide, by decide +kernel⟩, LW_of 991 (by decide +kernel) (by decide +kernel), LW_of 990 (by decide +kernel) (by decide +kernel)⟩
set_option maxRecDepth 20000 in
theorem h_L_restore {l : Launch} {E : xE} (hl : l.stackTraces = false) {M : xM} (hO : okC M 1) (hH : okH M) (hK : okC M 11) (h01 : (M.1 0 3).toInt = 0 ∨ (M.1 0 3).toInt = 1) : XH l E 22 6 36 yL_restore cL_restore 3 (some FieldType.int) hhL_restore [vA 0, vA 79] M (fun r' M' => (reX M = 0 → r' = vI (jI 0) ∧ ∃ M1, M1 = bcM (svM M 1) 1 11 ∧ M' = upL M1 79 0 ((jI (sumI (szI (bcM (svM M 1) 1 11) 1) 4))).toInt64) ∧ (reX M ≠ 0 → r' = vI (jI 1) ∧ M' = M)) := by
  refine xh_start (by decide) rfl (Nat.le_of_ble_eq_true rfl) ?_
  intro Y F FR hN
  refine x_aload_n F dL_restore_0 rfl ?_
  refine xj_iconst F dL_restore_1 ?_
  refine x_aload_n F dL_restore_2 rfl ?_
  refine x_callVT (As := []) F (m_X6_restore hl hO hH hK h01) mlL_56 mvX6_restore rfl (by decide) rfl ⟨Nat.le_of_ble_eq_true rfl, Nat.le_of_ble_eq_true rfl⟩ ⟨Nat.le_of_ble_eq_true rfl, Nat.le_of_ble_eq_true rfl⟩ (Nat.le_of_ble_eq_true rfl) rfl dL_restore_3 (fun C9 M9 hx9 => ?_) (fun r9 M9 q9 => ?_)
  · obtain ⟨q, e1, e2, rfl, e3⟩ := hx9
    have e3 := e3.symm
    subst e3
    have hq : q = 3 := by
      have e1 := e1.symm
      subst e1
      unfold reX at e2 ⊢
      (repeat' split) <;> first | (exfalso; omega) | omega
    subst hq
    refine x_catch F FR.2.2 [] ⟨0, 8, 11, 17⟩ [] rfl (fun z hz => by cases hz) rfl (by decide) cl17 ct3 (fun q9 => ?_)
    refine x_astore_nQ F dL_restore_11 (by decide) ?_
    refine xj_iconst F dL_restore_12 ?_
    exact x_iretH F FR dL_restore_13 rfl (Nat.le_of_ble_eq_true rfl) (Nat.le_of_ble_eq_true rfl) ⟨fun z => absurd (e1.symm.trans z) (by decide), fun _ => ⟨by first | rfl | (rw [e1]; rfl), rfl⟩⟩
  · obtain ⟨rfl, hq, hX⟩ := q9
    have hq := hq.symm
    subst hq
    refine x_i2l F dL_restore_6 ?_
    refine x_last F rfl dL_restore_7 (jI_in (z := 0) ⟨by decide, by decide⟩ (by decide)) ?_
    refine x_goto (tgt := 14) F dL_restore_8 (by decide) ?_
    refine xj_iconst F dL_restore_14 ?_
    exact x_iretH F FR dL_restore_15 rfl (Nat.le_of_ble_eq_true rfl) (Nat.le_of_ble_eq_true rfl) ⟨fun _ => ⟨rfl, _, rfl, rfl⟩, fun z => absurd hX z⟩
def hhL_singer : List (Nat × Nat × Nat × Nat) := [(0, 12, 15, 13), (0, 12, 19, 15)]
theorem mhL_singer : xMH yL_singer cL_singer 6 (some FieldType.int) hhL_singer 5 := ⟨⟨LW_of 85 (by decide +kernel) (by decide +kernel), by decide, by decide, by decide +kernel⟩, LW_of 998 (by decide +kernel) (by decide +kernel), LW_of 997 (by decide +kernel) (by decide +kernel)⟩
set_option maxRecDepth 20000 in
theorem h_L_singer {l : Launch} {E : xE} (hl : l.stackTraces = false) {r p z : Int} {M : xM} (hO : okC M 1) (hT : okT M) (hr : rg r) (hp : rg p) (hz : rg z) : XH l E 22 6 36 yL_singer cL_singer 6 (some FieldType.int) hhL_singer [vA 0, vI (jI r), vI (jI p), vI (jI z), vA 79] M (fun r' M' => (siX M r p z = 0 → r' = vI (jI 0) ∧ ∃ M1, qX M M1 ∧ M' = upL M1 79 0 ((jI (osI M 1 r p z))).toInt64) ∧ (siX M r p z ≠ 0 → r' = vI (jI (if siX M r p z = 1 then 1 else (if siX M r p z = 2 then 2 else 3))) ∧ M' = M)) := by
  refine xh_start (by decide) rfl (Nat.le_of_ble_eq_true rfl) ?_
  intro Y F FR hN
  refine x_aload F dL_singer_0 rfl ?_
  refine xj_iconst F dL_singer_2 ?_
  refine x_aload_n F dL_singer_3 rfl ?_
  refine x_iload_n F dL_singer_4 rfl ?_
  refine x_iload_n F dL_singer_5 rfl ?_
  refine x_iload_n F dL_singer_6 rfl ?_
  refine x_callVT (As := [_, _, _]) F (m_X6_singer hl hO hT hr hp hz) mlL_59 mvX6_singer rfl (by decide) rfl ⟨Nat.le_of_ble_eq_true rfl, Nat.le_of_ble_eq_true rfl⟩ ⟨Nat.le_of_ble_eq_true rfl, Nat.le_of_ble_eq_true rfl⟩ (Nat.le_of_ble_eq_true rfl) rfl dL_singer_7 (fun C9 M9 hx9 => ?_) (fun r9 M9 q9 => ?_)
  · obtain ⟨q, e1, e2, rfl, e3⟩ := hx9
    have e3 := e3.symm
    subst e3
    have hq : q = 1 ∨ q = 2 := by
      have e1 := e1.symm
      subst e1
      unfold siX at e2 ⊢
      (repeat' split) <;> first | (exfalso; omega) | omega
    rcases hq with rfl | rfl
    · refine x_catch F FR.2.2 [] ⟨0, 12, 15, 13⟩ [⟨0, 12, 19, 15⟩] rfl (fun z hz => by cases hz) rfl (by decide) cl13 ct1 (fun q9 => ?_)
      refine x_astoreQ F dL_singer_15 (by decide) ?_
      refine xj_iconst F dL_singer_17 ?_
      exact x_iretH F FR dL_singer_18 rfl (Nat.le_of_ble_eq_true rfl) (Nat.le_of_ble_eq_true rfl) ⟨fun z => absurd (e1.symm.trans z) (by decide), fun _ => ⟨by first | rfl | (rw [e1]; rfl), rfl⟩⟩
    · refine x_catch F FR.2.2 [⟨0, 12, 15, 13⟩] ⟨0, 12, 19, 15⟩ [] rfl (fun z hz => by
        rcases List.mem_cons.mp hz with rfl | hz
        · exact Or.inr ⟨by decide, _, cl13, hN.1⟩
        · cases hz) rfl (by decide) cl15 ct2 (fun q9 => ?_)
      refine x_astoreQ F dL_singer_19 (by decide) ?_
      refine xj_iconst F dL_singer_21 ?_
      exact x_iretH F FR dL_singer_22 rfl (Nat.le_of_ble_eq_true rfl) (Nat.le_of_ble_eq_true rfl) ⟨fun z => absurd (e1.symm.trans z) (by decide), fun _ => ⟨by first | rfl | (rw [e1]; rfl), rfl⟩⟩
  · obtain ⟨rfl, hq, hX⟩ := q9
    refine x_i2l F dL_singer_10 ?_
    refine x_last F rfl dL_singer_11 (jI_in (z := 0) ⟨by decide, by decide⟩ (by decide)) ?_
    refine x_goto (tgt := 23) F dL_singer_12 (by decide) ?_
    refine xj_iconst F dL_singer_23 ?_
    exact x_iretH F FR dL_singer_24 rfl (Nat.le_of_ble_eq_true rfl) (Nat.le_of_ble_eq_true rfl) ⟨fun _ => ⟨rfl, _, hq, rfl⟩, fun z => absurd hX z⟩
def hhL_row : List (Nat × Nat × Nat × Nat) := [(0, 10, 13, 13), (0, 10, 17, 15)]
theorem mhL_row : xMH yL_row cL_row 5 (some FieldType.int) hhL_row 4 := ⟨⟨LW_of 85 (by decide +kernel) (by decide +kernel), by decide, by decide, by decide +kernel⟩, LW_of 1005 (by decide +kernel) (by decide +kernel), LW_of 1004 (by decide +kernel) (by decide +kernel)⟩
set_option maxRecDepth 20000 in
theorem h_L_row {l : Launch} {E : xE} (hl : l.stackTraces = false) {r z : Int} {M : xM} (hO : okC M 1) (hr : rg r) (hz : rg z) : XH l E 22 6 36 yL_row cL_row 5 (some FieldType.int) hhL_row [vA 0, vI (jI r), vI (jI z), vA 79] M (fun r' M' => (rwX r 0 6 z = 0 → r' = vI (jI 0) ∧ ∃ M1, qX M M1 ∧ M' = upL M1 79 0 ((jI (owI M 1 r z))).toInt64) ∧ (rwX r 0 6 z ≠ 0 → r' = vI (jI (if rwX r 0 6 z = 1 then 1 else (if rwX r 0 6 z = 2 then 2 else 3))) ∧ M' = M)) := by
  refine xh_start (by decide) rfl (Nat.le_of_ble_eq_true rfl) ?_
  intro Y F FR hN
  refine x_aload_n F dL_row_0 rfl ?_
  refine xj_iconst F dL_row_1 ?_
  refine x_aload_n F dL_row_2 rfl ?_
  refine x_iload_n F dL_row_3 rfl ?_
  refine x_iload_n F dL_row_4 rfl ?_
  refine x_callVT (As := [_, _]) F (m_X6_row hl hO hr hz) mlL_62 mvX6_row rfl (by decide) rfl ⟨Nat.le_of_ble_eq_true rfl, Nat.le_of_ble_eq_true rfl⟩ ⟨Nat.le_of_ble_eq_true rfl, Nat.le_of_ble_eq_true rfl⟩ (Nat.le_of_ble_eq_true rfl) rfl dL_row_5 (fun C9 M9 hx9 => ?_) (fun r9 M9 q9 => ?_)
  · obtain ⟨q, e1, e2, rfl, e3⟩ := hx9
    have e3 := e3.symm
    subst e3
    have hq : q = 1 ∨ q = 2 := by
      have e1 := e1.symm
      subst e1
      unfold rwX at e2 ⊢
      (repeat' split) <;> first | (exfalso; omega) | omega
    rcases hq with rfl | rfl
    · refine x_catch F FR.2.2 [] ⟨0, 10, 13, 13⟩ [⟨0, 10, 17, 15⟩] rfl (fun z hz => by cases hz) rfl (by decide) cl13 ct1 (fun q9 => ?_)
      refine x_astoreQ F dL_row_13 (by decide) ?_
      refine xj_iconst F dL_row_15 ?_
      exact x_iretH F FR dL_row_16 rfl (Nat.le_of_ble_eq_true rfl) (Nat.le_of_ble_eq_true rfl) ⟨fun z => absurd (e1.symm.trans z) (by decide), fun _ => ⟨by first | rfl | (rw [e1]; rfl), rfl⟩⟩
    · refine x_catch F FR.2.2 [⟨0, 10, 13, 13⟩] ⟨0, 10, 17, 15⟩ [] rfl (fun z hz => by
        rcases List.mem_cons.mp hz with rfl | hz
        · exact Or.inr ⟨by decide, _, cl13, hN.1⟩
        · cases hz) rfl (by decide) cl15 ct2 (fun q9 => ?_)
      refine x_astoreQ F dL_row_17 (by decide) ?_
      refine xj_iconst F dL_row_19 ?_
      exact x_iretH F FR dL_row_20 rfl (Nat.le_of_ble_eq_true rfl) (Nat.le_of_ble_eq_true rfl) ⟨fun z => absurd (e1.symm.trans z) (by decide), fun _ => ⟨by first | rfl | (rw [e1]; rfl), rfl⟩⟩
  · obtain ⟨rfl, hq, hX⟩ := q9
    refine x_i2l F dL_row_8 ?_
    refine x_last F rfl dL_row_9 (jI_in (z := 0) ⟨by decide, by decide⟩ (by decide)) ?_
    refine x_goto (tgt := 21) F dL_row_10 (by decide) ?_
    refine xj_iconst F dL_row_21 ?_
    exact x_iretH F FR dL_row_22 rfl (Nat.le_of_ble_eq_true rfl) (Nat.le_of_ble_eq_true rfl) ⟨fun _ => ⟨rfl, _, hq, rfl⟩, fun z => absurd hX z⟩
def hhL_find : List (Nat × Nat × Nat × Nat) := [(0, 9, 12, 15)]
theorem mhL_find : xMH yL_find cL_find 4 (some FieldType.int) hhL_find 3 := ⟨⟨LW_of 85 (by decide +kernel) (by decide +kernel), by decide, by decide, by decide +kernel⟩, LW_of 1012 (by decide +kernel) (by decide +kernel), LW_of 1011 (by decide +kernel) (by decide +kernel)⟩
set_option maxRecDepth 20000 in
theorem h_L_find {l : Launch} {E : xE} (hl : l.stackTraces = false) {x : Int} {M : xM} (hO : okC M 1) (hx : rg x) : XH l E 22 6 36 yL_find cL_find 4 (some FieldType.int) hhL_find [vA 0, vI (jI x), vA 79] M (fun r' M' => (fiX x = 0 → r' = vI (jI 0) ∧ ∃ M1, M1 = M ∧ M' = upL M1 79 0 ((jI (fnR M 1 x 0 4))).toInt64) ∧ (fiX x ≠ 0 → r' = vI (jI 1) ∧ M' = M)) := by
  refine xh_start (by decide) rfl (Nat.le_of_ble_eq_true rfl) ?_
  intro Y F FR hN
  refine x_aload_n F dL_find_0 rfl ?_
  refine xj_iconst F dL_find_1 ?_
  refine x_aload_n F dL_find_2 rfl ?_
  refine x_iload_n F dL_find_3 rfl ?_
  refine x_callVT (As := [_]) F (m_X6_find hl hO hx) mlL_65 mvX6_find rfl (by decide) rfl ⟨Nat.le_of_ble_eq_true rfl, Nat.le_of_ble_eq_true rfl⟩ ⟨Nat.le_of_ble_eq_true rfl, Nat.le_of_ble_eq_true rfl⟩ (Nat.le_of_ble_eq_true rfl) rfl dL_find_4 (fun C9 M9 hx9 => ?_) (fun r9 M9 q9 => ?_)
  · obtain ⟨q, e1, e2, rfl, e3⟩ := hx9
    have e3 := e3.symm
    subst e3
    have hq : q = 2 := by
      have e1 := e1.symm
      subst e1
      unfold fiX at e2 ⊢
      (repeat' split) <;> first | (exfalso; omega) | omega
    subst hq
    refine x_catch F FR.2.2 [] ⟨0, 9, 12, 15⟩ [] rfl (fun z hz => by cases hz) rfl (by decide) cl15 ct2 (fun q9 => ?_)
    refine x_astore_nQ F dL_find_12 (by decide) ?_
    refine xj_iconst F dL_find_13 ?_
    exact x_iretH F FR dL_find_14 rfl (Nat.le_of_ble_eq_true rfl) (Nat.le_of_ble_eq_true rfl) ⟨fun z => absurd (e1.symm.trans z) (by decide), fun _ => ⟨by first | rfl | (rw [e1]; rfl), rfl⟩⟩
  · obtain ⟨rfl, hq, hX⟩ := q9
    have hq := hq.symm
    subst hq
    refine x_i2l F dL_find_7 ?_
    refine x_last F rfl dL_find_8 (jI_in (z := 0) ⟨by decide, by decide⟩ (by decide)) ?_
    refine x_goto (tgt := 15) F dL_find_9 (by decide) ?_
    refine xj_iconst F dL_find_15 ?_
    exact x_iretH F FR dL_find_16 rfl (Nat.le_of_ble_eq_true rfl) (Nat.le_of_ble_eq_true rfl) ⟨fun _ => ⟨rfl, _, rfl, rfl⟩, fun z => absurd hX z⟩
def hhL_count : List (Nat × Nat × Nat × Nat) := [(0, 9, 12, 15)]
theorem mhL_count : xMH yL_count cL_count 4 (some FieldType.int) hhL_count 3 := ⟨⟨LW_of 85 (by decide +kernel) (by decide +kernel), by decide, by decide, by decide +kernel⟩, LW_of 1023 (by decide +kernel) (by decide +kernel), LW_of 1022 (by decide +kernel) (by decide +kernel)⟩
set_option maxRecDepth 20000 in
theorem h_L_count {l : Launch} {E : xE} (hl : l.stackTraces = false) {z : Int} {M : xM} (hO : okC M 1) (hz : rg z) : XH l E 22 6 36 yL_count cL_count 4 (some FieldType.int) hhL_count [vA 0, vI (jI z), vA 79] M (fun r' M' => (bwX 0 8 z = 0 → r' = vI (jI 0) ∧ ∃ M1, M1 = M ∧ M' = upL M1 79 0 ((jI (ohI M z))).toInt64) ∧ (bwX 0 8 z ≠ 0 → r' = vI (jI 1) ∧ M' = M)) := by
  refine xh_start (by decide) rfl (Nat.le_of_ble_eq_true rfl) ?_
  intro Y F FR hN
  refine x_aload_n F dL_count_0 rfl ?_
  refine xj_iconst F dL_count_1 ?_
  refine x_aload_n F dL_count_2 rfl ?_
  refine x_iload_n F dL_count_3 rfl ?_
  refine x_callVT (As := [_]) F (m_X6_count hl hO hz) mlL_68 mvX6_count rfl (by decide) rfl ⟨Nat.le_of_ble_eq_true rfl, Nat.le_of_ble_eq_true rfl⟩ ⟨Nat.le_of_ble_eq_true rfl, Nat.le_of_ble_eq_true rfl⟩ (Nat.le_of_ble_eq_true rfl) rfl dL_count_4 (fun C9 M9 hx9 => ?_) (fun r9 M9 q9 => ?_)
  · obtain ⟨q, e1, e2, rfl, e3⟩ := hx9
    have e3 := e3.symm
    subst e3
    have hq : q = 2 := by
      have e1 := e1.symm
      subst e1
      unfold bwX at e2 ⊢
      (repeat' split) <;> first | (exfalso; omega) | omega
    subst hq
    refine x_catch F FR.2.2 [] ⟨0, 9, 12, 15⟩ [] rfl (fun z hz => by cases hz) rfl (by decide) cl15 ct2 (fun q9 => ?_)
    refine x_astore_nQ F dL_count_12 (by decide) ?_
    refine xj_iconst F dL_count_13 ?_
    exact x_iretH F FR dL_count_14 rfl (Nat.le_of_ble_eq_true rfl) (Nat.le_of_ble_eq_true rfl) ⟨fun z => absurd (e1.symm.trans z) (by decide), fun _ => ⟨by first | rfl | (rw [e1]; rfl), rfl⟩⟩
  · obtain ⟨rfl, hq, hX⟩ := q9
    have hq := hq.symm
    subst hq
    refine x_i2l F dL_count_7 ?_
    refine x_last F rfl dL_count_8 (jI_in (z := 0) ⟨by decide, by decide⟩ (by decide)) ?_
    refine x_goto (tgt := 15) F dL_count_9 (by decide) ?_
    refine xj_iconst F dL_count_15 ?_
    exact x_iretH F FR dL_count_16 rfl (Nat.le_of_ble_eq_true rfl) (Nat.le_of_ble_eq_true rfl) ⟨fun _ => ⟨rfl, _, rfl, rfl⟩, fun z => absurd hX z⟩
def hhL_ifSwapped : List (Nat × Nat × Nat × Nat) := [(0, 14, 17, 13)]
theorem mhL_ifSwapped : xMH yL_ifSwapped cL_ifSwapped 7 (some FieldType.int) hhL_ifSwapped 6 := ⟨⟨LW_of 85 (by decide +kernel) (by decide +kernel), by decide, by decide, by decide +kernel⟩, LW_of 1030 (by decide +kernel) (by decide +kernel), LW_of 1029 (by decide +kernel) (by decide +kernel)⟩
set_option maxRecDepth 20000 in
theorem h_L_ifSwapped {l : Launch} {E : xE} (hl : l.stackTraces = false) {r p r2 p2 : Int} {M : xM} (hO : okC M 1) (hr : rg r) (hp : rg p) (hr2 : rg r2) (hp2 : rg p2) : XH l E 22 6 36 yL_ifSwapped cL_ifSwapped 7 (some FieldType.int) hhL_ifSwapped [vA 0, vI (jI r), vI (jI p), vI (jI r2), vI (jI p2), vA 79] M (fun r' M' => (swX M r p r2 p2 = 0 → r' = vI (jI 0) ∧ ∃ M1, qX M M1 ∧ M' = upL M1 79 0 ((jI (oaI (swP M 1 (spI r p) (spI r2 p2)) 1))).toInt64) ∧ (swX M r p r2 p2 ≠ 0 → r' = vI (jI 1) ∧ M' = M)) := by
  refine xh_start (by decide) rfl (Nat.le_of_ble_eq_true rfl) ?_
  intro Y F FR hN
  refine x_aload F dL_ifSwapped_0 rfl ?_
  refine xj_iconst F dL_ifSwapped_2 ?_
  refine x_aload_n F dL_ifSwapped_3 rfl ?_
  refine x_iload_n F dL_ifSwapped_4 rfl ?_
  refine x_iload_n F dL_ifSwapped_5 rfl ?_
  refine x_iload_n F dL_ifSwapped_6 rfl ?_
  refine x_iload F dL_ifSwapped_7 rfl ?_
  refine x_callVT (As := [_, _, _, _]) F (m_X6_ifSwapped hl hO hr hp hr2 hp2) mlL_71 mvX6_ifSwapped rfl (by decide) rfl ⟨Nat.le_of_ble_eq_true rfl, Nat.le_of_ble_eq_true rfl⟩ ⟨Nat.le_of_ble_eq_true rfl, Nat.le_of_ble_eq_true rfl⟩ (Nat.le_of_ble_eq_true rfl) rfl dL_ifSwapped_9 (fun C9 M9 hx9 => ?_) (fun r9 M9 q9 => ?_)
  · obtain ⟨q, e1, e2, rfl, e3⟩ := hx9
    have e3 := e3.symm
    subst e3
    have hq : q = 1 := by
      have e1 := e1.symm
      subst e1
      unfold swX at e2 ⊢
      (repeat' split) <;> first | (exfalso; omega) | omega
    subst hq
    refine x_catch F FR.2.2 [] ⟨0, 14, 17, 13⟩ [] rfl (fun z hz => by cases hz) rfl (by decide) cl13 ct1 (fun q9 => ?_)
    refine x_astoreQ F dL_ifSwapped_17 (by decide) ?_
    refine xj_iconst F dL_ifSwapped_19 ?_
    exact x_iretH F FR dL_ifSwapped_20 rfl (Nat.le_of_ble_eq_true rfl) (Nat.le_of_ble_eq_true rfl) ⟨fun z => absurd (e1.symm.trans z) (by decide), fun _ => ⟨by first | rfl | (rw [e1]; rfl), rfl⟩⟩
  · obtain ⟨rfl, hq, hX⟩ := q9
    refine x_i2l F dL_ifSwapped_12 ?_
    refine x_last F rfl dL_ifSwapped_13 (jI_in (z := 0) ⟨by decide, by decide⟩ (by decide)) ?_
    refine x_goto (tgt := 21) F dL_ifSwapped_14 (by decide) ?_
    refine xj_iconst F dL_ifSwapped_21 ?_
    exact x_iretH F FR dL_ifSwapped_22 rfl (Nat.le_of_ble_eq_true rfl) (Nat.le_of_ble_eq_true rfl) ⟨fun _ => ⟨rfl, _, hq, rfl⟩, fun z => absurd hX z⟩
def hhL_bestSwap : List (Nat × Nat × Nat × Nat) := [(0, 9, 12, 13)]
theorem mhL_bestSwap : xMH yL_bestSwap cL_bestSwap 4 (some FieldType.int) hhL_bestSwap 3 := ⟨⟨LW_of 85 (by decide +kernel) (by decide +kernel), by decide, by decide, by decide +kernel⟩, LW_of 1037 (by decide +kernel) (by decide +kernel), LW_of 1036 (by decide +kernel) (by decide +kernel)⟩
set_option maxRecDepth 20000 in
theorem h_L_bestSwap {l : Launch} {E : xE} (hl : l.stackTraces = false) {r : Int} {M : xM} (hO : okC M 1) (hr : rg r) : XH l E 22 6 36 yL_bestSwap cL_bestSwap 4 (some FieldType.int) hhL_bestSwap [vA 0, vI (jI r), vA 79] M (fun r' M' => (roX r = 0 → r' = vI (jI 0) ∧ ∃ M1, qX M M1 ∧ M' = upL M1 79 0 ((jI (bpI M r))).toInt64) ∧ (roX r ≠ 0 → r' = vI (jI 1) ∧ M' = M)) := by
  refine xh_start (by decide) rfl (Nat.le_of_ble_eq_true rfl) ?_
  intro Y F FR hN
  refine x_aload_n F dL_bestSwap_0 rfl ?_
  refine xj_iconst F dL_bestSwap_1 ?_
  refine x_aload_n F dL_bestSwap_2 rfl ?_
  refine x_iload_n F dL_bestSwap_3 rfl ?_
  refine x_callVT (As := [_]) F (m_X6_bestSwap hl hO hr) mlL_74 mvX6_bestSwap rfl (by decide) rfl ⟨Nat.le_of_ble_eq_true rfl, Nat.le_of_ble_eq_true rfl⟩ ⟨Nat.le_of_ble_eq_true rfl, Nat.le_of_ble_eq_true rfl⟩ (Nat.le_of_ble_eq_true rfl) rfl dL_bestSwap_4 (fun C9 M9 hx9 => ?_) (fun r9 M9 q9 => ?_)
  · obtain ⟨q, e1, e2, rfl, e3⟩ := hx9
    have e3 := e3.symm
    subst e3
    have hq : q = 1 := by
      have e1 := e1.symm
      subst e1
      unfold roX at e2 ⊢
      (repeat' split) <;> first | (exfalso; omega) | omega
    subst hq
    refine x_catch F FR.2.2 [] ⟨0, 9, 12, 13⟩ [] rfl (fun z hz => by cases hz) rfl (by decide) cl13 ct1 (fun q9 => ?_)
    refine x_astore_nQ F dL_bestSwap_12 (by decide) ?_
    refine xj_iconst F dL_bestSwap_13 ?_
    exact x_iretH F FR dL_bestSwap_14 rfl (Nat.le_of_ble_eq_true rfl) (Nat.le_of_ble_eq_true rfl) ⟨fun z => absurd (e1.symm.trans z) (by decide), fun _ => ⟨by first | rfl | (rw [e1]; rfl), rfl⟩⟩
  · obtain ⟨rfl, hq, hX⟩ := q9
    refine x_i2l F dL_bestSwap_7 ?_
    refine x_last F rfl dL_bestSwap_8 (jI_in (z := 0) ⟨by decide, by decide⟩ (by decide)) ?_
    refine x_goto (tgt := 15) F dL_bestSwap_9 (by decide) ?_
    refine xj_iconst F dL_bestSwap_15 ?_
    exact x_iretH F FR dL_bestSwap_16 rfl (Nat.le_of_ble_eq_true rfl) (Nat.le_of_ble_eq_true rfl) ⟨fun _ => ⟨rfl, _, hq, rfl⟩, fun z => absurd hX z⟩
def hhL_bestRow : List (Nat × Nat × Nat × Nat) := [(0, 9, 12, 15)]
theorem mhL_bestRow : xMH yL_bestRow cL_bestRow 4 (some FieldType.int) hhL_bestRow 3 := ⟨⟨LW_of 85 (by decide +kernel) (by decide +kernel), by decide, by decide, by decide +kernel⟩, LW_of 1044 (by decide +kernel) (by decide +kernel), LW_of 1043 (by decide +kernel) (by decide +kernel)⟩
set_option maxRecDepth 20000 in
theorem h_L_bestRow {l : Launch} {E : xE} (hl : l.stackTraces = false) {x : Int} {M : xM} (hO : okC M 1) (hx : rg x) : XH l E 22 6 36 yL_bestRow cL_bestRow 4 (some FieldType.int) hhL_bestRow [vA 0, vI (jI x), vA 79] M (fun r' M' => (hgX x = 0 → r' = vI (jI 0) ∧ ∃ M1, qX M M1 ∧ M' = upL M1 79 0 ((jI (brF M x 4).2)).toInt64) ∧ (hgX x ≠ 0 → r' = vI (jI 1) ∧ M' = M)) := by
  refine xh_start (by decide) rfl (Nat.le_of_ble_eq_true rfl) ?_
  intro Y F FR hN
  refine x_aload_n F dL_bestRow_0 rfl ?_
  refine xj_iconst F dL_bestRow_1 ?_
  refine x_aload_n F dL_bestRow_2 rfl ?_
  refine x_iload_n F dL_bestRow_3 rfl ?_
  refine x_callVT (As := [_]) F (m_X6_bestRow hl hO hx) mlL_77 mvX6_bestRow rfl (by decide) rfl ⟨Nat.le_of_ble_eq_true rfl, Nat.le_of_ble_eq_true rfl⟩ ⟨Nat.le_of_ble_eq_true rfl, Nat.le_of_ble_eq_true rfl⟩ (Nat.le_of_ble_eq_true rfl) rfl dL_bestRow_4 (fun C9 M9 hx9 => ?_) (fun r9 M9 q9 => ?_)
  · obtain ⟨q, e1, e2, rfl, e3⟩ := hx9
    have e3 := e3.symm
    subst e3
    have hq : q = 2 := by
      have e1 := e1.symm
      subst e1
      unfold hgX at e2 ⊢
      (repeat' split) <;> first | (exfalso; omega) | omega
    subst hq
    refine x_catch F FR.2.2 [] ⟨0, 9, 12, 15⟩ [] rfl (fun z hz => by cases hz) rfl (by decide) cl15 ct2 (fun q9 => ?_)
    refine x_astore_nQ F dL_bestRow_12 (by decide) ?_
    refine xj_iconst F dL_bestRow_13 ?_
    exact x_iretH F FR dL_bestRow_14 rfl (Nat.le_of_ble_eq_true rfl) (Nat.le_of_ble_eq_true rfl) ⟨fun z => absurd (e1.symm.trans z) (by decide), fun _ => ⟨by first | rfl | (rw [e1]; rfl), rfl⟩⟩
  · obtain ⟨rfl, hq, hX⟩ := q9
    refine x_i2l F dL_bestRow_7 ?_
    refine x_last F rfl dL_bestRow_8 (jI_in (z := 0) ⟨by decide, by decide⟩ (by decide)) ?_
    refine x_goto (tgt := 15) F dL_bestRow_9 (by decide) ?_
    refine xj_iconst F dL_bestRow_15 ?_
    exact x_iretH F FR dL_bestRow_16 rfl (Nat.le_of_ble_eq_true rfl) (Nat.le_of_ble_eq_true rfl) ⟨fun _ => ⟨rfl, _, hq, rfl⟩, fun z => absurd hX z⟩
def hhL_ifReach : List (Nat × Nat × Nat × Nat) := [(0, 9, 12, 15)]
theorem mhL_ifReach : xMH yL_ifReach cL_ifReach 4 (some FieldType.int) hhL_ifReach 3 := ⟨⟨LW_of 85 (by decide +kernel) (by decide +kernel), by decide, by decide, by decide +kernel⟩, LW_of 1051 (by decide +kernel) (by decide +kernel), LW_of 1050 (by decide +kernel) (by decide +kernel)⟩
set_option maxRecDepth 20000 in
theorem h_L_ifReach {l : Launch} {E : xE} (hl : l.stackTraces = false) {z : Int} {M : xM} (hO : okC M 1) (hz : rg z) : XH l E 22 6 36 yL_ifReach cL_ifReach 4 (some FieldType.int) hhL_ifReach [vA 0, vI (jI z), vA 79] M (fun r' M' => (bwX 1 6 z = 0 → r' = vI (jI 0) ∧ ∃ M1, qX M M1 ∧ M' = upL M1 79 0 ((jI (orI M z))).toInt64) ∧ (bwX 1 6 z ≠ 0 → r' = vI (jI 1) ∧ M' = M)) := by
  refine xh_start (by decide) rfl (Nat.le_of_ble_eq_true rfl) ?_
  intro Y F FR hN
  refine x_aload_n F dL_ifReach_0 rfl ?_
  refine xj_iconst F dL_ifReach_1 ?_
  refine x_aload_n F dL_ifReach_2 rfl ?_
  refine x_iload_n F dL_ifReach_3 rfl ?_
  refine x_callVT (As := [_]) F (m_X6_ifReach hl hO hz) mlL_80 mvX6_ifReach rfl (by decide) rfl ⟨Nat.le_of_ble_eq_true rfl, Nat.le_of_ble_eq_true rfl⟩ ⟨Nat.le_of_ble_eq_true rfl, Nat.le_of_ble_eq_true rfl⟩ (Nat.le_of_ble_eq_true rfl) rfl dL_ifReach_4 (fun C9 M9 hx9 => ?_) (fun r9 M9 q9 => ?_)
  · obtain ⟨q, e1, e2, rfl, e3⟩ := hx9
    have e3 := e3.symm
    subst e3
    have hq : q = 2 := by
      have e1 := e1.symm
      subst e1
      unfold bwX at e2 ⊢
      (repeat' split) <;> first | (exfalso; omega) | omega
    subst hq
    refine x_catch F FR.2.2 [] ⟨0, 9, 12, 15⟩ [] rfl (fun z hz => by cases hz) rfl (by decide) cl15 ct2 (fun q9 => ?_)
    refine x_astore_nQ F dL_ifReach_12 (by decide) ?_
    refine xj_iconst F dL_ifReach_13 ?_
    exact x_iretH F FR dL_ifReach_14 rfl (Nat.le_of_ble_eq_true rfl) (Nat.le_of_ble_eq_true rfl) ⟨fun z => absurd (e1.symm.trans z) (by decide), fun _ => ⟨by first | rfl | (rw [e1]; rfl), rfl⟩⟩
  · obtain ⟨rfl, hq, hX⟩ := q9
    refine x_i2l F dL_ifReach_7 ?_
    refine x_last F rfl dL_ifReach_8 (jI_in (z := 0) ⟨by decide, by decide⟩ (by decide)) ?_
    refine x_goto (tgt := 15) F dL_ifReach_9 (by decide) ?_
    refine xj_iconst F dL_ifReach_15 ?_
    exact x_iretH F FR dL_ifReach_16 rfl (Nat.le_of_ble_eq_true rfl) (Nat.le_of_ble_eq_true rfl) ⟨fun _ => ⟨rfl, _, hq, rfl⟩, fun z => absurd hX z⟩
