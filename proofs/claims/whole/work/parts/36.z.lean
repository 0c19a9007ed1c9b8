/-! THE MODEL: how many swaps an order takes -/
def oI (M : xM) (k : Int) : Int := (M.1 72 k.toNat).toInt
def soI (M : xM) (s : Int) : Int := sumI (fun p => sumI (fun q => b01 (decide (oI M p < oI M q))) p.toNat) s.toNat
set_option maxRecDepth 20000 in
theorem L_X7_swapsOf_12 {l : Launch} {E : xE} {s : Int} {M : xM} (hs : 0 ≤ s ∧ s ≤ 6) {m : Nat} (hm : (m : Int) < s) {Y : xY} (F : xFix E (xA E) Y cX7_swapsOf yX7_swapsOf.cls 5) (FR : xRet E Y (some FieldType.int) 0 0 (fun r' M'' => r' = vI (jI (soI M s)) ∧ M'' = M) (fun _ _ => False)) : ∀ (k : Nat) (n : Nat), n ≤ m → (∀ (w : xV), WP l E (xRm 2 0 0) (xA E) Y 0 0 48 [vA 68, vI (jI s), vI (jI (sumI (fun p => sumI (fun q => b01 (decide (oI M p < oI M q))) p.toNat) m + sumI (fun q => b01 (decide (oI M (m : Int) < oI M q))) m)), vI (jI (m : Int)), w] [] M) → m - n < k → WP l E (xRm 2 0 0) (xA E) Y 0 0 12 [vA 68, vI (jI s), vI (jI (sumI (fun p => sumI (fun q => b01 (decide (oI M p < oI M q))) p.toNat) m + sumI (fun q => b01 (decide (oI M (m : Int) < oI M q))) n)), vI (jI (m : Int)), vI (jI (n : Int))] [] M := by
  intro k
  induction k with
  | zero => intro n hn hex hk; exact absurd hk (Nat.not_lt_zero _)
  | succ k ih =>
    intro n hn hex hk
    have em : (M.1 72 (m : Int).toNat).toInt = oI M m := rfl
    have en : (M.1 72 (n : Int).toNat).toInt = oI M n := rfl
    refine x_iload F dX7_swapsOf_12 rfl ?_
    refine x_iload_n F dX7_swapsOf_14 rfl ?_
    refine xj_icmp_ge (tgt := 48) F dX7_swapsOf_15 (by decide) (by omega) (fun h_1 => ?_) (fun h_1 => ?_)
    · have e : n = m := by omega
      subst e
      exact hex _
    · refine x_iload_n F dX7_swapsOf_18 rfl ?_
      refine x_aload_n F dX7_swapsOf_19 rfl ?_
      refine x_getc (v := 72) F flX7_19 rfl dX7_swapsOf_20 (by decide) (by decide) rfl rfl ?_
      refine x_iload F dX7_swapsOf_23 rfl ?_
      refine xj_lald2 F rfl dX7_swapsOf_25 (by omega) (fun hg_2 => ?_)
      refine x_aload_n F dX7_swapsOf_26 rfl ?_
      refine x_getc (v := 72) F flX7_19 rfl dX7_swapsOf_27 (by decide) (by decide) rfl rfl ?_
      refine x_iload_n F dX7_swapsOf_30 rfl ?_
      refine xj_lald2 F rfl dX7_swapsOf_31 (by omega) (fun hg_3 => ?_)
      refine xj_icmp_le (tgt := 39) F dX7_swapsOf_32 (by decide) (by omega) (fun h_4 => ?_) (fun h_4 => ?_)
      · have hst : sumI (fun q => b01 (decide (oI M (m : Int) < oI M q))) (n + 1) = sumI (fun q => b01 (decide (oI M (m : Int) < oI M q))) n + 0 := by show sumI (fun q => b01 (decide (oI M (m : Int) < oI M q))) n + b01 (decide (oI M (m : Int) < oI M (n : Int))) = _; rw [b01_f (fun z => absurd (of_decide_eq_true z) (by omega))]
        refine xj_iconst F dX7_swapsOf_39 ?_
        refine xj_iadd F dX7_swapsOf_40 ?_
        refine x_istore_n F dX7_swapsOf_41 (by decide) ?_
        refine xj_iinc F dX7_swapsOf_42 rfl ?_
        refine x_goto (tgt := 12) F dX7_swapsOf_45 (by decide) ?_
        have g := ih (n + 1) (by omega) hex (by omega)
        rw [hst, ← Int.add_assoc] at g
        exact g
      · have hst : sumI (fun q => b01 (decide (oI M (m : Int) < oI M q))) (n + 1) = sumI (fun q => b01 (decide (oI M (m : Int) < oI M q))) n + 1 := by show sumI (fun q => b01 (decide (oI M (m : Int) < oI M q))) n + b01 (decide (oI M (m : Int) < oI M (n : Int))) = _; rw [b01_t (decide_eq_true (by omega))]
        refine xj_iconst F dX7_swapsOf_35 ?_
        refine x_goto (tgt := 40) F dX7_swapsOf_36 (by decide) ?_
        refine xj_iadd F dX7_swapsOf_40 ?_
        refine x_istore_n F dX7_swapsOf_41 (by decide) ?_
        refine xj_iinc F dX7_swapsOf_42 rfl ?_
        refine x_goto (tgt := 12) F dX7_swapsOf_45 (by decide) ?_
        have g := ih (n + 1) (by omega) hex (by omega)
        rw [hst, ← Int.add_assoc] at g
        exact g
set_option maxRecDepth 20000 in
theorem L_X7_swapsOf {l : Launch} {E : xE} {s : Int} {M : xM} (hs : 0 ≤ s ∧ s ≤ 6) {Y : xY} (F : xFix E (xA E) Y cX7_swapsOf yX7_swapsOf.cls 5) (FR : xRet E Y (some FieldType.int) 0 0 (fun r' M'' => r' = vI (jI (soI M s)) ∧ M'' = M) (fun _ _ => False)) : ∀ (k : Nat) (m : Nat) (y : xV), (m : Int) ≤ s → (s - m).toNat < k → WP l E (xRm 2 0 0) (xA E) Y 0 0 4 [vA 68, vI (jI s), vI (jI (sumI (fun p => sumI (fun q => b01 (decide (oI M p < oI M q))) p.toNat) m)), vI (jI (m : Int)), y] [] M := by
  intro k
  induction k with
  | zero => intro m y hn hk; exact absurd hk (Nat.not_lt_zero _)
  | succ k ih =>
    intro m y hn hk
    refine x_iload_n F dX7_swapsOf_4 rfl ?_
    refine x_iload_n F dX7_swapsOf_5 rfl ?_
    refine xj_icmp_ge (tgt := 54) F dX7_swapsOf_6 (by decide) (by omega) (fun h_1 => ?_) (fun h_1 => ?_)
    · refine x_iload_n F dX7_swapsOf_54 rfl ?_
      refine x_iret F FR dX7_swapsOf_55 rfl (Nat.le_refl _) (Nat.le_refl _) ?_
      have e : m = s.toNat := by omega
      subst e
      exact ⟨rfl, rfl⟩
    · refine xj_iconst F dX7_swapsOf_9 ?_
      refine x_istore F dX7_swapsOf_10 (by decide) ?_
      refine L_X7_swapsOf_12 (l := l) hs (m := m) (by omega) F FR _ 0 (by omega) (fun w9 => ?_) (Nat.lt_succ_self _) |> fun g => ?_
      · simp only [sumI, Int.add_zero] at g
        exact g
      · refine xj_iinc F dX7_swapsOf_48 rfl ?_
        refine x_goto (tgt := 4) F dX7_swapsOf_51 (by decide) ?_
        exact ih (m + 1) w9 (by omega) (by omega)
set_option maxRecDepth 20000 in
theorem m_X7_swapsOf {l : Launch} {E : xE} {s : Int} {M : xM} (hs : 0 ≤ s ∧ s ≤ 6) : XF l E 2 yX7_swapsOf cX7_swapsOf 5 (some FieldType.int) [vA 68, vI (jI s)] M (vI (jI (soI M s))) (M) := by
  refine xp_start (plainFor_of_name (by decide)) rfl (Nat.le_of_ble_eq_true rfl) ?_
  intro Y F FR
  refine xj_iconst F dX7_swapsOf_0 ?_
  refine x_istore_n F dX7_swapsOf_1 (by decide) ?_
  refine xj_iconst F dX7_swapsOf_2 ?_
  refine x_istore_n F dX7_swapsOf_3 (by decide) ?_
  exact L_X7_swapsOf hs F FR _ 0 vU (by omega) (Nat.lt_succ_self _)
