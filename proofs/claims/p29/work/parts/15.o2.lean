theorem and_pow : ∀ u, u < 64 → ∀ w, w < 6 → ((u &&& 2 ^ w ≠ 0) ↔ (u.testBit w = true)) := by decide +kernel
theorem rg64 {n : Nat} (h : n < 64) : rg (n : Int) := by omega
def qB (q : Int × Int) : Prop := (-1 ≤ q.1 ∧ q.1 ≤ 6) ∧ (0 ≤ q.2 ∧ q.2 ≤ 36)
def chF (H B : Nat → Nat) (sz : Nat) (rc : Int) (d p used : Nat) (odd sw : Int) (pre : Nat → Nat) : Nat → Int × Int → Int × Int := fun who q => if used.testBit who = true then q else chA H B sz rc d (p + 1) (used ||| 2 ^ who) (odd + prF H B who p (hrd pre used ((p : Int) - rc).toNat)) (sw + ((pop (used >>> who) : Nat) : Int)) (fun i => if i = p then who else pre i) q
theorem chA_s (H B : Nat → Nat) (sz : Nat) (rc : Int) (d p used : Nat) (odd sw : Int) (pre : Nat → Nat) (q : Int × Int) : chA H B sz rc (d + 1) p used odd sw pre q = if odd + sz - p < q.1 ∨ (odd + sz - p = q.1 ∧ q.2 ≤ sw) then q else if sz ≤ p then (odd, sw) else itN (chF H B sz rc d p used odd sw pre) sz q := rfl
theorem prF_b (H B : Nat → Nat) (who p heard : Nat) : 0 ≤ prF H B who p heard ∧ prF H B who p heard ≤ 1 := by unfold prF; omega
theorem itN_inv {α : Type} {f : Nat → α → α} {P : α → Prop} (hf : ∀ n q, P q → P (f n q)) : ∀ (n : Nat) (q : α), P q → P (itN f n q)
  | 0, _, h => h
  | n + 1, q, h => hf n _ (itN_inv hf n q h)
theorem chA_b {H B : Nat → Nat} {sz : Nat} {rc : Int} (hs : sz ≤ 6) : ∀ (d p used : Nat) (odd sw : Int) (pre : Nat → Nat) (q : Int × Int), p ≤ sz ∨ d = 0 → p + d = sz + 1 → 0 ≤ odd ∧ odd ≤ p → 0 ≤ sw ∧ sw ≤ 6 * p → qB q → qB (chA H B sz rc d p used odd sw pre q) := by
  intro d
  induction d with
  | zero => intro p used odd sw pre q _ _ _ _ h; exact h
  | succ d ih =>
    intro p used odd sw pre q hp hd ho hw h
    rw [chA_s]
    split
    · exact h
    · split
      · refine ⟨⟨?_, ?_⟩, ?_, ?_⟩ <;> show _ ≤ _ <;> simp only [] <;> omega
      · refine itN_inv (fun who q hq => ?_) sz q h
        unfold chF
        split
        · exact hq
        · have h1 := prF_b H B who p (hrd pre used ((p : Int) - rc).toNat)
          have h2 := pop_le (used >>> who)
          exact ih _ _ _ _ _ _ (by omega) (by omega) (by omega) (by omega) hq
def chP (H B : Nat → Nat) (sz : Nat) (rc : Int) (p used : Nat) (odd sw : Int) (pre : Nat → Nat) (M : xM) (q : Int × Int) : Prop :=
  (p ≤ sz ∧ sz ≤ 6) ∧ used < 64 ∧ (0 ≤ odd ∧ odd ≤ p) ∧ (0 ≤ sw ∧ sw ≤ 6 * p) ∧ (M.1 64 3).toInt = (sz : Int) ∧ ((M.1 64 4).toInt = rc ∧ 1 ≤ rc ∧ rc ≤ 6) ∧ (∀ w, w < sz → ((M.1 65 w).toInt = ((H w : Nat) : Int) ∧ H w < 64) ∧ ((M.1 66 w).toInt = ((B w : Nat) : Int) ∧ B w < 64)) ∧ (∀ i, i < p → (M.1 67 i).toInt = ((2 ^ pre i : Nat) : Int) ∧ pre i < 6) ∧ ((M.1 64 5).toInt = q.1 ∧ (M.1 64 6).toInt = q.2) ∧ qB q
def chQ (p : Nat) (M M' : xM) (q' : Int × Int) : Prop :=
  (∀ a, a ≠ 64 → a ≠ 67 → M'.1 a = M.1 a) ∧ (∀ k, k ≠ 5 → k ≠ 6 → M'.1 64 k = M.1 64 k) ∧ (∀ i, i < p → M'.1 67 i = M.1 67 i) ∧ M'.2 = M.2 ∧ ((M'.1 64 5).toInt = q'.1 ∧ (M'.1 64 6).toInt = q'.2) ∧ qB q'
theorem chQ_trans {p : Nat} {M M1 M2 : xM} {q1 q2 : Int × Int} (h1 : chQ p M M1 q1) (h2 : chQ p M1 M2 q2) : chQ p M M2 q2 :=
  ⟨fun a x y => (h2.1 a x y).trans (h1.1 a x y), fun k x y => (h2.2.1 k x y).trans (h1.2.1 k x y), fun i x => (h2.2.2.1 i x).trans (h1.2.2.1 i x), h2.2.2.2.1.trans h1.2.2.2.1, h2.2.2.2.2⟩
theorem chP_keep {H B : Nat → Nat} {sz : Nat} {rc : Int} {p used : Nat} {odd sw : Int} {pre : Nat → Nat} {M M' : xM} {q q' : Int × Int} (h : chP H B sz rc p used odd sw pre M q) (hQ : chQ p M M' q') : chP H B sz rc p used odd sw pre M' q' := by
  obtain ⟨h1, h2, h3, h4, h5, h6, h7, h8, h9, h10⟩ := h
  obtain ⟨q1, q2, q3, q4, q5, q6⟩ := hQ
  refine ⟨h1, h2, h3, h4, by rw [q2 3 (by omega) (by omega)]; exact h5, by rw [q2 4 (by omega) (by omega)]; exact h6, fun w hw => ?_, fun i hi => ?_, q5, q6⟩
  · rw [q1 65 (by omega) (by omega), q1 66 (by omega) (by omega)]; exact h7 w hw
  · rw [q3 i hi]; exact h8 i hi
theorem chP_next {H B : Nat → Nat} {sz : Nat} {rc : Int} {p used : Nat} {odd sw : Int} {pre : Nat → Nat} {M : xM} {q : Int × Int} (h : chP H B sz rc p used odd sw pre M q) (hp : p < sz) {w hd : Nat} (hw : w < sz) :
    chP H B sz rc (p + 1) (used ||| 2 ^ w) (odd + prF H B w p hd) (sw + ((pop (used >>> w) : Nat) : Int)) (fun i => if i = p then w else pre i) (wrI M 67 6 (p : Int) (jI ((2 ^ w : Nat) : Int))) q := by
  obtain ⟨h1, h2, h3, h4, h5, h6, h7, h8, h9, h10⟩ := h
  have hr := prF_b H B w p hd
  have hpp := pop_le (used >>> w)
  have hw2 : 2 ^ w < 64 := lt64_pow (by omega)
  have e : ∀ b, b ≠ 67 → (wrI M 67 6 (p : Int) (jI ((2 ^ w : Nat) : Int))).1 b = M.1 b := fun b hb => wrI_row hb
  refine ⟨by omega, lt64_or h2 hw2, by omega, by omega, by rw [e 64 (by omega)]; exact h5, by rw [e 64 (by omega)]; exact h6, fun v hv => by rw [e 65 (by omega), e 66 (by omega)]; exact h7 v hv, fun i hi => ?_, by rw [e 64 (by omega)]; exact h9, h10⟩
  rw [wrI_1]
  by_cases hi2 : i = p
  · subst hi2
    dsimp only
    rw [if_pos ⟨rfl, by omega, rfl⟩, if_pos rfl, jI_toInt (rg64 hw2)]
    exact ⟨rfl, by omega⟩
  · dsimp only
    rw [if_neg (by omega), if_neg hi2]
    exact h8 i (by omega)
theorem chQ_back {p : Nat} {M M' : xM} {x : Int32} {q q' : Int × Int} (hq : chQ p M M q) (h : chQ (p + 1) (wrI M 67 6 (p : Int) x) M' q') : chQ p M M' q' := by
  obtain ⟨q1, q2, q3, q4, q5, q6⟩ := h
  refine ⟨fun a x y => (q1 a x y).trans (wrI_row y), fun k x y => (q2 k x y).trans (by rw [wrI_row (by omega)]), fun i hi => (q3 i (by omega)).trans (by rw [wrI_1, if_neg (by omega)]), q4.trans (wrI_2 _ _ _ _ _), q5, q6⟩
def chC (l : Launch) (E : xE) (H B : Nat → Nat) (sz : Nat) (rc : Int) (d : Nat) : Prop := ∀ (p used : Nat) (odd sw : Int) (pre : Nat → Nat) (M : xM) (q : Int × Int), chP H B sz rc p used odd sw pre M q → p + d = sz + 1 →
  XP l E (d + 2) yX5_choose cX5_choose 9 none [vA 64, vI (jI (p : Int)), vI (jI (used : Int)), vI (jI odd), vI (jI sw)] M (fun r M' => r = vU ∧ chQ p M M' (chA H B sz rc d p used odd sw pre q))
set_option maxRecDepth 20000 in
theorem L_X5_choose {l : Launch} {E : xE} {H B : Nat → Nat} {sz : Nat} {rc : Int} {d p used : Nat} {odd sw : Int} {pre : Nat → Nat} {M0 : xM} {q0 : Int × Int} (hrec : chC l E H B sz rc d) (hps : p < sz) (hpd : p + d = sz) {Y : xY} (F : xFix E (xA E) Y cX5_choose yX5_choose.cls 9) (FR : xRet E Y none 0 0 (fun r' M'' => r' = vU ∧ chQ p M0 M'' (itN (chF H B sz rc d p used odd sw pre) sz q0)) (fun _ _ => False)) : ∀ (k : Nat) (w : Nat) (M : xM) (qw : Int × Int) (x y : xV), w ≤ sz → qw = itN (chF H B sz rc d p used odd sw pre) w q0 → chQ p M0 M qw → chP H B sz rc p used odd sw pre M qw → sz - w < k → WP l E (xRm (d + 1 + 2) 0 0) (xA E) Y 0 0 49 [vA 64, vI (jI (p : Int)), vI (jI (used : Int)), vI (jI odd), vI (jI sw), vI (jI ((hrd pre used ((p : Int) - rc).toNat : Nat) : Int)), vI (jI (w : Int)), x, y] [] M := by
  intro k
  induction k with
  | zero => intro w M qw x y hw hqw hQ hP hk; exact absurd hk (Nat.not_lt_zero _)
  | succ k ih =>
    intro w M qw x y hw hqw hQ hP hk
    obtain ⟨h1, h2, h3, h4, h5, h6, h7, h8, h9, h10⟩ := id hP
    refine x_iload F dX5_choose_49 rfl ?_
    refine x_aload_n F dX5_choose_51 rfl ?_
    refine xj_geti F flX5_33 rfl dX5_choose_52 (by decide) (by decide) rfl (fun hg_1 => ?_)
    refine xj_icmp_ge (tgt := 123) F dX5_choose_55 (by decide) (by omega) (fun h_2 => ?_) (fun h_2 => ?_)
    · refine x_vret F FR dX5_choose_123 (Nat.le_refl _) (Nat.le_refl _) ?_
      have e : w = sz := by omega
      subst e
      exact ⟨rfl, by rw [← hqw]; exact hQ⟩
    · refine xj_iconst F dX5_choose_58 ?_
      refine x_iload F dX5_choose_59 rfl ?_
      refine x_ishl F dX5_choose_61 ?_
      rw [show jI 1 <<< (jI (w : Int) &&& 31) = jI ((1 * 2 ^ w : Nat) : Int) from bj_shl 1 (by decide) w (by omega), Nat.one_mul]
      refine x_istore F dX5_choose_62 (by decide) ?_
      refine x_iload_n F dX5_choose_64 rfl ?_
      refine x_iload F dX5_choose_65 rfl ?_
      refine x_iand F dX5_choose_67 ?_
      rw [bj_and]
      have hand := and_pow used h2 w (by omega)
      refine xj_if_ne (tgt := 117) F dX5_choose_68 (by decide) (by have : used &&& 2 ^ w ≤ used := Nat.and_le_left; omega) (fun h_3 => ?_) (fun h_3 => ?_)
      · have htb : used.testBit w = true := by cases hb : used.testBit w with | true => rfl | false => (have := hand.mp (by omega); rw [hb] at this; exact this)
        have hstep : itN (chF H B sz rc d p used odd sw pre) (w + 1) q0 = qw := by show chF H B sz rc d p used odd sw pre w _ = _; rw [← hqw]; unfold chF; rw [if_pos htb]
        have hQ9 := hQ
        have hP9 := hP
        refine xj_iinc F dX5_choose_117 rfl ?_
        refine x_goto (tgt := 49) F dX5_choose_120 (by decide) ?_
        exact ih (w + 1) _ _ _ _ (by omega) hstep.symm hQ9 hP9 (by omega)
      · have htb : used.testBit w = false := by cases hb : used.testBit w with | false => rfl | true => exact absurd (hand.mpr hb) (by omega)
        have hw64 : used >>> w < 64 := Nat.lt_of_le_of_lt (Nat.shiftRight_le _ _) h2
        have hhd := hrd_lt (pre := pre) h2 ((p : Int) - rc).toNat
        have hwp : 2 ^ w < 64 := lt64_pow (by omega)
        refine x_aload_n F dX5_choose_71 rfl ?_
        refine x_getc (v := 67) F flX5_18 rfl dX5_choose_72 (by decide) (by decide) rfl rfl ?_
        refine x_iload_n F dX5_choose_75 rfl ?_
        refine x_iload F dX5_choose_76 rfl ?_
        refine x_N3 F (m_X6_writeCell (N := 6) rfl (by decide) (by omega)) mnX5_64 msX6_writeCell dX5_choose_78 ⟨by show 1 + 1 ≤ d + 1 + 2; omega, by show 8 + (3 + 11) + 64 * (1) ≤ 64 * (d + 1 + 2); omega⟩ ⟨Nat.zero_le _, Nat.zero_le _⟩ (Nat.le_of_ble_eq_true rfl) ?_
        refine x_iload_n F dX5_choose_81 rfl ?_
        refine x_iload F dX5_choose_82 rfl ?_
        refine x_ishr F dX5_choose_84 ?_
        rw [bj_shr used h2 w (by omega)]
        refine x_S1 F (m_J6_bitCount_0f7a4 hw64) mlX5_75 msJ6_bitCount_0f7a4 dX5_choose_85 ⟨by show 1 + 1 ≤ d + 1 + 2; omega, by show 8 + (1 + 11) + 64 * (1) ≤ 64 * (d + 1 + 2); omega⟩ ⟨Nat.zero_le _, Nat.zero_le _⟩ (Nat.le_of_ble_eq_true rfl) ?_
        refine x_istore F dX5_choose_88 (by decide) ?_
        refine x_aload_n F dX5_choose_90 rfl ?_
        refine x_iload_n F dX5_choose_91 rfl ?_
        refine xj_iconst F dX5_choose_92 ?_
        refine xj_iadd F dX5_choose_93 ?_
        rw [show jI ((p : Int) + 1) = jI ((p + 1 : Nat) : Int) from rfl]
        refine x_iload_n F dX5_choose_94 rfl ?_
        refine x_iload F dX5_choose_95 rfl ?_
        refine x_ior F dX5_choose_97 ?_
        rw [bj_or]
        refine x_iload_n F dX5_choose_98 rfl ?_
        refine x_aload_n F dX5_choose_99 rfl ?_
        refine x_iload F dX5_choose_100 rfl ?_
        refine x_iload_n F dX5_choose_102 rfl ?_
        refine x_iload F dX5_choose_103 rfl ?_
        refine x_V3 F (m_X5_parityOf (H := H) (B := B) (by omega) (by omega) hhd (by rw [wrI_row (by omega)]; exact (h7 w (by omega)).1) (by rw [wrI_row (by omega)]; exact (h7 w (by omega)).2)) mlX5_80 mvX5_parityOf rfl dX5_choose_105 (by decide) rfl ⟨by show 2 + 1 ≤ d + 1 + 2; omega, by show 8 + (5 + 11) + 64 * (2) ≤ 64 * (d + 1 + 2); omega⟩ ⟨Nat.zero_le _, Nat.zero_le _⟩ (Nat.le_of_ble_eq_true rfl) ?_
        refine xj_iadd F dX5_choose_108 ?_
        refine x_iload F dX5_choose_109 rfl ?_
        refine x_iload F dX5_choose_111 rfl ?_
        refine xj_iadd F dX5_choose_113 ?_
        refine x_V4P F (hrec (p + 1) (used ||| 2 ^ w) _ _ (fun i => if i = p then w else pre i) _ qw (chP_next hP hps (by omega)) (by omega)) mlX5_53 mvX5_choose rfl dX5_choose_114 (by decide) rfl ⟨by show (d + 2) + 1 ≤ d + 1 + 2; omega, by show 8 + (9 + 11) + 64 * ((d + 2)) ≤ 64 * (d + 1 + 2); omega⟩ ⟨Nat.zero_le _, Nat.zero_le _⟩ (Nat.le_of_ble_eq_true rfl) (fun r9 M9 q9 => ?_)
        obtain ⟨rfl, q9⟩ := q9
        have hstep : itN (chF H B sz rc d p used odd sw pre) (w + 1) q0 = chA H B sz rc d (p + 1) (used ||| 2 ^ w) (odd + prF H B w p (hrd pre used ((p : Int) - rc).toNat)) (sw + ((pop (used >>> w) : Nat) : Int)) (fun i => if i = p then w else pre i) qw := by show chF H B sz rc d p used odd sw pre w _ = _; rw [← hqw]; unfold chF; rw [if_neg (by rw [htb]; decide)]
        have hself : chQ p M M qw := ⟨fun _ _ _ => rfl, fun _ _ _ => rfl, fun _ _ => rfl, rfl, h9, h10⟩
        have hQ9 := chQ_trans hQ (chQ_back hself q9)
        have hP9 := chP_keep hP (chQ_back hself q9)
        refine xj_iinc F dX5_choose_117 rfl ?_
        refine x_goto (tgt := 49) F dX5_choose_120 (by decide) ?_
        exact ih (w + 1) _ _ _ _ (by omega) hstep.symm hQ9 hP9 (by omega)
set_option maxRecDepth 20000 in
theorem m_X5_choose {l : Launch} {E : xE} (H B : Nat → Nat) (sz : Nat) (rc : Int) : ∀ d : Nat, chC l E H B sz rc d := by
  intro d
  induction d with
  | zero => intro p used odd sw pre M q hP hd; exact absurd hP.1.1 (by omega)
  | succ d ih =>
    intro p used odd sw pre M q hP hpd
    obtain ⟨h1, h2, h3, h4, h5, h6, h7, h8, h9, h10⟩ := id hP
    refine xp_start (plainFor_of_name (by decide)) rfl (Nat.le_of_ble_eq_true rfl) ?_
    intro Y F FR
    refine x_aload_n F dX5_choose_0 rfl ?_
    refine x_iload_n F dX5_choose_1 rfl ?_
    refine x_aload_n F dX5_choose_2 rfl ?_
    refine xj_geti F flX5_33 rfl dX5_choose_3 (by decide) (by decide) rfl (fun hg_1 => ?_)
    refine xj_iadd F dX5_choose_6 ?_
    refine x_iload_n F dX5_choose_7 rfl ?_
    refine xj_isub F dX5_choose_8 ?_
    refine x_iload F dX5_choose_9 rfl ?_
    refine x_V2 F (m_X5_cannotBeBetter (by omega) (by omega)) mlX5_68 mvX5_cannotBeBetter rfl dX5_choose_11 (by decide) rfl ⟨by show 1 + 1 ≤ d + 1 + 2; omega, by show 8 + (3 + 11) + 64 * (1) ≤ 64 * (d + 1 + 2); omega⟩ ⟨Nat.zero_le _, Nat.zero_le _⟩ (Nat.le_of_ble_eq_true rfl) ?_
    refine xb_if_eq (tgt := 18) F dX5_choose_14 (by decide) (fun h_2 => ?_) (fun h_2 => ?_)
    · have hnb : ¬ (odd + sz - p < q.1 ∨ (odd + sz - p = q.1 ∧ q.2 ≤ sw)) := by rw [← h9.1, ← h9.2]; rw [h5] at h_2; exact h_2
      refine x_iload_n F dX5_choose_18 rfl ?_
      refine x_aload_n F dX5_choose_19 rfl ?_
      refine xj_geti F flX5_33 rfl dX5_choose_20 (by decide) (by decide) rfl (fun hg_3 => ?_)
      refine xj_icmp_lt (tgt := 38) F dX5_choose_23 (by decide) (by omega) (fun h_4 => ?_) (fun h_4 => ?_)
      · have e : chA H B sz rc (d + 1) p used odd sw pre q = itN (chF H B sz rc d p used odd sw pre) sz q := by rw [chA_s, if_neg hnb, if_neg (by omega)]
        rw [e] at FR
        refine x_aload_n F dX5_choose_38 rfl ?_
        refine x_iload_n F dX5_choose_39 rfl ?_
        refine x_iload_n F dX5_choose_40 rfl ?_
        refine x_V2 F (m_X5_heardAt (pre := pre) (by omega) h2 (by omega) h8) mlX5_72 mvX5_heardAt rfl dX5_choose_41 (by decide) rfl ⟨by show 2 + 1 ≤ d + 1 + 2; omega, by show 8 + (5 + 11) + 64 * (2) ≤ 64 * (d + 1 + 2); omega⟩ ⟨Nat.zero_le _, Nat.zero_le _⟩ (Nat.le_of_ble_eq_true rfl) ?_
        rw [h6.1]
        refine x_istore F dX5_choose_44 (by decide) ?_
        refine xj_iconst F dX5_choose_46 ?_
        refine x_istore F dX5_choose_47 (by decide) ?_
        exact L_X5_choose ih (by omega) (by omega) F FR _ 0 M q _ _ (by omega) rfl ⟨fun _ _ _ => rfl, fun _ _ _ => rfl, fun _ _ => rfl, rfl, h9, h10⟩ hP (Nat.lt_succ_self _)
      · have e : chA H B sz rc (d + 1) p used odd sw pre q = (odd, sw) := by rw [chA_s, if_neg hnb, if_pos (by omega)]
        refine x_aload_n F dX5_choose_26 rfl ?_
        refine x_iload_n F dX5_choose_27 rfl ?_
        refine x_puti F flX5_47 rfl dX5_choose_28 (by decide) (by decide) rfl fw5_5 rfl rfl ?_
        refine x_aload_n F dX5_choose_31 rfl ?_
        refine x_iload F dX5_choose_32 rfl ?_
        refine x_puti F flX5_50 rfl dX5_choose_34 (by decide) (by decide) rfl fw5_6 rfl rfl ?_
        refine x_vret F FR dX5_choose_37 (Nat.le_refl _) (Nat.le_refl _) ?_
        rw [e]
        refine ⟨rfl, fun a x y => ?_, fun k x y => ?_, fun i hi => ?_, rfl, ⟨?_, ?_⟩, ⟨?_, ?_⟩, ?_, ?_⟩
        · rw [upI_row x, upI_row x]
        · rw [upI_1, if_neg (by omega), upI_1, if_neg (by omega)]
        · rw [upI_row (by omega), upI_row (by omega)]
        · rw [upI_1, if_neg (by omega), upI_1, if_pos ⟨rfl, rfl⟩, jI_toInt (by omega)]
        · rw [upI_1, if_pos ⟨rfl, rfl⟩, jI_toInt (by omega)]
        all_goals (simp only []; omega)
    · have e : chA H B sz rc (d + 1) p used odd sw pre q = q := by rw [chA_s, if_pos (by rw [← h9.1, ← h9.2]; rw [h5] at h_2; exact h_2)]
      refine x_vret F FR dX5_choose_17 (Nat.le_refl _) (Nat.le_refl _) ?_
      rw [e]
      exact ⟨rfl, fun _ _ _ => rfl, fun _ _ _ => rfl, fun _ _ => rfl, rfl, h9, h10⟩
/-- what does not touch what stands in rows: only the tree's and the search's cells change -/
def sameX (M M' : xM) : Prop := (∀ a, (a < 50 ∨ 68 ≤ a) → M'.1 a = M.1 a) ∧ (okT M → okT M') ∧ M'.2.2 = M.2.2
theorem sameX.rfl' (M : xM) : sameX M M := ⟨fun _ _ => rfl, fun h => h, rfl⟩
theorem sameX.trans {M M1 M2 : xM} (h1 : sameX M M1) (h2 : sameX M1 M2) : sameX M M2 := ⟨fun a h => (h2.1 a h).trans (h1.1 a h), fun h => h2.2.1 (h1.2.1 h), h2.2.2.trans h1.2.2⟩
/-- the most and the way, as the search finds them -/
def goA (M : xM) (c : Nat) (r : Int) : Int × Int := chA (fun w => mkB (hoB M c r w) (szI M c r).toNat) (fun w => mkB (obB M c r w) (szI M c r).toNat) (szI M c r).toNat (M.1 c 4).toInt ((szI M c r).toNat + 1) 0 0 0 0 (fun _ => 0) (-1, 0)
theorem hoB_row {M M' : xM} {c : Nat} (hC : isCh c) (h : ∀ b, b < 50 → M'.1 b = M.1 b) (r : Int) (w : Nat) : hoB M' c r w = hoB M c r w := by
  funext p; unfold hoB; rw [heI_row h hC, heI_row h hC]
theorem hbI_row {M M' : xM} {c : Nat} (hC : isCh c) (h : ∀ b, b < 50 → M'.1 b = M.1 b) (r f t x : Int) : hbI M' c r f t x = hbI M c r f t x := by
  unfold hbI hbP; rw [szI_row h hC, h (c + 3) (by have := isCh_lt hC; omega)]
theorem rbI_row {M M' : xM} {c : Nat} (hC : isCh c) (h : ∀ b, b < 50 → M'.1 b = M.1 b) (r : Int) : rbI M' c r = rbI M c r := by
  unfold rbI; rw [h c (by have := isCh_lt hC; omega)]
theorem obB_row {M M' : xM} {c : Nat} (hC : isCh c) (h : ∀ b, b < 50 → M'.1 b = M.1 b) (r : Int) (w : Nat) : obB M' c r w = obB M c r w := by
  funext p; unfold obB; rw [heI_row h hC, rbI_row hC h, hbI_row hC h, h c (by have := isCh_lt hC; omega)]
theorem okC_row {M M' : xM} {c : Nat} (hC : isCh c) (h : ∀ b, b < 50 → M'.1 b = M.1 b) (hO : okC M c) : okC M' c := by
  have hc := isCh_lt hC
  obtain ⟨h1, h2, h3, h4⟩ := hO
  exact ⟨fun r => by rw [szI_row h hC]; exact h1 r, by rw [h c (by omega)]; exact h2, by rw [h c (by omega)]; exact h3, by rw [h (c + 3) (by omega)]; exact h4⟩
set_option maxRecDepth 20000 in
theorem L_X5_goThrough {l : Launch} {E : xE} {c : Nat} {r : Int} {M0 : xM} (hC : isCh c) (hO : okC M0 c) (hr : 0 ≤ r ∧ r < 4) {Y : xY} (F : xFix E (xA E) Y cX5_goThrough yX5_goThrough.cls 4) (FR : xRet E Y none 0 0 (fun r' M' => r' = vU ∧ sameX M0 M' ∧ ((M'.1 64 5).toInt = (goA M0 c r).1 ∧ (M'.1 64 6).toInt = (goA M0 c r).2)) (fun _ _ => False)) : ∀ (k : Nat) (n : Nat) (M : xM), (n : Int) ≤ szI M0 c r → (∀ b, b ≠ 64 → b ≠ 65 → b ≠ 66 → M.1 b = M0.1 b) → M.2 = M0.2 → ((M.1 64 3).toInt = szI M0 c r ∧ (M.1 64 4).toInt = (M0.1 c 4).toInt) → (∀ w, w < n → (M.1 65 w).toInt = ((mkB (hoB M0 c r w) (szI M0 c r).toNat : Nat) : Int) ∧ (M.1 66 w).toInt = ((mkB (obB M0 c r w) (szI M0 c r).toNat : Nat) : Int)) → (szI M0 c r).toNat - n < k → WP l E (xRm 13 0 0) (xA E) Y 0 0 25 [vA 64, vA c, vI (jI r), vI (jI (n : Int))] [] M := by
  intro k
  induction k with
  | zero => intro n M hn hA hM2 h3 hE hk; exact absurd hk (Nat.not_lt_zero _)
  | succ k ih =>
    intro n M hn hA hM2 h3 hE hk
    have hs := hO.1 r
    have hre := hO.2.1
    have hr50 : ∀ b, b < 50 → M.1 b = M0.1 b := fun b hb => hA b (by omega) (by omega) (by omega)
    have hO2 := okC_row hC hr50 hO
    have h3a : (M.1 64 3).toInt = (((szI M0 c r).toNat : Nat) : Int) := by rw [h3.1]; omega
    refine x_iload_n F dX5_goThrough_25 rfl ?_
    refine x_aload_n F dX5_goThrough_26 rfl ?_
    refine xj_geti F flX5_33 rfl dX5_goThrough_27 (by decide) (by decide) rfl (fun hg_1 => ?_)
    refine xj_icmp_ge (tgt := 46) F dX5_goThrough_30 (by decide) (by omega) (fun h_2 => ?_) (fun h_2 => ?_)
    · refine x_aload_n F dX5_goThrough_46 rfl ?_
      refine xj_iconst F dX5_goThrough_47 ?_
      refine x_puti F flX5_47 rfl dX5_goThrough_48 (by decide) (by decide) rfl fw5_5 rfl rfl ?_
      refine x_aload_n F dX5_goThrough_51 rfl ?_
      refine xj_iconst F dX5_goThrough_52 ?_
      refine x_puti F flX5_50 rfl dX5_goThrough_53 (by decide) (by decide) rfl fw5_6 rfl rfl ?_
      refine x_aload_n F dX5_goThrough_56 rfl ?_
      refine xj_iconst F dX5_goThrough_57 ?_
      refine xj_iconst F dX5_goThrough_58 ?_
      refine xj_iconst F dX5_goThrough_59 ?_
      refine xj_iconst F dX5_goThrough_60 ?_
      have g := m_X5_choose (l := l) (E := E) (fun w => mkB (hoB M0 c r w) (szI M0 c r).toNat) (fun w => mkB (obB M0 c r w) (szI M0 c r).toNat) (szI M0 c r).toNat (M0.1 c 4).toInt ((szI M0 c r).toNat + 1) 0 0 0 0 (fun _ => 0) (upI (upI M 64 5 (jI (-1))) 64 6 (jI 0)) (-1, 0) ?_ (by omega)
      refine x_V4P F g mlX5_53 mvX5_choose rfl dX5_goThrough_61 (by decide) rfl ⟨by show ((szI M0 c r).toNat + 1 + 2) + 1 ≤ 13; omega, by show 8 + (9 + 11) + 64 * ((szI M0 c r).toNat + 1 + 2) ≤ 64 * 13; omega⟩ ⟨Nat.zero_le _, Nat.zero_le _⟩ (Nat.le_of_ble_eq_true rfl) (fun r9 M9 q9 => ?_)
      obtain ⟨rfl, q1, q2, q3, q4, q5, q6⟩ := q9
      refine x_vret F FR dX5_goThrough_64 (Nat.le_refl _) (Nat.le_refl _) ?_
      have f0 : ∀ b, b ≠ 64 → (upI (upI M 64 5 (jI (-1))) 64 6 (jI 0)).1 b = M.1 b := fun b hb => by rw [upI_row hb, upI_row hb]
      refine ⟨rfl, ⟨fun b hb => ?_, fun h => ?_, ?_⟩, q5⟩
      · rw [q1 b (by omega) (by omega), f0 b (by omega)]; exact hA b (by omega) (by omega) (by omega)
      · intro x y z; rw [show M9.2 = M.2 from q4, hM2]; exact h x y z
      · rw [show M9.2 = M.2 from q4, hM2]
      have f0 : ∀ b, b ≠ 64 → (upI (upI M 64 5 (jI (-1))) 64 6 (jI 0)).1 b = M.1 b := fun b hb => by rw [upI_row hb, upI_row hb]
      refine ⟨by omega, by decide, by omega, by omega, ?_, ⟨?_, hre.1, hre.2⟩, fun w hw => ?_, fun i hi => by omega, ⟨?_, ?_⟩, ⟨⟨by decide, by decide⟩, by decide, by decide⟩⟩
      · rw [upI_1, if_neg (by omega), upI_1, if_neg (by omega)]; exact h3a
      · rw [upI_1, if_neg (by omega), upI_1, if_neg (by omega)]; exact h3.2
      · rw [f0 65 (by omega), f0 66 (by omega), (hE w (by omega)).1, (hE w (by omega)).2]; exact ⟨⟨rfl, mkB_lt _ _ (by omega)⟩, rfl, mkB_lt _ _ (by omega)⟩
      · rw [upI_1, if_neg (by omega), upI_1, if_pos ⟨rfl, rfl⟩]; rfl
      · rw [upI_1, if_pos ⟨rfl, rfl⟩]; rfl
    · refine x_aload_n F dX5_goThrough_33 rfl ?_
      refine x_aload_n F dX5_goThrough_34 rfl ?_
      refine x_iload_n F dX5_goThrough_35 rfl ?_
      refine x_iload_n F dX5_goThrough_36 rfl ?_
      refine x_V3 F (m_X5_noteSinger hC hO2 hr (by omega) ⟨h3a, by omega⟩) mlX5_43 mvX5_noteSinger rfl dX5_goThrough_37 (by decide) rfl ⟨Nat.le_of_ble_eq_true rfl, Nat.le_of_ble_eq_true rfl⟩ ⟨Nat.zero_le _, Nat.zero_le _⟩ (Nat.le_of_ble_eq_true rfl) ?_
      refine xj_iinc F dX5_goThrough_40 rfl ?_
      refine x_goto (tgt := 25) F dX5_goThrough_43 (by decide) ?_
      refine ih (n + 1) _ (by omega) (fun b x y z => ?_) ?_ ?_ (fun w hw => ?_) (by omega)
      · rw [wrI_row z, wrI_row y]; exact hA b x y z
      · rw [wrI_2, wrI_2]; exact hM2
      · rw [wrI_row (by omega), wrI_row (by omega)]; exact h3
      · have e0 := mkB_lt (hoB M c r n) (szI M0 c r).toNat (by omega)
        have e1 := mkB_lt (obB M c r n) (szI M0 c r).toNat (by omega)
        rw [wrI_row (by omega), wrI_1, wrI_1]
        by_cases hwn : w = n
        · subst hwn
          rw [if_pos ⟨rfl, by omega, rfl⟩, if_pos ⟨rfl, by omega, rfl⟩, jI_toInt (rg64 e0), jI_toInt (rg64 e1), hoB_row hC hr50, obB_row hC hr50]
          exact ⟨rfl, rfl⟩
        · rw [if_neg (by omega), if_neg (by omega), wrI_row (by omega)]
          exact hE w (by omega)
set_option maxRecDepth 20000 in
theorem m_X5_goThrough {l : Launch} {E : xE} {c : Nat} {r : Int} {M0 : xM} (hC : isCh c) (hO : okC M0 c) (hr : 0 ≤ r ∧ r < 4) : XP l E 13 yX5_goThrough cX5_goThrough 4 none [vA 64, vA c, vI (jI r)] M0 (fun r' M' => r' = vU ∧ sameX M0 M' ∧ ((M'.1 64 5).toInt = (goA M0 c r).1 ∧ (M'.1 64 6).toInt = (goA M0 c r).2)) := by
  refine xp_start (plainFor_of_name (by decide)) rfl (Nat.le_of_ble_eq_true rfl) ?_
  intro Y F FR
  have hs := hO.1 r
  have hre := hO.2.1
  have hc := isCh_lt hC
  refine x_aload_n F dX5_goThrough_0 rfl ?_
  refine x_aload_n F dX5_goThrough_1 rfl ?_
  refine x_iload_n F dX5_goThrough_2 rfl ?_
  refine x_V1 F (m_X1_sizeOf (by first | assumption | omega | decide) (by first | assumption | omega | decide)) mlX5_21 mvX1_sizeOf hC.1 dX5_goThrough_3 (by decide) rfl ⟨Nat.le_of_ble_eq_true rfl, Nat.le_of_ble_eq_true rfl⟩ ⟨Nat.zero_le _, Nat.zero_le _⟩ (Nat.le_of_ble_eq_true rfl) ?_
  refine xj_bipush F dX5_goThrough_6 (by decide) ?_
  refine x_S2 F (m_J9_min_7cf53 (by first | assumption | omega | decide) (by first | assumption | omega | decide)) mlX5_27 msJ9_min_7cf53 dX5_goThrough_8 ⟨Nat.le_of_ble_eq_true rfl, Nat.le_of_ble_eq_true rfl⟩ ⟨Nat.zero_le _, Nat.zero_le _⟩ (Nat.le_of_ble_eq_true rfl) ?_
  refine x_puti F flX5_33 rfl dX5_goThrough_11 (by decide) (by decide) rfl fw5_3 rfl rfl ?_
  refine x_aload_n F dX5_goThrough_14 rfl ?_
  refine x_aload_n F dX5_goThrough_15 rfl ?_
  refine xj_iconst F dX5_goThrough_16 ?_
  refine x_V1 F (m_X1_settingAt hC (by omega)) mlX5_37 mvX1_settingAt hC.1 dX5_goThrough_17 (by decide) rfl ⟨Nat.le_of_ble_eq_true rfl, Nat.le_of_ble_eq_true rfl⟩ ⟨Nat.zero_le _, Nat.zero_le _⟩ (Nat.le_of_ble_eq_true rfl) ?_
  refine x_puti F flX5_40 rfl dX5_goThrough_20 (by decide) (by decide) rfl fw5_4 rfl rfl ?_
  refine xj_iconst F dX5_goThrough_23 ?_
  refine x_istore_n F dX5_goThrough_24 (by decide) ?_
  refine L_X5_goThrough hC hO hr F FR _ 0 _ (by omega) (fun b x _ _ => ?_) rfl ⟨?_, ?_⟩ (fun w hw => by omega) (Nat.lt_succ_self _)
  · rw [upI_row x, upI_row x]
  · rw [upI_1, if_neg (by omega), upI_1, if_pos ⟨rfl, rfl⟩, jI_toInt (by omega)]; omega
  · rw [upI_1, if_pos ⟨rfl, rfl⟩, if_pos rfl, jI_of, upI_1, if_neg (by omega)]
