/-! THE MODEL'S DIGEST -/
def dR (M0 M : xM) (x : Int64) : Prop := ((∀ a, a ≠ 68 → a ≠ 69 → a ≠ 72 → a ≠ 73 → M.1 a = M0.1 a) ∧ (∀ k, k ≠ 8 → k ≠ 9 → M.1 68 k = M0.1 68 k)) ∧ eqV (vW M0) (vW M) 1 1 ∧ (M.2.1 = M0.2.1 ∧ (∀ a k, a ≠ 68 ∨ k ≠ 18 → M.2.2 a k = M0.2.2 a k)) ∧ M.2.2 68 18 = x
theorem eqV_69 {M M' : xM} (h : M'.1 69 = M.1 69) : eqV (vW M) (vW M') 1 1 :=
  ⟨fun j _ => congrFun h j, fun r p _ _ _ _ => ⟨congrFun h _, congrFun h _, congrFun h _⟩, fun j _ _ => congrFun h _⟩
theorem dR_qT {M0 M M' : xM} {x : Int64} (h : dR M0 M x) (hq : qT M M') : dR M0 M' x := by
  obtain ⟨⟨h1, h2⟩, h3, ⟨h4, h5⟩, h6⟩ := h
  obtain ⟨q1, q2, q3⟩ := hq
  refine ⟨⟨fun a a1 a2 a3 a4 => (q1 a a1 a3 a4).trans (h1 a a1 a2 a3 a4), fun k k1 k2 => (q2 k k1 k2).trans (h2 k k1 k2)⟩, eqV_trans h3 (eqV_69 (q1 69 (by decide) (by decide) (by decide))), ⟨?_, fun a k ha => ?_⟩, ?_⟩
  · rw [q3]; exact h4
  · rw [q3]; exact h5 a k ha
  · rw [q3]; exact h6
theorem dR_mix {M0 M : xM} {x v y : Int64} (h : dR M0 M x) (hy : mx x v = y) : dR M0 (upL M 68 18 (mx (M.2.2 68 18) v)) y := by
  obtain ⟨h1, h3, ⟨h4, h5⟩, h6⟩ := h
  refine ⟨h1, eqV_trans h3 (eqV_69 rfl), ⟨h4, fun a k ha => ?_⟩, ?_⟩
  · show (if a = 68 ∧ k = 18 then _ else M.2.2 a k) = _
    rw [if_neg (by omega)]
    exact h5 a k ha
  · show (if 68 = 68 ∧ 18 = 18 then mx (M.2.2 68 18) v else M.2.2 68 18) = _
    rw [if_pos ⟨rfl, rfl⟩, h6, hy]
theorem dR_gB {M0 M M' : xM} {x : Int64} (h : dR M0 M x) (hg : gB M M') : dR M0 M' x := by
  obtain ⟨⟨h1, h2⟩, h3, ⟨h4, h5⟩, h6⟩ := h
  obtain ⟨q1, q2, q3⟩ := hg
  refine ⟨⟨fun a a1 a2 a3 a4 => (q1 a a2).trans (h1 a a1 a2 a3 a4), fun k k1 k2 => by rw [q1 68 (by decide)]; exact h2 k k1 k2⟩, eqV_trans h3 q3, ⟨?_, fun a k ha => ?_⟩, ?_⟩
  · rw [q2]; exact h4
  · rw [q2]; exact h5 a k ha
  · rw [q2]; exact h6
def hV (M : xM) : Prop := ∀ r p : Int, 0 ≤ r → r < 4 → 0 ≤ p → p < zI M r → (0 ≤ zI M (28 + 6 * r + p) ∧ zI M (28 + 6 * r + p) ≤ 1000) ∧ 0 ≤ zI M (52 + 6 * r + p) ∧ zI M (52 + 6 * r + p) ≤ 3
theorem hV_v {M M' : xM} (hZ : okZ M) (h : eqV (vW M) (vW M') 1 1) (hv : hV M) : hV M' := by
  intro r p h0 h1 h2 h3
  rw [zI_v h ⟨h0, h1⟩] at h3
  have hz := hZ.1 r h0 h1
  have hsz : p < szI (vW M) 1 r := by rw [vW_sz M ⟨h0, h1⟩]; exact h3
  have a := heI_v h (vW_hS hZ) ⟨h0, h1⟩ ⟨h2, hsz⟩
  have b := rd4_v h (vW_hS hZ) ⟨h0, h1⟩ ⟨h2, hsz⟩
  rw [vW_he M' ⟨h0, h1⟩ (by omega), vW_he M ⟨h0, h1⟩ (by omega)] at a
  rw [vW_vo M' ⟨h0, h1⟩ (by omega), vW_vo M ⟨h0, h1⟩ (by omega)] at b
  rw [a, b]
  exact hv r p h0 h1 h2 h3
theorem ow_d {M0 M : xM} (hZ : okZ M0) (h : eqV (vW M0) (vW M) 1 1) {r : Int} (hr : 0 ≤ r ∧ r < 4) (z : Int) : orZ M r z = owI (vW M0) 1 r z := by rw [rwZ_v (okZ_v h hZ) hr, owI_v h (vW_hS hZ) hr]
theorem os_d {M0 M : xM} (hZ : okZ M0) (h : eqV (vW M0) (vW M) 1 1) {r p : Int} (hr : 0 ≤ r ∧ r < 4) (hp : 0 ≤ p ∧ p < zI M0 r) (z : Int) : osZ M r p z = osI (vW M0) 1 r p z := by
  have hz := hZ.1 r hr.1 hr.2
  rw [osZ_v (okZ_v h hZ) hr (by omega), osI_v h (vW_hS hZ) hr (by rw [vW_sz M0 hr]; exact hp)]
theorem bz_d {M0 M : xM} (hZ : okZ M0) (h : eqV (vW M0) (vW M) 1 1) {r : Int} (hr : 0 ≤ r ∧ r < 4) : bzI M r = bpI (vW M0) r := by rw [bzI_v (okZ_v h hZ) hr, bpI_v h (vW_hS hZ) hr]
theorem or_d {M0 M : xM} (hZ : okZ M0) (h : eqV (vW M0) (vW M) 1 1) {z : Int} (hz : 1 ≤ z ∧ z ≤ 6) : oaZ (rcZ M z) = orI (vW M0) z := by rw [orZ_v (okZ_v h hZ) hz, orI_v h (vW_hS hZ)]
theorem oa_d {M0 M : xM} (hZ : okZ M0) (h : eqV (vW M0) (vW M) 1 1) : oaZ M = oaI (vW M0) 1 := by rw [oaZ_v (okZ_v h hZ), oaI_v h (vW_hS hZ)]
theorem si_d {M0 M : xM} (h : eqV (vW M0) (vW M) 1 1) : siZ M = sumI (szI (vW M0) 1) 4 := by
  rw [siZ_v, show szI (vW M) 1 = szI (vW M0) 1 from funext fun r => szI_v h r]
theorem br_d {M0 M : xM} (hZ : okZ M0) (h : eqV (vW M0) (vW M) 1 1) (x : Int) : rzF M x 4 = brF (vW M0) x 4 := by rw [rzF_v (okZ_v h hZ) x 4 (Nat.le_refl _), brF_v h (vW_hS hZ) x 4 (Nat.le_refl _)]
theorem wv_d {M0 M : xM} (hZ : okZ M0) (hv : hV M0) (h : eqV (vW M0) (vW M) 1 1) {r i : Int} (hr : 0 ≤ r ∧ r < 4) (hi : 0 ≤ i) : jI (wvZ M r i) = wcI (vW M0) 1 r i := by
  rw [wvZ_v (okZ_v h hZ) hr hi (fun p h0 h1 => hV_v hZ h hv r p hr.1 hr.2 h0 h1), wcI_v h (vW_hS hZ)]
theorem no_d {M0 M : xM} {x : Int64} (hZ : okZ M0) (h : dR M0 M x) {z : Int} (hz : 0 ≤ z) : noZ M z = noZ M0 z := by
  obtain ⟨⟨h1, h2⟩, h3, -, -⟩ := h
  rw [noZ_v (okZ_v h3 hZ) hz, noZ_v hZ hz, h2 2 (by decide) (by decide)]
  split
  · rename_i hz8
    unfold ohI
    rw [oaI_v h3 (vW_hS hZ), daI_v h3 (vW_hS hZ), show szI (vW M) 1 = szI (vW M0) 1 from funext fun r => szI_v h3 r, h3.2.2 4 (by decide) (by decide), h3.2.2 5 (by decide) (by decide), h3.2.2 6 (by decide) (by decide), h3.2.2 7 (by decide) (by decide), h3.2.2 8 (by decide) (by decide)]
    (repeat' split) <;> first | rfl | (exfalso; omega)
  · rfl
theorem wv_end {M : xM} {r i : Int} (h : zI M r ≤ i / 5 ∨ i = 5 * zI M r - 1) : wvZ M r i = -1 := if_pos h
theorem wv_in {M : xM} {r i : Int} (hz : 0 ≤ zI M r ∧ zI M r ≤ 6) (hr : 0 ≤ r ∧ r < 4) (hv : hV M) (h0 : 0 ≤ i) (h : i < 5 * zI M r - 1) : wvZ M r i ≠ -1 ∧ rg (wvZ M r i) := by
  obtain ⟨⟨g1, g2⟩, g3, g4⟩ := hv r (i / 5) hr.1 hr.2 (by omega) (by omega)
  have hw : ∀ v, 97 ≤ wvL v ∧ wvL v ≤ 116 := fun v => by unfold wvL; (repeat' split) <;> omega
  have := hw (zI M (52 + 6 * r + i / 5))
  unfold wvZ
  rw [if_neg (by omega)]
  (repeat' split) <;> omega
def mrZ (M : xM) (r : Int) (x : Int64) : Int64 := mxT (fun z => (wcI (vW M) 1 r (z : Nat)).toInt64) (max 0 (5 * szI (vW M) 1 r - 1)).toNat (mx (msN (vW M) r (szI (vW M) 1 r).toNat (mxT (fun z => jL (owI (vW M) 1 r (z : Nat))) 7 x)) (jL (bpI (vW M) r)))
theorem dgR_s (M : xM) (n : Nat) (x : Int64) : dgR (vW M) (n + 1) x = mrZ M (n : Int) (dgR (vW M) n x) := rfl
def dgB (M : xM) (x : Int64) : Int64 := mxT (fun z => jL (orI (vW M) ((z : Nat) + 1))) 6 (mx (dgR (vW M) 4 x) (jL (brF (vW M) 160 4).2))
def dgC (M : xM) : Int64 := mx (mx (dgB M (mxT (fun z => jL (noZ M (z : Nat))) 9 3637)) ((shD (oaI (vW M) 1) (sumI (szI (vW M) 1) 4)).toInt64)) (jL (ln M))
def dgZ (M : xM) : Int64 := mxT (fun k => jL (M.1 74 k).toInt) (ln M).toNat (dgC M)
set_option maxRecDepth 20000 in
theorem L_X7_mixRow_83 {l : Launch} {E : xE} {r : Int} {x : Int64} {M0 : xM} (hZ : okZ M0) (hv : hV M0) (hr : 0 ≤ r ∧ r < 4) {Y : xY} (F : xFix E (xA E) Y cX7_mixRow yX7_mixRow.cls 4) (FR : xRet E Y none 0 0 (fun r' M' => r' = vU ∧ dR M0 M' (mrZ M0 r x)) (fun _ _ => False)) {y : xV} : ∀ (k : Nat) (M : xM) (n : Nat), dR M0 M (mxT (fun z => (wcI (vW M0) 1 r (z : Nat)).toInt64) n (mx (msN (vW M0) r (szI (vW M0) 1 r).toNat (mxT (fun z => jL (owI (vW M0) 1 r (z : Nat))) 7 x)) (jL (bpI (vW M0) r)))) → (n : Int) ≤ max 0 (5 * zI M0 r - 1) → (30 - n) < k → WP l E (xRm 10 0 0) (xA E) Y 0 0 83 [vA 68, vI (jI r), vI (jI (n : Int)), y] [] M := by
  intro k
  induction k with
  | zero => intro M n hI hn hk; exact absurd hk (Nat.not_lt_zero _)
  | succ k ih =>
    intro M n hI hn hk
    have hZM := okZ_v hI.2.1 hZ
    have hz := hZ.1 r hr.1 hr.2
    have hzs : szI (vW M0) 1 r = zI M0 r := vW_sz M0 hr
    have hzv := zI_v hI.2.1 hr
    have hvM := hV_v hZ hI.2.1 hv
    have hwv := wv_d hZ hv hI.2.1 hr (i := (n : Int)) (by omega)
    refine x_aload_n F dX7_mixRow_83 rfl ?_
    refine x_iload_n F dX7_mixRow_84 rfl ?_
    refine x_iload_n F dX7_mixRow_85 rfl ?_
    refine x_V2 F (m_X7_writtenAt hZM hr (by omega) (fun p h0 h1 => (hvM r p hr.1 hr.2 h0 h1).1)) mlX7_194 mvX7_writtenAt rfl dX7_mixRow_86 (by decide) rfl ⟨Nat.le_of_ble_eq_true rfl, Nat.le_of_ble_eq_true rfl⟩ ⟨Nat.zero_le _, Nat.zero_le _⟩ (Nat.le_of_ble_eq_true rfl) ?_
    have hrg : rg (wvZ M r (n : Int)) := (by
      by_cases hc : (n : Int) < 5 * zI M0 r - 1
      · exact (wv_in (by omega) hr hvM (by omega) (by omega)).2
      · rw [wv_end (by omega)]; decide)
    refine xj_iconst F dX7_mixRow_89 ?_
    refine xj_icmp_eq (tgt := 110) F dX7_mixRow_90 (by decide) (by omega) (fun h_1 => ?_) (fun h_1 => ?_)
    · have hend : ¬ (n : Int) < 5 * zI M0 r - 1 := fun hc => absurd h_1 (wv_in (by omega) hr hvM (by omega) (by omega)).1
      refine x_vret F FR dX7_mixRow_110 (Nat.le_refl _) (Nat.le_refl _) ?_
      have e : n = (max 0 (5 * szI (vW M0) 1 r - 1)).toNat := (by omega)
      subst e
      exact ⟨rfl, hI⟩
    · have hgo : (n : Int) < 5 * zI M0 r - 1 := (by
        by_cases hc : (n : Int) < 5 * zI M0 r - 1
        · exact hc
        · exact absurd (wv_end (by omega)) h_1)
      refine x_aload_n F dX7_mixRow_93 rfl ?_
      refine x_aload_n F dX7_mixRow_94 rfl ?_
      refine x_iload_n F dX7_mixRow_95 rfl ?_
      refine x_iload_n F dX7_mixRow_96 rfl ?_
      refine x_V2 F (m_X7_writtenAt hZM hr (by omega) (fun p h0 h1 => (hvM r p hr.1 hr.2 h0 h1).1)) mlX7_194 mvX7_writtenAt rfl dX7_mixRow_97 (by decide) rfl ⟨Nat.le_of_ble_eq_true rfl, Nat.le_of_ble_eq_true rfl⟩ ⟨Nat.zero_le _, Nat.zero_le _⟩ (Nat.le_of_ble_eq_true rfl) ?_
      refine x_i2l F dX7_mixRow_100 ?_
      refine x_V1 F (m_X7_mix) mlX7_246 mvX7_mix rfl dX7_mixRow_101 (by decide) rfl ⟨Nat.le_of_ble_eq_true rfl, Nat.le_of_ble_eq_true rfl⟩ ⟨Nat.zero_le _, Nat.zero_le _⟩ (Nat.le_of_ble_eq_true rfl) ?_
      refine xj_iinc F dX7_mixRow_104 rfl ?_
      refine x_goto (tgt := 83) F dX7_mixRow_107 (by decide) ?_
      refine ih _ (n + 1) (dR_mix hI ?_) (by omega) (by omega)
      simp only [mxT]
      rw [hwv]
set_option maxRecDepth 20000 in
theorem L_X7_mixRow_41 {l : Launch} {E : xE} {r : Int} {x : Int64} {M0 : xM} (hZ : okZ M0) (hv : hV M0) (hr : 0 ≤ r ∧ r < 4) {m : Nat} (hm : (m : Int) < zI M0 r) {Y : xY} (F : xFix E (xA E) Y cX7_mixRow yX7_mixRow.cls 4) (FR : xRet E Y none 0 0 (fun r' M' => r' = vU ∧ dR M0 M' (mrZ M0 r x)) (fun _ _ => False)) : ∀ (k : Nat) (M : xM) (n : Nat), dR M0 M (mxT (fun z => jL (osI (vW M0) 1 r (m : Int) (z : Nat))) n (msN (vW M0) r m (mxT (fun z => jL (owI (vW M0) 1 r (z : Nat))) 7 x))) → n ≤ 8 → (∀ (M : xM) (y : xV), dR M0 M (msN (vW M0) r (m + 1) (mxT (fun z => jL (owI (vW M0) 1 r (z : Nat))) 7 x)) → WP l E (xRm 10 0 0) (xA E) Y 0 0 65 [vA 68, vI (jI r), vI (jI (m : Int)), y] [] M) → (8 - n) < k → WP l E (xRm 10 0 0) (xA E) Y 0 0 41 [vA 68, vI (jI r), vI (jI (m : Int)), vI (jI (n : Int))] [] M := by
  intro k
  induction k with
  | zero => intro M n hI hn hex hk; exact absurd hk (Nat.not_lt_zero _)
  | succ k ih =>
    intro M n hI hn hex hk
    have hZM := okZ_v hI.2.1 hZ
    have hz := hZ.1 r hr.1 hr.2
    have hzs : szI (vW M0) 1 r = zI M0 r := vW_sz M0 hr
    have hzv := zI_v hI.2.1 hr
    have hos := os_d hZ hI.2.1 hr (p := (m : Int)) ⟨by omega, hm⟩ (n : Int)
    refine x_iload_n F dX7_mixRow_41 rfl ?_
    refine xj_bipush F dX7_mixRow_42 (by decide) ?_
    refine xj_icmp_ge (tgt := 65) F dX7_mixRow_44 (by decide) (by omega) (fun h_1 => ?_) (fun h_1 => ?_)
    · have e : n = 8 := (by omega)
      subst e
      exact hex M _ hI
    · refine x_aload_n F dX7_mixRow_47 rfl ?_
      refine x_aload_n F dX7_mixRow_48 rfl ?_
      refine x_iload_n F dX7_mixRow_49 rfl ?_
      refine x_iload_n F dX7_mixRow_50 rfl ?_
      refine x_iload_n F dX7_mixRow_51 rfl ?_
      refine x_V3 F (m_X7_ofSinger hZM hr (by omega) (by omega)) mlX7_203 mvX7_ofSinger rfl dX7_mixRow_52 (by decide) rfl ⟨Nat.le_of_ble_eq_true rfl, Nat.le_of_ble_eq_true rfl⟩ ⟨Nat.zero_le _, Nat.zero_le _⟩ (Nat.le_of_ble_eq_true rfl) ?_
      refine x_i2l F dX7_mixRow_55 ?_
      refine x_V1 F (m_X7_mix) mlX7_246 mvX7_mix rfl dX7_mixRow_56 (by decide) rfl ⟨Nat.le_of_ble_eq_true rfl, Nat.le_of_ble_eq_true rfl⟩ ⟨Nat.zero_le _, Nat.zero_le _⟩ (Nat.le_of_ble_eq_true rfl) ?_
      refine xj_iinc F dX7_mixRow_59 rfl ?_
      refine x_goto (tgt := 41) F dX7_mixRow_62 (by decide) ?_
      refine ih _ (n + 1) (dR_mix hI ?_) (by omega) hex (by omega)
      simp only [mxT]
      rw [hos]
      rfl
set_option maxRecDepth 20000 in
theorem L_X7_mixRow_27 {l : Launch} {E : xE} {r : Int} {x : Int64} {M0 : xM} (hZ : okZ M0) (hv : hV M0) (hr : 0 ≤ r ∧ r < 4) {Y : xY} (F : xFix E (xA E) Y cX7_mixRow yX7_mixRow.cls 4) (FR : xRet E Y none 0 0 (fun r' M' => r' = vU ∧ dR M0 M' (mrZ M0 r x)) (fun _ _ => False)) : ∀ (k : Nat) (M : xM) (m : Nat) (y : xV), dR M0 M (msN (vW M0) r m (mxT (fun z => jL (owI (vW M0) 1 r (z : Nat))) 7 x)) → (m : Int) ≤ zI M0 r → (6 - m) < k → WP l E (xRm 10 0 0) (xA E) Y 0 0 27 [vA 68, vI (jI r), vI (jI (m : Int)), y] [] M := by
  intro k
  induction k with
  | zero => intro M m y hI hm hk; exact absurd hk (Nat.not_lt_zero _)
  | succ k ih =>
    intro M m y hI hm hk
    have hZM := okZ_v hI.2.1 hZ
    have hz := hZ.1 r hr.1 hr.2
    have hzs : szI (vW M0) 1 r = zI M0 r := vW_sz M0 hr
    have hzv := zI_v hI.2.1 hr
    have e0 : (M.1 69 r.toNat).toInt = zI M r := rfl
    refine x_iload_n F dX7_mixRow_27 rfl ?_
    refine x_aload_n F dX7_mixRow_28 rfl ?_
    refine x_getc (v := 69) F flX7_7 rfl dX7_mixRow_29 (by decide) (by decide) rfl rfl ?_
    refine xj_iconst F dX7_mixRow_32 ?_
    refine x_iload_n F dX7_mixRow_33 rfl ?_
    refine xj_iadd F dX7_mixRow_34 ?_
    rw [Int.zero_add r]
    refine xj_lald2 F rfl dX7_mixRow_35 (by omega) (fun hg_1 => ?_)
    rw [e0]
    refine xj_icmp_ge (tgt := 71) F dX7_mixRow_36 (by decide) (by omega) (fun h_2 => ?_) (fun h_2 => ?_)
    · refine x_aload_n F dX7_mixRow_71 rfl ?_
      refine x_aload_n F dX7_mixRow_72 rfl ?_
      refine x_iload_n F dX7_mixRow_73 rfl ?_
      refine x_V1 F (m_X7_bestOf hZM hr) mlX7_224 mvX7_bestOf rfl dX7_mixRow_74 (by decide) rfl ⟨Nat.le_of_ble_eq_true rfl, Nat.le_of_ble_eq_true rfl⟩ ⟨Nat.zero_le _, Nat.zero_le _⟩ (Nat.le_of_ble_eq_true rfl) ?_
      refine x_i2l F dX7_mixRow_77 ?_
      refine x_V1 F (m_X7_mix) mlX7_246 mvX7_mix rfl dX7_mixRow_78 (by decide) rfl ⟨Nat.le_of_ble_eq_true rfl, Nat.le_of_ble_eq_true rfl⟩ ⟨Nat.zero_le _, Nat.zero_le _⟩ (Nat.le_of_ble_eq_true rfl) ?_
      refine xj_iconst F dX7_mixRow_81 ?_
      refine x_istore_n F dX7_mixRow_82 (by decide) ?_
      have e : m = (szI (vW M0) 1 r).toNat := (by omega)
      subst e
      refine L_X7_mixRow_83 (l := l) hZ hv hr F FR _ _ 0 (dR_mix hI ?_) (by omega) (Nat.lt_succ_self _)
      rw [bz_d hZ hI.2.1 hr]
      rfl
    · refine xj_iconst F dX7_mixRow_39 ?_
      refine x_istore_n F dX7_mixRow_40 (by decide) ?_
      refine L_X7_mixRow_41 (l := l) hZ hv hr (m := m) (by omega) F FR _ M 0 hI (by decide) (fun M8 y8 h8 => ?_) (Nat.lt_succ_self _)
      refine xj_iinc F dX7_mixRow_65 rfl ?_
      refine x_goto (tgt := 27) F dX7_mixRow_68 (by decide) ?_
      exact ih M8 (m + 1) y8 h8 (by omega) (by omega)
set_option maxRecDepth 20000 in
theorem L_X7_mixRow_2 {l : Launch} {E : xE} {r : Int} {x : Int64} {M0 : xM} (hZ : okZ M0) (hv : hV M0) (hr : 0 ≤ r ∧ r < 4) {Y : xY} (F : xFix E (xA E) Y cX7_mixRow yX7_mixRow.cls 4) (FR : xRet E Y none 0 0 (fun r' M' => r' = vU ∧ dR M0 M' (mrZ M0 r x)) (fun _ _ => False)) : ∀ (k : Nat) (M : xM) (n : Nat), dR M0 M (mxT (fun z => jL (owI (vW M0) 1 r (z : Nat))) n x) → n ≤ 7 → (7 - n) < k → WP l E (xRm 10 0 0) (xA E) Y 0 0 2 [vA 68, vI (jI r), vI (jI (n : Int)), vU] [] M := by
  intro k
  induction k with
  | zero => intro M n hI hn hk; exact absurd hk (Nat.not_lt_zero _)
  | succ k ih =>
    intro M n hI hn hk
    have hZM := okZ_v hI.2.1 hZ
    have hz := hZ.1 r hr.1 hr.2
    have hzs : szI (vW M0) 1 r = zI M0 r := vW_sz M0 hr
    have hzv := zI_v hI.2.1 hr
    have how := ow_d hZ hI.2.1 hr (n : Int)
    refine x_iload_n F dX7_mixRow_2 rfl ?_
    refine xj_bipush F dX7_mixRow_3 (by decide) ?_
    refine xj_icmp_ge (tgt := 25) F dX7_mixRow_5 (by decide) (by omega) (fun h_1 => ?_) (fun h_1 => ?_)
    · refine xj_iconst F dX7_mixRow_25 ?_
      refine x_istore_n F dX7_mixRow_26 (by decide) ?_
      have e : n = 7 := (by omega)
      subst e
      exact L_X7_mixRow_27 (l := l) hZ hv hr F FR _ M 0 vU hI (by omega) (Nat.lt_succ_self _)
    · refine x_aload_n F dX7_mixRow_8 rfl ?_
      refine x_aload_n F dX7_mixRow_9 rfl ?_
      refine x_iload_n F dX7_mixRow_10 rfl ?_
      refine x_iload_n F dX7_mixRow_11 rfl ?_
      refine x_V2P F (m_X7_ofRow hZM hr (by omega)) mlX7_212 mvX7_ofRow rfl dX7_mixRow_12 (by decide) rfl ⟨Nat.le_of_ble_eq_true rfl, Nat.le_of_ble_eq_true rfl⟩ ⟨Nat.zero_le _, Nat.zero_le _⟩ (Nat.le_of_ble_eq_true rfl) (fun r_12 M_12 q_12 => ?_)
      obtain ⟨rfl, qt_12⟩ := q_12
      have hI2 := dR_qT hI qt_12
      refine x_i2l F dX7_mixRow_15 ?_
      refine x_V1 F (m_X7_mix) mlX7_246 mvX7_mix rfl dX7_mixRow_16 (by decide) rfl ⟨Nat.le_of_ble_eq_true rfl, Nat.le_of_ble_eq_true rfl⟩ ⟨Nat.zero_le _, Nat.zero_le _⟩ (Nat.le_of_ble_eq_true rfl) ?_
      refine xj_iinc F dX7_mixRow_19 rfl ?_
      refine x_goto (tgt := 2) F dX7_mixRow_22 (by decide) ?_
      refine ih _ (n + 1) (dR_mix hI2 ?_) (by omega) (by omega)
      simp only [mxT]
      rw [how]
      rfl
set_option maxRecDepth 20000 in
theorem m_X7_mixRow {l : Launch} {E : xE} {r : Int} {x : Int64} {M0 : xM} (hZ : okZ M0) (hv : hV M0) (hr : 0 ≤ r ∧ r < 4) {M : xM} (hI : dR M0 M x) : XP l E 10 yX7_mixRow cX7_mixRow 4 none [vA 68, vI (jI r)] M (fun r' M' => r' = vU ∧ dR M0 M' (mrZ M0 r x)) := by
  refine xp_start (plainFor_of_name (by decide)) rfl (Nat.le_of_ble_eq_true rfl) ?_
  intro Y F FR
  refine xj_iconst F dX7_mixRow_0 ?_
  refine x_istore_n F dX7_mixRow_1 (by decide) ?_
  exact L_X7_mixRow_2 (l := l) hZ hv hr F FR _ M 0 hI (by decide) (Nat.lt_succ_self _)
set_option maxRecDepth 20000 in
theorem L_X7_digest_112 {l : Launch} {E : xE} {M0 : xM} (hZ : okZ M0) (hv : hV M0) (hY : okW M0) {Y : xY} (F : xFix E (xA E) Y cX7_digest yX7_digest.cls 2) (FR : xRet E Y (some FieldType.long) 0 0 (fun r' M' => r' = vL (dgZ M0) ∧ dR M0 M' (dgZ M0)) (fun _ _ => False)) : ∀ (k : Nat) (M : xM) (n : Nat), dR M0 M (mxT (fun k => jL (M0.1 74 k).toInt) n (dgC M0)) → (n : Int) ≤ ln M0 → (60 - n) < k → WP l E (xRm 12 0 0) (xA E) Y 0 0 112 [vA 68, vI (jI (n : Int))] [] M := by
  intro k
  induction k with
  | zero => intro M n hI hn hk; exact absurd hk (Nat.not_lt_zero _)
  | succ k ih =>
    intro M n hI hn hk
    have hZM := okZ_v hI.2.1 hZ
    have hln := hY.1
    have el : (M.1 68 11).toInt = ln M0 := (by rw [hI.1.2 11 (by decide) (by decide)]; rfl)
    have e74 : M.1 74 = M0.1 74 := hI.1.1 74 (by decide) (by decide) (by decide) (by decide)
    have ek : ((n : Int)).toNat = n := Int.toNat_natCast n
    refine x_iload_n F dX7_digest_112 rfl ?_
    refine x_aload_n F dX7_digest_113 rfl ?_
    refine xj_geti F flX7_145 rfl dX7_digest_114 (by decide) (by decide) rfl (fun hg_1 => ?_)
    rw [el]
    refine xj_icmp_ge (tgt := 137) F dX7_digest_117 (by decide) (by omega) (fun h_2 => ?_) (fun h_2 => ?_)
    · have e : n = (ln M0).toNat := (by omega)
      subst e
      refine x_aload_n F dX7_digest_137 rfl ?_
      refine x_getl F flX7_242 rfl dX7_digest_138 (by decide) (by decide) rfl ?_
      rw [hI.2.2.2]
      exact x_lret F FR dX7_digest_141 (Nat.le_refl _) (Nat.le_refl _) ⟨rfl, hI⟩
    · refine x_aload_n F dX7_digest_120 rfl ?_
      refine x_aload_n F dX7_digest_121 rfl ?_
      refine x_getc (v := 74) F flX7_25 rfl dX7_digest_122 (by decide) (by decide) rfl rfl ?_
      refine x_iload_n F dX7_digest_125 rfl ?_
      refine xj_lald2 F rfl dX7_digest_126 (by omega) (fun hg_3 => ?_)
      rw [ek, e74]
      refine x_i2l F dX7_digest_127 ?_
      refine x_V1 F (m_X7_mix) mlX7_246 mvX7_mix rfl dX7_digest_128 (by decide) rfl ⟨Nat.le_of_ble_eq_true rfl, Nat.le_of_ble_eq_true rfl⟩ ⟨Nat.zero_le _, Nat.zero_le _⟩ (Nat.le_of_ble_eq_true rfl) ?_
      refine xj_iinc F dX7_digest_131 rfl ?_
      refine x_goto (tgt := 112) F dX7_digest_134 (by decide) ?_
      refine ih _ (n + 1) (dR_mix hI ?_) (by omega) (by omega)
      simp only [mxT]
      rfl
set_option maxRecDepth 20000 in
theorem L_X7_digest_68 {l : Launch} {E : xE} {M0 : xM} (hZ : okZ M0) (hv : hV M0) (hY : okW M0) {Y : xY} (F : xFix E (xA E) Y cX7_digest yX7_digest.cls 2) (FR : xRet E Y (some FieldType.long) 0 0 (fun r' M' => r' = vL (dgZ M0) ∧ dR M0 M' (dgZ M0)) (fun _ _ => False)) : ∀ (k : Nat) (M : xM) (n : Nat), dR M0 M (mxT (fun z => jL (orI (vW M0) ((z : Nat) + 1))) n (mx (dgR (vW M0) 4 (mxT (fun z => jL (noZ M0 (z : Nat))) 9 3637)) (jL (brF (vW M0) 160 4).2))) → n ≤ 6 → (6 - n) < k → WP l E (xRm 12 0 0) (xA E) Y 0 0 68 [vA 68, vI (jI (1 + (n : Int)))] [] M := by
  intro k
  induction k with
  | zero => intro M n hI hn hk; exact absurd hk (Nat.not_lt_zero _)
  | succ k ih =>
    intro M n hI hn hk
    have hZM := okZ_v hI.2.1 hZ
    have hln := hY.1
    have el : (M.1 68 11).toInt = ln M0 := (by rw [hI.1.2 11 (by decide) (by decide)]; rfl)
    have e74 : M.1 74 = M0.1 74 := hI.1.1 74 (by decide) (by decide) (by decide) (by decide)
    refine x_iload_n F dX7_digest_68 rfl ?_
    refine xj_bipush F dX7_digest_69 (by decide) ?_
    refine xj_icmp_ge (tgt := 90) F dX7_digest_71 (by decide) (by omega) (fun h_1 => ?_) (fun h_1 => ?_)
    · have e : n = 6 := (by omega)
      subst e
      have hoa := oa_d hZ hI.2.1
      have hsi := si_d hI.2.1
      refine x_aload_n F dX7_digest_90 rfl ?_
      refine x_aload_n F dX7_digest_91 rfl ?_
      refine x_V0 F (m_X7_share hZM) mlX7_236 mvX7_share rfl dX7_digest_92 (by decide) rfl ⟨Nat.le_of_ble_eq_true rfl, Nat.le_of_ble_eq_true rfl⟩ ⟨Nat.zero_le _, Nat.zero_le _⟩ (Nat.le_of_ble_eq_true rfl) ?_
      refine x_S1 F (m_Jxe99ae_doubleToLongBits_ccdee (shD_c (oaZ_b hZM) (siZ_b hZM))) mlX7_255 msJxe99ae_doubleToLongBits_ccdee dX7_digest_95 ⟨Nat.le_of_ble_eq_true rfl, Nat.le_of_ble_eq_true rfl⟩ ⟨Nat.zero_le _, Nat.zero_le _⟩ (Nat.le_of_ble_eq_true rfl) ?_
      refine x_V1 F (m_X7_mix) mlX7_246 mvX7_mix rfl dX7_digest_98 (by decide) rfl ⟨Nat.le_of_ble_eq_true rfl, Nat.le_of_ble_eq_true rfl⟩ ⟨Nat.zero_le _, Nat.zero_le _⟩ (Nat.le_of_ble_eq_true rfl) ?_
      refine x_aload_n F dX7_digest_101 rfl ?_
      refine x_aload_n F dX7_digest_102 rfl ?_
      refine xj_geti F flX7_145 rfl dX7_digest_103 (by decide) (by decide) rfl (fun hg_2 => ?_)
      rw [show ((upL M 68 18 (mx (M.2.2 68 18) (shD (oaZ M) (siZ M)).toInt64)).1 68 11).toInt = ln M0 from el]
      refine x_i2l F dX7_digest_106 ?_
      refine x_V1 F (m_X7_mix) mlX7_246 mvX7_mix rfl dX7_digest_107 (by decide) rfl ⟨Nat.le_of_ble_eq_true rfl, Nat.le_of_ble_eq_true rfl⟩ ⟨Nat.zero_le _, Nat.zero_le _⟩ (Nat.le_of_ble_eq_true rfl) ?_
      refine xj_iconst F dX7_digest_110 ?_
      refine x_istore_n F dX7_digest_111 (by decide) ?_
      refine L_X7_digest_112 (l := l) hZ hv hY F FR _ _ 0 (dR_mix (dR_mix (y := mx (dgB M0 (mxT (fun z => jL (noZ M0 (z : Nat))) 9 3637)) ((shD (oaI (vW M0) 1) (sumI (szI (vW M0) 1) 4)).toInt64)) hI ?_) ?_) hln.1 (Nat.lt_succ_self _)
      · rw [hoa, hsi]; rfl
      · rfl
    · have hor := or_d hZ hI.2.1 (z := 1 + (n : Int)) (by omega)
      refine x_aload_n F dX7_digest_74 rfl ?_
      refine x_aload_n F dX7_digest_75 rfl ?_
      refine x_iload_n F dX7_digest_76 rfl ?_
      refine x_V1 F (m_X7_oddByReach hZM (by omega)) mlX7_233 mvX7_oddByReach rfl dX7_digest_77 (by decide) rfl ⟨Nat.le_of_ble_eq_true rfl, Nat.le_of_ble_eq_true rfl⟩ ⟨Nat.zero_le _, Nat.zero_le _⟩ (Nat.le_of_ble_eq_true rfl) ?_
      refine x_i2l F dX7_digest_80 ?_
      refine x_V1 F (m_X7_mix) mlX7_246 mvX7_mix rfl dX7_digest_81 (by decide) rfl ⟨Nat.le_of_ble_eq_true rfl, Nat.le_of_ble_eq_true rfl⟩ ⟨Nat.zero_le _, Nat.zero_le _⟩ (Nat.le_of_ble_eq_true rfl) ?_
      refine xj_iinc F dX7_digest_84 rfl ?_
      refine x_goto (tgt := 68) F dX7_digest_87 (by decide) ?_
      have g := ih _ (n + 1) (dR_mix hI (v := (jI (oaZ (rcZ M (1 + (n : Int))))).toInt64) (y := (mxT (fun z => jL (orI (vW M0) ((z : Nat) + 1))) (n + 1) (mx (dgR (vW M0) 4 (mxT (fun z => jL (noZ M0 (z : Nat))) 9 3637)) (jL (brF (vW M0) 160 4).2)))) ?_) (by omega) (by omega)
      · rw [show (1 : Int) + ((n + 1 : Nat) : Int) = 1 + (n : Int) + 1 by omega] at g
        exact g
      · simp only [mxT]
        rw [hor, Int.add_comm 1 (n : Int)]
        rfl
set_option maxRecDepth 20000 in
theorem L_X7_digest_38 {l : Launch} {E : xE} {M0 : xM} (hZ : okZ M0) (hv : hV M0) (hY : okW M0) {Y : xY} (F : xFix E (xA E) Y cX7_digest yX7_digest.cls 2) (FR : xRet E Y (some FieldType.long) 0 0 (fun r' M' => r' = vL (dgZ M0) ∧ dR M0 M' (dgZ M0)) (fun _ _ => False)) : ∀ (k : Nat) (M : xM) (n : Nat), dR M0 M (dgR (vW M0) n (mxT (fun z => jL (noZ M0 (z : Nat))) 9 3637)) → n ≤ 4 → (4 - n) < k → WP l E (xRm 12 0 0) (xA E) Y 0 0 38 [vA 68, vI (jI (n : Int))] [] M := by
  intro k
  induction k with
  | zero => intro M n hI hn hk; exact absurd hk (Nat.not_lt_zero _)
  | succ k ih =>
    intro M n hI hn hk
    have hZM := okZ_v hI.2.1 hZ
    have hln := hY.1
    have el : (M.1 68 11).toInt = ln M0 := (by rw [hI.1.2 11 (by decide) (by decide)]; rfl)
    have e74 : M.1 74 = M0.1 74 := hI.1.1 74 (by decide) (by decide) (by decide) (by decide)
    refine x_iload_n F dX7_digest_38 rfl ?_
    refine xj_iconst F dX7_digest_39 ?_
    refine xj_icmp_ge (tgt := 54) F dX7_digest_40 (by decide) (by omega) (fun h_1 => ?_) (fun h_1 => ?_)
    · refine x_aload_n F dX7_digest_54 rfl ?_
      refine x_aload_n F dX7_digest_55 rfl ?_
      refine xj_sipush F dX7_digest_56 (by decide) ?_
      refine x_V1P F (m_X7_bestRowFor hZM) mlX7_230 mvX7_bestRowFor rfl dX7_digest_59 (by decide) rfl ⟨Nat.le_of_ble_eq_true rfl, Nat.le_of_ble_eq_true rfl⟩ ⟨Nat.zero_le _, Nat.zero_le _⟩ (Nat.le_of_ble_eq_true rfl) (fun r_59 M_59 q_59 => ?_)
      obtain ⟨rfl, gB_59⟩ := q_59
      have hI3 := dR_gB hI gB_59
      refine x_i2l F dX7_digest_62 ?_
      refine x_V1 F (m_X7_mix) mlX7_246 mvX7_mix rfl dX7_digest_63 (by decide) rfl ⟨Nat.le_of_ble_eq_true rfl, Nat.le_of_ble_eq_true rfl⟩ ⟨Nat.zero_le _, Nat.zero_le _⟩ (Nat.le_of_ble_eq_true rfl) ?_
      refine xj_iconst F dX7_digest_66 ?_
      refine x_istore_n F dX7_digest_67 (by decide) ?_
      have e : n = 4 := (by omega)
      subst e
      refine L_X7_digest_68 (l := l) hZ hv hY F FR _ _ 0 (dR_mix hI3 ?_) (by decide) (Nat.lt_succ_self _)
      rw [br_d hZ hI.2.1]
      rfl
    · refine x_aload_n F dX7_digest_43 rfl ?_
      refine x_iload_n F dX7_digest_44 rfl ?_
      refine x_V1P F (m_X7_mixRow hZ hv (by omega) hI) mlX7_252 mvX7_mixRow rfl dX7_digest_45 (by decide) rfl ⟨Nat.le_of_ble_eq_true rfl, Nat.le_of_ble_eq_true rfl⟩ ⟨Nat.zero_le _, Nat.zero_le _⟩ (Nat.le_of_ble_eq_true rfl) (fun r_45 M_45 q_45 => ?_)
      obtain ⟨rfl, hI2⟩ := q_45
      refine xj_iinc F dX7_digest_48 rfl ?_
      refine x_goto (tgt := 38) F dX7_digest_51 (by decide) ?_
      exact ih _ (n + 1) hI2 (by omega) (by omega)
set_option maxRecDepth 20000 in
theorem L_X7_digest_14 {l : Launch} {E : xE} {M0 : xM} (hZ : okZ M0) (hv : hV M0) (hY : okW M0) {Y : xY} (F : xFix E (xA E) Y cX7_digest yX7_digest.cls 2) (FR : xRet E Y (some FieldType.long) 0 0 (fun r' M' => r' = vL (dgZ M0) ∧ dR M0 M' (dgZ M0)) (fun _ _ => False)) : ∀ (k : Nat) (M : xM) (n : Nat), dR M0 M (mxT (fun z => jL (noZ M0 (z : Nat))) n 3637) → n ≤ 9 → (9 - n) < k → WP l E (xRm 12 0 0) (xA E) Y 0 0 14 [vA 68, vI (jI (n : Int))] [] M := by
  intro k
  induction k with
  | zero => intro M n hI hn hk; exact absurd hk (Nat.not_lt_zero _)
  | succ k ih =>
    intro M n hI hn hk
    have hZM := okZ_v hI.2.1 hZ
    have hln := hY.1
    have el : (M.1 68 11).toInt = ln M0 := (by rw [hI.1.2 11 (by decide) (by decide)]; rfl)
    have e74 : M.1 74 = M0.1 74 := hI.1.1 74 (by decide) (by decide) (by decide) (by decide)
    have hno := no_d hZ hI (z := (n : Int)) (by omega)
    refine x_iload_n F dX7_digest_14 rfl ?_
    refine xj_bipush F dX7_digest_15 (by decide) ?_
    refine xj_icmp_ge (tgt := 36) F dX7_digest_17 (by decide) (by omega) (fun h_1 => ?_) (fun h_1 => ?_)
    · refine xj_iconst F dX7_digest_36 ?_
      refine x_istore_n F dX7_digest_37 (by decide) ?_
      have e : n = 9 := (by omega)
      subst e
      exact L_X7_digest_38 (l := l) hZ hv hY F FR _ _ 0 hI (by decide) (Nat.lt_succ_self _)
    · refine x_aload_n F dX7_digest_20 rfl ?_
      refine x_aload_n F dX7_digest_21 rfl ?_
      refine x_iload_n F dX7_digest_22 rfl ?_
      refine x_V1 F (m_X7_number hZM (by omega)) mlX7_218 mvX7_number rfl dX7_digest_23 (by decide) rfl ⟨Nat.le_of_ble_eq_true rfl, Nat.le_of_ble_eq_true rfl⟩ ⟨Nat.zero_le _, Nat.zero_le _⟩ (Nat.le_of_ble_eq_true rfl) ?_
      refine x_i2l F dX7_digest_26 ?_
      refine x_V1 F (m_X7_mix) mlX7_246 mvX7_mix rfl dX7_digest_27 (by decide) rfl ⟨Nat.le_of_ble_eq_true rfl, Nat.le_of_ble_eq_true rfl⟩ ⟨Nat.zero_le _, Nat.zero_le _⟩ (Nat.le_of_ble_eq_true rfl) ?_
      refine xj_iinc F dX7_digest_30 rfl ?_
      refine x_goto (tgt := 14) F dX7_digest_33 (by decide) ?_
      refine ih _ (n + 1) (dR_mix hI ?_) (by omega) (by omega)
      simp only [mxT]
      rw [hno]
      rfl
theorem dR_0 (M : xM) : dR M (upL M 68 18 3637) 3637 := ⟨⟨fun _ _ _ _ _ => rfl, fun _ _ _ => rfl⟩, eqV_69 rfl, ⟨rfl, fun a k ha => by show (if a = 68 ∧ k = 18 then _ else M.2.2 a k) = _; rw [if_neg (by omega)]⟩, rfl⟩
set_option maxRecDepth 20000 in
theorem m_X7_digest {l : Launch} {E : xE} {M : xM} (hZ : okZ M) (hv : hV M) (hY : okW M) : XP l E 12 yX7_digest cX7_digest 2 (some FieldType.long) [vA 68] M (fun r' M' => r' = vL (dgZ (t0 M)) ∧ dR (t0 M) M' (dgZ (t0 M))) := by
  refine xp_start (plainFor_of_name (by decide)) rfl (Nat.le_of_ble_eq_true rfl) ?_
  intro Y F FR
  have hZ0 : okZ (t0 M) := hZ
  have hv0 : hV (t0 M) := hv
  have hY0 : okW (t0 M) := okW_up hY (by decide) (Or.inr (by decide))
  refine x_aload_n F dX7_digest_0 rfl ?_
  refine xj_iconst F dX7_digest_1 ?_
  refine x_puti F flX7_40 rfl dX7_digest_2 (by decide) (by decide) rfl fw7_5 rfl rfl ?_
  refine x_aload_n F dX7_digest_5 rfl ?_
  refine x_ldc2 F klX7_250 dX7_digest_6 ?_
  refine x_putl F flX7_242 rfl dX7_digest_9 (by decide) (by decide) rfl fw7_18 ?_
  refine xj_iconst F dX7_digest_12 ?_
  refine x_istore_n F dX7_digest_13 (by decide) ?_
  exact L_X7_digest_14 (l := l) hZ0 hv0 hY0 F FR _ _ 0 (dR_0 _) (by decide) (Nat.lt_succ_self _)
