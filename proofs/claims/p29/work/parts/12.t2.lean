theorem isCh_lt {c : Nat} (h : isCh c) : c + 4 < 48 := by
  have h1 : c < 72 := xk_lt h.1 (by decide)
  have h2 : ∀ c : Nat, c < 72 → xk c = (1, 9) → c + 4 < 48 := by decide +kernel
  exact h2 c h1 h.1
theorem szI_row {M M' : xM} {c : Nat} (h : ∀ b, b < 50 → M'.1 b = M.1 b) (hC : isCh c) (r : Int) : szI M' c r = szI M c r := szI_of (h _ (by have := isCh_lt hC; omega)) r
theorem heI_row {M M' : xM} {c : Nat} (h : ∀ b, b < 50 → M'.1 b = M.1 b) (hC : isCh c) (r p : Int) : heI M' c r p = heI M c r p := by unfold heI; rw [h _ (by have := isCh_lt hC; omega)]
/-- the world behind putBetween -/
def puM (c : Nat) (r f t : Int) (M : xM) : xM := pbM c r (max f 0) M (min t (szI M c r - 1) + 1 - max f 0).toNat
def hyM (c : Nat) (r p : Int) (M : xM) : xM :=
  let M2 := puM c r (p - ((flM M).1 c 4).toInt) (p - 1) (flM M)
  puM c (rbI M2 c r) (p - (M2.1 c 4).toInt) p M2
def hyI (c : Nat) (r p : Int) (M : xM) : Int := htI (hyM c r p M) (heI (hyM c r p M) c r p) 12 ((hyM c r p M).2.1 50 1) 0
theorem flM_ok (M : xM) (h : okT M) : okT (flM M) ∧ ((flM M).1 50 2).toInt = 0 ∧ ∀ b, b < 50 → (flM M).1 b = M.1 b := by
  refine ⟨okT_upI (okT_upR h (fun _ q => by cases q)), ?_, fun b hb => ?_⟩
  · unfold flM; rw [upI_1, if_pos ⟨rfl, rfl⟩]; rfl
  · unfold flM; rw [upI_row (by omega)]; rfl
set_option maxRecDepth 20000 in
theorem L_X1_putBetween {l : Launch} {E : xE} {c : Nat} {r f t : Int} {M : xM} (hC : isCh c) (hS : ∀ r : Int, 0 ≤ szI M c r ∧ szI M c r ≤ 6) (hr : -1000 ≤ r ∧ r ≤ 1001) (hf : -1000 ≤ f ∧ f ≤ 1000) (ht : -1000 ≤ t ∧ t ≤ 1000) (hT : okT M) (hu : 0 ≤ (M.1 50 2).toInt ∧ (M.1 50 2).toInt + (min t (szI M c r - 1) + 1 - max f 0).toNat ≤ 12) {Y : xY} (F : xFix E (xA E) Y cX1_putBetween yX1_putBetween.cls 7) (FR : xRet E Y none 0 0 (fun r' M'' => r' = vU ∧ M'' = puM c r f t M) (fun _ _ => False)) : ∀ (k : Nat) (p : Int), max f 0 ≤ p → p ≤ max (max f 0) (min t (szI M c r - 1) + 1) → (min t (szI M c r - 1) + 1 - p).toNat < k → WP l E (xRm 3 0 0) (xA E) Y 0 0 21 [vA c, vA 50, vI (jI r), vI (jI f), vI (jI t), vI (jI (min t (szI M c r - 1))), vI (jI p)] [] (pbM c r (max f 0) M (p - max f 0).toNat) := by
  intro k
  induction k with
  | zero => intro p hp hb hk; exact absurd hk (Nat.not_lt_zero _)
  | succ k ih =>
    intro p hp hb hk
    have hs := hS r
    obtain ⟨k1, k2, k3⟩ := pbM_ok (c := c) (r := r) (lo := max f 0) hT hu.1 (p - max f 0).toNat (by omega)
    have hsz : szI (pbM c r (max f 0) M (p - max f 0).toNat) c r = szI M c r := szI_row k3 hC r
    refine x_iload F dX1_putBetween_21 rfl ?_
    refine x_iload F dX1_putBetween_23 rfl ?_
    refine xj_icmp_gt (tgt := 45) F dX1_putBetween_25 (by decide) (by omega) (fun h_1 => ?_) (fun h_1 => ?_)
    · refine x_vret F FR dX1_putBetween_45 (Nat.le_refl _) (Nat.le_refl _) ?_
      exact ⟨rfl, by unfold puM; congr 1; omega⟩
    · refine x_aload_n F dX1_putBetween_28 rfl ?_
      refine x_aload_n F dX1_putBetween_29 rfl ?_
      refine x_iload_n F dX1_putBetween_30 rfl ?_
      refine x_iload F dX1_putBetween_31 rfl ?_
      refine x_V2 F (m_X1_heightAt (by first | assumption | omega | decide) (by first | assumption | omega | decide) (by first | assumption | omega | decide)) mlX1_92 mvX1_heightAt hC.1 dX1_putBetween_33 (by decide) rfl ⟨Nat.le_of_ble_eq_true rfl, Nat.le_of_ble_eq_true rfl⟩ ⟨Nat.zero_le _, Nat.zero_le _⟩ (Nat.le_of_ble_eq_true rfl) ?_
      have hf_2 := rg_heI (pbM c r (max f 0) M (p - max f 0).toNat) c r p
      have k4 := pbM_ok (c := c) (r := r) (lo := max f 0) hT hu.1 (p - max f 0).toNat (by omega)
      refine x_V1 F (m_X2_put (rg_heI _ _ _ _) k1 (by omega)) mlX1_129 mvX2_put rfl dX1_putBetween_36 (by decide) rfl ⟨Nat.le_of_ble_eq_true rfl, Nat.le_of_ble_eq_true rfl⟩ ⟨Nat.zero_le _, Nat.zero_le _⟩ (Nat.le_of_ble_eq_true rfl) ?_
      refine xj_iinc F dX1_putBetween_39 rfl ?_
      refine x_goto (tgt := 21) F dX1_putBetween_42 (by decide) ?_
      have e : (p + 1 - max f 0).toNat = (p - max f 0).toNat + 1 := by omega
      refine ih (p + 1) (by omega) (by omega) (by omega) |> fun g => ?_
      rw [e] at g
      simp only [pbM] at g
      rw [show max f 0 + (((p - max f 0).toNat : Nat) : Int) = p by omega] at g
      exact g
set_option maxRecDepth 20000 in
theorem m_X1_putBetween {l : Launch} {E : xE} {c : Nat} {r f t : Int} {M : xM} (hC : isCh c) (hS : ∀ r : Int, 0 ≤ szI M c r ∧ szI M c r ≤ 6) (hr : -1000 ≤ r ∧ r ≤ 1001) (hf : -1000 ≤ f ∧ f ≤ 1000) (ht : -1000 ≤ t ∧ t ≤ 1000) (hT : okT M) (hu : 0 ≤ (M.1 50 2).toInt ∧ (M.1 50 2).toInt + (min t (szI M c r - 1) + 1 - max f 0).toNat ≤ 12) : XF l E 3 yX1_putBetween cX1_putBetween 7 none [vA c, vA 50, vI (jI r), vI (jI f), vI (jI t)] M (vU) (puM c r f t M) := by
  refine xp_start (plainFor_of_name (by decide)) rfl (Nat.le_of_ble_eq_true rfl) ?_
  intro Y F FR
  refine x_iload F dX1_putBetween_0 rfl ?_
  refine x_aload_n F dX1_putBetween_2 rfl ?_
  refine x_iload_n F dX1_putBetween_3 rfl ?_
  refine x_V1 F (m_X1_sizeOf (by first | assumption | omega | decide) (by first | assumption | omega | decide)) mlX1_56 mvX1_sizeOf hC.1 dX1_putBetween_4 (by decide) rfl ⟨Nat.le_of_ble_eq_true rfl, Nat.le_of_ble_eq_true rfl⟩ ⟨Nat.zero_le _, Nat.zero_le _⟩ (Nat.le_of_ble_eq_true rfl) ?_
  have hf_1 := rg_szI M c r
  have hf_2 := hS r
  refine xj_iconst F dX1_putBetween_7 ?_
  refine xj_isub F dX1_putBetween_8 ?_
  refine x_S2 F (m_J9_min_7cf53 (by first | assumption | omega | decide) (by first | assumption | omega | decide)) mlX1_44 msJ9_min_7cf53 dX1_putBetween_9 ⟨Nat.le_of_ble_eq_true rfl, Nat.le_of_ble_eq_true rfl⟩ ⟨Nat.zero_le _, Nat.zero_le _⟩ (Nat.le_of_ble_eq_true rfl) ?_
  refine x_istore F dX1_putBetween_12 (by decide) ?_
  refine x_iload_n F dX1_putBetween_14 rfl ?_
  refine xj_iconst F dX1_putBetween_15 ?_
  refine x_S2 F (m_J9_max_7cf53 (by first | assumption | omega | decide) (by first | assumption | omega | decide)) mlX1_98 msJ9_max_7cf53 dX1_putBetween_16 ⟨Nat.le_of_ble_eq_true rfl, Nat.le_of_ble_eq_true rfl⟩ ⟨Nat.zero_le _, Nat.zero_le _⟩ (Nat.le_of_ble_eq_true rfl) ?_
  refine x_istore F dX1_putBetween_19 (by decide) ?_
  have g := L_X1_putBetween (l := l) hC hS hr hf ht hT hu F FR _ (max f 0) (by omega) (by omega) (Nat.lt_succ_self _)
  rw [show (max f 0 - max f 0).toNat = 0 by omega] at g
  exact g
theorem puM_ok {c : Nat} {r f t : Int} {M : xM} (hT : okT M) (hu : 0 ≤ (M.1 50 2).toInt ∧ (M.1 50 2).toInt + (min t (szI M c r - 1) + 1 - max f 0).toNat ≤ 12) : okT (puM c r f t M) ∧ (0 ≤ ((puM c r f t M).1 50 2).toInt ∧ ((puM c r f t M).1 50 2).toInt ≤ (M.1 50 2).toInt + (min t (szI M c r - 1) + 1 - max f 0).toNat) ∧ ∀ b, b < 50 → (puM c r f t M).1 b = M.1 b := pbM_ok hT hu.1 _ hu.2
/-- what stands behind the first half of higherByTree -/
theorem hy_half {c : Nat} {r p : Int} {M : xM} (hC : isCh c) (hO : okC M c) (hr : 0 ≤ r ∧ r < 4) (hp : 0 ≤ p ∧ p < 6) (hT : okT M) :
    (okT (flM M) ∧ ((flM M).1 50 2).toInt = 0 ∧ (flM M).1 c = M.1 c ∧ ∀ q, szI (flM M) c q = szI M c q) ∧
    (okT (puM c r (p - ((flM M).1 c 4).toInt) (p - 1) (flM M)) ∧ (0 ≤ ((puM c r (p - ((flM M).1 c 4).toInt) (p - 1) (flM M)).1 50 2).toInt ∧ ((puM c r (p - ((flM M).1 c 4).toInt) (p - 1) (flM M)).1 50 2).toInt ≤ 5) ∧ (puM c r (p - ((flM M).1 c 4).toInt) (p - 1) (flM M)).1 c = M.1 c ∧ (∀ q, szI (puM c r (p - ((flM M).1 c 4).toInt) (p - 1) (flM M)) c q = szI M c q) ∧ ∀ b, b < 50 → (puM c r (p - ((flM M).1 c 4).toInt) (p - 1) (flM M)).1 b = M.1 b) := by
  obtain ⟨f1, f2, f3⟩ := flM_ok M hT
  have hc := isCh_lt hC
  have e1 : (flM M).1 c = M.1 c := f3 c (by omega)
  have hs := hO.1 r
  have e2 : ∀ q, szI (flM M) c q = szI M c q := fun q => szI_row f3 hC q
  have hre := hO.2.1
  obtain ⟨g1, g2, g3⟩ := puM_ok (c := c) (r := r) (f := p - ((flM M).1 c 4).toInt) (t := p - 1) f1 (by rw [f2, e2]; omega)
  refine ⟨⟨f1, f2, e1, e2⟩, g1, ⟨g2.1, ?_⟩, ?_, ?_, ?_⟩
  · have := g2.2
    rw [f2, e2] at this
    omega
  · rw [g3 c (by omega), e1]
  · intro q
    rw [szI_row g3 hC q, e2]
  · intro b hb
    rw [g3 b hb, f3 b hb]
set_option maxRecDepth 20000 in
theorem m_X1_higherByTree {l : Launch} {E : xE} {c : Nat} {r p : Int} {M : xM} (hC : isCh c) (hO : okC M c) (hr : 0 ≤ r ∧ r < 4) (hp : 0 ≤ p ∧ p < 6) (hT : okT M) : XF l E 15 yX1_higherByTree cX1_higherByTree 4 (some FieldType.int) [vA c, vA 50, vI (jI r), vI (jI p)] M (vI (jI (hyI c r p M))) (hyM c r p M) := by
  refine xp_start (plainFor_of_name (by decide)) rfl (Nat.le_of_ble_eq_true rfl) ?_
  intro Y F FR
  have hS := hO.1
  have hre := hO.2.1
  obtain ⟨⟨f1, f2, f3, f4⟩, g1, g2, g3, g4, g5⟩ := hy_half hC hO hr hp hT
  have hrb : -1000 ≤ rbI M c r ∧ rbI M c r ≤ 1001 := by unfold rbI; omega
  have hsr := hS r
  have hre1 : 1 ≤ ((flM M).1 c 4).toInt ∧ ((flM M).1 c 4).toInt ≤ 6 := by rw [f3]; exact hre
  have hre2 : 1 ≤ ((puM c r (p - ((flM M).1 c 4).toInt) (p - 1) (flM M)).1 c 4).toInt ∧ ((puM c r (p - ((flM M).1 c 4).toInt) (p - 1) (flM M)).1 c 4).toInt ≤ 6 := by rw [g3]; exact hre
  have hsb := hS (rbI (puM c r (p - ((flM M).1 c 4).toInt) (p - 1) (flM M)) c r)
  refine x_aload_n F dX1_higherByTree_0 rfl ?_
  refine x_V0 F (m_X2_fell) mlX1_117 mvX2_fell rfl dX1_higherByTree_1 (by decide) rfl ⟨Nat.le_of_ble_eq_true rfl, Nat.le_of_ble_eq_true rfl⟩ ⟨Nat.zero_le _, Nat.zero_le _⟩ (Nat.le_of_ble_eq_true rfl) ?_
  refine x_aload_n F dX1_higherByTree_4 rfl ?_
  refine x_aload_n F dX1_higherByTree_5 rfl ?_
  refine x_iload_n F dX1_higherByTree_6 rfl ?_
  refine x_iload_n F dX1_higherByTree_7 rfl ?_
  refine x_aload_n F dX1_higherByTree_8 rfl ?_
  refine xj_geti F flX1_24 hC.1 dX1_higherByTree_9 (by decide) (by decide) rfl (fun hg_1 => ?_)
  refine xj_isub F dX1_higherByTree_12 ?_
  refine x_iload_n F dX1_higherByTree_13 rfl ?_
  refine xj_iconst F dX1_higherByTree_14 ?_
  refine xj_isub F dX1_higherByTree_15 ?_
  refine x_V4 F (m_X1_putBetween hC (fun q => by rw [f4]; exact hS q) (by omega) (by omega) (by omega) f1 (by rw [f2, f4]; omega)) mlX1_122 mvX1_putBetween hC.1 dX1_higherByTree_16 (by decide) rfl ⟨Nat.le_of_ble_eq_true rfl, Nat.le_of_ble_eq_true rfl⟩ ⟨Nat.zero_le _, Nat.zero_le _⟩ (Nat.le_of_ble_eq_true rfl) ?_
  refine x_aload_n F dX1_higherByTree_19 rfl ?_
  refine x_aload_n F dX1_higherByTree_20 rfl ?_
  refine x_aload_n F dX1_higherByTree_21 rfl ?_
  refine x_iload_n F dX1_higherByTree_22 rfl ?_
  refine x_V1 F (m_X1_rowBehind hC (by omega)) mlX1_111 mvX1_rowBehind hC.1 dX1_higherByTree_23 (by decide) rfl ⟨Nat.le_of_ble_eq_true rfl, Nat.le_of_ble_eq_true rfl⟩ ⟨Nat.zero_le _, Nat.zero_le _⟩ (Nat.le_of_ble_eq_true rfl) ?_
  have hf_2 := (show -1000 ≤ rbI (puM c r (p - ((flM M).1 c 4).toInt) (p - 1) (flM M)) c r ∧ rbI (puM c r (p - ((flM M).1 c 4).toInt) (p - 1) (flM M)) c r ≤ 1001 by unfold rbI; omega)
  refine x_iload_n F dX1_higherByTree_26 rfl ?_
  refine x_aload_n F dX1_higherByTree_27 rfl ?_
  refine xj_geti F flX1_24 hC.1 dX1_higherByTree_28 (by decide) (by decide) rfl (fun hg_3 => ?_)
  refine xj_isub F dX1_higherByTree_31 ?_
  refine x_iload_n F dX1_higherByTree_32 rfl ?_
  refine x_V4 F (m_X1_putBetween hC (fun q => by rw [g4]; exact hS q) (by omega) (by omega) (by omega) g1 (by rw [g4]; omega)) mlX1_122 mvX1_putBetween hC.1 dX1_higherByTree_33 (by decide) rfl ⟨Nat.le_of_ble_eq_true rfl, Nat.le_of_ble_eq_true rfl⟩ ⟨Nat.zero_le _, Nat.zero_le _⟩ (Nat.le_of_ble_eq_true rfl) ?_
  refine x_aload_n F dX1_higherByTree_36 rfl ?_
  refine x_aload_n F dX1_higherByTree_37 rfl ?_
  refine x_iload_n F dX1_higherByTree_38 rfl ?_
  refine x_iload_n F dX1_higherByTree_39 rfl ?_
  refine x_V2 F (m_X1_heightAt hC (by omega) (by omega)) mlX1_92 mvX1_heightAt hC.1 dX1_higherByTree_40 (by decide) rfl ⟨Nat.le_of_ble_eq_true rfl, Nat.le_of_ble_eq_true rfl⟩ ⟨Nat.zero_le _, Nat.zero_le _⟩ (Nat.le_of_ble_eq_true rfl) ?_
  have hf_4 := rg_heI (puM c (rbI (puM c r (p - ((flM M).1 c 4).toInt) (p - 1) (flM M)) c r) (p - ((puM c r (p - ((flM M).1 c 4).toInt) (p - 1) (flM M)).1 c 4).toInt) p (puM c r (p - ((flM M).1 c 4).toInt) (p - 1) (flM M))) c r p
  have hT3 : okT (hyM c r p M) := (puM_ok (c := c) (r := rbI (puM c r (p - ((flM M).1 c 4).toInt) (p - 1) (flM M)) c r) (f := p - ((puM c r (p - ((flM M).1 c 4).toInt) (p - 1) (flM M)).1 c 4).toInt) (t := p) g1 (by rw [g4]; omega)).1
  refine x_V1 F (m_X2_higherThan (rg_heI _ _ _ _) hT3) mlX1_126 mvX2_higherThan rfl dX1_higherByTree_43 (by decide) rfl ⟨Nat.le_of_ble_eq_true rfl, Nat.le_of_ble_eq_true rfl⟩ ⟨Nat.zero_le _, Nat.zero_le _⟩ (Nat.le_of_ble_eq_true rfl) ?_
  refine x_iret F FR dX1_higherByTree_46 rfl (Nat.le_refl _) (Nat.le_refl _) ?_
  exact ⟨rfl, rfl⟩
