/-! THE CHOIR, by its cell c: what its looks answer, of the world M -/
theorem vj {a b : Int} (h : a = b) : vI (jI a) = vI (jI b) := by rw [h]
def isCh (c : Nat) : Prop := xk c = (1, 9) ∧ xk (c + 1) = (8, 4) ∧ xk (c + 2) = (8, 24) ∧ xk (c + 3) = (8, 24) ∧ xk (c + 4) = (8, 24)
def rdI (f : Nat → Int32) (N : Nat) (z : Int) : Int := if 0 ≤ z ∧ z < N then (f z.toNat).toInt else -1
def wrI (M : xM) (a N : Nat) (z : Int) (x : Int32) : xM := if 0 ≤ z ∧ z < N then upI M a z.toNat x else M
theorem rg_rdI (f : Nat → Int32) (N : Nat) (z : Int) : rg (rdI f N z) := by
  unfold rdI
  have := rg_of (f z.toNat)
  split <;> omega
def szI (M : xM) (c : Nat) (r : Int) : Int := if 0 ≤ r ∧ r < 4 then (M.1 (c + 1) r.toNat).toInt else 0
theorem rg_szI (M : xM) (c : Nat) (r : Int) : rg (szI M c r) := by
  unfold szI
  have := rg_of (M.1 (c + 1) r.toNat)
  split <;> omega
def heI (M : xM) (c : Nat) (r p : Int) : Int := rdI (M.1 (c + 3)) 24 (if 0 ≤ r ∧ r < 4 ∧ 0 ≤ p ∧ p < 6 then 6 * r + p else -1)
def spI (r p : Int) : Int := if 0 ≤ r ∧ r < 4 ∧ 0 ≤ p ∧ p < 6 then 6 * r + p else -1
theorem rg_spI (r p : Int) : rg (spI r p) := by unfold spI; split <;> omega
def sumI (f : Int → Int) : Nat → Int
  | 0 => 0
  | n + 1 => sumI f n + f n
theorem sumI_b {f : Int → Int} {b : Int} : ∀ n : Nat, (∀ i : Int, 0 ≤ i → i < n → 0 ≤ f i ∧ f i ≤ b) → 0 ≤ sumI f n ∧ sumI f n ≤ b * n := by
  intro n
  induction n with
  | zero => intro _; simp [sumI]
  | succ n ih =>
    intro h
    have h1 := ih (fun i h0 h1 => h i h0 (by omega))
    have h2 := h n (by omega) (by omega)
    simp only [sumI]
    rw [Int.natCast_succ, Int.mul_add]
    omega
/-- what holds of a choir at all times -/
def okC (M : xM) (c : Nat) : Prop := (∀ r : Int, 0 ≤ szI M c r ∧ szI M c r ≤ 6) ∧ (1 ≤ (M.1 c 4).toInt ∧ (M.1 c 4).toInt ≤ 6) ∧ ((M.1 c 5).toInt = 0 ∨ (M.1 c 5).toInt = 1) ∧ (∀ k : Nat, k < 24 → -1 ≤ (M.1 (c + 3) k).toInt ∧ (M.1 (c + 3) k).toInt ≤ 1000)
set_option maxRecDepth 20000 in
theorem m_X6_readCell {l : Launch} {E : xE} {a N : Nat} {z : Int} {M : xM} (hk : xk a = (8, N)) (hN : N < 2147483648) (hz : rg z) : XF l E 1 yX6_readCell cX6_readCell 2 (some FieldType.int) [vA a, vI (jI z)] M (vI (jI (rdI (M.1 a) N z))) (M) := by
  refine xp_start (plainFor_of_name (by decide)) rfl (Nat.le_of_ble_eq_true rfl) ?_
  intro Y F FR
  refine x_iload_n F dX6_readCell_0 rfl ?_
  refine xj_if_lt (tgt := 16) F dX6_readCell_1 (by decide) (by omega) (fun h_1 => ?_) (fun h_1 => ?_)
  · refine xj_iconst F dX6_readCell_16 ?_
    refine x_iret F FR dX6_readCell_17 rfl (Nat.le_refl _) (Nat.le_refl _) ?_
    exact ⟨vj (by first | rfl | (simp only [rdI]; done) | (simp only [rdI]; omega) | (simp only [rdI]; split <;> first | omega | (split <;> omega))), rfl⟩
  · refine x_iload_n F dX6_readCell_4 rfl ?_
    refine x_aload_n F dX6_readCell_5 rfl ?_
    refine xj_alen F hk dX6_readCell_6 (by decide) ?_
    refine xj_icmp_ge (tgt := 16) F dX6_readCell_7 (by decide) (by omega) (fun h_2 => ?_) (fun h_2 => ?_)
    · refine xj_iconst F dX6_readCell_16 ?_
      refine x_iret F FR dX6_readCell_17 rfl (Nat.le_refl _) (Nat.le_refl _) ?_
      exact ⟨vj (by first | rfl | (simp only [rdI]; done) | (simp only [rdI]; omega) | (simp only [rdI]; split <;> first | omega | (split <;> omega))), rfl⟩
    · refine x_aload_n F dX6_readCell_10 rfl ?_
      refine x_iload_n F dX6_readCell_11 rfl ?_
      refine xj_lald2 F hk dX6_readCell_12 (by omega) (fun hg_3 => ?_)
      refine x_goto (tgt := 17) F dX6_readCell_13 (by decide) ?_
      refine x_iret F FR dX6_readCell_17 rfl (Nat.le_refl _) (Nat.le_refl _) ?_
      exact ⟨vj (by first | rfl | (simp only [rdI]; done) | (simp only [rdI]; omega) | (simp only [rdI]; split <;> first | omega | (split <;> omega))), rfl⟩
set_option maxRecDepth 20000 in
theorem m_X6_writeCell {l : Launch} {E : xE} {a N : Nat} {z x : Int} {M : xM} (hk : xk a = (8, N)) (hN : N < 2147483648) (hz : rg z) : XF l E 1 yX6_writeCell cX6_writeCell 3 none [vA a, vI (jI z), vI (jI x)] M (vU) (wrI M a N z (jI x)) := by
  refine xp_start (plainFor_of_name (by decide)) rfl (Nat.le_of_ble_eq_true rfl) ?_
  intro Y F FR
  refine x_iload_n F dX6_writeCell_0 rfl ?_
  refine xj_if_lt (tgt := 14) F dX6_writeCell_1 (by decide) (by omega) (fun h_1 => ?_) (fun h_1 => ?_)
  · refine x_vret F FR dX6_writeCell_14 (Nat.le_refl _) (Nat.le_refl _) ?_
    first
      | exact ⟨rfl, by rw [wrI, if_pos (by omega)]⟩
      | exact ⟨rfl, by rw [wrI, if_neg (by omega)]⟩
  · refine x_iload_n F dX6_writeCell_4 rfl ?_
    refine x_aload_n F dX6_writeCell_5 rfl ?_
    refine xj_alen F hk dX6_writeCell_6 (by decide) ?_
    refine xj_icmp_ge (tgt := 14) F dX6_writeCell_7 (by decide) (by omega) (fun h_2 => ?_) (fun h_2 => ?_)
    · refine x_vret F FR dX6_writeCell_14 (Nat.le_refl _) (Nat.le_refl _) ?_
      first
        | exact ⟨rfl, by rw [wrI, if_pos (by omega)]⟩
        | exact ⟨rfl, by rw [wrI, if_neg (by omega)]⟩
    · refine x_aload_n F dX6_writeCell_10 rfl ?_
      refine x_iload_n F dX6_writeCell_11 rfl ?_
      refine x_iload_n F dX6_writeCell_12 rfl ?_
      refine xj_iast F hk dX6_writeCell_13 (by omega) ?_
      refine x_vret F FR dX6_writeCell_14 (Nat.le_refl _) (Nat.le_refl _) ?_
      first
        | exact ⟨rfl, by rw [wrI, if_pos (by omega)]⟩
        | exact ⟨rfl, by rw [wrI, if_neg (by omega)]⟩
set_option maxRecDepth 20000 in
theorem m_X6_isBetween {l : Launch} {E : xE} {a b e : Int} {M : xM} (ha : rg a) (hb : rg b) (he : rg e) : XF l E 1 yX6_isBetween cX6_isBetween 3 (some FieldType.boolean) [vI (jI a), vI (jI b), vI (jI e)] M (vI (jb (b ≤ a ∧ a ≤ e))) (M) := by
  refine xp_start (plainFor_of_name (by decide)) rfl (Nat.le_of_ble_eq_true rfl) ?_
  intro Y F FR
  refine x_iload_n F dX6_isBetween_0 rfl ?_
  refine x_iload_n F dX6_isBetween_1 rfl ?_
  refine xj_icmp_lt (tgt := 14) F dX6_isBetween_2 (by decide) (by omega) (fun h_1 => ?_) (fun h_1 => ?_)
  · refine xj_iconst F dX6_isBetween_14 ?_
    refine x_iret F FR dX6_isBetween_15 rfl (Nat.le_refl _) (Nat.le_refl _) ?_
    first
      | exact ⟨by rw [jb_t (by omega)], rfl⟩
      | exact ⟨by rw [jb_f (by omega)], rfl⟩
  · refine x_iload_n F dX6_isBetween_5 rfl ?_
    refine x_iload_n F dX6_isBetween_6 rfl ?_
    refine xj_icmp_gt (tgt := 14) F dX6_isBetween_7 (by decide) (by omega) (fun h_2 => ?_) (fun h_2 => ?_)
    · refine xj_iconst F dX6_isBetween_14 ?_
      refine x_iret F FR dX6_isBetween_15 rfl (Nat.le_refl _) (Nat.le_refl _) ?_
      first
        | exact ⟨by rw [jb_t (by omega)], rfl⟩
        | exact ⟨by rw [jb_f (by omega)], rfl⟩
    · refine xj_iconst F dX6_isBetween_10 ?_
      refine x_goto (tgt := 15) F dX6_isBetween_11 (by decide) ?_
      refine x_iret F FR dX6_isBetween_15 rfl (Nat.le_refl _) (Nat.le_refl _) ?_
      first
        | exact ⟨by rw [jb_t (by omega)], rfl⟩
        | exact ⟨by rw [jb_f (by omega)], rfl⟩
set_option maxRecDepth 20000 in
theorem m_J9_max_7cf53 {l : Launch} {E : xE} {a b : Int} {M : xM} (ha : rg a) (hb : rg b) : XF l E 1 yJ9_max_7cf53 cJ9_max_7cf53 2 (some FieldType.int) [vI (jI a), vI (jI b)] M (vI (jI (max a b))) (M) := by
  refine xp_start (by decide +kernel) rfl (Nat.le_of_ble_eq_true rfl) ?_
  intro Y F FR
  refine x_iload_n F dJ9_max_7cf53_0 rfl ?_
  refine x_iload_n F dJ9_max_7cf53_1 rfl ?_
  refine xj_icmp_lt (tgt := 9) F dJ9_max_7cf53_2 (by decide) (by omega) (fun h_1 => ?_) (fun h_1 => ?_)
  · refine x_iload_n F dJ9_max_7cf53_9 rfl ?_
    refine x_iret F FR dJ9_max_7cf53_10 rfl (Nat.le_refl _) (Nat.le_refl _) ?_
    exact ⟨vj (by omega), rfl⟩
  · refine x_iload_n F dJ9_max_7cf53_5 rfl ?_
    refine x_goto (tgt := 10) F dJ9_max_7cf53_6 (by decide) ?_
    refine x_iret F FR dJ9_max_7cf53_10 rfl (Nat.le_refl _) (Nat.le_refl _) ?_
    exact ⟨vj (by omega), rfl⟩
set_option maxRecDepth 20000 in
theorem m_J9_min_7cf53 {l : Launch} {E : xE} {a b : Int} {M : xM} (ha : rg a) (hb : rg b) : XF l E 1 yJ9_min_7cf53 cJ9_min_7cf53 2 (some FieldType.int) [vI (jI a), vI (jI b)] M (vI (jI (min a b))) (M) := by
  refine xp_start (by decide +kernel) rfl (Nat.le_of_ble_eq_true rfl) ?_
  intro Y F FR
  refine x_iload_n F dJ9_min_7cf53_0 rfl ?_
  refine x_iload_n F dJ9_min_7cf53_1 rfl ?_
  refine xj_icmp_gt (tgt := 9) F dJ9_min_7cf53_2 (by decide) (by omega) (fun h_1 => ?_) (fun h_1 => ?_)
  · refine x_iload_n F dJ9_min_7cf53_9 rfl ?_
    refine x_iret F FR dJ9_min_7cf53_10 rfl (Nat.le_refl _) (Nat.le_refl _) ?_
    exact ⟨vj (by omega), rfl⟩
  · refine x_iload_n F dJ9_min_7cf53_5 rfl ?_
    refine x_goto (tgt := 10) F dJ9_min_7cf53_6 (by decide) ?_
    refine x_iret F FR dJ9_min_7cf53_10 rfl (Nat.le_refl _) (Nat.le_refl _) ?_
    exact ⟨vj (by omega), rfl⟩
set_option maxRecDepth 20000 in
theorem m_X1_sizeOf {l : Launch} {E : xE} {c : Nat} {r : Int} {M : xM} (hC : isCh c) (hr : rg r) : XF l E 1 yX1_sizeOf cX1_sizeOf 2 (some FieldType.int) [vA c, vI (jI r)] M (vI (jI (szI M c r))) (M) := by
  refine xp_start (plainFor_of_name (by decide)) rfl (Nat.le_of_ble_eq_true rfl) ?_
  intro Y F FR
  refine x_iload_n F dX1_sizeOf_0 rfl ?_
  refine xj_if_lt (tgt := 22) F dX1_sizeOf_1 (by decide) (by omega) (fun h_1 => ?_) (fun h_1 => ?_)
  · refine xj_iconst F dX1_sizeOf_22 ?_
    refine x_iret F FR dX1_sizeOf_23 rfl (Nat.le_refl _) (Nat.le_refl _) ?_
    exact ⟨vj (by first | rfl | (simp only [szI]; done) | (simp only [szI]; omega) | (simp only [szI]; split <;> first | omega | (split <;> omega))), rfl⟩
  · refine x_iload_n F dX1_sizeOf_4 rfl ?_
    refine x_aload_n F dX1_sizeOf_5 rfl ?_
    refine x_getc (v := c + 1) F flX1_9 hC.1 dX1_sizeOf_6 (by decide) (by decide) rfl rfl ?_
    refine xj_alen F hC.2.1 dX1_sizeOf_9 (by decide) ?_
    refine xj_icmp_ge (tgt := 22) F dX1_sizeOf_10 (by decide) (by omega) (fun h_2 => ?_) (fun h_2 => ?_)
    · refine xj_iconst F dX1_sizeOf_22 ?_
      refine x_iret F FR dX1_sizeOf_23 rfl (Nat.le_refl _) (Nat.le_refl _) ?_
      exact ⟨vj (by first | rfl | (simp only [szI]; done) | (simp only [szI]; omega) | (simp only [szI]; split <;> first | omega | (split <;> omega))), rfl⟩
    · refine x_aload_n F dX1_sizeOf_13 rfl ?_
      refine x_getc (v := c + 1) F flX1_9 hC.1 dX1_sizeOf_14 (by decide) (by decide) rfl rfl ?_
      refine x_iload_n F dX1_sizeOf_17 rfl ?_
      refine xj_lald2 F hC.2.1 dX1_sizeOf_18 (by omega) (fun hg_3 => ?_)
      refine x_goto (tgt := 23) F dX1_sizeOf_19 (by decide) ?_
      refine x_iret F FR dX1_sizeOf_23 rfl (Nat.le_refl _) (Nat.le_refl _) ?_
      exact ⟨vj (by first | rfl | (simp only [szI]; done) | (simp only [szI]; omega) | (simp only [szI]; split <;> first | omega | (split <;> omega))), rfl⟩
set_option maxRecDepth 20000 in
theorem L_X1_sizeOfAll {l : Launch} {E : xE} {c : Nat} {M : xM} (hC : isCh c) (hS : ∀ r : Int, 0 ≤ szI M c r ∧ szI M c r ≤ 6) {Y : xY} (F : xFix E (xA E) Y cX1_sizeOfAll yX1_sizeOfAll.cls 3) (FR : xRet E Y (some FieldType.int) 0 0 (fun r' M'' => r' = vI (jI (sumI (szI M c) 4)) ∧ M'' = M) (fun _ _ => False)) : ∀ (k : Nat) (r : Nat) (a : Int), r ≤ 4 → a = sumI (szI M c) r → 0 ≤ a ∧ a ≤ 6 * r → 4 - r < k → WP l E (xRm 2 0 0) (xA E) Y 0 0 4 [vA c, vI (jI a), vI (jI (r : Int))] [] M := by
  intro k
  induction k with
  | zero => intro r a hr ha hb hk; exact absurd hk (Nat.not_lt_zero _)
  | succ k ih =>
    intro r a hr ha hb hk
    refine x_iload_n F dX1_sizeOfAll_4 rfl ?_
    refine xj_iconst F dX1_sizeOfAll_5 ?_
    refine xj_icmp_ge (tgt := 23) F dX1_sizeOfAll_6 (by decide) (by omega) (fun h_1 => ?_) (fun h_1 => ?_)
    · refine x_iload_n F dX1_sizeOfAll_23 rfl ?_
      refine x_iret F FR dX1_sizeOfAll_24 rfl (Nat.le_refl _) (Nat.le_refl _) ?_
      exact ⟨vj (by have e : r = 4 := (by omega); subst e; exact ha), rfl⟩
    · refine x_iload_n F dX1_sizeOfAll_9 rfl ?_
      refine x_aload_n F dX1_sizeOfAll_10 rfl ?_
      refine x_iload_n F dX1_sizeOfAll_11 rfl ?_
      refine x_V1 F (m_X1_sizeOf (by first | assumption | omega | decide) (by first | assumption | omega | decide)) mlX1_56 mvX1_sizeOf hC.1 dX1_sizeOfAll_12 (by decide) rfl ⟨Nat.le_of_ble_eq_true rfl, Nat.le_of_ble_eq_true rfl⟩ ⟨Nat.zero_le _, Nat.zero_le _⟩ (Nat.le_of_ble_eq_true rfl) ?_
      have hf_2 := rg_szI M c (r : Int)
      refine xj_iadd F dX1_sizeOfAll_15 ?_
      refine x_istore_n F dX1_sizeOfAll_16 (by decide) ?_
      refine xj_iinc F dX1_sizeOfAll_17 rfl ?_
      refine x_goto (tgt := 4) F dX1_sizeOfAll_20 (by decide) ?_
      exact ih (r + 1) (a + szI M c (r : Int)) (by omega) (by rw [ha]; rfl) (by have := hS (r : Int); omega) (by omega)
set_option maxRecDepth 20000 in
theorem m_X1_sizeOfAll {l : Launch} {E : xE} {c : Nat} {M : xM} (hC : isCh c) (hS : ∀ r : Int, 0 ≤ szI M c r ∧ szI M c r ≤ 6) : XF l E 2 yX1_sizeOfAll cX1_sizeOfAll 3 (some FieldType.int) [vA c] M (vI (jI (sumI (szI M c) 4))) (M) := by
  refine xp_start (plainFor_of_name (by decide)) rfl (Nat.le_of_ble_eq_true rfl) ?_
  intro Y F FR
  refine xj_iconst F dX1_sizeOfAll_0 ?_
  refine x_istore_n F dX1_sizeOfAll_1 (by decide) ?_
  refine xj_iconst F dX1_sizeOfAll_2 ?_
  refine x_istore_n F dX1_sizeOfAll_3 (by decide) ?_
  exact L_X1_sizeOfAll hC hS F FR _ 0 0 (by omega) rfl (by omega) (Nat.lt_succ_self _)
set_option maxRecDepth 20000 in
theorem m_X1_isTaken {l : Launch} {E : xE} {c : Nat} {r p : Int} {M : xM} (hC : isCh c) (hr : rg r) (hp : rg p) : XF l E 2 yX1_isTaken cX1_isTaken 3 (some FieldType.boolean) [vA c, vI (jI r), vI (jI p)] M (vI (jb (0 ≤ p ∧ p < szI M c r))) (M) := by
  refine xp_start (plainFor_of_name (by decide)) rfl (Nat.le_of_ble_eq_true rfl) ?_
  intro Y F FR
  refine x_iload_n F dX1_isTaken_0 rfl ?_
  refine xj_if_lt (tgt := 17) F dX1_isTaken_1 (by decide) (by omega) (fun h_1 => ?_) (fun h_1 => ?_)
  · refine xj_iconst F dX1_isTaken_17 ?_
    refine x_iret F FR dX1_isTaken_18 rfl (Nat.le_refl _) (Nat.le_refl _) ?_
    first
      | exact ⟨by rw [jb_t (by omega)], rfl⟩
      | exact ⟨by rw [jb_f (by omega)], rfl⟩
  · refine x_iload_n F dX1_isTaken_4 rfl ?_
    refine x_aload_n F dX1_isTaken_5 rfl ?_
    refine x_iload_n F dX1_isTaken_6 rfl ?_
    refine x_V1 F (m_X1_sizeOf (by first | assumption | omega | decide) (by first | assumption | omega | decide)) mlX1_56 mvX1_sizeOf hC.1 dX1_isTaken_7 (by decide) rfl ⟨Nat.le_of_ble_eq_true rfl, Nat.le_of_ble_eq_true rfl⟩ ⟨Nat.zero_le _, Nat.zero_le _⟩ (Nat.le_of_ble_eq_true rfl) ?_
    have hf_2 := rg_szI M c r
    refine xj_icmp_ge (tgt := 17) F dX1_isTaken_10 (by decide) (by omega) (fun h_3 => ?_) (fun h_3 => ?_)
    · refine xj_iconst F dX1_isTaken_17 ?_
      refine x_iret F FR dX1_isTaken_18 rfl (Nat.le_refl _) (Nat.le_refl _) ?_
      first
        | exact ⟨by rw [jb_t (by omega)], rfl⟩
        | exact ⟨by rw [jb_f (by omega)], rfl⟩
    · refine xj_iconst F dX1_isTaken_13 ?_
      refine x_goto (tgt := 18) F dX1_isTaken_14 (by decide) ?_
      refine x_iret F FR dX1_isTaken_18 rfl (Nat.le_refl _) (Nat.le_refl _) ?_
      first
        | exact ⟨by rw [jb_t (by omega)], rfl⟩
        | exact ⟨by rw [jb_f (by omega)], rfl⟩
set_option maxRecDepth 20000 in
theorem m_X1_hasRoomFor {l : Launch} {E : xE} {c : Nat} {r : Int} {M : xM} (hC : isCh c) (hr : rg r) : XF l E 2 yX1_hasRoomFor cX1_hasRoomFor 2 (some FieldType.boolean) [vA c, vI (jI r)] M (vI (jb (szI M c r < 6 ∧ (M.1 c 6).toInt < 999))) (M) := by
  refine xp_start (plainFor_of_name (by decide)) rfl (Nat.le_of_ble_eq_true rfl) ?_
  intro Y F FR
  refine x_aload_n F dX1_hasRoomFor_0 rfl ?_
  refine x_iload_n F dX1_hasRoomFor_1 rfl ?_
  refine x_V1 F (m_X1_sizeOf (by first | assumption | omega | decide) (by first | assumption | omega | decide)) mlX1_56 mvX1_sizeOf hC.1 dX1_hasRoomFor_2 (by decide) rfl ⟨Nat.le_of_ble_eq_true rfl, Nat.le_of_ble_eq_true rfl⟩ ⟨Nat.zero_le _, Nat.zero_le _⟩ (Nat.le_of_ble_eq_true rfl) ?_
  have hf_1 := rg_szI M c r
  refine xj_bipush F dX1_hasRoomFor_5 (by decide) ?_
  refine xj_icmp_ge (tgt := 24) F dX1_hasRoomFor_7 (by decide) (by omega) (fun h_2 => ?_) (fun h_2 => ?_)
  · refine xj_iconst F dX1_hasRoomFor_24 ?_
    refine x_iret F FR dX1_hasRoomFor_25 rfl (Nat.le_refl _) (Nat.le_refl _) ?_
    first
      | exact ⟨by rw [jb_t (by omega)], rfl⟩
      | exact ⟨by rw [jb_f (by omega)], rfl⟩
  · refine x_aload_n F dX1_hasRoomFor_10 rfl ?_
    refine xj_geti F flX1_35 hC.1 dX1_hasRoomFor_11 (by decide) (by decide) rfl (fun hg_3 => ?_)
    refine xj_sipush F dX1_hasRoomFor_14 (by decide) ?_
    refine xj_icmp_ge (tgt := 24) F dX1_hasRoomFor_17 (by decide) (by omega) (fun h_4 => ?_) (fun h_4 => ?_)
    · refine xj_iconst F dX1_hasRoomFor_24 ?_
      refine x_iret F FR dX1_hasRoomFor_25 rfl (Nat.le_refl _) (Nat.le_refl _) ?_
      first
        | exact ⟨by rw [jb_t (by omega)], rfl⟩
        | exact ⟨by rw [jb_f (by omega)], rfl⟩
    · refine xj_iconst F dX1_hasRoomFor_20 ?_
      refine x_goto (tgt := 25) F dX1_hasRoomFor_21 (by decide) ?_
      refine x_iret F FR dX1_hasRoomFor_25 rfl (Nat.le_refl _) (Nat.le_refl _) ?_
      first
        | exact ⟨by rw [jb_t (by omega)], rfl⟩
        | exact ⟨by rw [jb_f (by omega)], rfl⟩
set_option maxRecDepth 20000 in
theorem m_X1_spotAt {l : Launch} {E : xE} {r p : Int} {M : xM} (hr : rg r) (hp : rg p) : XF l E 1 yX1_spotAt cX1_spotAt 2 (some FieldType.int) [vI (jI r), vI (jI p)] M (vI (jI (spI r p))) (M) := by
  refine xp_start (plainFor_of_name (by decide)) rfl (Nat.le_of_ble_eq_true rfl) ?_
  intro Y F FR
  refine x_iload_n F dX1_spotAt_0 rfl ?_
  refine xj_if_lt (tgt := 28) F dX1_spotAt_1 (by decide) (by omega) (fun h_1 => ?_) (fun h_1 => ?_)
  · refine xj_iconst F dX1_spotAt_28 ?_
    refine x_iret F FR dX1_spotAt_29 rfl (Nat.le_refl _) (Nat.le_refl _) ?_
    exact ⟨vj (by first | rfl | (simp only [spI]; done) | (simp only [spI]; omega) | (simp only [spI]; split <;> first | omega | (split <;> omega))), rfl⟩
  · refine x_iload_n F dX1_spotAt_4 rfl ?_
    refine xj_iconst F dX1_spotAt_5 ?_
    refine xj_icmp_ge (tgt := 28) F dX1_spotAt_6 (by decide) (by omega) (fun h_2 => ?_) (fun h_2 => ?_)
    · refine xj_iconst F dX1_spotAt_28 ?_
      refine x_iret F FR dX1_spotAt_29 rfl (Nat.le_refl _) (Nat.le_refl _) ?_
      exact ⟨vj (by first | rfl | (simp only [spI]; done) | (simp only [spI]; omega) | (simp only [spI]; split <;> first | omega | (split <;> omega))), rfl⟩
    · refine x_iload_n F dX1_spotAt_9 rfl ?_
      refine xj_if_lt (tgt := 28) F dX1_spotAt_10 (by decide) (by omega) (fun h_3 => ?_) (fun h_3 => ?_)
      · refine xj_iconst F dX1_spotAt_28 ?_
        refine x_iret F FR dX1_spotAt_29 rfl (Nat.le_refl _) (Nat.le_refl _) ?_
        exact ⟨vj (by first | rfl | (simp only [spI]; done) | (simp only [spI]; omega) | (simp only [spI]; split <;> first | omega | (split <;> omega))), rfl⟩
      · refine x_iload_n F dX1_spotAt_13 rfl ?_
        refine xj_bipush F dX1_spotAt_14 (by decide) ?_
        refine xj_icmp_ge (tgt := 28) F dX1_spotAt_16 (by decide) (by omega) (fun h_4 => ?_) (fun h_4 => ?_)
        · refine xj_iconst F dX1_spotAt_28 ?_
          refine x_iret F FR dX1_spotAt_29 rfl (Nat.le_refl _) (Nat.le_refl _) ?_
          exact ⟨vj (by first | rfl | (simp only [spI]; done) | (simp only [spI]; omega) | (simp only [spI]; split <;> first | omega | (split <;> omega))), rfl⟩
        · refine xj_bipush F dX1_spotAt_19 (by decide) ?_
          refine x_iload_n F dX1_spotAt_21 rfl ?_
          refine xj_imul F dX1_spotAt_22 ?_
          refine x_iload_n F dX1_spotAt_23 rfl ?_
          refine xj_iadd F dX1_spotAt_24 ?_
          refine x_goto (tgt := 29) F dX1_spotAt_25 (by decide) ?_
          refine x_iret F FR dX1_spotAt_29 rfl (Nat.le_refl _) (Nat.le_refl _) ?_
          exact ⟨vj (by first | rfl | (simp only [spI]; done) | (simp only [spI]; omega) | (simp only [spI]; split <;> first | omega | (split <;> omega))), rfl⟩
set_option maxRecDepth 20000 in
theorem m_X1_numberAt {l : Launch} {E : xE} {c : Nat} {r p : Int} {M : xM} (hC : isCh c) (hr : rg r) (hp : rg p) : XF l E 2 yX1_numberAt cX1_numberAt 3 (some FieldType.int) [vA c, vI (jI r), vI (jI p)] M (vI (jI (rdI (M.1 (c + 2)) 24 (spI r p)))) (M) := by
  refine xp_start (plainFor_of_name (by decide)) rfl (Nat.le_of_ble_eq_true rfl) ?_
  intro Y F FR
  refine x_aload_n F dX1_numberAt_0 rfl ?_
  refine x_getc (v := c + 2) F flX1_15 hC.1 dX1_numberAt_1 (by decide) (by decide) rfl rfl ?_
  refine x_iload_n F dX1_numberAt_4 rfl ?_
  refine x_iload_n F dX1_numberAt_5 rfl ?_
  refine x_S2 F (m_X1_spotAt (by first | assumption | omega | decide) (by first | assumption | omega | decide)) mlX1_60 msX1_spotAt dX1_numberAt_6 ⟨Nat.le_of_ble_eq_true rfl, Nat.le_of_ble_eq_true rfl⟩ ⟨Nat.zero_le _, Nat.zero_le _⟩ (Nat.le_of_ble_eq_true rfl) ?_
  have hf_1 := rg_spI r p
  refine x_N2 F (m_X6_readCell hC.2.2.1 (by decide) (by first | assumption | omega)) mnX1_63 msX6_readCell dX1_numberAt_9 ⟨Nat.le_of_ble_eq_true rfl, Nat.le_of_ble_eq_true rfl⟩ ⟨Nat.zero_le _, Nat.zero_le _⟩ (Nat.le_of_ble_eq_true rfl) ?_
  have hf_2 := (rg_rdI (M.1 (c + 2)) 24 (spI r p))
  refine x_iret F FR dX1_numberAt_12 rfl (Nat.le_refl _) (Nat.le_refl _) ?_
  exact ⟨rfl, rfl⟩
set_option maxRecDepth 20000 in
theorem m_X1_heightAt {l : Launch} {E : xE} {c : Nat} {r p : Int} {M : xM} (hC : isCh c) (hr : rg r) (hp : rg p) : XF l E 2 yX1_heightAt cX1_heightAt 3 (some FieldType.int) [vA c, vI (jI r), vI (jI p)] M (vI (jI (heI M c r p))) (M) := by
  refine xp_start (plainFor_of_name (by decide)) rfl (Nat.le_of_ble_eq_true rfl) ?_
  intro Y F FR
  refine x_aload_n F dX1_heightAt_0 rfl ?_
  refine x_getc (v := c + 3) F flX1_18 hC.1 dX1_heightAt_1 (by decide) (by decide) rfl rfl ?_
  refine x_iload_n F dX1_heightAt_4 rfl ?_
  refine x_iload_n F dX1_heightAt_5 rfl ?_
  refine x_S2 F (m_X1_spotAt (by first | assumption | omega | decide) (by first | assumption | omega | decide)) mlX1_60 msX1_spotAt dX1_heightAt_6 ⟨Nat.le_of_ble_eq_true rfl, Nat.le_of_ble_eq_true rfl⟩ ⟨Nat.zero_le _, Nat.zero_le _⟩ (Nat.le_of_ble_eq_true rfl) ?_
  have hf_1 := rg_spI r p
  refine x_N2 F (m_X6_readCell hC.2.2.2.1 (by decide) (by first | assumption | omega)) mnX1_63 msX6_readCell dX1_heightAt_9 ⟨Nat.le_of_ble_eq_true rfl, Nat.le_of_ble_eq_true rfl⟩ ⟨Nat.zero_le _, Nat.zero_le _⟩ (Nat.le_of_ble_eq_true rfl) ?_
  have hf_2 := (rg_rdI (M.1 (c + 3)) 24 (spI r p))
  refine x_iret F FR dX1_heightAt_12 rfl (Nat.le_refl _) (Nat.le_refl _) ?_
  exact ⟨rfl, rfl⟩
set_option maxRecDepth 20000 in
theorem m_X1_voiceAt {l : Launch} {E : xE} {c : Nat} {r p : Int} {M : xM} (hC : isCh c) (hr : rg r) (hp : rg p) : XF l E 2 yX1_voiceAt cX1_voiceAt 3 (some FieldType.int) [vA c, vI (jI r), vI (jI p)] M (vI (jI (rdI (M.1 (c + 4)) 24 (spI r p)))) (M) := by
  refine xp_start (plainFor_of_name (by decide)) rfl (Nat.le_of_ble_eq_true rfl) ?_
  intro Y F FR
  refine x_aload_n F dX1_voiceAt_0 rfl ?_
  refine x_getc (v := c + 4) F flX1_21 hC.1 dX1_voiceAt_1 (by decide) (by decide) rfl rfl ?_
  refine x_iload_n F dX1_voiceAt_4 rfl ?_
  refine x_iload_n F dX1_voiceAt_5 rfl ?_
  refine x_S2 F (m_X1_spotAt (by first | assumption | omega | decide) (by first | assumption | omega | decide)) mlX1_60 msX1_spotAt dX1_voiceAt_6 ⟨Nat.le_of_ble_eq_true rfl, Nat.le_of_ble_eq_true rfl⟩ ⟨Nat.zero_le _, Nat.zero_le _⟩ (Nat.le_of_ble_eq_true rfl) ?_
  have hf_1 := rg_spI r p
  refine x_N2 F (m_X6_readCell hC.2.2.2.2 (by decide) (by first | assumption | omega)) mnX1_63 msX6_readCell dX1_voiceAt_9 ⟨Nat.le_of_ble_eq_true rfl, Nat.le_of_ble_eq_true rfl⟩ ⟨Nat.zero_le _, Nat.zero_le _⟩ (Nat.le_of_ble_eq_true rfl) ?_
  have hf_2 := (rg_rdI (M.1 (c + 4)) 24 (spI r p))
  refine x_iret F FR dX1_voiceAt_12 rfl (Nat.le_refl _) (Nat.le_refl _) ?_
  exact ⟨rfl, rfl⟩
theorem rg_heI (M : xM) (c : Nat) (r p : Int) : rg (heI M c r p) := rg_rdI _ _ _
