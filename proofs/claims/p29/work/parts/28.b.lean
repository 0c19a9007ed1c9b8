/-! THE LAW'S SMALL METHODS: exchange, closes, low, some -/
theorem sw_up {M : xM} {c : Nat} {s t : Int} (hs : 0 ≤ s ∧ s < 24) (ht : 0 ≤ t ∧ t < 24) : upI (upI M c s.toNat (jI (M.1 c t.toNat).toInt)) c t.toNat (jI (M.1 c s.toNat).toInt) = swC M c s t := by
  unfold swC wrI rdI
  rw [if_pos (show 0 ≤ s ∧ s < ((24 : Nat) : Int) from hs), if_pos (show 0 ≤ t ∧ t < ((24 : Nat) : Int) from ht), if_pos (show 0 ≤ t ∧ t < ((24 : Nat) : Int) from ht), if_pos (show 0 ≤ s ∧ s < ((24 : Nat) : Int) from hs)]
def exA (M : xM) (s t : Int) : xM := swC (swC (swC M 68 s t) 69 s t) 70 s t
def clM (M : xM) (c a m : Nat) : xM := (fun b j => if b = c ∧ a ≤ j ∧ j < a + m then M.1 c (j + 1) else M.1 b j, M.2)
theorem clM_0 (M : xM) (c a : Nat) : clM M c a 0 = M := by
  refine Prod.ext (funext fun b => funext fun j => ?_) rfl
  show (if b = c ∧ a ≤ j ∧ j < a + 0 then _ else _) = _
  rw [if_neg (by omega)]
theorem cl_step (M : xM) (c a m : Nat) : upI (clM M c a m) c (a + m) (jI ((clM M c a m).1 c (a + m + 1)).toInt) = clM M c a (m + 1) := by
  refine Prod.ext (funext fun b => funext fun j => ?_) rfl
  show (if b = c ∧ j = a + m then jI (if c = c ∧ a ≤ a + m + 1 ∧ a + m + 1 < a + m then M.1 c (a + m + 1 + 1) else M.1 c (a + m + 1)).toInt else (if b = c ∧ a ≤ j ∧ j < a + m then M.1 c (j + 1) else M.1 b j)) = (if b = c ∧ a ≤ j ∧ j < a + (m + 1) then M.1 c (j + 1) else M.1 b j)
  rw [if_neg (show ¬ (c = c ∧ a ≤ a + m + 1 ∧ a + m + 1 < a + m) by omega), jI_of]
  by_cases h1 : b = c ∧ j = a + m
  · rw [if_pos h1, if_pos (by omega), h1.2]
  · rw [if_neg h1]
    by_cases h2 : b = c ∧ a ≤ j ∧ j < a + m
    · rw [if_pos h2, if_pos (by omega)]
    · rw [if_neg h2, if_neg (by omega)]
def clF (M : xM) (c : Nat) (r p : Int) : xM := upI (clM M c (6 * r + p).toNat (5 - p).toNat) c (6 * r + 5).toNat (jI 0)
def clA (M : xM) (k : Int) : xM := clF (clF (clF M 68 (k / 6) (k % 6)) 69 (k / 6) (k % 6)) 70 (k / 6) (k % 6)
def lowA (x : Int32) : Int := (x &&& 2147483647).toInt
def lowI (x : Int32) (b : Int) : Int := lowA x % b
theorem low_and (x : Int32) : x &&& 2147483647 = jI (lowA x) := (jI_of _).symm
theorem lowA_b (x : Int32) : 0 ≤ lowA x ∧ lowA x < 2147483648 := by
  have h : (x &&& 2147483647).toBitVec.msb = false := by
    rw [Int32.toBitVec_and, BitVec.msb_and]
    rw [show (2147483647 : Int32).toBitVec.msb = false from by decide, Bool.and_false]
  have h2 := rg_of (x &&& 2147483647)
  refine ⟨?_, h2.2⟩
  show 0 ≤ (x &&& 2147483647).toBitVec.toInt
  rw [BitVec.toInt_eq_toNat_of_msb h]
  exact Int.natCast_nonneg _
theorem lowI_b (x : Int32) {b : Int} (hb : 1 ≤ b) : 0 ≤ lowI x b ∧ lowI x b < b := by
  have := lowA_b x
  unfold lowI
  exact ⟨Int.emod_nonneg _ (by omega), Int.emod_lt_of_pos _ (by omega)⟩
set_option maxRecDepth 20000 in
theorem m_L_exchange {l : Launch} {E : xE} {c : Nat} {s t : Int} {M : xM} (hkc : xk c = (8, 24)) (hs : 0 ≤ s ∧ s < 24) (ht : 0 ≤ t ∧ t < 24) : XF l E 1 yL_exchange cL_exchange 4 none [vA c, vI (jI s), vI (jI t)] M (vU) (swC M c s t) := by
  refine xp_start (plainFor_of_name (by decide)) rfl (Nat.le_of_ble_eq_true rfl) ?_
  intro Y F FR
  refine x_aload_n F dL_exchange_0 rfl ?_
  refine x_iload_n F dL_exchange_1 rfl ?_
  refine xj_lald2 F hkc dL_exchange_2 (by omega) (fun hg_1 => ?_)
  refine x_istore_n F dL_exchange_3 (by decide) ?_
  refine x_aload_n F dL_exchange_4 rfl ?_
  refine x_iload_n F dL_exchange_5 rfl ?_
  refine x_aload_n F dL_exchange_6 rfl ?_
  refine x_iload_n F dL_exchange_7 rfl ?_
  refine xj_lald2 F hkc dL_exchange_8 (by omega) (fun hg_2 => ?_)
  refine xj_iast F hkc dL_exchange_9 (by omega) ?_
  refine x_aload_n F dL_exchange_10 rfl ?_
  refine x_iload_n F dL_exchange_11 rfl ?_
  refine x_iload_n F dL_exchange_12 rfl ?_
  refine xj_iast F hkc dL_exchange_13 (by omega) ?_
  refine x_vret F FR dL_exchange_14 (Nat.le_refl _) (Nat.le_refl _) ?_
  exact ⟨rfl, sw_up hs ht⟩
set_option maxRecDepth 20000 in
theorem m_L_exchangeAll {l : Launch} {E : xE} {s t : Int} {M : xM} (hs : 0 ≤ s ∧ s < 24) (ht : 0 ≤ t ∧ t < 24) : XF l E 2 yL_exchangeAll cL_exchangeAll 5 none [vA 68, vA 69, vA 70, vI (jI s), vI (jI t)] M (vU) (exA M s t) := by
  refine xp_start (plainFor_of_name (by decide)) rfl (Nat.le_of_ble_eq_true rfl) ?_
  intro Y F FR
  refine x_aload_n F dL_exchangeAll_0 rfl ?_
  refine x_iload_n F dL_exchangeAll_1 rfl ?_
  refine x_iload F dL_exchangeAll_2 rfl ?_
  refine x_S3 F (m_L_exchange rfl hs ht) mlL_70 msL_exchange dL_exchangeAll_4 ⟨Nat.le_of_ble_eq_true rfl, Nat.le_of_ble_eq_true rfl⟩ ⟨Nat.zero_le _, Nat.zero_le _⟩ (Nat.le_of_ble_eq_true rfl) ?_
  refine x_aload_n F dL_exchangeAll_7 rfl ?_
  refine x_iload_n F dL_exchangeAll_8 rfl ?_
  refine x_iload F dL_exchangeAll_9 rfl ?_
  refine x_S3 F (m_L_exchange rfl hs ht) mlL_70 msL_exchange dL_exchangeAll_11 ⟨Nat.le_of_ble_eq_true rfl, Nat.le_of_ble_eq_true rfl⟩ ⟨Nat.zero_le _, Nat.zero_le _⟩ (Nat.le_of_ble_eq_true rfl) ?_
  refine x_aload_n F dL_exchangeAll_14 rfl ?_
  refine x_iload_n F dL_exchangeAll_15 rfl ?_
  refine x_iload F dL_exchangeAll_16 rfl ?_
  refine x_S3 F (m_L_exchange rfl hs ht) mlL_70 msL_exchange dL_exchangeAll_18 ⟨Nat.le_of_ble_eq_true rfl, Nat.le_of_ble_eq_true rfl⟩ ⟨Nat.zero_le _, Nat.zero_le _⟩ (Nat.le_of_ble_eq_true rfl) ?_
  refine x_vret F FR dL_exchangeAll_21 (Nat.le_refl _) (Nat.le_refl _) ?_
  exact ⟨rfl, rfl⟩
set_option maxRecDepth 20000 in
theorem L_L_closes {l : Launch} {E : xE} {c : Nat} {r p : Int} {M : xM} (hkc : xk c = (8, 24)) (hr : 0 ≤ r ∧ r < 4) (hp : 0 ≤ p ∧ p < 6) {Y : xY} (F : xFix E (xA E) Y cL_closes yL_closes.cls 4) (FR : xRet E Y none 0 0 (fun r' M'' => r' = vU ∧ M'' = clF M c r p) (fun _ _ => False)) : ∀ (k : Nat) (i : Nat), (i : Int) + p ≤ 5 → 6 - i < k → WP l E (xRm 1 0 0) (xA E) Y 0 0 7 [vA c, vI (jI r), vI (jI p), vI (jI (6 * r + p + (i : Int)))] [] (clM M c (6 * r + p).toNat i) := by
  intro k
  induction k with
  | zero => intro i hi hk; exact absurd hk (Nat.not_lt_zero _)
  | succ k ih =>
    intro i hi hk
    refine x_iload_n F dL_closes_7 rfl ?_
    refine xj_bipush F dL_closes_8 (by decide) ?_
    refine x_iload_n F dL_closes_10 rfl ?_
    refine xj_imul F dL_closes_11 ?_
    refine xj_iconst F dL_closes_12 ?_
    refine xj_iadd F dL_closes_13 ?_
    refine xj_icmp_ge (tgt := 31) F dL_closes_14 (by decide) (by omega) (fun h_1 => ?_) (fun h_1 => ?_)
    · refine x_aload_n F dL_closes_31 rfl ?_
      refine xj_bipush F dL_closes_32 (by decide) ?_
      refine x_iload_n F dL_closes_34 rfl ?_
      refine xj_imul F dL_closes_35 ?_
      refine xj_iconst F dL_closes_36 ?_
      refine xj_iadd F dL_closes_37 ?_
      refine xj_iconst F dL_closes_38 ?_
      refine xj_iast F hkc dL_closes_39 (by omega) ?_
      refine x_vret F FR dL_closes_40 (Nat.le_refl _) (Nat.le_refl _) ?_
      exact ⟨rfl, by unfold clF; rw [show i = (5 - p).toNat by omega]⟩
    · refine x_aload_n F dL_closes_17 rfl ?_
      refine x_iload_n F dL_closes_18 rfl ?_
      refine x_aload_n F dL_closes_19 rfl ?_
      refine x_iload_n F dL_closes_20 rfl ?_
      refine xj_iconst F dL_closes_21 ?_
      refine xj_iadd F dL_closes_22 ?_
      refine xj_lald2 F hkc dL_closes_23 (by omega) (fun hg_2 => ?_)
      refine xj_iast F hkc dL_closes_24 (by omega) ?_
      refine xj_iinc F dL_closes_25 rfl ?_
      refine x_goto (tgt := 7) F dL_closes_28 (by decide) ?_
      have g := ih (i + 1) (by omega) (by omega)
      rw [show 6 * r + p + ((i + 1 : Nat) : Int) = 6 * r + p + (i : Int) + 1 by omega] at g
      rw [show (6 * r + p + (i : Int)).toNat = (6 * r + p).toNat + i by omega, show (6 * r + p + (i : Int) + 1).toNat = (6 * r + p).toNat + i + 1 by omega, cl_step]
      exact g
set_option maxRecDepth 20000 in
theorem m_L_closes {l : Launch} {E : xE} {c : Nat} {r p : Int} {M : xM} (hkc : xk c = (8, 24)) (hr : 0 ≤ r ∧ r < 4) (hp : 0 ≤ p ∧ p < 6) : XF l E 1 yL_closes cL_closes 4 none [vA c, vI (jI r), vI (jI p)] M (vU) (clF M c r p) := by
  refine xp_start (plainFor_of_name (by decide)) rfl (Nat.le_of_ble_eq_true rfl) ?_
  intro Y F FR
  refine xj_bipush F dL_closes_0 (by decide) ?_
  refine x_iload_n F dL_closes_2 rfl ?_
  refine xj_imul F dL_closes_3 ?_
  refine x_iload_n F dL_closes_4 rfl ?_
  refine xj_iadd F dL_closes_5 ?_
  refine x_istore_n F dL_closes_6 (by decide) ?_
  have g := L_L_closes (l := l) (M := M) hkc hr hp F FR _ 0 (by omega) (Nat.lt_succ_self _)
  rw [clM_0, show 6 * r + p + ((0 : Nat) : Int) = 6 * r + p by omega] at g
  exact g
set_option maxRecDepth 20000 in
theorem m_L_closesAll {l : Launch} {E : xE} {k : Int} {M : xM} (hk9 : 0 ≤ k ∧ k < 24) : XF l E 2 yL_closesAll cL_closesAll 4 none [vA 68, vA 69, vA 70, vI (jI k)] M (vU) (clA M k) := by
  refine xp_start (plainFor_of_name (by decide)) rfl (Nat.le_of_ble_eq_true rfl) ?_
  intro Y F FR
  refine x_aload_n F dL_closesAll_0 rfl ?_
  refine x_iload_n F dL_closesAll_1 rfl ?_
  refine xj_bipush F dL_closesAll_2 (by decide) ?_
  refine xj_idiv F dL_closesAll_4 (by omega) ?_
  refine x_iload_n F dL_closesAll_5 rfl ?_
  refine xj_bipush F dL_closesAll_6 (by decide) ?_
  refine xj_irem F dL_closesAll_8 (by omega) ?_
  refine x_S3 F (m_L_closes rfl (by omega) (by omega)) mlL_90 msL_closes dL_closesAll_9 ⟨Nat.le_of_ble_eq_true rfl, Nat.le_of_ble_eq_true rfl⟩ ⟨Nat.zero_le _, Nat.zero_le _⟩ (Nat.le_of_ble_eq_true rfl) ?_
  refine x_aload_n F dL_closesAll_12 rfl ?_
  refine x_iload_n F dL_closesAll_13 rfl ?_
  refine xj_bipush F dL_closesAll_14 (by decide) ?_
  refine xj_idiv F dL_closesAll_16 (by omega) ?_
  refine x_iload_n F dL_closesAll_17 rfl ?_
  refine xj_bipush F dL_closesAll_18 (by decide) ?_
  refine xj_irem F dL_closesAll_20 (by omega) ?_
  refine x_S3 F (m_L_closes rfl (by omega) (by omega)) mlL_90 msL_closes dL_closesAll_21 ⟨Nat.le_of_ble_eq_true rfl, Nat.le_of_ble_eq_true rfl⟩ ⟨Nat.zero_le _, Nat.zero_le _⟩ (Nat.le_of_ble_eq_true rfl) ?_
  refine x_aload_n F dL_closesAll_24 rfl ?_
  refine x_iload_n F dL_closesAll_25 rfl ?_
  refine xj_bipush F dL_closesAll_26 (by decide) ?_
  refine xj_idiv F dL_closesAll_28 (by omega) ?_
  refine x_iload_n F dL_closesAll_29 rfl ?_
  refine xj_bipush F dL_closesAll_30 (by decide) ?_
  refine xj_irem F dL_closesAll_32 (by omega) ?_
  refine x_S3 F (m_L_closes rfl (by omega) (by omega)) mlL_90 msL_closes dL_closesAll_33 ⟨Nat.le_of_ble_eq_true rfl, Nat.le_of_ble_eq_true rfl⟩ ⟨Nat.zero_le _, Nat.zero_le _⟩ (Nat.le_of_ble_eq_true rfl) ?_
  refine x_vret F FR dL_closesAll_36 (Nat.le_refl _) (Nat.le_refl _) ?_
  exact ⟨rfl, rfl⟩
set_option maxRecDepth 20000 in
theorem m_L_low {l : Launch} {E : xE} {x : Int32} {b : Int} {M : xM} (hb : 1 ≤ b ∧ b ≤ 1000) : XF l E 1 yL_low cL_low 2 (some FieldType.int) [vI x, vI (jI b)] M (vI (jI (lowI x b))) (M) := by
  refine xp_start (plainFor_of_name (by decide)) rfl (Nat.le_of_ble_eq_true rfl) ?_
  intro Y F FR
  have hlb := lowA_b x
  refine x_iload_n F dL_low_0 rfl ?_
  refine x_ldc F kiL_8 dL_low_1 ?_
  refine x_iand F dL_low_3 ?_
  rw [low_and x]
  refine x_iload_n F dL_low_4 rfl ?_
  refine xj_irem F dL_low_5 (by omega) ?_
  refine x_iret F FR dL_low_6 rfl (Nat.le_refl _) (Nat.le_refl _) ?_
  exact ⟨rfl, rfl⟩
set_option maxRecDepth 20000 in
theorem L_L_some {l : Launch} {E : xE} {x : Int32} {h : aT} {M : xM} (hh : M.1 68 = h) {Y : xY} (F : xFix E (xA E) Y cL_some yL_some.cls 4) (FR : xRet E Y (some FieldType.int) 0 0 (fun r' M' => ∃ z : Int, r' = vI (jI z) ∧ M' = M ∧ ((z = -1 ∧ ∀ j : Nat, j < 24 → (h j).toInt ≤ 0) ∨ ((0 ≤ z ∧ z < 24) ∧ 0 < (h z.toNat).toInt))) (fun _ _ => False)) : ∀ (k : Nat) (i z : Int), 0 ≤ i ∧ i ≤ 24 → (z = -1 ∧ ∀ j : Int, 0 ≤ j → j < i → (h ((lowI x 24 + j) % 24).toNat).toInt ≤ 0) ∨ ((0 ≤ z ∧ z < 24) ∧ 0 < (h z.toNat).toInt) → (24 - i).toNat < k → WP l E (xRm 2 0 0) (xA E) Y 0 0 4 [vA 68, vI x, vI (jI z), vI (jI i)] [] M := by
  intro k
  induction k with
  | zero => intro i z hi hz hk; exact absurd hk (Nat.not_lt_zero _)
  | succ k ih =>
    intro i z hi hz hk
    have hlb := lowI_b x (b := 24) (by decide)
    refine x_iload_n F dL_some_4 rfl ?_
    refine xj_bipush F dL_some_5 (by decide) ?_
    refine xj_icmp_ge (tgt := 52) F dL_some_7 (by decide) (by omega) (fun h_1 => ?_) (fun h_1 => ?_)
    · refine x_iload_n F dL_some_52 rfl ?_
      refine x_iret F FR dL_some_53 rfl (Nat.le_refl _) (Nat.le_refl _) ?_
      refine ⟨z, rfl, rfl, ?_⟩
      rcases hz with hz | hz
      · refine Or.inl ⟨hz.1, fun j hj => ?_⟩
        have hq := hz.2 (if lowI x 24 ≤ j then (j : Int) - lowI x 24 else (j : Int) + 24 - lowI x 24) (by split <;> omega) (by split <;> omega)
        rw [show ((lowI x 24 + (if lowI x 24 ≤ j then (j : Int) - lowI x 24 else (j : Int) + 24 - lowI x 24)) % 24).toNat = j by split <;> omega] at hq
        exact hq
      · exact Or.inr hz
    · refine x_iload_n F dL_some_10 rfl ?_
      refine xj_if_ge (tgt := 52) F dL_some_11 (by decide) (by omega) (fun h_2 => ?_) (fun h_2 => ?_)
      · refine x_iload_n F dL_some_52 rfl ?_
        refine x_iret F FR dL_some_53 rfl (Nat.le_refl _) (Nat.le_refl _) ?_
        refine ⟨z, rfl, rfl, ?_⟩
        rcases hz with hz | hz
        · refine Or.inl ⟨hz.1, fun j hj => ?_⟩
          have hq := hz.2 (if lowI x 24 ≤ j then (j : Int) - lowI x 24 else (j : Int) + 24 - lowI x 24) (by split <;> omega) (by split <;> omega)
          rw [show ((lowI x 24 + (if lowI x 24 ≤ j then (j : Int) - lowI x 24 else (j : Int) + 24 - lowI x 24)) % 24).toNat = j by split <;> omega] at hq
          exact hq
        · exact Or.inr hz
      · refine x_aload_n F dL_some_14 rfl ?_
        refine x_iload_n F dL_some_15 rfl ?_
        refine xj_bipush F dL_some_16 (by decide) ?_
        refine x_S2 F (m_L_low (by decide)) mlL_64 msL_low dL_some_18 ⟨Nat.le_of_ble_eq_true rfl, Nat.le_of_ble_eq_true rfl⟩ ⟨Nat.zero_le _, Nat.zero_le _⟩ (Nat.le_of_ble_eq_true rfl) ?_
        have hf_3 := lowI_b x (b := 24) (by decide)
        refine x_iload_n F dL_some_21 rfl ?_
        refine xj_iadd F dL_some_22 ?_
        refine xj_bipush F dL_some_23 (by decide) ?_
        refine xj_irem F dL_some_25 (by omega) ?_
        refine xf_hald (f := h) (j := ((((lowI x 24) + i) % 24)).toNat) F (Or.inl rfl) hh dL_some_26 (by omega) rfl (fun hg_4 => ?_)
        refine xj_if_le (tgt := 44) F dL_some_27 (by decide) (by omega) (fun h_5 => ?_) (fun h_5 => ?_)
        · have hq9 := h_5
          refine xj_iconst F dL_some_44 ?_
          refine x_istore_n F dL_some_45 (by decide) ?_
          refine xj_iinc F dL_some_46 rfl ?_
          refine x_goto (tgt := 4) F dL_some_49 (by decide) ?_
          refine ih (i + 1) _ (by omega) ?_ (by omega)
          first
            | exact Or.inr ⟨(by omega), hq9⟩
            | (refine Or.inl ⟨rfl, fun j h0 h1 => ?_⟩; by_cases e : j = i; (rw [e]; exact hq9); exact (show ∀ j : Int, 0 ≤ j → j < i → (h ((lowI x 24 + j) % 24).toNat).toInt ≤ 0 from (by rcases hz with hz | hz; exact hz.2; exact absurd hz.1.1 (by omega))) j h0 (by omega))
        · have hq9 := h_5
          refine x_iload_n F dL_some_30 rfl ?_
          refine xj_bipush F dL_some_31 (by decide) ?_
          refine x_S2 F (m_L_low (by decide)) mlL_64 msL_low dL_some_33 ⟨Nat.le_of_ble_eq_true rfl, Nat.le_of_ble_eq_true rfl⟩ ⟨Nat.zero_le _, Nat.zero_le _⟩ (Nat.le_of_ble_eq_true rfl) ?_
          have hf_6 := lowI_b x (b := 24) (by decide)
          refine x_iload_n F dL_some_36 rfl ?_
          refine xj_iadd F dL_some_37 ?_
          refine xj_bipush F dL_some_38 (by decide) ?_
          refine xj_irem F dL_some_40 (by omega) ?_
          refine x_goto (tgt := 45) F dL_some_41 (by decide) ?_
          refine x_istore_n F dL_some_45 (by decide) ?_
          refine xj_iinc F dL_some_46 rfl ?_
          refine x_goto (tgt := 4) F dL_some_49 (by decide) ?_
          refine ih (i + 1) _ (by omega) ?_ (by omega)
          first
            | exact Or.inr ⟨(by omega), hq9⟩
            | (refine Or.inl ⟨rfl, fun j h0 h1 => ?_⟩; by_cases e : j = i; (rw [e]; exact hq9); exact (show ∀ j : Int, 0 ≤ j → j < i → (h ((lowI x 24 + j) % 24).toNat).toInt ≤ 0 from (by rcases hz with hz | hz; exact hz.2; exact absurd hz.1.1 (by omega))) j h0 (by omega))
set_option maxRecDepth 20000 in
theorem m_L_some {l : Launch} {E : xE} {x : Int32} {h : aT} {M : xM} (hh : M.1 68 = h) : XP l E 2 yL_some cL_some 4 (some FieldType.int) [vA 68, vI x] M (fun r' M' => ∃ z : Int, r' = vI (jI z) ∧ M' = M ∧ ((z = -1 ∧ ∀ j : Nat, j < 24 → (h j).toInt ≤ 0) ∨ ((0 ≤ z ∧ z < 24) ∧ 0 < (h z.toNat).toInt))) := by
  refine xp_start (plainFor_of_name (by decide)) rfl (Nat.le_of_ble_eq_true rfl) ?_
  intro Y F FR
  have hlb := lowI_b x (b := 24) (by decide)
  refine xj_iconst F dL_some_0 ?_
  refine x_istore_n F dL_some_1 (by decide) ?_
  refine xj_iconst F dL_some_2 ?_
  refine x_istore_n F dL_some_3 (by decide) ?_
  exact L_L_some hh F FR _ 0 (-1) (by omega) (Or.inl ⟨rfl, fun j h0 h1 => absurd h1 (by omega)⟩) (Nat.lt_succ_self _)
