/-! SETS OF SINGERS AS BITS: numbers below 64 -/
theorem nIand (a b : Nat) : nI a &&& nI b = nI (a &&& b) := by
  apply Int32.toBitVec.inj
  show BitVec.ofNat 32 a &&& BitVec.ofNat 32 b = BitVec.ofNat 32 (a &&& b)
  rw [BitVec.ofNat_and]
theorem nIor (a b : Nat) : nI a ||| nI b = nI (a ||| b) := by
  apply Int32.toBitVec.inj
  show BitVec.ofNat 32 a ||| BitVec.ofNat 32 b = BitVec.ofNat 32 (a ||| b)
  rw [BitVec.ofNat_or]
theorem bj_and (a b : Nat) : jI (a : Int) &&& jI (b : Int) = jI ((a &&& b : Nat) : Int) := by rw [jI_nat, jI_nat, jI_nat, nIand]
theorem bj_or (a b : Nat) : jI (a : Int) ||| jI (b : Int) = jI ((a ||| b : Nat) : Int) := by rw [jI_nat, jI_nat, jI_nat, nIor]
theorem bj_shl : ∀ b, b < 2 → ∀ n, n < 6 → jI ((b : Nat) : Int) <<< (jI ((n : Nat) : Int) &&& 31) = jI ((b * 2 ^ n : Nat) : Int) := by decide +kernel
theorem bj_shr : ∀ a, a < 64 → ∀ n, n < 6 → jI ((a : Nat) : Int) >>> (jI ((n : Nat) : Int) &&& 31) = jI ((a >>> n : Nat) : Int) := by decide +kernel
theorem bj_not : ∀ a, a < 64 → ∀ b, b < 64 → jI ((a : Nat) : Int) &&& (jI ((b : Nat) : Int) ^^^ jI (-1)) = jI ((a &&& (63 ^^^ b) : Nat) : Int) := by decide +kernel
theorem lt64_and {a b : Nat} (h : a < 64) : a &&& b < 64 := Nat.lt_of_le_of_lt Nat.and_le_left h
theorem lt64_or {a b : Nat} (ha : a < 64) (hb : b < 64) : a ||| b < 64 := Nat.or_lt_two_pow (n := 6) ha hb
theorem lt64_pow {n : Nat} (h : n < 6) : 2 ^ n < 64 := Nat.pow_lt_pow_right (by decide) h
def pop (m : Nat) : Nat := m % 2 + m / 2 % 2 + m / 4 % 2 + m / 8 % 2 + m / 16 % 2 + m / 32 % 2
theorem pop_le (m : Nat) : pop m ≤ 6 := by unfold pop; omega
def bcF (x : Int32) : Int32 :=
  let x1 := x - ((x.toUInt32 >>> ((jI 1).toUInt32 &&& Int32.toUInt32 31)).toInt32 &&& 1431655765)
  let x2 := (x1 &&& 858993459) + ((x1.toUInt32 >>> ((jI 2).toUInt32 &&& Int32.toUInt32 31)).toInt32 &&& 858993459)
  let x3 := (x2 + (x2.toUInt32 >>> ((jI 4).toUInt32 &&& Int32.toUInt32 31)).toInt32) &&& 252645135
  let x4 := x3 + (x3.toUInt32 >>> ((jI 8).toUInt32 &&& Int32.toUInt32 31)).toInt32
  let x5 := x4 + (x4.toUInt32 >>> ((jI 16).toUInt32 &&& Int32.toUInt32 31)).toInt32
  x5 &&& jI 63
theorem bcF_pop : ∀ m, m < 64 → bcF (jI ((m : Nat) : Int)) = jI ((pop m : Nat) : Int) := by decide +kernel
theorem x_ldcw {l : Launch} {E : xE} {R : Room} {A : Nat → Prop} {Y : xY} {cc : ByteArray} {own : String} {nL : Nat} {k n pc : Nat} {ls st : List xV} {M : xM} (F : xFix E A Y cc own nL) {i : Nat} {v : Int32} (h : Cond.constant own i v ∈ LW) (d : decode cc pc = .ok (.ldc_w i, 3)) (g : WP l E R A Y k n (pc + 3) ls (vI v :: st) M) : WP l E R A Y k n pc ls st M := fun H locs lr hP hS hl hn => lv_ldcw F.1 F.2.1 F.2.2.2.1 (F.2.2.2.2.1 _ h) d (g H locs lr hP hS hl hn)
set_option maxRecDepth 20000 in
theorem m_J6_bitCount_0f7a4 {l : Launch} {E : xE} {m : Nat} {M : xM} (hm : m < 64) : XF l E 1 yJ6_bitCount_0f7a4 cJ6_bitCount_0f7a4 1 (some FieldType.int) [vI (jI (m : Int))] M (vI (jI ((pop m : Nat) : Int))) (M) := by
  refine xp_start (by decide +kernel) rfl (Nat.le_of_ble_eq_true rfl) ?_
  intro Y F FR
  refine x_iload_n F dJ6_bitCount_0f7a4_0 rfl ?_
  refine x_iload_n F dJ6_bitCount_0f7a4_1 rfl ?_
  refine xj_iconst F dJ6_bitCount_0f7a4_2 ?_
  refine x_iushr F dJ6_bitCount_0f7a4_3 rfl ?_
  refine x_ldcw F kiJ6_265 dJ6_bitCount_0f7a4_4 ?_
  refine x_iand F dJ6_bitCount_0f7a4_7 ?_
  refine x_isub F dJ6_bitCount_0f7a4_8 ?_
  refine x_istore_n F dJ6_bitCount_0f7a4_9 (by decide) ?_
  refine x_iload_n F dJ6_bitCount_0f7a4_10 rfl ?_
  refine x_ldcw F kiJ6_266 dJ6_bitCount_0f7a4_11 ?_
  refine x_iand F dJ6_bitCount_0f7a4_14 ?_
  refine x_iload_n F dJ6_bitCount_0f7a4_15 rfl ?_
  refine xj_iconst F dJ6_bitCount_0f7a4_16 ?_
  refine x_iushr F dJ6_bitCount_0f7a4_17 rfl ?_
  refine x_ldcw F kiJ6_266 dJ6_bitCount_0f7a4_18 ?_
  refine x_iand F dJ6_bitCount_0f7a4_21 ?_
  refine x_iadd F dJ6_bitCount_0f7a4_22 ?_
  refine x_istore_n F dJ6_bitCount_0f7a4_23 (by decide) ?_
  refine x_iload_n F dJ6_bitCount_0f7a4_24 rfl ?_
  refine x_iload_n F dJ6_bitCount_0f7a4_25 rfl ?_
  refine xj_iconst F dJ6_bitCount_0f7a4_26 ?_
  refine x_iushr F dJ6_bitCount_0f7a4_27 rfl ?_
  refine x_iadd F dJ6_bitCount_0f7a4_28 ?_
  refine x_ldcw F kiJ6_267 dJ6_bitCount_0f7a4_29 ?_
  refine x_iand F dJ6_bitCount_0f7a4_32 ?_
  refine x_istore_n F dJ6_bitCount_0f7a4_33 (by decide) ?_
  refine x_iload_n F dJ6_bitCount_0f7a4_34 rfl ?_
  refine x_iload_n F dJ6_bitCount_0f7a4_35 rfl ?_
  refine xj_bipush F dJ6_bitCount_0f7a4_36 (by decide) ?_
  refine x_iushr F dJ6_bitCount_0f7a4_38 rfl ?_
  refine x_iadd F dJ6_bitCount_0f7a4_39 ?_
  refine x_istore_n F dJ6_bitCount_0f7a4_40 (by decide) ?_
  refine x_iload_n F dJ6_bitCount_0f7a4_41 rfl ?_
  refine x_iload_n F dJ6_bitCount_0f7a4_42 rfl ?_
  refine xj_bipush F dJ6_bitCount_0f7a4_43 (by decide) ?_
  refine x_iushr F dJ6_bitCount_0f7a4_45 rfl ?_
  refine x_iadd F dJ6_bitCount_0f7a4_46 ?_
  refine x_istore_n F dJ6_bitCount_0f7a4_47 (by decide) ?_
  refine x_iload_n F dJ6_bitCount_0f7a4_48 rfl ?_
  refine xj_bipush F dJ6_bitCount_0f7a4_49 (by decide) ?_
  refine x_iand F dJ6_bitCount_0f7a4_51 ?_
  refine x_iret F FR dJ6_bitCount_0f7a4_52 rfl (Nat.le_refl _) (Nat.le_refl _) ?_
  exact ⟨by rw [← bcF_pop m hm]; rfl, rfl⟩
/-! THE ORDERS, cell 64: size (3), reach (4), most (5), way (6); higherOnes 65, oddBehind 66, chosen 67 -/
def hrd (pre : Nat → Nat) (used : Nat) : Nat → Nat
  | 0 => used
  | n + 1 => hrd pre used n &&& (63 ^^^ 2 ^ pre n)
theorem hrd_lt {pre : Nat → Nat} {used : Nat} (h : used < 64) : ∀ n, hrd pre used n < 64
  | 0 => h
  | n + 1 => lt64_and (hrd_lt h n)
def prF (H B : Nat → Nat) (who : Nat) (p : Nat) (heard : Nat) : Int := (((pop (H who &&& heard) : Nat) : Int) + ((B who >>> p : Nat) : Int)) % 2
def itN {α : Type} (f : Nat → α → α) : Nat → α → α
  | 0, q => q
  | n + 1, q => f n (itN f n q)
/-- the search, by its numbers: most and way so far in, most and way out -/
def chA (H B : Nat → Nat) (sz : Nat) (rc : Int) : Nat → Nat → Nat → Int → Int → (Nat → Nat) → Int × Int → Int × Int
  | 0, _, _, _, _, _, q => q
  | d + 1, p, used, odd, sw, pre, q =>
    if odd + sz - p < q.1 ∨ (odd + sz - p = q.1 ∧ q.2 ≤ sw) then q
    else if sz ≤ p then (odd, sw)
    else itN (fun who q => if used.testBit who = true then q else chA H B sz rc d (p + 1) (used ||| 2 ^ who) (odd + prF H B who p (hrd pre used ((p : Int) - rc).toNat)) (sw + ((pop (used >>> who) : Nat) : Int)) (fun i => if i = p then who else pre i) q) sz q
def mkB (P : Nat → Bool) : Nat → Nat
  | 0 => 0
  | n + 1 => mkB P n ||| (if P n = true then 2 ^ n else 0)
theorem mkB_lt (P : Nat → Bool) : ∀ n, n ≤ 6 → mkB P n < 64 := by
  intro n
  induction n with
  | zero => intro _; exact (by decide : (0 : Nat) < 64)
  | succ n ih =>
    intro h
    simp only [mkB]
    refine lt64_or (ih (by omega)) ?_
    split
    · exact lt64_pow (by omega)
    · decide
set_option maxRecDepth 20000 in
theorem m_X5_cannotBeBetter {l : Launch} {E : xE} {a s : Int} {M : xM} (ha : rg a) (hs : rg s) : XF l E 1 yX5_cannotBeBetter cX5_cannotBeBetter 3 (some FieldType.boolean) [vA 64, vI (jI a), vI (jI s)] M (vI (jb (a < (M.1 64 5).toInt ∨ (a = (M.1 64 5).toInt ∧ (M.1 64 6).toInt ≤ s)))) (M) := by
  refine xp_start (plainFor_of_name (by decide)) rfl (Nat.le_of_ble_eq_true rfl) ?_
  intro Y F FR
  refine x_iload_n F dX5_cannotBeBetter_0 rfl ?_
  refine x_aload_n F dX5_cannotBeBetter_1 rfl ?_
  refine xj_geti F flX5_47 rfl dX5_cannotBeBetter_2 (by decide) (by decide) rfl (fun hg_1 => ?_)
  refine xj_icmp_lt (tgt := 24) F dX5_cannotBeBetter_5 (by decide) (by omega) (fun h_2 => ?_) (fun h_2 => ?_)
  · refine xj_iconst F dX5_cannotBeBetter_24 ?_
    refine x_goto (tgt := 29) F dX5_cannotBeBetter_25 (by decide) ?_
    refine x_iret F FR dX5_cannotBeBetter_29 rfl (Nat.le_refl _) (Nat.le_refl _) ?_
    first
      | exact ⟨by rw [jb_t (by omega)], rfl⟩
      | exact ⟨by rw [jb_f (by omega)], rfl⟩
  · refine x_iload_n F dX5_cannotBeBetter_8 rfl ?_
    refine x_aload_n F dX5_cannotBeBetter_9 rfl ?_
    refine xj_geti F flX5_47 rfl dX5_cannotBeBetter_10 (by decide) (by decide) rfl (fun hg_3 => ?_)
    refine xj_icmp_ne (tgt := 28) F dX5_cannotBeBetter_13 (by decide) (by omega) (fun h_4 => ?_) (fun h_4 => ?_)
    · refine xj_iconst F dX5_cannotBeBetter_28 ?_
      refine x_iret F FR dX5_cannotBeBetter_29 rfl (Nat.le_refl _) (Nat.le_refl _) ?_
      first
        | exact ⟨by rw [jb_t (by omega)], rfl⟩
        | exact ⟨by rw [jb_f (by omega)], rfl⟩
    · refine x_iload_n F dX5_cannotBeBetter_16 rfl ?_
      refine x_aload_n F dX5_cannotBeBetter_17 rfl ?_
      refine xj_geti F flX5_50 rfl dX5_cannotBeBetter_18 (by decide) (by decide) rfl (fun hg_5 => ?_)
      refine xj_icmp_lt (tgt := 28) F dX5_cannotBeBetter_21 (by decide) (by omega) (fun h_6 => ?_) (fun h_6 => ?_)
      · refine xj_iconst F dX5_cannotBeBetter_28 ?_
        refine x_iret F FR dX5_cannotBeBetter_29 rfl (Nat.le_refl _) (Nat.le_refl _) ?_
        first
          | exact ⟨by rw [jb_t (by omega)], rfl⟩
          | exact ⟨by rw [jb_f (by omega)], rfl⟩
      · refine xj_iconst F dX5_cannotBeBetter_24 ?_
        refine x_goto (tgt := 29) F dX5_cannotBeBetter_25 (by decide) ?_
        refine x_iret F FR dX5_cannotBeBetter_29 rfl (Nat.le_refl _) (Nat.le_refl _) ?_
        first
          | exact ⟨by rw [jb_t (by omega)], rfl⟩
          | exact ⟨by rw [jb_f (by omega)], rfl⟩
set_option maxRecDepth 20000 in
theorem L_X5_heardAt {l : Launch} {E : xE} {p used : Nat} {pre : Nat → Nat} {M : xM} (hp : p ≤ 6) (hu : used < 64) (hre : 1 ≤ (M.1 64 4).toInt ∧ (M.1 64 4).toInt ≤ 6) (hc : ∀ i, i < p → (M.1 67 i).toInt = ((2 ^ pre i : Nat) : Int) ∧ pre i < 6) {Y : xY} (F : xFix E (xA E) Y cX5_heardAt yX5_heardAt.cls 5) (FR : xRet E Y (some FieldType.int) 0 0 (fun r' M'' => r' = vI (jI ((hrd pre used ((p : Int) - (M.1 64 4).toInt).toNat : Nat) : Int)) ∧ M'' = M) (fun _ _ => False)) : ∀ (k : Nat) (i : Nat), (i : Int) ≤ max 0 ((p : Int) - (M.1 64 4).toInt) → p + 1 - i < k → WP l E (xRm 2 0 0) (xA E) Y 0 0 5 [vA 64, vI (jI (p : Int)), vI (jI (used : Int)), vI (jI ((hrd pre used i : Nat) : Int)), vI (jI (i : Int))] [] M := by
  intro k
  induction k with
  | zero => intro i hi hk; exact absurd hk (Nat.not_lt_zero _)
  | succ k ih =>
    intro i hi hk
    refine x_iload F dX5_heardAt_5 rfl ?_
    refine x_iload_n F dX5_heardAt_7 rfl ?_
    refine x_aload_n F dX5_heardAt_8 rfl ?_
    refine xj_geti F flX5_40 rfl dX5_heardAt_9 (by decide) (by decide) rfl (fun hg_1 => ?_)
    refine xj_isub F dX5_heardAt_12 ?_
    refine xj_icmp_ge (tgt := 36) F dX5_heardAt_13 (by decide) (by omega) (fun h_2 => ?_) (fun h_2 => ?_)
    · refine x_iload_n F dX5_heardAt_36 rfl ?_
      refine x_iret F FR dX5_heardAt_37 rfl (Nat.le_refl _) (Nat.le_refl _) ?_
      exact ⟨vj (by rw [show ((p : Int) - (M.1 64 4).toInt).toNat = i by omega]), rfl⟩
    · have hci := hc i (by omega)
      have hrdI : rdI (M.1 67) 6 (i : Int) = ((2 ^ pre i : Nat) : Int) := by unfold rdI; rw [if_pos (by omega), Int.toNat_natCast]; exact hci.1
      have hb64 := lt64_pow hci.2
      refine x_iload_n F dX5_heardAt_16 rfl ?_
      refine x_aload_n F dX5_heardAt_17 rfl ?_
      refine x_getc (v := 67) F flX5_18 rfl dX5_heardAt_18 (by decide) (by decide) rfl rfl ?_
      refine x_iload F dX5_heardAt_21 rfl ?_
      refine x_N2 F (m_X6_readCell (N := 6) rfl (by decide) (by omega)) mnX5_83 msX6_readCell dX5_heardAt_23 ⟨Nat.le_of_ble_eq_true rfl, Nat.le_of_ble_eq_true rfl⟩ ⟨Nat.zero_le _, Nat.zero_le _⟩ (Nat.le_of_ble_eq_true rfl) ?_
      rw [hrdI]
      refine xj_iconst F dX5_heardAt_26 ?_
      refine x_ixor F dX5_heardAt_27 ?_
      refine x_iand F dX5_heardAt_28 ?_
      rw [bj_not _ (hrd_lt hu i) _ hb64]
      refine x_istore_n F dX5_heardAt_29 (by decide) ?_
      refine xj_iinc F dX5_heardAt_30 rfl ?_
      refine x_goto (tgt := 5) F dX5_heardAt_33 (by decide) ?_
      exact ih (i + 1) (by omega) (by omega)
set_option maxRecDepth 20000 in
theorem m_X5_heardAt {l : Launch} {E : xE} {p used : Nat} {pre : Nat → Nat} {M : xM} (hp : p ≤ 6) (hu : used < 64) (hre : 1 ≤ (M.1 64 4).toInt ∧ (M.1 64 4).toInt ≤ 6) (hc : ∀ i, i < p → (M.1 67 i).toInt = ((2 ^ pre i : Nat) : Int) ∧ pre i < 6) : XF l E 2 yX5_heardAt cX5_heardAt 5 (some FieldType.int) [vA 64, vI (jI (p : Int)), vI (jI (used : Int))] M (vI (jI ((hrd pre used ((p : Int) - (M.1 64 4).toInt).toNat : Nat) : Int))) (M) := by
  refine xp_start (plainFor_of_name (by decide)) rfl (Nat.le_of_ble_eq_true rfl) ?_
  intro Y F FR
  refine x_iload_n F dX5_heardAt_0 rfl ?_
  refine x_istore_n F dX5_heardAt_1 (by decide) ?_
  refine xj_iconst F dX5_heardAt_2 ?_
  refine x_istore F dX5_heardAt_3 (by decide) ?_
  exact L_X5_heardAt hp hu hre hc F FR _ 0 (by omega) (Nat.lt_succ_self _)
set_option maxRecDepth 20000 in
theorem m_X5_parityOf {l : Launch} {E : xE} {who p heard : Nat} {H B : Nat → Nat} {M : xM} (hw : who < 6) (hp : p < 6) (hh : heard < 64) (hH : (M.1 65 who).toInt = ((H who : Nat) : Int) ∧ H who < 64) (hB : (M.1 66 who).toInt = ((B who : Nat) : Int) ∧ B who < 64) : XF l E 2 yX5_parityOf cX5_parityOf 5 (some FieldType.int) [vA 64, vI (jI (who : Int)), vI (jI (p : Int)), vI (jI (heard : Int))] M (vI (jI (prF H B who p heard))) (M) := by
  refine xp_start (plainFor_of_name (by decide)) rfl (Nat.le_of_ble_eq_true rfl) ?_
  intro Y F FR
  have e1 : rdI (M.1 65) 6 (who : Int) = ((H who : Nat) : Int) := by unfold rdI; rw [if_pos (by omega), Int.toNat_natCast]; exact hH.1
  have e2 : rdI (M.1 66) 6 (who : Int) = ((B who : Nat) : Int) := by unfold rdI; rw [if_pos (by omega), Int.toNat_natCast]; exact hB.1
  have hsr : B who >>> p < 64 := Nat.lt_of_le_of_lt (Nat.shiftRight_le _ _) hB.2
  have hpp := pop_le (H who &&& heard)
  refine x_aload_n F dX5_parityOf_0 rfl ?_
  refine x_getc (v := 65) F flX5_9 rfl dX5_parityOf_1 (by decide) (by decide) rfl rfl ?_
  refine x_iload_n F dX5_parityOf_4 rfl ?_
  refine x_N2 F (m_X6_readCell (N := 6) rfl (by decide) (by omega)) mnX5_83 msX6_readCell dX5_parityOf_5 ⟨Nat.le_of_ble_eq_true rfl, Nat.le_of_ble_eq_true rfl⟩ ⟨Nat.zero_le _, Nat.zero_le _⟩ (Nat.le_of_ble_eq_true rfl) ?_
  rw [e1]
  refine x_iload_n F dX5_parityOf_8 rfl ?_
  refine x_iand F dX5_parityOf_9 ?_
  rw [bj_and]
  refine x_S1 F (m_J6_bitCount_0f7a4 (lt64_and hH.2)) mlX5_75 msJ6_bitCount_0f7a4 dX5_parityOf_10 ⟨Nat.le_of_ble_eq_true rfl, Nat.le_of_ble_eq_true rfl⟩ ⟨Nat.zero_le _, Nat.zero_le _⟩ (Nat.le_of_ble_eq_true rfl) ?_
  refine x_istore F dX5_parityOf_13 (by decide) ?_
  refine x_iload F dX5_parityOf_15 rfl ?_
  refine x_aload_n F dX5_parityOf_17 rfl ?_
  refine x_getc (v := 66) F flX5_15 rfl dX5_parityOf_18 (by decide) (by decide) rfl rfl ?_
  refine x_iload_n F dX5_parityOf_21 rfl ?_
  refine x_N2 F (m_X6_readCell (N := 6) rfl (by decide) (by omega)) mnX5_83 msX6_readCell dX5_parityOf_22 ⟨Nat.le_of_ble_eq_true rfl, Nat.le_of_ble_eq_true rfl⟩ ⟨Nat.zero_le _, Nat.zero_le _⟩ (Nat.le_of_ble_eq_true rfl) ?_
  rw [e2]
  refine x_iload_n F dX5_parityOf_25 rfl ?_
  refine x_ishr F dX5_parityOf_26 ?_
  rw [bj_shr _ hB.2 _ hp]
  refine xj_iadd F dX5_parityOf_27 ?_
  refine xj_iconst F dX5_parityOf_28 ?_
  refine xj_and1 F dX5_parityOf_29 (by generalize B who >>> p = sb at hsr ⊢; omega) ?_
  refine x_iret F FR dX5_parityOf_30 rfl (Nat.le_refl _) (Nat.le_refl _) ?_
  exact ⟨rfl, rfl⟩
def hoB (M : xM) (c : Nat) (r : Int) (who : Nat) : Nat → Bool := fun p => decide (heI M c r (who : Int) < heI M c r (p : Int))
def obB (M : xM) (c : Nat) (r : Int) (who : Nat) : Nat → Bool := fun p => decide (hbI M c (rbI M c r) ((p : Int) - (M.1 c 4).toInt) (p : Int) (heI M c r (who : Int)) % 2 = 1)
theorem obB_if (M : xM) (c : Nat) (r : Int) (who p : Nat) (hS : ∀ q : Int, 0 ≤ szI M c q ∧ szI M c q ≤ 6) : (if obB M c r who p = true then 2 ^ p else 0) = (hbI M c (rbI M c r) ((p : Int) - (M.1 c 4).toInt) (p : Int) (heI M c r (who : Int)) % 2).toNat * 2 ^ p := by
  have hb := hbI_b hS (rbI M c r) ((p : Int) - (M.1 c 4).toInt) (p : Int) (heI M c r (who : Int))
  unfold obB
  generalize hbI M c (rbI M c r) ((p : Int) - (M.1 c 4).toInt) (p : Int) (heI M c r (who : Int)) = z at hb ⊢
  by_cases h : z % 2 = 1
  · rw [if_pos (decide_eq_true h), show (z % 2).toNat = 1 by omega, Nat.one_mul]
  · rw [if_neg (by simpa using h), show (z % 2).toNat = 0 by omega, Nat.zero_mul]
set_option maxRecDepth 20000 in
theorem L_X5_noteSinger {l : Launch} {E : xE} {c who sz : Nat} {r : Int} {M : xM} (hC : isCh c) (hO : okC M c) (hr : 0 ≤ r ∧ r < 4) (hw : who < 6) (hsz : (M.1 64 3).toInt = (sz : Int) ∧ sz ≤ 6) {Y : xY} (F : xFix E (xA E) Y cX5_noteSinger yX5_noteSinger.cls 8) (FR : xRet E Y none 0 0 (fun r' M'' => r' = vU ∧ M'' = wrI (wrI M 65 6 (who : Int) (jI ((mkB (hoB M c r who) sz : Nat) : Int))) 66 6 (who : Int) (jI ((mkB (obB M c r who) sz : Nat) : Int))) (fun _ _ => False)) : ∀ (k : Nat) (i : Nat), i ≤ sz → sz - i < k → WP l E (xRm 4 0 0) (xA E) Y 0 0 17 [vA 64, vA c, vI (jI r), vI (jI (who : Int)), vI (jI (heI M c r (who : Int))), vI (jI ((mkB (hoB M c r who) i : Nat) : Int)), vI (jI ((mkB (obB M c r who) i : Nat) : Int)), vI (jI (i : Int))] [] M := by
  intro k
  induction k with
  | zero => intro i hi hk; exact absurd hk (Nat.not_lt_zero _)
  | succ k ih =>
    intro i hi hk
    have hhe := rg_heI M c r (who : Int)
    have hre := hO.2.1
    have hS := hO.1
    have hs := hS (rbI M c r)
    refine x_iload F dX5_noteSinger_17 rfl ?_
    refine x_aload_n F dX5_noteSinger_19 rfl ?_
    refine xj_geti F flX5_33 rfl dX5_noteSinger_20 (by decide) (by decide) rfl (fun hg_1 => ?_)
    refine xj_icmp_ge (tgt := 72) F dX5_noteSinger_23 (by decide) (by omega) (fun h_2 => ?_) (fun h_2 => ?_)
    · refine x_aload_n F dX5_noteSinger_72 rfl ?_
      refine x_getc (v := 65) F flX5_9 rfl dX5_noteSinger_73 (by decide) (by decide) rfl rfl ?_
      refine x_iload_n F dX5_noteSinger_76 rfl ?_
      refine x_iload F dX5_noteSinger_77 rfl ?_
      refine x_N3 F (m_X6_writeCell (N := 6) rfl (by decide) (by omega)) mnX5_64 msX6_writeCell dX5_noteSinger_79 ⟨Nat.le_of_ble_eq_true rfl, Nat.le_of_ble_eq_true rfl⟩ ⟨Nat.zero_le _, Nat.zero_le _⟩ (Nat.le_of_ble_eq_true rfl) ?_
      refine x_aload_n F dX5_noteSinger_82 rfl ?_
      refine x_getc (v := 66) F flX5_15 rfl dX5_noteSinger_83 (by decide) (by decide) rfl rfl ?_
      refine x_iload_n F dX5_noteSinger_86 rfl ?_
      refine x_iload F dX5_noteSinger_87 rfl ?_
      refine x_N3 F (m_X6_writeCell (N := 6) rfl (by decide) (by omega)) mnX5_64 msX6_writeCell dX5_noteSinger_89 ⟨Nat.le_of_ble_eq_true rfl, Nat.le_of_ble_eq_true rfl⟩ ⟨Nat.zero_le _, Nat.zero_le _⟩ (Nat.le_of_ble_eq_true rfl) ?_
      refine x_vret F FR dX5_noteSinger_92 (Nat.le_refl _) (Nat.le_refl _) ?_
      have e : i = sz := by omega
      subst e
      exact ⟨rfl, rfl⟩
    · refine x_aload_n F dX5_noteSinger_26 rfl ?_
      refine x_iload_n F dX5_noteSinger_27 rfl ?_
      refine x_iload F dX5_noteSinger_28 rfl ?_
      refine x_V2 F (m_X1_heightAt (by first | assumption | omega | decide) (by first | assumption | omega | decide) (by first | assumption | omega | decide)) mlX5_57 mvX1_heightAt hC.1 dX5_noteSinger_30 (by decide) rfl ⟨Nat.le_of_ble_eq_true rfl, Nat.le_of_ble_eq_true rfl⟩ ⟨Nat.zero_le _, Nat.zero_le _⟩ (Nat.le_of_ble_eq_true rfl) ?_
      have hf_3 := rg_heI M c r (i : Int)
      refine x_iload F dX5_noteSinger_33 rfl ?_
      refine xj_icmp_le (tgt := 47) F dX5_noteSinger_35 (by decide) (by omega) (fun h_4 => ?_) (fun h_4 => ?_)
      · have hif : (if hoB M c r who i = true then 2 ^ i else 0) = 0 := if_neg (by rw [show hoB M c r who i = false from decide_eq_false (by omega)]; decide)
        refine x_iload F dX5_noteSinger_47 rfl ?_
        refine x_aload_n F dX5_noteSinger_49 rfl ?_
        refine x_iload_n F dX5_noteSinger_50 rfl ?_
        refine x_iload F dX5_noteSinger_51 rfl ?_
        refine x_iload F dX5_noteSinger_53 rfl ?_
        refine x_V3 F (m_X1_higherBehind (by first | assumption | omega | decide) (by first | assumption | omega | decide) (by first | assumption | omega | decide) (by first | assumption | omega | decide) (by first | assumption | omega | decide)) mlX5_60 mvX1_higherBehind hC.1 dX5_noteSinger_55 (by decide) rfl ⟨Nat.le_of_ble_eq_true rfl, Nat.le_of_ble_eq_true rfl⟩ ⟨Nat.zero_le _, Nat.zero_le _⟩ (Nat.le_of_ble_eq_true rfl) ?_
        have hf_5 := hbI_b hS (rbI M c r) ((i : Int) - (M.1 c 4).toInt) (i : Int) (heI M c r (who : Int))
        refine xj_iconst F dX5_noteSinger_58 ?_
        refine xj_and1 F dX5_noteSinger_59 (by omega) ?_
        refine x_iload F dX5_noteSinger_60 rfl ?_
        have hz := hbI_b hS (rbI M c r) ((i : Int) - (M.1 c 4).toInt) (i : Int) (heI M c r (who : Int))
        rw [show hbI M c (rbI M c r) ((i : Int) - (M.1 c 4).toInt) (i : Int) (heI M c r (who : Int)) % 2 = (((hbI M c (rbI M c r) ((i : Int) - (M.1 c 4).toInt) (i : Int) (heI M c r (who : Int)) % 2).toNat : Nat) : Int) by omega]
        refine x_ishl F dX5_noteSinger_62 ?_
        rw [bj_shl _ (by omega) i (by omega), ← obB_if M c r who i hS]
        refine x_ior F dX5_noteSinger_63 ?_
        rw [bj_or]
        refine x_istore F dX5_noteSinger_64 (by decide) ?_
        refine xj_iinc F dX5_noteSinger_66 rfl ?_
        refine x_goto (tgt := 17) F dX5_noteSinger_69 (by decide) ?_
        have e : mkB (hoB M c r who) (i + 1) = mkB (hoB M c r who) i ||| (if hoB M c r who i = true then 2 ^ i else 0) := rfl
        rw [hif] at e
        refine ih (i + 1) (by omega) (by omega) |> fun g => ?_
        rw [e] at g
        first
          | exact g
          | (rw [Nat.one_mul]; exact g)
          | (rw [Nat.or_zero] at g; exact g)
      · have hif : (if hoB M c r who i = true then 2 ^ i else 0) = 2 ^ i := if_pos (decide_eq_true (by omega))
        refine x_iload F dX5_noteSinger_38 rfl ?_
        refine xj_iconst F dX5_noteSinger_40 ?_
        refine x_iload F dX5_noteSinger_41 rfl ?_
        refine x_ishl F dX5_noteSinger_43 ?_
        rw [show jI 1 <<< (jI (i : Int) &&& 31) = jI ((1 * 2 ^ i : Nat) : Int) from bj_shl 1 (by decide) i (by omega)]
        refine x_ior F dX5_noteSinger_44 ?_
        rw [bj_or]
        refine x_istore F dX5_noteSinger_45 (by decide) ?_
        refine x_iload F dX5_noteSinger_47 rfl ?_
        refine x_aload_n F dX5_noteSinger_49 rfl ?_
        refine x_iload_n F dX5_noteSinger_50 rfl ?_
        refine x_iload F dX5_noteSinger_51 rfl ?_
        refine x_iload F dX5_noteSinger_53 rfl ?_
        refine x_V3 F (m_X1_higherBehind (by first | assumption | omega | decide) (by first | assumption | omega | decide) (by first | assumption | omega | decide) (by first | assumption | omega | decide) (by first | assumption | omega | decide)) mlX5_60 mvX1_higherBehind hC.1 dX5_noteSinger_55 (by decide) rfl ⟨Nat.le_of_ble_eq_true rfl, Nat.le_of_ble_eq_true rfl⟩ ⟨Nat.zero_le _, Nat.zero_le _⟩ (Nat.le_of_ble_eq_true rfl) ?_
        have hf_6 := hbI_b hS (rbI M c r) ((i : Int) - (M.1 c 4).toInt) (i : Int) (heI M c r (who : Int))
        refine xj_iconst F dX5_noteSinger_58 ?_
        refine xj_and1 F dX5_noteSinger_59 (by omega) ?_
        refine x_iload F dX5_noteSinger_60 rfl ?_
        have hz := hbI_b hS (rbI M c r) ((i : Int) - (M.1 c 4).toInt) (i : Int) (heI M c r (who : Int))
        rw [show hbI M c (rbI M c r) ((i : Int) - (M.1 c 4).toInt) (i : Int) (heI M c r (who : Int)) % 2 = (((hbI M c (rbI M c r) ((i : Int) - (M.1 c 4).toInt) (i : Int) (heI M c r (who : Int)) % 2).toNat : Nat) : Int) by omega]
        refine x_ishl F dX5_noteSinger_62 ?_
        rw [bj_shl _ (by omega) i (by omega), ← obB_if M c r who i hS]
        refine x_ior F dX5_noteSinger_63 ?_
        rw [bj_or]
        refine x_istore F dX5_noteSinger_64 (by decide) ?_
        refine xj_iinc F dX5_noteSinger_66 rfl ?_
        refine x_goto (tgt := 17) F dX5_noteSinger_69 (by decide) ?_
        have e : mkB (hoB M c r who) (i + 1) = mkB (hoB M c r who) i ||| (if hoB M c r who i = true then 2 ^ i else 0) := rfl
        rw [hif] at e
        refine ih (i + 1) (by omega) (by omega) |> fun g => ?_
        rw [e] at g
        first
          | exact g
          | (rw [Nat.one_mul]; exact g)
          | (rw [Nat.or_zero] at g; exact g)
set_option maxRecDepth 20000 in
theorem m_X5_noteSinger {l : Launch} {E : xE} {c who sz : Nat} {r : Int} {M : xM} (hC : isCh c) (hO : okC M c) (hr : 0 ≤ r ∧ r < 4) (hw : who < 6) (hsz : (M.1 64 3).toInt = (sz : Int) ∧ sz ≤ 6) : XF l E 4 yX5_noteSinger cX5_noteSinger 8 none [vA 64, vA c, vI (jI r), vI (jI (who : Int))] M (vU) (wrI (wrI M 65 6 (who : Int) (jI ((mkB (hoB M c r who) sz : Nat) : Int))) 66 6 (who : Int) (jI ((mkB (obB M c r who) sz : Nat) : Int))) := by
  refine xp_start (plainFor_of_name (by decide)) rfl (Nat.le_of_ble_eq_true rfl) ?_
  intro Y F FR
  refine x_aload_n F dX5_noteSinger_0 rfl ?_
  refine x_iload_n F dX5_noteSinger_1 rfl ?_
  refine x_iload_n F dX5_noteSinger_2 rfl ?_
  refine x_V2 F (m_X1_heightAt (by first | assumption | omega | decide) (by first | assumption | omega | decide) (by first | assumption | omega | decide)) mlX5_57 mvX1_heightAt hC.1 dX5_noteSinger_3 (by decide) rfl ⟨Nat.le_of_ble_eq_true rfl, Nat.le_of_ble_eq_true rfl⟩ ⟨Nat.zero_le _, Nat.zero_le _⟩ (Nat.le_of_ble_eq_true rfl) ?_
  have hf_1 := rg_heI M c r (who : Int)
  refine x_istore F dX5_noteSinger_6 (by decide) ?_
  refine xj_iconst F dX5_noteSinger_8 ?_
  refine x_istore F dX5_noteSinger_9 (by decide) ?_
  refine xj_iconst F dX5_noteSinger_11 ?_
  refine x_istore F dX5_noteSinger_12 (by decide) ?_
  refine xj_iconst F dX5_noteSinger_14 ?_
  refine x_istore F dX5_noteSinger_15 (by decide) ?_
  exact L_X5_noteSinger hC hO hr hw hsz F FR _ 0 (by omega) (Nat.lt_succ_self _)
