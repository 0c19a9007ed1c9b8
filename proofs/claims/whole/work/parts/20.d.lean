/-! THE DIGEST -/
theorem eqC_swC {M M' : xM} {c c' : Nat} (h : eqC M M' c c') {i : Nat} (hi : i = 2 ∨ i = 3 ∨ i = 4) (s t : Int) : eqC (swC M (c + i) s t) (swC M' (c' + i) s t) c c' := by
  have e : ∀ z, rdI (M'.1 (c' + i)) 24 z = rdI (M.1 (c + i)) 24 z := fun z => by
    rcases hi with rfl | rfl | rfl
    · exact rd2_e h z
    · exact rd3_e h z
    · exact rd4_e h z
  unfold swC
  rw [e, e]
  exact eqC_wr (eqC_wr h hi _ _) hi _ _
theorem eqC_swQ {M M' : xM} {c c' : Nat} (h : eqC M M' c c') (s t : Int) : eqC (swP M c s t) (swP M' c' s t) c c' := eqC_swC (eqC_swC (eqC_swC h (by omega) s t) (by omega) s t) (by omega) s t
theorem sameX_e {M M' : xM} (h : sameX M M') : eqC M M' 1 1 := qX_e (qX_same h)
theorem orI_e {M M' : xM} (h : eqC M M' 1 1) (z : Int) : orI M' z = orI M z := oaI_e (eqC_up h)
theorem bpF_e {M M' : xM} (h : eqC M M' 1 1) (r : Int) (a : Nat) : ∀ (n : Nat) (q : Int × Int), bpF M' r a n q = bpF M r a n q
  | 0, _ => rfl
  | n + 1, q => by simp only [bpF]; rw [bpF_e h r a n q, oaI_e (eqC_swQ h _ _)]
theorem bpG_e {M M' : xM} (h : eqC M M' 1 1) (r : Int) : ∀ n : Nat, bpG M' r n = bpG M r n
  | 0 => by simp only [bpG]; rw [oaI_e h]
  | n + 1 => by simp only [bpG]; rw [bpG_e h r n, szI_e h, bpF_e h]
theorem bpI_e {M M' : xM} (h : eqC M M' 1 1) (r : Int) : bpI M' r = bpI M r := by unfold bpI; rw [szI_e h, bpG_e h]
theorem brF_e {M M' : xM} (h : eqC M M' 1 1) (x : Int) : ∀ n : Nat, brF M' x n = brF M x n
  | 0 => rfl
  | n + 1 => by simp only [brF]; rw [brF_e h x n, szI_e h, oaI_e (eqC_ar h _ _ _)]
def jL (z : Int) : Int64 := (jI z).toInt64
def mx (h v : Int64) : Int64 := 31 * h + v
def mxT (f : Nat → Int64) : Nat → Int64 → Int64
  | 0, h => h
  | n + 1, h => mx (mxT f n h) (f n)
def msN (M : xM) (r : Int) : Nat → Int64 → Int64
  | 0, h => h
  | n + 1, h => mxT (fun z => jL (osI M 1 r n z)) 8 (msN M r n h)
def nb (x : UInt64) : Bool := decide (x &&& 0x7fffffffffffffff ≤ 0x7ff0000000000000)
theorem nb_of {x : UInt64} (h : nb x = true) : vf_n64 x := by
  unfold nb at h
  have h2 := of_decide_eq_true h
  exact h2
theorem if_some {α : Type} {p : Prop} [Decidable p] {o : Option α} {v : α} (h : (if p then o else none) = some v) : p ∧ o = some v := by
  by_cases hp : p
  · rw [if_pos hp] at h; exact ⟨hp, h⟩
  · rw [if_neg hp] at h; cases h
def bsF : Nat → UInt64 → Int64 → Option Int64
  | 0, _, _ => none
  | n + 1, x, e => if 0 ≤ Op.cmpValue (FP.dcmp x FP.dconst1) .g then (if nb (FP.dsub x FP.dconst1) = true ∧ nb (FP.dmul (FP.dsub x FP.dconst1) 4841369599423283200) = true then some ((e <<< ((jI 52).toInt64 &&& 63)) + FP.d2l (FP.dmul (FP.dsub x FP.dconst1) 4841369599423283200)) else none)
    else if nb (FP.dmul x 4611686018427387904) = true then bsF n (FP.dmul x 4611686018427387904) (e - 1) else none
def bsI (x : UInt64) : Option Int64 := if 0 < Op.cmpValue (FP.dcmp x FP.dconst0) .g then bsF 64 x 1023 else some 0
def shD (a b : Int) : UInt64 := if 0 < b then FP.ddiv (FP.i2d (jI a)) (FP.i2d (jI b)) else FP.dconst1
theorem shD_n {a b : Int} (ha : 0 ≤ a ∧ a ≤ 24) (hb : 1 ≤ b ∧ b ≤ 24) : vf_n64 (FP.ddiv (FP.i2d (jI a)) (FP.i2d (jI b))) := by
  have t : ∀ a, a < 25 → ∀ b, b < 25 → 1 ≤ b → nb (FP.ddiv (FP.i2d (jI (a : Nat))) (FP.i2d (jI (b : Nat)))) = true := by decide +kernel
  have := nb_of (t a.toNat (by omega) b.toNat (by omega) (by omega))
  rw [show ((a.toNat : Nat) : Int) = a by omega, show ((b.toNat : Nat) : Int) = b by omega] at this
  exact this
theorem shD_b {a b : Int} (ha : 0 ≤ a ∧ a ≤ 24) (hb : 0 ≤ b ∧ b ≤ 24) : ∃ v, bsI (shD a b) = some v := by
  have t : ∀ a, a < 25 → ∀ b, b < 25 → (bsI (shD (a : Nat) (b : Nat))).isSome = true := by decide +kernel
  have := t a.toNat (by omega) b.toNat (by omega)
  rw [show ((a.toNat : Nat) : Int) = a by omega, show ((b.toNat : Nat) : Int) = b by omega] at this
  exact Option.isSome_iff_exists.mp this
set_option maxRecDepth 20000 in
theorem m_X6_mix {l : Launch} {E : xE} {a b : Int64} {M : xM} : XF l E 1 yX6_mix cX6_mix 4 (some FieldType.long) [vL a, vL b] M (vL (mx a b)) (M) := by
  refine xp_start (plainFor_of_name (by decide)) rfl (Nat.le_of_ble_eq_true rfl) ?_
  intro Y F FR
  refine x_ldc2 F klX6_298 dX6_mix_0 ?_
  refine x_lload_n F dX6_mix_3 rfl ?_
  refine x_lmul F dX6_mix_4 ?_
  refine x_lload_n F dX6_mix_5 rfl ?_
  refine x_ladd F dX6_mix_6 ?_
  refine x_lret F FR dX6_mix_7 (Nat.le_refl _) (Nat.le_refl _) ?_
  exact ⟨rfl, rfl⟩
set_option maxRecDepth 20000 in
theorem L_X6_mixSingers_26 {l : Launch} {E : xE} {h0 : Int64} {r : Int} {M0 : xM} (hO : okC M0 1) (hT : okT M0) (hr : 0 ≤ r ∧ r < 4) {p : Nat} (hp : (p : Int) < szI M0 1 r) {Y : xY} (F : xFix E (xA E) Y cX6_mixSingers yX6_mixSingers.cls 9) (FR : xRet E Y (some FieldType.long) 0 0 (fun r' M' => r' = vL (msN M0 r (szI M0 1 r).toNat h0) ∧ sameX M0 M') (fun _ _ => False)) : ∀ (k : Nat) (n : Nat) (M : xM), n ≤ 8 → sameX M0 M → (∀ (w : xV) (M9 : xM), sameX M0 M9 → WP l E (xRm 17 0 0) (xA E) Y 0 0 56 [vA 0, vL h0, vU, vI (jI r), vL (mxT (fun z => jL (osI M0 1 r (p : Nat) z)) 8 (msN M0 r p h0)), vU, vI (jI (szI M0 1 r)), vI (jI (p : Int)), w] [] M9) → 8 - n < k → WP l E (xRm 17 0 0) (xA E) Y 0 0 26 [vA 0, vL h0, vU, vI (jI r), vL (mxT (fun z => jL (osI M0 1 r (p : Nat) z)) n (msN M0 r p h0)), vU, vI (jI (szI M0 1 r)), vI (jI (p : Int)), vI (jI (n : Int))] [] M := by
  intro k
  induction k with
  | zero => intro n M hn hX hex hk; exact absurd hk (Nat.not_lt_zero _)
  | succ k ih =>
    intro n M hn hX hex hk
    have hC : isCh 1 := ch1
    have hE := sameX_e hX
    have hOM : okC M 1 := okC_e hE hO
    have hTM := hX.2.1 hT
    have hS := hS_of hO
    have hs := hS r
    refine x_iload F dX6_mixSingers_26 rfl ?_
    refine xj_bipush F dX6_mixSingers_28 (by decide) ?_
    refine xj_icmp_gt (tgt := 56) F dX6_mixSingers_30 (by decide) (by omega) (fun h_1 => ?_) (fun h_1 => ?_)
    · have e : n = 8 := by omega
      subst e
      exact hex _ _ hX
    · refine x_lload F dX6_mixSingers_33 rfl ?_
      refine x_aload_n F dX6_mixSingers_35 rfl ?_
      refine x_iload_n F dX6_mixSingers_36 rfl ?_
      refine x_iload F dX6_mixSingers_37 rfl ?_
      refine x_iload F dX6_mixSingers_39 rfl ?_
      refine x_V3P F (m_X6_ofSinger hOM hTM hr (by omega) (by omega)) mlX6_168 mvX6_ofSinger rfl dX6_mixSingers_41 (by decide) rfl ⟨Nat.le_of_ble_eq_true rfl, Nat.le_of_ble_eq_true rfl⟩ ⟨Nat.zero_le _, Nat.zero_le _⟩ (Nat.le_of_ble_eq_true rfl) (fun r_41 M_41 q_41 => ?_)
      obtain ⟨rfl, q_41⟩ := q_41
      rw [osI_e hE]
      refine x_i2l F dX6_mixSingers_44 ?_
      refine x_S2 F (m_X6_mix) mlX6_194 msX6_mix dX6_mixSingers_45 ⟨Nat.le_of_ble_eq_true rfl, Nat.le_of_ble_eq_true rfl⟩ ⟨Nat.zero_le _, Nat.zero_le _⟩ (Nat.le_of_ble_eq_true rfl) ?_
      refine x_lstore F dX6_mixSingers_48 (by decide) ?_
      refine xj_iinc F dX6_mixSingers_50 rfl ?_
      refine x_goto (tgt := 26) F dX6_mixSingers_53 (by decide) ?_
      exact ih (n + 1) _ (by omega) (hX.trans q_41) hex (by omega)
set_option maxRecDepth 20000 in
theorem L_X6_mixSingers {l : Launch} {E : xE} {h0 : Int64} {r : Int} {M0 : xM} (hO : okC M0 1) (hT : okT M0) (hr : 0 ≤ r ∧ r < 4) {Y : xY} (F : xFix E (xA E) Y cX6_mixSingers yX6_mixSingers.cls 9) (FR : xRet E Y (some FieldType.long) 0 0 (fun r' M' => r' = vL (msN M0 r (szI M0 1 r).toNat h0) ∧ sameX M0 M') (fun _ _ => False)) : ∀ (k : Nat) (p : Nat) (M : xM) (y : xV), (p : Int) ≤ szI M0 1 r → sameX M0 M → (szI M0 1 r - p).toNat < k → WP l E (xRm 17 0 0) (xA E) Y 0 0 16 [vA 0, vL h0, vU, vI (jI r), vL (msN M0 r p h0), vU, vI (jI (szI M0 1 r)), vI (jI (p : Int)), y] [] M := by
  intro k
  induction k with
  | zero => intro p M y hn hX hk; exact absurd hk (Nat.not_lt_zero _)
  | succ k ih =>
    intro p M y hn hX hk
    have hC : isCh 1 := ch1
    have hS := hS_of hO
    have hs := hS r
    refine x_iload F dX6_mixSingers_16 rfl ?_
    refine x_iload F dX6_mixSingers_18 rfl ?_
    refine xj_icmp_ge (tgt := 62) F dX6_mixSingers_20 (by decide) (by omega) (fun h_1 => ?_) (fun h_1 => ?_)
    · refine x_lload F dX6_mixSingers_62 rfl ?_
      refine x_lret F FR dX6_mixSingers_64 (Nat.le_refl _) (Nat.le_refl _) ?_
      have e : p = (szI M0 1 r).toNat := by omega
      subst e
      exact ⟨rfl, hX⟩
    · refine xj_iconst F dX6_mixSingers_23 ?_
      refine x_istore F dX6_mixSingers_24 (by decide) ?_
      refine L_X6_mixSingers_26 hO hT hr (p := p) (by omega) F FR _ 0 M (by omega) hX (fun w9 M9 hX9 => ?_) (Nat.lt_succ_self _)
      refine xj_iinc F dX6_mixSingers_56 rfl ?_
      refine x_goto (tgt := 16) F dX6_mixSingers_59 (by decide) ?_
      exact ih (p + 1) _ w9 (by omega) hX9 (by omega)
set_option maxRecDepth 20000 in
theorem m_X6_mixSingers {l : Launch} {E : xE} {h0 : Int64} {r : Int} {M0 : xM} (hO : okC M0 1) (hT : okT M0) (hr : 0 ≤ r ∧ r < 4) : XP l E 17 yX6_mixSingers cX6_mixSingers 9 (some FieldType.long) [vA 0, vL h0, vI (jI r)] M0 (fun r' M' => r' = vL (msN M0 r (szI M0 1 r).toNat h0) ∧ sameX M0 M') := by
  refine xp_start (plainFor_of_name (by decide)) rfl (Nat.le_of_ble_eq_true rfl) ?_
  intro Y F FR
  have hC : isCh 1 := ch1
  have hS := hS_of hO
  have hs := hS r
  refine x_lload_n F dX6_mixSingers_0 rfl ?_
  refine x_lstore F dX6_mixSingers_1 (by decide) ?_
  refine x_aload_n F dX6_mixSingers_3 rfl ?_
  refine x_getc (v := 1) F flX6_12 rfl dX6_mixSingers_4 (by decide) (by decide) rfl rfl ?_
  refine x_iload_n F dX6_mixSingers_7 rfl ?_
  refine x_V1 F (m_X1_sizeOf (by first | assumption | omega | decide) (by first | assumption | omega | decide)) mlX6_107 mvX1_sizeOf rfl dX6_mixSingers_8 (by decide) rfl ⟨Nat.le_of_ble_eq_true rfl, Nat.le_of_ble_eq_true rfl⟩ ⟨Nat.zero_le _, Nat.zero_le _⟩ (Nat.le_of_ble_eq_true rfl) ?_
  have hf_1 := rg_szI M0 1 r
  refine x_istore F dX6_mixSingers_11 (by decide) ?_
  refine xj_iconst F dX6_mixSingers_13 ?_
  refine x_istore F dX6_mixSingers_14 (by decide) ?_
  exact L_X6_mixSingers hO hT hr F FR _ 0 M0 vU (by omega) (sameX.rfl' _) (Nat.lt_succ_self _)
set_option maxRecDepth 20000 in
theorem L_X6_mixWritten {l : Launch} {E : xE} {h0 : Int64} {r : Int} {M : xM} (hO : okC M 1) (hr : 0 ≤ r ∧ r < 4) {Y : xY} (F : xFix E (xA E) Y cX6_mixWritten yX6_mixWritten.cls 8) (FR : xRet E Y (some FieldType.long) 0 0 (fun r' M'' => r' = vL (mxT (fun z => (wcI M 1 r (z : Nat)).toInt64) (max 0 (5 * szI M 1 r - 1)).toNat h0) ∧ M'' = M) (fun _ _ => False)) : ∀ (k : Nat) (n : Nat), (n : Int) ≤ (max 0 (5 * szI M 1 r - 1)) → ((max 0 (5 * szI M 1 r - 1)) - n).toNat < k → WP l E (xRm 7 0 0) (xA E) Y 0 0 16 [vA 0, vL h0, vU, vI (jI r), vL (mxT (fun z => (wcI M 1 r (z : Nat)).toInt64) n h0), vU, vI (jI (max 0 (5 * szI M 1 r - 1))), vI (jI (n : Int))] [] M := by
  intro k
  induction k with
  | zero => intro n hn hk; exact absurd hk (Nat.not_lt_zero _)
  | succ k ih =>
    intro n hn hk
    have hC : isCh 1 := ch1
    have hS := hS_of hO
    have hs := hS r
    refine x_iload F dX6_mixWritten_16 rfl ?_
    refine x_iload F dX6_mixWritten_18 rfl ?_
    refine xj_icmp_ge (tgt := 47) F dX6_mixWritten_20 (by decide) (by omega) (fun h_1 => ?_) (fun h_1 => ?_)
    · refine x_lload F dX6_mixWritten_47 rfl ?_
      refine x_lret F FR dX6_mixWritten_49 (Nat.le_refl _) (Nat.le_refl _) ?_
      have e : n = (max 0 (5 * szI M 1 r - 1)).toNat := by omega
      subst e
      exact ⟨rfl, rfl⟩
    · refine x_lload F dX6_mixWritten_23 rfl ?_
      refine x_aload_n F dX6_mixWritten_25 rfl ?_
      refine x_getc (v := 1) F flX6_12 rfl dX6_mixWritten_26 (by decide) (by decide) rfl rfl ?_
      refine x_iload_n F dX6_mixWritten_29 rfl ?_
      refine x_iload F dX6_mixWritten_30 rfl ?_
      refine x_V2 F (m_X1_writtenCode hC hS hr (by omega)) mlX6_155 mvX1_writtenCode rfl dX6_mixWritten_32 (by decide) rfl ⟨Nat.le_of_ble_eq_true rfl, Nat.le_of_ble_eq_true rfl⟩ ⟨Nat.zero_le _, Nat.zero_le _⟩ (Nat.le_of_ble_eq_true rfl) ?_
      refine x_i2l F dX6_mixWritten_35 ?_
      refine x_S2 F (m_X6_mix) mlX6_194 msX6_mix dX6_mixWritten_36 ⟨Nat.le_of_ble_eq_true rfl, Nat.le_of_ble_eq_true rfl⟩ ⟨Nat.zero_le _, Nat.zero_le _⟩ (Nat.le_of_ble_eq_true rfl) ?_
      refine x_lstore F dX6_mixWritten_39 (by decide) ?_
      refine xj_iinc F dX6_mixWritten_41 rfl ?_
      refine x_goto (tgt := 16) F dX6_mixWritten_44 (by decide) ?_
      exact ih (n + 1) (by omega) (by omega)
set_option maxRecDepth 20000 in
theorem m_X6_mixWritten {l : Launch} {E : xE} {h0 : Int64} {r : Int} {M : xM} (hO : okC M 1) (hr : 0 ≤ r ∧ r < 4) : XF l E 7 yX6_mixWritten cX6_mixWritten 8 (some FieldType.long) [vA 0, vL h0, vI (jI r)] M (vL (mxT (fun z => (wcI M 1 r (z : Nat)).toInt64) (max 0 (5 * szI M 1 r - 1)).toNat h0)) (M) := by
  refine xp_start (plainFor_of_name (by decide)) rfl (Nat.le_of_ble_eq_true rfl) ?_
  intro Y F FR
  have hC : isCh 1 := ch1
  have hS := hS_of hO
  have hs := hS r
  refine x_lload_n F dX6_mixWritten_0 rfl ?_
  refine x_lstore F dX6_mixWritten_1 (by decide) ?_
  refine x_aload_n F dX6_mixWritten_3 rfl ?_
  refine x_getc (v := 1) F flX6_12 rfl dX6_mixWritten_4 (by decide) (by decide) rfl rfl ?_
  refine x_iload_n F dX6_mixWritten_7 rfl ?_
  refine x_V1 F (m_X1_writtenLength (by first | assumption | omega | decide) (by first | assumption | omega | decide) (by first | assumption | omega | decide)) mlX6_300 mvX1_writtenLength rfl dX6_mixWritten_8 (by decide) rfl ⟨Nat.le_of_ble_eq_true rfl, Nat.le_of_ble_eq_true rfl⟩ ⟨Nat.zero_le _, Nat.zero_le _⟩ (Nat.le_of_ble_eq_true rfl) ?_
  have hf_1 := hS r
  refine x_istore F dX6_mixWritten_11 (by decide) ?_
  refine xj_iconst F dX6_mixWritten_13 ?_
  refine x_istore F dX6_mixWritten_14 (by decide) ?_
  exact L_X6_mixWritten hO hr F FR _ 0 (by omega) (Nat.lt_succ_self _)
set_option maxRecDepth 20000 in
theorem L_X6_mixText {l : Launch} {E : xE} {h0 : Int64} {M : xM} (hB : okB M) {Y : xY} (F : xFix E (xA E) Y cX6_mixText yX6_mixText.cls 6) (FR : xRet E Y (some FieldType.long) 0 0 (fun r' M'' => r' = vL (mxT (fun z => jL (cdI M (z : Nat))) (tlI M).toNat (mx h0 (jL (tlI M)))) ∧ M'' = M) (fun _ _ => False)) : ∀ (k : Nat) (n : Nat), (n : Int) ≤ tlI M → (tlI M - n).toNat < k → WP l E (xRm 3 0 0) (xA E) Y 0 0 16 [vA 0, vL h0, vU, vL (mxT (fun z => jL (cdI M (z : Nat))) n (mx h0 (jL (tlI M)))), vU, vI (jI (n : Int))] [] M := by
  intro k
  induction k with
  | zero => intro n hn hk; exact absurd hk (Nat.not_lt_zero _)
  | succ k ih =>
    intro n hn hk
    have hb := hB.1
    refine x_iload F dX6_mixText_16 rfl ?_
    refine x_aload_n F dX6_mixText_18 rfl ?_
    refine x_getc (v := 48) F flX6_36 rfl dX6_mixText_19 (by decide) (by decide) rfl rfl ?_
    refine x_V0 F (m_X0_size) mlX6_132 mvX0_size rfl dX6_mixText_22 (by decide) rfl ⟨Nat.le_of_ble_eq_true rfl, Nat.le_of_ble_eq_true rfl⟩ ⟨Nat.zero_le _, Nat.zero_le _⟩ (Nat.le_of_ble_eq_true rfl) ?_
    refine xj_icmp_ge (tgt := 49) F dX6_mixText_25 (by decide) (by omega) (fun h_1 => ?_) (fun h_1 => ?_)
    · refine x_lload_n F dX6_mixText_49 rfl ?_
      refine x_lret F FR dX6_mixText_50 (Nat.le_refl _) (Nat.le_refl _) ?_
      have e : n = (tlI M).toNat := by omega
      subst e
      exact ⟨rfl, rfl⟩
    · refine x_lload_n F dX6_mixText_28 rfl ?_
      refine x_aload_n F dX6_mixText_29 rfl ?_
      refine x_getc (v := 48) F flX6_36 rfl dX6_mixText_30 (by decide) (by decide) rfl rfl ?_
      refine x_iload F dX6_mixText_33 rfl ?_
      refine x_V1 F (m_X0_codeAt hB (by omega)) mlX6_230 mvX0_codeAt rfl dX6_mixText_35 (by decide) rfl ⟨Nat.le_of_ble_eq_true rfl, Nat.le_of_ble_eq_true rfl⟩ ⟨Nat.zero_le _, Nat.zero_le _⟩ (Nat.le_of_ble_eq_true rfl) ?_
      have hf_2 := cdI_b hB (n : Int)
      refine x_i2l F dX6_mixText_38 ?_
      refine x_S2 F (m_X6_mix) mlX6_194 msX6_mix dX6_mixText_39 ⟨Nat.le_of_ble_eq_true rfl, Nat.le_of_ble_eq_true rfl⟩ ⟨Nat.zero_le _, Nat.zero_le _⟩ (Nat.le_of_ble_eq_true rfl) ?_
      refine x_lstore_n F dX6_mixText_42 (by decide) ?_
      refine xj_iinc F dX6_mixText_43 rfl ?_
      refine x_goto (tgt := 16) F dX6_mixText_46 (by decide) ?_
      exact ih (n + 1) (by omega) (by omega)
set_option maxRecDepth 20000 in
theorem m_X6_mixText {l : Launch} {E : xE} {h0 : Int64} {M : xM} (hB : okB M) : XF l E 3 yX6_mixText cX6_mixText 6 (some FieldType.long) [vA 0, vL h0] M (vL (mxT (fun z => jL (cdI M (z : Nat))) (tlI M).toNat (mx h0 (jL (tlI M))))) (M) := by
  refine xp_start (plainFor_of_name (by decide)) rfl (Nat.le_of_ble_eq_true rfl) ?_
  intro Y F FR
  have hb := hB.1
  refine x_lload_n F dX6_mixText_0 rfl ?_
  refine x_aload_n F dX6_mixText_1 rfl ?_
  refine x_getc (v := 48) F flX6_36 rfl dX6_mixText_2 (by decide) (by decide) rfl rfl ?_
  refine x_V0 F (m_X0_size) mlX6_132 mvX0_size rfl dX6_mixText_5 (by decide) rfl ⟨Nat.le_of_ble_eq_true rfl, Nat.le_of_ble_eq_true rfl⟩ ⟨Nat.zero_le _, Nat.zero_le _⟩ (Nat.le_of_ble_eq_true rfl) ?_
  refine x_i2l F dX6_mixText_8 ?_
  refine x_S2 F (m_X6_mix) mlX6_194 msX6_mix dX6_mixText_9 ⟨Nat.le_of_ble_eq_true rfl, Nat.le_of_ble_eq_true rfl⟩ ⟨Nat.zero_le _, Nat.zero_le _⟩ (Nat.le_of_ble_eq_true rfl) ?_
  refine x_lstore_n F dX6_mixText_12 (by decide) ?_
  refine xj_iconst F dX6_mixText_13 ?_
  refine x_istore F dX6_mixText_14 (by decide) ?_
  exact L_X6_mixText hB F FR _ 0 (by omega) (Nat.lt_succ_self _)
set_option maxRecDepth 20000 in
theorem L_X6_bitsOfShare {l : Launch} {E : xE} {x0 : UInt64} {v0 : Int64} {M : xM} (hv : bsI x0 = some v0) {Y : xY} (F : xFix E (xA E) Y cX6_bitsOfShare yX6_bitsOfShare.cls 8) (FR : xRet E Y (some FieldType.long) 0 0 (fun r' M'' => r' = vL v0 ∧ M'' = M) (fun _ _ => False)) : ∀ (k : Nat) (n : Nat) (x : UInt64) (e : Int64) (w : xV), n ≤ 64 → bsF (64 - n) x e = some v0 → 64 - n < k → WP l E (xRm 1 0 0) (xA E) Y 0 0 18 [vD x0, vU, vD x, vU, vL e, vU, vI (jI (n : Int)), w] [] M := by
  intro k
  induction k with
  | zero => intro n x e w hn hq hk; exact absurd hk (Nat.not_lt_zero _)
  | succ k ih =>
    intro n x e w hn hq hk
    refine x_iload F dX6_bitsOfShare_18 rfl ?_
    refine xj_bipush F dX6_bitsOfShare_20 (by decide) ?_
    refine xj_icmp_ge (tgt := 49) F dX6_bitsOfShare_22 (by decide) (by omega) (fun h_1 => ?_) (fun h_1 => ?_)
    · exact absurd hq (by rw [show 64 - n = 0 by omega]; exact fun z => by cases z)
    · refine x_dload_n F dX6_bitsOfShare_25 rfl ?_
      refine x_dconst1 F dX6_bitsOfShare_26 ?_
      refine x_dcmp F dX6_bitsOfShare_27 ?_
      refine x_if_ge (tgt := 49) F dX6_bitsOfShare_28 (by decide) (fun h_2 => ?_) (fun h_2 => ?_)
      · rw [show 64 - n = (64 - (n + 1)) + 1 by omega] at hq
        simp only [bsF] at hq
        rw [if_pos h_2] at hq
        obtain ⟨hh, hq⟩ := if_some hq
        cases hq
        refine x_dload_n F dX6_bitsOfShare_49 rfl ?_
        refine x_dconst1 F dX6_bitsOfShare_50 ?_
        refine x_dsub F dX6_bitsOfShare_51 (nb_of hh.1) ?_
        refine x_ldc2d F kdX6_307 dX6_bitsOfShare_52 ?_
        refine x_dmul F dX6_bitsOfShare_55 (nb_of hh.2) ?_
        refine x_d2l F dX6_bitsOfShare_56 ?_
        refine x_lstore F dX6_bitsOfShare_57 (by decide) ?_
        refine x_lload F dX6_bitsOfShare_59 rfl ?_
        refine xj_bipush F dX6_bitsOfShare_61 (by decide) ?_
        refine x_lshl F dX6_bitsOfShare_63 ?_
        refine x_lload F dX6_bitsOfShare_64 rfl ?_
        refine x_ladd F dX6_bitsOfShare_66 ?_
        refine x_lret F FR dX6_bitsOfShare_67 (Nat.le_refl _) (Nat.le_refl _) ?_
        exact ⟨rfl, rfl⟩
      · rw [show 64 - n = (64 - (n + 1)) + 1 by omega] at hq
        simp only [bsF] at hq
        rw [if_neg h_2] at hq
        obtain ⟨hh, hq⟩ := if_some hq
        refine x_dload_n F dX6_bitsOfShare_31 rfl ?_
        refine x_ldc2d F kdX6_305 dX6_bitsOfShare_32 ?_
        refine x_dmul F dX6_bitsOfShare_35 (nb_of hh) ?_
        refine x_dstore_n F dX6_bitsOfShare_36 (by decide) ?_
        refine x_lload F dX6_bitsOfShare_37 rfl ?_
        refine x_lconst F dX6_bitsOfShare_39 rfl ?_
        refine x_lsub F dX6_bitsOfShare_40 ?_
        refine x_lstore F dX6_bitsOfShare_41 (by decide) ?_
        refine xj_iinc F dX6_bitsOfShare_43 rfl ?_
        refine x_goto (tgt := 18) F dX6_bitsOfShare_46 (by decide) ?_
        exact ih (n + 1) _ _ _ (by omega) hq (by omega)
set_option maxRecDepth 20000 in
theorem m_X6_bitsOfShare {l : Launch} {E : xE} {x0 : UInt64} {v0 : Int64} {M : xM} (hv : bsI x0 = some v0) : XF l E 1 yX6_bitsOfShare cX6_bitsOfShare 8 (some FieldType.long) [vD x0] M (vL v0) (M) := by
  refine xp_start (plainFor_of_name (by decide)) rfl (Nat.le_of_ble_eq_true rfl) ?_
  intro Y F FR
  have hv0 := hv
  refine x_dload_n F dX6_bitsOfShare_0 rfl ?_
  refine x_dconst0 F dX6_bitsOfShare_1 ?_
  refine x_dcmp F dX6_bitsOfShare_2 ?_
  refine x_if_gt (tgt := 8) F dX6_bitsOfShare_3 (by decide) (fun h_1 => ?_) (fun h_1 => ?_)
  · unfold bsI at hv
    rw [if_pos h_1] at hv
    refine x_dload_n F dX6_bitsOfShare_8 rfl ?_
    refine x_dstore_n F dX6_bitsOfShare_9 (by decide) ?_
    refine x_ldc2 F klX6_303 dX6_bitsOfShare_10 ?_
    refine x_lstore F dX6_bitsOfShare_13 (by decide) ?_
    refine xj_iconst F dX6_bitsOfShare_15 ?_
    refine x_istore F dX6_bitsOfShare_16 (by decide) ?_
    exact L_X6_bitsOfShare hv0 F FR _ 0 x0 1023 vU (by omega) hv (Nat.lt_succ_self _)
  · unfold bsI at hv
    rw [if_neg h_1] at hv
    cases hv
    refine x_lconst F dX6_bitsOfShare_6 rfl ?_
    refine x_lret F FR dX6_bitsOfShare_7 (Nat.le_refl _) (Nat.le_refl _) ?_
    exact ⟨rfl, rfl⟩
theorem szs_b {M : xM} {c : Nat} (hS : ∀ q : Int, 0 ≤ szI M c q ∧ szI M c q ≤ 6) : 0 ≤ sumI (szI M c) 4 ∧ sumI (szI M c) 4 ≤ 24 := sumI_b (b := 6) 4 (fun i _ _ => hS i)
set_option maxRecDepth 20000 in
theorem m_X6_oddShare {l : Launch} {E : xE} {M : xM} (hO : okC M 1) : XF l E 6 yX6_oddShare cX6_oddShare 2 (some FieldType.double) [vA 0] M (vD (shD (oaI M 1) (sumI (szI M 1) 4))) (M) := by
  refine xp_start (plainFor_of_name (by decide)) rfl (Nat.le_of_ble_eq_true rfl) ?_
  intro Y F FR
  have hC : isCh 1 := ch1
  have hC6 : isCh 6 := ch6
  have hS := hS_of hO
  have hsz := szs_b hS
  have hoa := oaI_b hS
  refine x_aload_n F dX6_oddShare_0 rfl ?_
  refine x_getc (v := 1) F flX6_12 rfl dX6_oddShare_1 (by decide) (by decide) rfl rfl ?_
  refine x_V0 F (m_X1_sizeOfAll (by first | assumption | omega | decide) (by first | assumption | omega | decide)) mlX6_165 mvX1_sizeOfAll rfl dX6_oddShare_4 (by decide) rfl ⟨Nat.le_of_ble_eq_true rfl, Nat.le_of_ble_eq_true rfl⟩ ⟨Nat.zero_le _, Nat.zero_le _⟩ (Nat.le_of_ble_eq_true rfl) ?_
  refine x_istore_n F dX6_oddShare_7 (by decide) ?_
  refine x_iload_n F dX6_oddShare_8 rfl ?_
  refine xj_if_le (tgt := 26) F dX6_oddShare_9 (by decide) (by omega) (fun h_1 => ?_) (fun h_1 => ?_)
  · refine x_dconst1 F dX6_oddShare_26 ?_
    first
      | exact x_dret F FR dX6_oddShare_27 (Nat.le_refl _) (Nat.le_refl _) ⟨by unfold shD; rw [if_pos (by omega)], rfl⟩
      | exact x_dret F FR dX6_oddShare_27 (Nat.le_refl _) (Nat.le_refl _) ⟨by unfold shD; rw [if_neg (by omega)], rfl⟩
  · refine x_aload_n F dX6_oddShare_12 rfl ?_
    refine x_getc (v := 1) F flX6_12 rfl dX6_oddShare_13 (by decide) (by decide) rfl rfl ?_
    refine x_V0 F (m_X1_oddOfAll (by first | assumption | omega | decide) (by first | assumption | omega | decide)) mlX6_103 mvX1_oddOfAll rfl dX6_oddShare_16 (by decide) rfl ⟨Nat.le_of_ble_eq_true rfl, Nat.le_of_ble_eq_true rfl⟩ ⟨Nat.zero_le _, Nat.zero_le _⟩ (Nat.le_of_ble_eq_true rfl) ?_
    have hf_2 := oaI_b hS
    refine x_i2d F dX6_oddShare_19 ?_
    refine x_iload_n F dX6_oddShare_20 rfl ?_
    refine x_i2d F dX6_oddShare_21 ?_
    refine x_ddiv F dX6_oddShare_22 (shD_n hoa (by omega)) ?_
    refine x_goto (tgt := 27) F dX6_oddShare_23 (by decide) ?_
    first
      | exact x_dret F FR dX6_oddShare_27 (Nat.le_refl _) (Nat.le_refl _) ⟨by unfold shD; rw [if_pos (by omega)], rfl⟩
      | exact x_dret F FR dX6_oddShare_27 (Nat.le_refl _) (Nat.le_refl _) ⟨by unfold shD; rw [if_neg (by omega)], rfl⟩
def dgR (M : xM) : Nat → Int64 → Int64
  | 0, h => h
  | n + 1, h => mxT (fun z => (wcI M 1 (n : Int) (z : Nat)).toInt64) (max 0 (5 * szI M 1 (n : Int) - 1)).toNat (mx (msN M (n : Int) (szI M 1 (n : Int)).toNat (mxT (fun z => jL (owI M 1 (n : Int) (z : Nat))) 7 (dgR M n h))) (jL (bpI M (n : Int))))
def dgI (M : xM) : Int64 :=
  mxT (fun z => jL (cdI M (z : Nat))) (tlI M).toNat (mx (mx (mxT (fun z => jL (orI M ((z : Nat) + 1))) 6 (mx (dgR M 4 (mxT (fun z => jL (ohI M (z : Nat))) 9 3637)) (jL (brF M 160 4).2))) ((bsI (shD (oaI M 1) (sumI (szI M 1) 4))).getD 0)) (jL (tlI M)))
theorem msN_e {M M' : xM} (h : eqC M M' 1 1) (r : Int) : ∀ (n : Nat) (x : Int64), msN M' r n x = msN M r n x
  | 0, _ => rfl
  | n + 1, x => by simp only [msN]; rw [msN_e h r n x, show (fun z : Nat => jL (osI M' 1 r n z)) = (fun z : Nat => jL (osI M 1 r n z)) from funext fun z => by rw [osI_e h]]
theorem mwT_e {M M' : xM} (h : eqC M M' 1 1) (r : Int) (x : Int64) : mxT (fun z => (wcI M' 1 r (z : Nat)).toInt64) (max 0 (5 * szI M' 1 r - 1)).toNat x = mxT (fun z => (wcI M 1 r (z : Nat)).toInt64) (max 0 (5 * szI M 1 r - 1)).toNat x := by
  rw [szI_e h, show (fun z : Nat => (wcI M' 1 r z).toInt64) = (fun z : Nat => (wcI M 1 r z).toInt64) from funext fun z => by rw [wcI_e h]]
theorem qX_ch {M M' : xM} (h : qX M M') : M'.1 48 = M.1 48 ∧ M'.1 49 = M.1 49 ∧ M'.1 16 = M.1 16 ∧ M'.1 17 = M.1 17 := ⟨h.1 48 (by omega), h.1 49 (by omega), h.1 16 (by omega), h.1 17 (by omega)⟩
theorem tlI_q {M M' : xM} (h : qX M M') : tlI M' = tlI M := by unfold tlI; rw [(qX_ch h).1]
theorem cdI_q {M M' : xM} (h : qX M M') (z : Int) : cdI M' z = cdI M z := by unfold cdI; rw [tlI_q h, (qX_ch h).2.1]
theorem okB_q {M M' : xM} (h : qX M M') (hB : okB M) : okB M' := by unfold okB; rw [tlI_q h, (qX_ch h).2.1]; exact hB
theorem ohI_q {M M' : xM} (h : qX M M') (z : Int) : ohI M' z = ohI M z := ohI_e (qX_e h) (by rw [(qX_ch h).2.2.1]) z
set_option maxRecDepth 20000 in
theorem L_X6_digest_111 {l : Launch} {E : xE} {M0 : xM} (hO : okC M0 1) (hT : okT M0) (hB : okB M0) {w : xV} {Y : xY} (F : xFix E (xA E) Y cX6_digest yX6_digest.cls 5) (FR : xRet E Y (some FieldType.long) 0 0 (fun r' M' => r' = vL (dgI M0) ∧ qX M0 M') (fun _ _ => False)) : ∀ (k : Nat) (n : Nat) (M : xM), n ≤ 6 → qX M0 M → 6 - n < k → WP l E (xRm 18 0 0) (xA E) Y 0 0 111 [vA 0, vL (mxT (fun z => jL (orI M0 ((z : Nat) + 1))) n (mx (dgR M0 4 (mxT (fun z => jL (ohI M0 (z : Nat))) 9 3637)) (jL (brF M0 160 4).2))), vU, vI (jI (1 + (n : Int))), w] [] M := by
  intro k
  induction k with
  | zero => intro n M hn hX hk; exact absurd hk (Nat.not_lt_zero _)
  | succ k ih =>
    intro n M hn hX hk
    have hE := qX_e hX
    have hOM : okC M 1 := okC_e hE hO
    have hTM := hX.2.1 hT
    have hBM := okB_q hX hB
    have hS := hS_of hO
    have hC : isCh 1 := ch1
    refine x_iload_n F dX6_digest_111 rfl ?_
    refine xj_bipush F dX6_digest_112 (by decide) ?_
    refine xj_icmp_gt (tgt := 134) F dX6_digest_114 (by decide) (by omega) (fun h_1 => ?_) (fun h_1 => ?_)
    · refine x_lload_n F dX6_digest_134 rfl ?_
      refine x_aload_n F dX6_digest_135 rfl ?_
      obtain ⟨v, hv⟩ := shD_b (oaI_b (hS_of hOM)) (szs_b (hS_of hOM))
      refine x_V0 F (m_X6_oddShare hOM) mlX6_205 mvX6_oddShare rfl dX6_digest_136 (by decide) rfl ⟨Nat.le_of_ble_eq_true rfl, Nat.le_of_ble_eq_true rfl⟩ ⟨Nat.zero_le _, Nat.zero_le _⟩ (Nat.le_of_ble_eq_true rfl) ?_
      refine x_S1 F (m_X6_bitsOfShare (v0 := v) hv) mlX6_209 msX6_bitsOfShare dX6_digest_139 ⟨Nat.le_of_ble_eq_true rfl, Nat.le_of_ble_eq_true rfl⟩ ⟨Nat.zero_le _, Nat.zero_le _⟩ (Nat.le_of_ble_eq_true rfl) ?_
      refine x_S2 F (m_X6_mix) mlX6_194 msX6_mix dX6_digest_142 ⟨Nat.le_of_ble_eq_true rfl, Nat.le_of_ble_eq_true rfl⟩ ⟨Nat.zero_le _, Nat.zero_le _⟩ (Nat.le_of_ble_eq_true rfl) ?_
      refine x_lstore_n F dX6_digest_145 (by decide) ?_
      refine x_aload_n F dX6_digest_146 rfl ?_
      refine x_lload_n F dX6_digest_147 rfl ?_
      refine x_V1 F (m_X6_mixText hBM) mlX6_213 mvX6_mixText rfl dX6_digest_148 (by decide) rfl ⟨Nat.le_of_ble_eq_true rfl, Nat.le_of_ble_eq_true rfl⟩ ⟨Nat.zero_le _, Nat.zero_le _⟩ (Nat.le_of_ble_eq_true rfl) ?_
      refine x_lret F FR dX6_digest_151 (Nat.le_refl _) (Nat.le_refl _) ?_
      have e : n = 6 := by omega
      subst e
      refine ⟨?_, hX⟩
      have hv2 : (bsI (shD (oaI M0 1) (sumI (szI M0 1) 4))).getD 0 = v := by rw [← oaI_e hE, show szI M0 1 = szI M 1 from (funext fun r => szI_e hE r).symm, hv]; rfl
      have h3 : tlI M = tlI M0 := tlI_q hX
      unfold dgI
      rw [hv2, h3, show (fun z : Nat => jL (cdI M (z : Int))) = (fun z : Nat => jL (cdI M0 (z : Int))) from funext fun z => by rw [cdI_q hX]]
    · refine x_lload_n F dX6_digest_117 rfl ?_
      refine x_aload_n F dX6_digest_118 rfl ?_
      refine x_iload_n F dX6_digest_119 rfl ?_
      refine x_V1P F (m_X6_oddWithReach hOM (by omega)) mlX6_189 mvX6_oddWithReach rfl dX6_digest_120 (by decide) rfl ⟨Nat.le_of_ble_eq_true rfl, Nat.le_of_ble_eq_true rfl⟩ ⟨Nat.zero_le _, Nat.zero_le _⟩ (Nat.le_of_ble_eq_true rfl) (fun r_120 M_120 q_120 => ?_)
      obtain ⟨rfl, q_120⟩ := q_120
      rw [orI_e hE]
      refine x_i2l F dX6_digest_123 ?_
      refine x_S2 F (m_X6_mix) mlX6_194 msX6_mix dX6_digest_124 ⟨Nat.le_of_ble_eq_true rfl, Nat.le_of_ble_eq_true rfl⟩ ⟨Nat.zero_le _, Nat.zero_le _⟩ (Nat.le_of_ble_eq_true rfl) ?_
      refine x_lstore_n F dX6_digest_127 (by decide) ?_
      refine xj_iinc F dX6_digest_128 rfl ?_
      refine x_goto (tgt := 111) F dX6_digest_131 (by decide) ?_
      have g := ih (n + 1) _ (by omega) (qX_trans hX q_120) (by omega)
      rw [show (1 : Int) + ((n + 1 : Nat) : Int) = 1 + (n : Int) + 1 by omega] at g
      rw [show (1 : Int) + (n : Int) = (n : Int) + 1 by omega] at g ⊢
      exact g
set_option maxRecDepth 20000 in
theorem L_X6_digest_39 {l : Launch} {E : xE} {M0 : xM} (hO : okC M0 1) (hT : okT M0) (hB : okB M0) {p : Nat} (hp : p < 4) {Y : xY} (F : xFix E (xA E) Y cX6_digest yX6_digest.cls 5) (FR : xRet E Y (some FieldType.long) 0 0 (fun r' M' => r' = vL (dgI M0) ∧ qX M0 M') (fun _ _ => False)) : ∀ (k : Nat) (n : Nat) (M : xM), n ≤ 7 → qX M0 M → (∀ (w : xV) (M9 : xM), qX M0 M9 → WP l E (xRm 18 0 0) (xA E) Y 0 0 65 [vA 0, vL (mxT (fun z => jL (owI M0 1 (p : Int) (z : Nat))) 7 (dgR M0 p (mxT (fun z => jL (ohI M0 (z : Nat))) 9 3637))), vU, vI (jI (p : Int)), w] [] M9) → 7 - n < k → WP l E (xRm 18 0 0) (xA E) Y 0 0 39 [vA 0, vL (mxT (fun z => jL (owI M0 1 (p : Int) (z : Nat))) n (dgR M0 p (mxT (fun z => jL (ohI M0 (z : Nat))) 9 3637))), vU, vI (jI (p : Int)), vI (jI (n : Int))] [] M := by
  intro k
  induction k with
  | zero => intro n M hn hX hex hk; exact absurd hk (Nat.not_lt_zero _)
  | succ k ih =>
    intro n M hn hX hex hk
    have hE := qX_e hX
    have hOM : okC M 1 := okC_e hE hO
    have hTM := hX.2.1 hT
    have hBM := okB_q hX hB
    have hS := hS_of hO
    have hC : isCh 1 := ch1
    refine x_iload F dX6_digest_39 rfl ?_
    refine xj_bipush F dX6_digest_41 (by decide) ?_
    refine xj_icmp_gt (tgt := 65) F dX6_digest_43 (by decide) (by omega) (fun h_1 => ?_) (fun h_1 => ?_)
    · have e : n = 7 := by omega
      subst e
      exact hex _ _ hX
    · refine x_lload_n F dX6_digest_46 rfl ?_
      refine x_aload_n F dX6_digest_47 rfl ?_
      refine x_iload_n F dX6_digest_48 rfl ?_
      refine x_iload F dX6_digest_49 rfl ?_
      refine x_V2P F (m_X6_ofRow hOM (by omega) (by omega)) mlX6_171 mvX6_ofRow rfl dX6_digest_51 (by decide) rfl ⟨Nat.le_of_ble_eq_true rfl, Nat.le_of_ble_eq_true rfl⟩ ⟨Nat.zero_le _, Nat.zero_le _⟩ (Nat.le_of_ble_eq_true rfl) (fun r_51 M_51 q_51 => ?_)
      obtain ⟨rfl, q_51⟩ := q_51
      rw [owI_e hE]
      refine x_i2l F dX6_digest_54 ?_
      refine x_S2 F (m_X6_mix) mlX6_194 msX6_mix dX6_digest_55 ⟨Nat.le_of_ble_eq_true rfl, Nat.le_of_ble_eq_true rfl⟩ ⟨Nat.zero_le _, Nat.zero_le _⟩ (Nat.le_of_ble_eq_true rfl) ?_
      refine x_lstore_n F dX6_digest_58 (by decide) ?_
      refine xj_iinc F dX6_digest_59 rfl ?_
      refine x_goto (tgt := 39) F dX6_digest_62 (by decide) ?_
      exact ih (n + 1) _ (by omega) (qX_trans hX (qX_same q_51)) hex (by omega)
set_option maxRecDepth 20000 in
theorem L_X6_digest_31 {l : Launch} {E : xE} {M0 : xM} (hO : okC M0 1) (hT : okT M0) (hB : okB M0) {Y : xY} (F : xFix E (xA E) Y cX6_digest yX6_digest.cls 5) (FR : xRet E Y (some FieldType.long) 0 0 (fun r' M' => r' = vL (dgI M0) ∧ qX M0 M') (fun _ _ => False)) : ∀ (k : Nat) (p : Nat) (M : xM) (w : xV), p ≤ 4 → qX M0 M → 4 - p < k → WP l E (xRm 18 0 0) (xA E) Y 0 0 31 [vA 0, vL (dgR M0 p (mxT (fun z => jL (ohI M0 (z : Nat))) 9 3637)), vU, vI (jI (p : Int)), w] [] M := by
  intro k
  induction k with
  | zero => intro p M w hn hX hk; exact absurd hk (Nat.not_lt_zero _)
  | succ k ih =>
    intro p M w hn hX hk
    have hE := qX_e hX
    have hOM : okC M 1 := okC_e hE hO
    have hTM := hX.2.1 hT
    have hBM := okB_q hX hB
    have hS := hS_of hO
    have hC : isCh 1 := ch1
    refine x_iload_n F dX6_digest_31 rfl ?_
    refine xj_iconst F dX6_digest_32 ?_
    refine xj_icmp_ge (tgt := 96) F dX6_digest_33 (by decide) (by omega) (fun h_1 => ?_) (fun h_1 => ?_)
    · refine x_lload_n F dX6_digest_96 rfl ?_
      refine x_aload_n F dX6_digest_97 rfl ?_
      refine xj_sipush F dX6_digest_98 (by decide) ?_
      refine x_V1P F (m_X6_bestRowFor hOM (by omega)) mlX6_186 mvX6_bestRowFor rfl dX6_digest_101 (by decide) rfl ⟨Nat.le_of_ble_eq_true rfl, Nat.le_of_ble_eq_true rfl⟩ ⟨Nat.zero_le _, Nat.zero_le _⟩ (Nat.le_of_ble_eq_true rfl) (fun r_101 M_101 q_101 => ?_)
      obtain ⟨rfl, q_101⟩ := q_101
      rw [brF_e hE]
      refine x_i2l F dX6_digest_104 ?_
      refine x_S2 F (m_X6_mix) mlX6_194 msX6_mix dX6_digest_105 ⟨Nat.le_of_ble_eq_true rfl, Nat.le_of_ble_eq_true rfl⟩ ⟨Nat.zero_le _, Nat.zero_le _⟩ (Nat.le_of_ble_eq_true rfl) ?_
      refine x_lstore_n F dX6_digest_108 (by decide) ?_
      refine xj_iconst F dX6_digest_109 ?_
      refine x_istore_n F dX6_digest_110 (by decide) ?_
      have e : p = 4 := by omega
      subst e
      exact L_X6_digest_111 hO hT hB F FR _ 0 _ (by omega) (qX_trans hX q_101) (Nat.lt_succ_self _)
    · refine xj_iconst F dX6_digest_36 ?_
      refine x_istore F dX6_digest_37 (by decide) ?_
      refine L_X6_digest_39 hO hT hB (p := p) (by omega) F FR _ 0 M (by omega) hX (fun w9 M9 hX9 => ?_) (Nat.lt_succ_self _)
      have hE9 := qX_e hX9
      have hO9 := okC_e hE9 hO
      have hT9 := hX9.2.1 hT
      refine x_aload_n F dX6_digest_65 rfl ?_
      refine x_lload_n F dX6_digest_66 rfl ?_
      refine x_iload_n F dX6_digest_67 rfl ?_
      refine x_V2P F (m_X6_mixSingers hO9 hT9 (by omega)) mlX6_198 mvX6_mixSingers rfl dX6_digest_68 (by decide) rfl ⟨Nat.le_of_ble_eq_true rfl, Nat.le_of_ble_eq_true rfl⟩ ⟨Nat.zero_le _, Nat.zero_le _⟩ (Nat.le_of_ble_eq_true rfl) (fun r_68 M_68 q_68 => ?_)
      obtain ⟨rfl, q5⟩ := q_68
      have hX5 := qX_trans hX9 (qX_same q5)
      have hE5 := qX_e hX5
      have hO5 := okC_e hE5 hO
      rw [msN_e hE9, show szI M9 1 (p : Int) = szI M0 1 p from szI_e hE9 _]
      refine x_lstore_n F dX6_digest_71 (by decide) ?_
      refine x_lload_n F dX6_digest_72 rfl ?_
      refine x_aload_n F dX6_digest_73 rfl ?_
      refine x_iload_n F dX6_digest_74 rfl ?_
      refine x_V1P F (m_X6_bestPair hO5 (by omega)) mlX6_183 mvX6_bestPair rfl dX6_digest_75 (by decide) rfl ⟨Nat.le_of_ble_eq_true rfl, Nat.le_of_ble_eq_true rfl⟩ ⟨Nat.zero_le _, Nat.zero_le _⟩ (Nat.le_of_ble_eq_true rfl) (fun r_75 M_75 q_75 => ?_)
      obtain ⟨rfl, rfl⟩ := q_75
      rw [bpI_e hE5]
      refine x_i2l F dX6_digest_78 ?_
      refine x_S2 F (m_X6_mix) mlX6_194 msX6_mix dX6_digest_79 ⟨Nat.le_of_ble_eq_true rfl, Nat.le_of_ble_eq_true rfl⟩ ⟨Nat.zero_le _, Nat.zero_le _⟩ (Nat.le_of_ble_eq_true rfl) ?_
      have hX6 := qX_trans hX5 (bc_qX M_68)
      have hE6 := qX_e hX6
      have hO6 := okC_e hE6 hO
      refine x_lstore_n F dX6_digest_82 (by decide) ?_
      refine x_aload_n F dX6_digest_83 rfl ?_
      refine x_lload_n F dX6_digest_84 rfl ?_
      refine x_iload_n F dX6_digest_85 rfl ?_
      refine x_V2 F (m_X6_mixWritten hO6 (by omega)) mlX6_202 mvX6_mixWritten rfl dX6_digest_86 (by decide) rfl ⟨Nat.le_of_ble_eq_true rfl, Nat.le_of_ble_eq_true rfl⟩ ⟨Nat.zero_le _, Nat.zero_le _⟩ (Nat.le_of_ble_eq_true rfl) ?_
      rw [mwT_e hE6]
      refine x_lstore_n F dX6_digest_89 (by decide) ?_
      refine xj_iinc F dX6_digest_90 rfl ?_
      refine x_goto (tgt := 31) F dX6_digest_93 (by decide) ?_
      exact ih (p + 1) _ _ (by omega) hX6 (by omega)
set_option maxRecDepth 20000 in
theorem L_X6_digest_6 {l : Launch} {E : xE} {M0 : xM} (hO : okC M0 1) (hT : okT M0) (hB : okB M0) {Y : xY} (F : xFix E (xA E) Y cX6_digest yX6_digest.cls 5) (FR : xRet E Y (some FieldType.long) 0 0 (fun r' M' => r' = vL (dgI M0) ∧ qX M0 M') (fun _ _ => False)) : ∀ (k : Nat) (n : Nat), n ≤ 9 → 9 - n < k → WP l E (xRm 18 0 0) (xA E) Y 0 0 6 [vA 0, vL (mxT (fun z => jL (ohI M0 (z : Nat))) n 3637), vU, vI (jI (n : Int)), vU] [] M0 := by
  intro k
  induction k with
  | zero => intro n hn hk; exact absurd hk (Nat.not_lt_zero _)
  | succ k ih =>
    intro n hn hk
    have hC : isCh 1 := ch1
    refine x_iload_n F dX6_digest_6 rfl ?_
    refine xj_bipush F dX6_digest_7 (by decide) ?_
    refine xj_icmp_gt (tgt := 29) F dX6_digest_9 (by decide) (by omega) (fun h_1 => ?_) (fun h_1 => ?_)
    · refine xj_iconst F dX6_digest_29 ?_
      refine x_istore_n F dX6_digest_30 (by decide) ?_
      have e : n = 9 := by omega
      subst e
      exact L_X6_digest_31 hO hT hB F FR _ 0 M0 vU (by omega) (qX_rfl _) (Nat.lt_succ_self _)
    · refine x_lload_n F dX6_digest_12 rfl ?_
      refine x_aload_n F dX6_digest_13 rfl ?_
      refine x_iload_n F dX6_digest_14 rfl ?_
      refine x_V1 F (m_X6_ofAll hO (by omega)) mlX6_177 mvX6_ofAll rfl dX6_digest_15 (by decide) rfl ⟨Nat.le_of_ble_eq_true rfl, Nat.le_of_ble_eq_true rfl⟩ ⟨Nat.zero_le _, Nat.zero_le _⟩ (Nat.le_of_ble_eq_true rfl) ?_
      refine x_i2l F dX6_digest_18 ?_
      refine x_S2 F (m_X6_mix) mlX6_194 msX6_mix dX6_digest_19 ⟨Nat.le_of_ble_eq_true rfl, Nat.le_of_ble_eq_true rfl⟩ ⟨Nat.zero_le _, Nat.zero_le _⟩ (Nat.le_of_ble_eq_true rfl) ?_
      refine x_lstore_n F dX6_digest_22 (by decide) ?_
      refine xj_iinc F dX6_digest_23 rfl ?_
      refine x_goto (tgt := 6) F dX6_digest_26 (by decide) ?_
      exact ih (n + 1) (by omega) (by omega)
set_option maxRecDepth 20000 in
theorem m_X6_digest {l : Launch} {E : xE} {M0 : xM} (hO : okC M0 1) (hT : okT M0) (hB : okB M0) : XP l E 18 yX6_digest cX6_digest 5 (some FieldType.long) [vA 0] M0 (fun r' M' => r' = vL (dgI M0) ∧ qX M0 M') := by
  refine xp_start (plainFor_of_name (by decide)) rfl (Nat.le_of_ble_eq_true rfl) ?_
  intro Y F FR
  refine x_ldc2 F klX6_192 dX6_digest_0 ?_
  refine x_lstore_n F dX6_digest_3 (by decide) ?_
  refine xj_iconst F dX6_digest_4 ?_
  refine x_istore_n F dX6_digest_5 (by decide) ?_
  exact L_X6_digest_6 hO hT hB F FR _ 0 (by omega) (Nat.lt_succ_self _)
