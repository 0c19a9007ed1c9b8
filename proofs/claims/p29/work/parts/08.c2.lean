/-! THE CHOIR's counts -/
theorem sumI_step (f : Int → Int) {i : Int} (h : 0 ≤ i) : sumI f (i + 1).toNat = sumI f i.toNat + f i := by
  rw [show (i + 1).toNat = i.toNat + 1 by omega]
  simp only [sumI]
  rw [show ((i.toNat : Nat) : Int) = i by omega]
def mxI (f : Int → Int) : Nat → Int
  | 0 => -1
  | n + 1 => max (mxI f n) (f n)
theorem mxI_step (f : Int → Int) {i : Int} (h : 0 ≤ i) : mxI f (i + 1).toNat = max (mxI f i.toNat) (f i) := by
  rw [show (i + 1).toNat = i.toNat + 1 by omega]
  simp only [mxI]
  rw [show ((i.toNat : Nat) : Int) = i by omega]
theorem rg_mxI (f : Int → Int) (h : ∀ i, rg (f i)) : ∀ n, rg (mxI f n) := by
  intro n
  induction n with
  | zero => show rg (-1); omega
  | succ n ih => have := h n; show rg (max _ _); omega
def cntI (P : Int → Bool) (lo : Int) : Nat → Int
  | 0 => 0
  | n + 1 => cntI P lo n + (if P (lo + n) = true then 1 else 0)
theorem cntI_step (P : Int → Bool) {lo p : Int} (h : lo ≤ p) : cntI P lo (p + 1 - lo).toNat = cntI P lo (p - lo).toNat + (if P p = true then 1 else 0) := by
  rw [show (p + 1 - lo).toNat = (p - lo).toNat + 1 by omega]
  simp only [cntI]
  rw [show lo + (((p - lo).toNat : Nat) : Int) = p by omega]
theorem cntI_b (P : Int → Bool) (lo : Int) : ∀ n : Nat, 0 ≤ cntI P lo n ∧ cntI P lo n ≤ n := by
  intro n
  induction n with
  | zero => simp [cntI]
  | succ n ih => simp only [cntI]; split <;> omega
def rbI (M : xM) (c : Nat) (r : Int) : Int := if (M.1 c 5).toInt = 1 then r + 1 else -1
def rfI (M : xM) (c : Nat) (r : Int) : Int := if (M.1 c 5).toInt = 1 then r - 1 else -1
def sbI (M : xM) (c : Nat) (r f t : Int) : Int := max 0 (min t (szI M c r - 1) - max f 0 + 1)
def hbP (M : xM) (c : Nat) (r h : Int) : Int → Bool := fun p => decide (h < rdI (M.1 (c + 3)) 24 (6 * r + p))
def hbI (M : xM) (c : Nat) (r f t h : Int) : Int := cntI (hbP M c r h) (max f 0) (min t (szI M c r - 1) + 1 - max f 0).toNat
theorem hbI_b {M : xM} {c : Nat} (hS : ∀ r : Int, 0 ≤ szI M c r ∧ szI M c r ≤ 6) (r f t h : Int) : 0 ≤ hbI M c r f t h ∧ hbI M c r f t h ≤ 6 := by
  have h1 := cntI_b (hbP M c r h) (max f 0) (min t (szI M c r - 1) + 1 - max f 0).toNat
  have h2 := hS r
  unfold hbI
  omega
theorem sbI_b {M : xM} {c : Nat} (hS : ∀ r : Int, 0 ≤ szI M c r ∧ szI M c r ≤ 6) (r f t : Int) : 0 ≤ sbI M c r f t ∧ sbI M c r f t ≤ 6 := by
  have h2 := hS r
  unfold sbI
  omega
def hhI (M : xM) (c : Nat) (r p : Int) : Int := hbI M c r (p - (M.1 c 4).toInt) (p - 1) (heI M c r p) + hbI M c (rbI M c r) (p - (M.1 c 4).toInt) p (heI M c r p)
theorem hhI_b {M : xM} {c : Nat} (hS : ∀ r : Int, 0 ≤ szI M c r ∧ szI M c r ≤ 6) (r p : Int) : 0 ≤ hhI M c r p ∧ hhI M c r p ≤ 12 := by
  have h1 := hbI_b hS r (p - (M.1 c 4).toInt) (p - 1) (heI M c r p)
  have h2 := hbI_b hS (rbI M c r) (p - (M.1 c 4).toInt) p (heI M c r p)
  unfold hhI
  omega
def odI (M : xM) (c : Nat) (r : Int) : Int := sumI (fun p => hhI M c r p % 2) (szI M c r).toNat
theorem odI_b {M : xM} {c : Nat} (hS : ∀ r : Int, 0 ≤ szI M c r ∧ szI M c r ≤ 6) (r : Int) : 0 ≤ odI M c r ∧ odI M c r ≤ 6 := by
  have h1 := sumI_b (f := fun p => hhI M c r p % 2) (b := 1) (szI M c r).toNat (fun i _ _ => by have := hhI_b hS r i; show 0 ≤ hhI M c r i % 2 ∧ hhI M c r i % 2 ≤ 1; omega)
  have h2 := hS r
  unfold odI
  omega
def oaI (M : xM) (c : Nat) : Int := sumI (odI M c) 4
theorem oaI_b {M : xM} {c : Nat} (hS : ∀ r : Int, 0 ≤ szI M c r ∧ szI M c r ≤ 6) : 0 ≤ oaI M c ∧ oaI M c ≤ 24 := by
  have h1 := sumI_b (f := odI M c) (b := 6) 4 (fun i _ _ => odI_b hS i)
  unfold oaI
  omega
def dcI (M : xM) (c : Nat) (r : Int) : Int := sumI (fun p => hbI M c r 0 (p - 1) (heI M c r p)) (szI M c r).toNat
theorem dcI_b {M : xM} {c : Nat} (hS : ∀ r : Int, 0 ≤ szI M c r ∧ szI M c r ≤ 6) (r : Int) : 0 ≤ dcI M c r ∧ dcI M c r ≤ 36 := by
  have h1 := sumI_b (f := fun p => hbI M c r 0 (p - 1) (heI M c r p)) (b := 6) (szI M c r).toNat (fun i _ _ => hbI_b hS r 0 (i - 1) _)
  have h2 := hS r
  unfold dcI
  omega
def daI (M : xM) (c : Nat) : Int := sumI (dcI M c) 4
theorem daI_b {M : xM} {c : Nat} (hS : ∀ r : Int, 0 ≤ szI M c r ∧ szI M c r ≤ 6) : 0 ≤ daI M c ∧ daI M c ≤ 144 := by
  have h1 := sumI_b (f := dcI M c) (b := 36) 4 (fun i _ _ => dcI_b hS i)
  unfold daI
  omega
def hiI (M : xM) (c : Nat) (r : Int) : Int := mxI (heI M c r) (szI M c r).toNat
theorem rg_hiI (M : xM) (c : Nat) (r : Int) : rg (hiI M c r) := rg_mxI _ (rg_heI M c r) _
def fnP (P : Int → Bool) (i : Int) : Nat → Int
  | 0 => -1
  | n + 1 => if P i = true then i else fnP P (i + 1) n
theorem fnP_b (P : Int → Bool) : ∀ (n : Nat) (i : Int), 0 ≤ i → fnP P i n = -1 ∨ (i ≤ fnP P i n ∧ fnP P i n < i + n) := by
  intro n
  induction n with
  | zero => intro i _; exact Or.inl rfl
  | succ n ih =>
    intro i h
    simp only [fnP]
    split
    · right; omega
    · rcases ih (i + 1) (by omega) with e | e
      · exact Or.inl e
      · right; omega
def nuP (M : xM) (c : Nat) (x r : Int) : Int → Bool := fun p => decide (rdI (M.1 (c + 2)) 24 (spI r p) = x)
def fnR (M : xM) (c : Nat) (x : Int) (r : Int) : Nat → Int
  | 0 => -1
  | n + 1 => if fnP (nuP M c x r) 0 (szI M c r).toNat = -1 then fnR M c x (r + 1) n else 6 * r + fnP (nuP M c x r) 0 (szI M c r).toNat
set_option maxRecDepth 20000 in
theorem m_X1_settingAt {l : Launch} {E : xE} {c : Nat} {z : Int} {M : xM} (hC : isCh c) (hz : rg z) : XF l E 1 yX1_settingAt cX1_settingAt 2 (some FieldType.int) [vA c, vI (jI z)] M (vI (jI (if z = 0 then (M.1 c 4).toInt else (M.1 c 5).toInt))) (M) := by
  refine xp_start (plainFor_of_name (by decide)) rfl (Nat.le_of_ble_eq_true rfl) ?_
  intro Y F FR
  refine x_iload_n F dX1_settingAt_0 rfl ?_
  refine xj_if_ne (tgt := 11) F dX1_settingAt_1 (by decide) (by omega) (fun h_1 => ?_) (fun h_1 => ?_)
  · refine x_aload_n F dX1_settingAt_11 rfl ?_
    refine xj_geti F flX1_28 hC.1 dX1_settingAt_12 (by decide) (by decide) rfl (fun hg_2 => ?_)
    refine x_iret F FR dX1_settingAt_15 rfl (Nat.le_refl _) (Nat.le_refl _) ?_
    first
      | exact ⟨vj (by rw [if_pos (by omega)]), rfl⟩
      | exact ⟨vj (by rw [if_neg (by omega)]), rfl⟩
  · refine x_aload_n F dX1_settingAt_4 rfl ?_
    refine xj_geti F flX1_24 hC.1 dX1_settingAt_5 (by decide) (by decide) rfl (fun hg_3 => ?_)
    refine x_goto (tgt := 15) F dX1_settingAt_8 (by decide) ?_
    refine x_iret F FR dX1_settingAt_15 rfl (Nat.le_refl _) (Nat.le_refl _) ?_
    first
      | exact ⟨vj (by rw [if_pos (by omega)]), rfl⟩
      | exact ⟨vj (by rw [if_neg (by omega)]), rfl⟩
set_option maxRecDepth 20000 in
theorem m_X1_rowBehind {l : Launch} {E : xE} {c : Nat} {r : Int} {M : xM} (hC : isCh c) (hr : -1000 ≤ r ∧ r ≤ 1000) : XF l E 1 yX1_rowBehind cX1_rowBehind 2 (some FieldType.int) [vA c, vI (jI r)] M (vI (jI (rbI M c r))) (M) := by
  refine xp_start (plainFor_of_name (by decide)) rfl (Nat.le_of_ble_eq_true rfl) ?_
  intro Y F FR
  refine x_aload_n F dX1_rowBehind_0 rfl ?_
  refine xj_geti F flX1_28 hC.1 dX1_rowBehind_1 (by decide) (by decide) rfl (fun hg_1 => ?_)
  refine xj_iconst F dX1_rowBehind_4 ?_
  refine xj_icmp_ne (tgt := 14) F dX1_rowBehind_5 (by decide) (by omega) (fun h_2 => ?_) (fun h_2 => ?_)
  · refine xj_iconst F dX1_rowBehind_14 ?_
    refine x_iret F FR dX1_rowBehind_15 rfl (Nat.le_refl _) (Nat.le_refl _) ?_
    exact ⟨vj (by first | rfl | (simp only [rbI]; done) | (simp only [rbI]; omega) | (simp only [rbI]; split <;> first | omega | (split <;> omega))), rfl⟩
  · refine x_iload_n F dX1_rowBehind_8 rfl ?_
    refine xj_iconst F dX1_rowBehind_9 ?_
    refine xj_iadd F dX1_rowBehind_10 ?_
    refine x_goto (tgt := 15) F dX1_rowBehind_11 (by decide) ?_
    refine x_iret F FR dX1_rowBehind_15 rfl (Nat.le_refl _) (Nat.le_refl _) ?_
    exact ⟨vj (by first | rfl | (simp only [rbI]; done) | (simp only [rbI]; omega) | (simp only [rbI]; split <;> first | omega | (split <;> omega))), rfl⟩
set_option maxRecDepth 20000 in
theorem m_X1_rowBefore {l : Launch} {E : xE} {c : Nat} {r : Int} {M : xM} (hC : isCh c) (hr : -999 ≤ r ∧ r ≤ 1000) : XF l E 1 yX1_rowBefore cX1_rowBefore 2 (some FieldType.int) [vA c, vI (jI r)] M (vI (jI (rfI M c r))) (M) := by
  refine xp_start (plainFor_of_name (by decide)) rfl (Nat.le_of_ble_eq_true rfl) ?_
  intro Y F FR
  refine x_aload_n F dX1_rowBefore_0 rfl ?_
  refine xj_geti F flX1_28 hC.1 dX1_rowBefore_1 (by decide) (by decide) rfl (fun hg_1 => ?_)
  refine xj_iconst F dX1_rowBefore_4 ?_
  refine xj_icmp_ne (tgt := 14) F dX1_rowBefore_5 (by decide) (by omega) (fun h_2 => ?_) (fun h_2 => ?_)
  · refine xj_iconst F dX1_rowBefore_14 ?_
    refine x_iret F FR dX1_rowBefore_15 rfl (Nat.le_refl _) (Nat.le_refl _) ?_
    exact ⟨vj (by first | rfl | (simp only [rfI]; done) | (simp only [rfI]; omega) | (simp only [rfI]; split <;> first | omega | (split <;> omega))), rfl⟩
  · refine x_iload_n F dX1_rowBefore_8 rfl ?_
    refine xj_iconst F dX1_rowBefore_9 ?_
    refine xj_isub F dX1_rowBefore_10 ?_
    refine x_goto (tgt := 15) F dX1_rowBefore_11 (by decide) ?_
    refine x_iret F FR dX1_rowBefore_15 rfl (Nat.le_refl _) (Nat.le_refl _) ?_
    exact ⟨vj (by first | rfl | (simp only [rfI]; done) | (simp only [rfI]; omega) | (simp only [rfI]; split <;> first | omega | (split <;> omega))), rfl⟩
set_option maxRecDepth 20000 in
theorem m_X1_singersBetween {l : Launch} {E : xE} {c : Nat} {r f t : Int} {M : xM} (hC : isCh c) (hS : ∀ r : Int, 0 ≤ szI M c r ∧ szI M c r ≤ 6) (hr : rg r) (hf : -1000 ≤ f ∧ f ≤ 1000) (ht : -1000 ≤ t ∧ t ≤ 1000) : XF l E 2 yX1_singersBetween cX1_singersBetween 4 (some FieldType.int) [vA c, vI (jI r), vI (jI f), vI (jI t)] M (vI (jI (sbI M c r f t))) (M) := by
  refine xp_start (plainFor_of_name (by decide)) rfl (Nat.le_of_ble_eq_true rfl) ?_
  intro Y F FR
  refine xj_iconst F dX1_singersBetween_0 ?_
  refine x_iload_n F dX1_singersBetween_1 rfl ?_
  refine x_aload_n F dX1_singersBetween_2 rfl ?_
  refine x_iload_n F dX1_singersBetween_3 rfl ?_
  refine x_V1 F (m_X1_sizeOf (by first | assumption | omega | decide) (by first | assumption | omega | decide)) mlX1_56 mvX1_sizeOf hC.1 dX1_singersBetween_4 (by decide) rfl ⟨Nat.le_of_ble_eq_true rfl, Nat.le_of_ble_eq_true rfl⟩ ⟨Nat.zero_le _, Nat.zero_le _⟩ (Nat.le_of_ble_eq_true rfl) ?_
  have hf_1 := rg_szI M c r
  have hf_2 := hS r
  refine xj_iconst F dX1_singersBetween_7 ?_
  refine xj_isub F dX1_singersBetween_8 ?_
  refine x_S2 F (m_J9_min_7cf53 (by first | assumption | omega | decide) (by first | assumption | omega | decide)) mlX1_44 msJ9_min_7cf53 dX1_singersBetween_9 ⟨Nat.le_of_ble_eq_true rfl, Nat.le_of_ble_eq_true rfl⟩ ⟨Nat.zero_le _, Nat.zero_le _⟩ (Nat.le_of_ble_eq_true rfl) ?_
  refine x_iload_n F dX1_singersBetween_12 rfl ?_
  refine xj_iconst F dX1_singersBetween_13 ?_
  refine x_S2 F (m_J9_max_7cf53 (by first | assumption | omega | decide) (by first | assumption | omega | decide)) mlX1_98 msJ9_max_7cf53 dX1_singersBetween_14 ⟨Nat.le_of_ble_eq_true rfl, Nat.le_of_ble_eq_true rfl⟩ ⟨Nat.zero_le _, Nat.zero_le _⟩ (Nat.le_of_ble_eq_true rfl) ?_
  refine xj_isub F dX1_singersBetween_17 ?_
  refine xj_iconst F dX1_singersBetween_18 ?_
  refine xj_iadd F dX1_singersBetween_19 ?_
  refine x_S2 F (m_J9_max_7cf53 (by first | assumption | omega | decide) (by first | assumption | omega | decide)) mlX1_98 msJ9_max_7cf53 dX1_singersBetween_20 ⟨Nat.le_of_ble_eq_true rfl, Nat.le_of_ble_eq_true rfl⟩ ⟨Nat.zero_le _, Nat.zero_le _⟩ (Nat.le_of_ble_eq_true rfl) ?_
  refine x_iret F FR dX1_singersBetween_23 rfl (Nat.le_refl _) (Nat.le_refl _) ?_
  exact ⟨vj (by first | rfl | (simp only [sbI]; done) | (simp only [sbI]; omega) | (simp only [sbI]; split <;> first | omega | (split <;> omega))), rfl⟩
set_option maxRecDepth 20000 in
theorem m_X1_heardBy {l : Launch} {E : xE} {c : Nat} {r p : Int} {M : xM} (hC : isCh c) (hO : okC M c) (hr : 0 ≤ r ∧ r < 4) (hp : 0 ≤ p ∧ p < 6) : XF l E 3 yX1_heardBy cX1_heardBy 3 (some FieldType.int) [vA c, vI (jI r), vI (jI p)] M (vI (jI (sbI M c r (p - (M.1 c 4).toInt) (p - 1) + sbI M c (rbI M c r) (p - (M.1 c 4).toInt) p))) (M) := by
  refine xp_start (plainFor_of_name (by decide)) rfl (Nat.le_of_ble_eq_true rfl) ?_
  intro Y F FR
  have hS := hO.1
  have hre := hO.2.1
  refine x_aload_n F dX1_heardBy_0 rfl ?_
  refine x_iload_n F dX1_heardBy_1 rfl ?_
  refine x_iload_n F dX1_heardBy_2 rfl ?_
  refine x_aload_n F dX1_heardBy_3 rfl ?_
  refine xj_geti F flX1_24 hC.1 dX1_heardBy_4 (by decide) (by decide) rfl (fun hg_1 => ?_)
  refine xj_isub F dX1_heardBy_7 ?_
  refine x_iload_n F dX1_heardBy_8 rfl ?_
  refine xj_iconst F dX1_heardBy_9 ?_
  refine xj_isub F dX1_heardBy_10 ?_
  refine x_V3 F (m_X1_singersBetween (by first | assumption | omega | decide) (by first | assumption | omega | decide) (by first | assumption | omega | decide) (by first | assumption | omega | decide) (by first | assumption | omega | decide)) mlX1_108 mvX1_singersBetween hC.1 dX1_heardBy_11 (by decide) rfl ⟨Nat.le_of_ble_eq_true rfl, Nat.le_of_ble_eq_true rfl⟩ ⟨Nat.zero_le _, Nat.zero_le _⟩ (Nat.le_of_ble_eq_true rfl) ?_
  have hf_2 := sbI_b hS r (p - (M.1 c 4).toInt) (p - 1)
  refine x_aload_n F dX1_heardBy_14 rfl ?_
  refine x_aload_n F dX1_heardBy_15 rfl ?_
  refine x_iload_n F dX1_heardBy_16 rfl ?_
  refine x_V1 F (m_X1_rowBehind (by first | assumption | omega | decide) (by first | assumption | omega | decide)) mlX1_111 mvX1_rowBehind hC.1 dX1_heardBy_17 (by decide) rfl ⟨Nat.le_of_ble_eq_true rfl, Nat.le_of_ble_eq_true rfl⟩ ⟨Nat.zero_le _, Nat.zero_le _⟩ (Nat.le_of_ble_eq_true rfl) ?_
  have hf_3 := (show -1000 ≤ rbI M c r ∧ rbI M c r ≤ 1001 by unfold rbI; omega)
  refine x_iload_n F dX1_heardBy_20 rfl ?_
  refine x_aload_n F dX1_heardBy_21 rfl ?_
  refine xj_geti F flX1_24 hC.1 dX1_heardBy_22 (by decide) (by decide) rfl (fun hg_4 => ?_)
  refine xj_isub F dX1_heardBy_25 ?_
  refine x_iload_n F dX1_heardBy_26 rfl ?_
  refine x_V3 F (m_X1_singersBetween (by first | assumption | omega | decide) (by first | assumption | omega | decide) (by first | assumption | omega | decide) (by first | assumption | omega | decide) (by first | assumption | omega | decide)) mlX1_108 mvX1_singersBetween hC.1 dX1_heardBy_27 (by decide) rfl ⟨Nat.le_of_ble_eq_true rfl, Nat.le_of_ble_eq_true rfl⟩ ⟨Nat.zero_le _, Nat.zero_le _⟩ (Nat.le_of_ble_eq_true rfl) ?_
  have hf_5 := sbI_b hS (rbI M c r) (p - (M.1 c 4).toInt) p
  refine xj_iadd F dX1_heardBy_30 ?_
  refine x_iret F FR dX1_heardBy_31 rfl (Nat.le_refl _) (Nat.le_refl _) ?_
  exact ⟨rfl, rfl⟩
set_option maxRecDepth 20000 in
theorem m_X1_hearersOf {l : Launch} {E : xE} {c : Nat} {r p : Int} {M : xM} (hC : isCh c) (hO : okC M c) (hr : 0 ≤ r ∧ r < 4) (hp : 0 ≤ p ∧ p < 6) : XF l E 3 yX1_hearersOf cX1_hearersOf 3 (some FieldType.int) [vA c, vI (jI r), vI (jI p)] M (vI (jI (sbI M c r (p + 1) (p + (M.1 c 4).toInt) + sbI M c (rfI M c r) p (p + (M.1 c 4).toInt)))) (M) := by
  refine xp_start (plainFor_of_name (by decide)) rfl (Nat.le_of_ble_eq_true rfl) ?_
  intro Y F FR
  have hS := hO.1
  have hre := hO.2.1
  refine x_aload_n F dX1_hearersOf_0 rfl ?_
  refine x_iload_n F dX1_hearersOf_1 rfl ?_
  refine x_iload_n F dX1_hearersOf_2 rfl ?_
  refine xj_iconst F dX1_hearersOf_3 ?_
  refine xj_iadd F dX1_hearersOf_4 ?_
  refine x_iload_n F dX1_hearersOf_5 rfl ?_
  refine x_aload_n F dX1_hearersOf_6 rfl ?_
  refine xj_geti F flX1_24 hC.1 dX1_hearersOf_7 (by decide) (by decide) rfl (fun hg_1 => ?_)
  refine xj_iadd F dX1_hearersOf_10 ?_
  refine x_V3 F (m_X1_singersBetween (by first | assumption | omega | decide) (by first | assumption | omega | decide) (by first | assumption | omega | decide) (by first | assumption | omega | decide) (by first | assumption | omega | decide)) mlX1_108 mvX1_singersBetween hC.1 dX1_hearersOf_11 (by decide) rfl ⟨Nat.le_of_ble_eq_true rfl, Nat.le_of_ble_eq_true rfl⟩ ⟨Nat.zero_le _, Nat.zero_le _⟩ (Nat.le_of_ble_eq_true rfl) ?_
  have hf_2 := sbI_b hS r (p + 1) (p + (M.1 c 4).toInt)
  refine x_aload_n F dX1_hearersOf_14 rfl ?_
  refine x_aload_n F dX1_hearersOf_15 rfl ?_
  refine x_iload_n F dX1_hearersOf_16 rfl ?_
  refine x_V1 F (m_X1_rowBefore (by first | assumption | omega | decide) (by first | assumption | omega | decide)) mlX1_114 mvX1_rowBefore hC.1 dX1_hearersOf_17 (by decide) rfl ⟨Nat.le_of_ble_eq_true rfl, Nat.le_of_ble_eq_true rfl⟩ ⟨Nat.zero_le _, Nat.zero_le _⟩ (Nat.le_of_ble_eq_true rfl) ?_
  have hf_3 := (show -1000 ≤ rfI M c r ∧ rfI M c r ≤ 1001 by unfold rfI; omega)
  refine x_iload_n F dX1_hearersOf_20 rfl ?_
  refine x_iload_n F dX1_hearersOf_21 rfl ?_
  refine x_aload_n F dX1_hearersOf_22 rfl ?_
  refine xj_geti F flX1_24 hC.1 dX1_hearersOf_23 (by decide) (by decide) rfl (fun hg_4 => ?_)
  refine xj_iadd F dX1_hearersOf_26 ?_
  refine x_V3 F (m_X1_singersBetween (by first | assumption | omega | decide) (by first | assumption | omega | decide) (by first | assumption | omega | decide) (by first | assumption | omega | decide) (by first | assumption | omega | decide)) mlX1_108 mvX1_singersBetween hC.1 dX1_hearersOf_27 (by decide) rfl ⟨Nat.le_of_ble_eq_true rfl, Nat.le_of_ble_eq_true rfl⟩ ⟨Nat.zero_le _, Nat.zero_le _⟩ (Nat.le_of_ble_eq_true rfl) ?_
  have hf_5 := sbI_b hS (rfI M c r) p (p + (M.1 c 4).toInt)
  refine xj_iadd F dX1_hearersOf_30 ?_
  refine x_iret F FR dX1_hearersOf_31 rfl (Nat.le_refl _) (Nat.le_refl _) ?_
  exact ⟨rfl, rfl⟩
set_option maxRecDepth 20000 in
theorem L_X1_higherBetween {l : Launch} {E : xE} {c : Nat} {r f t h : Int} {M : xM} (hC : isCh c) (hS : ∀ r : Int, 0 ≤ szI M c r ∧ szI M c r ≤ 6) (hr : -1000 ≤ r ∧ r ≤ 1001) (hf : -1000 ≤ f ∧ f ≤ 1000) (ht : -1000 ≤ t ∧ t ≤ 1000) (hh : rg h) {Y : xY} (F : xFix E (xA E) Y cX1_higherBetween yX1_higherBetween.cls 8) (FR : xRet E Y (some FieldType.int) 0 0 (fun r' M'' => r' = vI (jI (hbI M c r f t h)) ∧ M'' = M) (fun _ _ => False)) : ∀ (k : Nat) (p a : Int), max f 0 ≤ p → a = cntI (hbP M c r h) (max f 0) (p - max f 0).toNat → p ≤ max (max f 0) (min t (szI M c r - 1) + 1) → (min t (szI M c r - 1) + 1 - p).toNat < k → WP l E (xRm 2 0 0) (xA E) Y 0 0 23 [vA c, vI (jI r), vI (jI f), vI (jI t), vI (jI h), vI (jI a), vI (jI (min t (szI M c r - 1))), vI (jI p)] [] M := by
  intro k
  induction k with
  | zero => intro p a hp ha hb hk; exact absurd hk (Nat.not_lt_zero _)
  | succ k ih =>
    intro p a hp ha hb hk
    have hs := hS r
    refine x_iload F dX1_higherBetween_23 rfl ?_
    refine x_iload F dX1_higherBetween_25 rfl ?_
    refine xj_icmp_gt (tgt := 58) F dX1_higherBetween_27 (by decide) (by omega) (fun h_1 => ?_) (fun h_1 => ?_)
    · refine x_iload F dX1_higherBetween_58 rfl ?_
      refine x_iret F FR dX1_higherBetween_60 rfl (Nat.le_refl _) (Nat.le_refl _) ?_
      exact ⟨vj (by rw [ha]; unfold hbI; congr 1; omega), rfl⟩
    · refine x_aload_n F dX1_higherBetween_30 rfl ?_
      refine x_getc (v := c + 3) F flX1_18 hC.1 dX1_higherBetween_31 (by decide) (by decide) rfl rfl ?_
      refine xj_bipush F dX1_higherBetween_34 (by decide) ?_
      refine x_iload_n F dX1_higherBetween_36 rfl ?_
      refine xj_imul F dX1_higherBetween_37 ?_
      refine x_iload F dX1_higherBetween_38 rfl ?_
      refine xj_iadd F dX1_higherBetween_40 ?_
      refine x_N2 F (m_X6_readCell hC.2.2.2.1 (by decide) (by omega)) mnX1_63 msX6_readCell dX1_higherBetween_41 ⟨Nat.le_of_ble_eq_true rfl, Nat.le_of_ble_eq_true rfl⟩ ⟨Nat.zero_le _, Nat.zero_le _⟩ (Nat.le_of_ble_eq_true rfl) ?_
      have hf_2 := (rg_rdI (M.1 (c + 3)) 24 ((6 * r) + p))
      refine x_iload F dX1_higherBetween_44 rfl ?_
      refine xj_icmp_le (tgt := 52) F dX1_higherBetween_46 (by decide) (by omega) (fun h_3 => ?_) (fun h_3 => ?_)
      · have hif : hbP M c r h p = false := decide_eq_false (by omega)
        refine xj_iinc F dX1_higherBetween_52 rfl ?_
        refine x_goto (tgt := 23) F dX1_higherBetween_55 (by decide) ?_
        exact ih (p + 1) _ (by omega) (by rw [cntI_step _ hp, hif, ha]; try simp) (by omega) (by omega)
      · have hif : hbP M c r h p = true := decide_eq_true (by omega)
        refine xj_iinc F dX1_higherBetween_49 rfl ?_
        refine xj_iinc F dX1_higherBetween_52 rfl ?_
        refine x_goto (tgt := 23) F dX1_higherBetween_55 (by decide) ?_
        exact ih (p + 1) _ (by omega) (by rw [cntI_step _ hp, hif, ha]; try simp) (by omega) (by omega)
set_option maxRecDepth 20000 in
theorem m_X1_higherBetween {l : Launch} {E : xE} {c : Nat} {r f t h : Int} {M : xM} (hC : isCh c) (hS : ∀ r : Int, 0 ≤ szI M c r ∧ szI M c r ≤ 6) (hr : -1000 ≤ r ∧ r ≤ 1001) (hf : -1000 ≤ f ∧ f ≤ 1000) (ht : -1000 ≤ t ∧ t ≤ 1000) (hh : rg h) : XF l E 2 yX1_higherBetween cX1_higherBetween 8 (some FieldType.int) [vA c, vI (jI r), vI (jI f), vI (jI t), vI (jI h)] M (vI (jI (hbI M c r f t h))) (M) := by
  refine xp_start (plainFor_of_name (by decide)) rfl (Nat.le_of_ble_eq_true rfl) ?_
  intro Y F FR
  refine xj_iconst F dX1_higherBetween_0 ?_
  refine x_istore F dX1_higherBetween_1 (by decide) ?_
  refine x_iload_n F dX1_higherBetween_3 rfl ?_
  refine x_aload_n F dX1_higherBetween_4 rfl ?_
  refine x_iload_n F dX1_higherBetween_5 rfl ?_
  refine x_V1 F (m_X1_sizeOf (by first | assumption | omega | decide) (by first | assumption | omega | decide)) mlX1_56 mvX1_sizeOf hC.1 dX1_higherBetween_6 (by decide) rfl ⟨Nat.le_of_ble_eq_true rfl, Nat.le_of_ble_eq_true rfl⟩ ⟨Nat.zero_le _, Nat.zero_le _⟩ (Nat.le_of_ble_eq_true rfl) ?_
  have hf_1 := rg_szI M c r
  have hf_2 := hS r
  refine xj_iconst F dX1_higherBetween_9 ?_
  refine xj_isub F dX1_higherBetween_10 ?_
  refine x_S2 F (m_J9_min_7cf53 (by first | assumption | omega | decide) (by first | assumption | omega | decide)) mlX1_44 msJ9_min_7cf53 dX1_higherBetween_11 ⟨Nat.le_of_ble_eq_true rfl, Nat.le_of_ble_eq_true rfl⟩ ⟨Nat.zero_le _, Nat.zero_le _⟩ (Nat.le_of_ble_eq_true rfl) ?_
  refine x_istore F dX1_higherBetween_14 (by decide) ?_
  refine x_iload_n F dX1_higherBetween_16 rfl ?_
  refine xj_iconst F dX1_higherBetween_17 ?_
  refine x_S2 F (m_J9_max_7cf53 (by first | assumption | omega | decide) (by first | assumption | omega | decide)) mlX1_98 msJ9_max_7cf53 dX1_higherBetween_18 ⟨Nat.le_of_ble_eq_true rfl, Nat.le_of_ble_eq_true rfl⟩ ⟨Nat.zero_le _, Nat.zero_le _⟩ (Nat.le_of_ble_eq_true rfl) ?_
  refine x_istore F dX1_higherBetween_21 (by decide) ?_
  exact L_X1_higherBetween hC hS hr hf ht hh F FR _ (max f 0) 0 (by omega) (by rw [show max f 0 - max f 0 = 0 by omega]; rfl) (by omega) (Nat.lt_succ_self _)
set_option maxRecDepth 20000 in
theorem m_X1_higherHeardBy {l : Launch} {E : xE} {c : Nat} {r p : Int} {M : xM} (hC : isCh c) (hO : okC M c) (hr : 0 ≤ r ∧ r < 4) (hp : 0 ≤ p ∧ p < 6) : XF l E 3 yX1_higherHeardBy cX1_higherHeardBy 4 (some FieldType.int) [vA c, vI (jI r), vI (jI p)] M (vI (jI (hhI M c r p))) (M) := by
  refine xp_start (plainFor_of_name (by decide)) rfl (Nat.le_of_ble_eq_true rfl) ?_
  intro Y F FR
  have hS := hO.1
  have hre := hO.2.1
  refine x_aload_n F dX1_higherHeardBy_0 rfl ?_
  refine x_iload_n F dX1_higherHeardBy_1 rfl ?_
  refine x_iload_n F dX1_higherHeardBy_2 rfl ?_
  refine x_V2 F (m_X1_heightAt (by first | assumption | omega | decide) (by first | assumption | omega | decide) (by first | assumption | omega | decide)) mlX1_92 mvX1_heightAt hC.1 dX1_higherHeardBy_3 (by decide) rfl ⟨Nat.le_of_ble_eq_true rfl, Nat.le_of_ble_eq_true rfl⟩ ⟨Nat.zero_le _, Nat.zero_le _⟩ (Nat.le_of_ble_eq_true rfl) ?_
  have hf_1 := rg_heI M c r p
  refine x_istore_n F dX1_higherHeardBy_6 (by decide) ?_
  refine x_aload_n F dX1_higherHeardBy_7 rfl ?_
  refine x_iload_n F dX1_higherHeardBy_8 rfl ?_
  refine x_iload_n F dX1_higherHeardBy_9 rfl ?_
  refine x_aload_n F dX1_higherHeardBy_10 rfl ?_
  refine xj_geti F flX1_24 hC.1 dX1_higherHeardBy_11 (by decide) (by decide) rfl (fun hg_2 => ?_)
  refine xj_isub F dX1_higherHeardBy_14 ?_
  refine x_iload_n F dX1_higherHeardBy_15 rfl ?_
  refine xj_iconst F dX1_higherHeardBy_16 ?_
  refine xj_isub F dX1_higherHeardBy_17 ?_
  refine x_iload_n F dX1_higherHeardBy_18 rfl ?_
  refine x_V4 F (m_X1_higherBetween (by first | assumption | omega | decide) (by first | assumption | omega | decide) (by first | assumption | omega | decide) (by first | assumption | omega | decide) (by first | assumption | omega | decide) (by first | assumption | omega | decide)) mlX1_101 mvX1_higherBetween hC.1 dX1_higherHeardBy_19 (by decide) rfl ⟨Nat.le_of_ble_eq_true rfl, Nat.le_of_ble_eq_true rfl⟩ ⟨Nat.zero_le _, Nat.zero_le _⟩ (Nat.le_of_ble_eq_true rfl) ?_
  have hf_3 := hbI_b hS r (p - (M.1 c 4).toInt) (p - 1) (heI M c r p)
  refine x_aload_n F dX1_higherHeardBy_22 rfl ?_
  refine x_aload_n F dX1_higherHeardBy_23 rfl ?_
  refine x_iload_n F dX1_higherHeardBy_24 rfl ?_
  refine x_V1 F (m_X1_rowBehind (by first | assumption | omega | decide) (by first | assumption | omega | decide)) mlX1_111 mvX1_rowBehind hC.1 dX1_higherHeardBy_25 (by decide) rfl ⟨Nat.le_of_ble_eq_true rfl, Nat.le_of_ble_eq_true rfl⟩ ⟨Nat.zero_le _, Nat.zero_le _⟩ (Nat.le_of_ble_eq_true rfl) ?_
  have hf_4 := (show -1000 ≤ rbI M c r ∧ rbI M c r ≤ 1001 by unfold rbI; omega)
  refine x_iload_n F dX1_higherHeardBy_28 rfl ?_
  refine x_aload_n F dX1_higherHeardBy_29 rfl ?_
  refine xj_geti F flX1_24 hC.1 dX1_higherHeardBy_30 (by decide) (by decide) rfl (fun hg_5 => ?_)
  refine xj_isub F dX1_higherHeardBy_33 ?_
  refine x_iload_n F dX1_higherHeardBy_34 rfl ?_
  refine x_iload_n F dX1_higherHeardBy_35 rfl ?_
  refine x_V4 F (m_X1_higherBetween (by first | assumption | omega | decide) (by first | assumption | omega | decide) (by first | assumption | omega | decide) (by first | assumption | omega | decide) (by first | assumption | omega | decide) (by first | assumption | omega | decide)) mlX1_101 mvX1_higherBetween hC.1 dX1_higherHeardBy_36 (by decide) rfl ⟨Nat.le_of_ble_eq_true rfl, Nat.le_of_ble_eq_true rfl⟩ ⟨Nat.zero_le _, Nat.zero_le _⟩ (Nat.le_of_ble_eq_true rfl) ?_
  have hf_6 := hbI_b hS (rbI M c r) (p - (M.1 c 4).toInt) p (heI M c r p)
  refine xj_iadd F dX1_higherHeardBy_39 ?_
  refine x_iret F FR dX1_higherHeardBy_40 rfl (Nat.le_refl _) (Nat.le_refl _) ?_
  exact ⟨rfl, rfl⟩
set_option maxRecDepth 20000 in
theorem m_X1_higherBehind {l : Launch} {E : xE} {c : Nat} {r p h : Int} {M : xM} (hC : isCh c) (hO : okC M c) (hr : 0 ≤ r ∧ r < 4) (hp : 0 ≤ p ∧ p < 6) (hh : rg h) : XF l E 3 yX1_higherBehind cX1_higherBehind 4 (some FieldType.int) [vA c, vI (jI r), vI (jI p), vI (jI h)] M (vI (jI (hbI M c (rbI M c r) (p - (M.1 c 4).toInt) p h))) (M) := by
  refine xp_start (plainFor_of_name (by decide)) rfl (Nat.le_of_ble_eq_true rfl) ?_
  intro Y F FR
  have hS := hO.1
  have hre := hO.2.1
  refine x_aload_n F dX1_higherBehind_0 rfl ?_
  refine x_aload_n F dX1_higherBehind_1 rfl ?_
  refine x_iload_n F dX1_higherBehind_2 rfl ?_
  refine x_V1 F (m_X1_rowBehind (by first | assumption | omega | decide) (by first | assumption | omega | decide)) mlX1_111 mvX1_rowBehind hC.1 dX1_higherBehind_3 (by decide) rfl ⟨Nat.le_of_ble_eq_true rfl, Nat.le_of_ble_eq_true rfl⟩ ⟨Nat.zero_le _, Nat.zero_le _⟩ (Nat.le_of_ble_eq_true rfl) ?_
  have hf_1 := (show -1000 ≤ rbI M c r ∧ rbI M c r ≤ 1001 by unfold rbI; omega)
  refine x_iload_n F dX1_higherBehind_6 rfl ?_
  refine x_aload_n F dX1_higherBehind_7 rfl ?_
  refine xj_geti F flX1_24 hC.1 dX1_higherBehind_8 (by decide) (by decide) rfl (fun hg_2 => ?_)
  refine xj_isub F dX1_higherBehind_11 ?_
  refine x_iload_n F dX1_higherBehind_12 rfl ?_
  refine x_iload_n F dX1_higherBehind_13 rfl ?_
  refine x_V4 F (m_X1_higherBetween (by first | assumption | omega | decide) (by first | assumption | omega | decide) (by first | assumption | omega | decide) (by first | assumption | omega | decide) (by first | assumption | omega | decide) (by first | assumption | omega | decide)) mlX1_101 mvX1_higherBetween hC.1 dX1_higherBehind_14 (by decide) rfl ⟨Nat.le_of_ble_eq_true rfl, Nat.le_of_ble_eq_true rfl⟩ ⟨Nat.zero_le _, Nat.zero_le _⟩ (Nat.le_of_ble_eq_true rfl) ?_
  have hf_3 := hbI_b hS (rbI M c r) (p - (M.1 c 4).toInt) p h
  refine x_iret F FR dX1_higherBehind_17 rfl (Nat.le_refl _) (Nat.le_refl _) ?_
  exact ⟨rfl, rfl⟩
set_option maxRecDepth 20000 in
theorem L_X1_oddIn {l : Launch} {E : xE} {c : Nat} {r : Int} {M : xM} (hC : isCh c) (hO : okC M c) (hr : 0 ≤ r ∧ r < 4) {Y : xY} (F : xFix E (xA E) Y cX1_oddIn yX1_oddIn.cls 4) (FR : xRet E Y (some FieldType.int) 0 0 (fun r' M'' => r' = vI (jI (odI M c r)) ∧ M'' = M) (fun _ _ => False)) : ∀ (k : Nat) (p a : Int), 0 ≤ p → a = sumI (fun p => hhI M c r p % 2) p.toNat → p ≤ szI M c r → 0 ≤ a ∧ a ≤ p → (szI M c r - p).toNat < k → WP l E (xRm 4 0 0) (xA E) Y 0 0 4 [vA c, vI (jI r), vI (jI a), vI (jI p)] [] M := by
  intro k
  induction k with
  | zero => intro p a hp ha hb hc hk; exact absurd hk (Nat.not_lt_zero _)
  | succ k ih =>
    intro p a hp ha hb hc hk
    have hS := hO.1
    have hre := hO.2.1
    have hs := hS r
    have hbb := hhI_b hS r p
    refine x_iload_n F dX1_oddIn_4 rfl ?_
    refine x_aload_n F dX1_oddIn_5 rfl ?_
    refine x_iload_n F dX1_oddIn_6 rfl ?_
    refine x_V1 F (m_X1_sizeOf (by first | assumption | omega | decide) (by first | assumption | omega | decide)) mlX1_56 mvX1_sizeOf hC.1 dX1_oddIn_7 (by decide) rfl ⟨Nat.le_of_ble_eq_true rfl, Nat.le_of_ble_eq_true rfl⟩ ⟨Nat.zero_le _, Nat.zero_le _⟩ (Nat.le_of_ble_eq_true rfl) ?_
    have hf_1 := rg_szI M c r
    refine xj_icmp_ge (tgt := 30) F dX1_oddIn_10 (by decide) (by omega) (fun h_2 => ?_) (fun h_2 => ?_)
    · refine x_iload_n F dX1_oddIn_30 rfl ?_
      refine x_iret F FR dX1_oddIn_31 rfl (Nat.le_refl _) (Nat.le_refl _) ?_
      exact ⟨vj (by rw [ha]; unfold odI; congr 1; omega), rfl⟩
    · refine x_iload_n F dX1_oddIn_13 rfl ?_
      refine x_aload_n F dX1_oddIn_14 rfl ?_
      refine x_iload_n F dX1_oddIn_15 rfl ?_
      refine x_iload_n F dX1_oddIn_16 rfl ?_
      refine x_V2 F (m_X1_higherHeardBy (by first | assumption | omega | decide) (by first | assumption | omega | decide) (by first | assumption | omega | decide) (by first | assumption | omega | decide)) mlX1_133 mvX1_higherHeardBy hC.1 dX1_oddIn_17 (by decide) rfl ⟨Nat.le_of_ble_eq_true rfl, Nat.le_of_ble_eq_true rfl⟩ ⟨Nat.zero_le _, Nat.zero_le _⟩ (Nat.le_of_ble_eq_true rfl) ?_
      have hf_3 := hhI_b hS r p
      refine xj_iconst F dX1_oddIn_20 ?_
      refine xj_and1 F dX1_oddIn_21 (by omega) ?_
      refine xj_iadd F dX1_oddIn_22 ?_
      refine x_istore_n F dX1_oddIn_23 (by decide) ?_
      refine xj_iinc F dX1_oddIn_24 rfl ?_
      refine x_goto (tgt := 4) F dX1_oddIn_27 (by decide) ?_
      exact ih (p + 1) _ (by omega) (by rw [sumI_step _ hp, ← ha]) (by omega) (by omega) (by omega)
set_option maxRecDepth 20000 in
theorem m_X1_oddIn {l : Launch} {E : xE} {c : Nat} {r : Int} {M : xM} (hC : isCh c) (hO : okC M c) (hr : 0 ≤ r ∧ r < 4) : XF l E 4 yX1_oddIn cX1_oddIn 4 (some FieldType.int) [vA c, vI (jI r)] M (vI (jI (odI M c r))) (M) := by
  refine xp_start (plainFor_of_name (by decide)) rfl (Nat.le_of_ble_eq_true rfl) ?_
  intro Y F FR
  have hS := hO.1
  have hre := hO.2.1
  have hs := hS r
  refine xj_iconst F dX1_oddIn_0 ?_
  refine x_istore_n F dX1_oddIn_1 (by decide) ?_
  refine xj_iconst F dX1_oddIn_2 ?_
  refine x_istore_n F dX1_oddIn_3 (by decide) ?_
  exact L_X1_oddIn hC hO hr F FR _ 0 0 (by omega) rfl (by omega) (by omega) (Nat.lt_succ_self _)
set_option maxRecDepth 20000 in
theorem L_X1_discordOf {l : Launch} {E : xE} {c : Nat} {r : Int} {M : xM} (hC : isCh c) (hO : okC M c) (hr : 0 ≤ r ∧ r < 4) {Y : xY} (F : xFix E (xA E) Y cX1_discordOf yX1_discordOf.cls 4) (FR : xRet E Y (some FieldType.int) 0 0 (fun r' M'' => r' = vI (jI (dcI M c r)) ∧ M'' = M) (fun _ _ => False)) : ∀ (k : Nat) (p a : Int), 0 ≤ p → a = sumI (fun p => hbI M c r 0 (p - 1) (heI M c r p)) p.toNat → p ≤ szI M c r → 0 ≤ a ∧ a ≤ 6 * p → (szI M c r - p).toNat < k → WP l E (xRm 3 0 0) (xA E) Y 0 0 4 [vA c, vI (jI r), vI (jI a), vI (jI p)] [] M := by
  intro k
  induction k with
  | zero => intro p a hp ha hb hc hk; exact absurd hk (Nat.not_lt_zero _)
  | succ k ih =>
    intro p a hp ha hb hc hk
    have hS := hO.1
    have hre := hO.2.1
    have hs := hS r
    have hbb := hbI_b hS r 0 (p - 1) (heI M c r p)
    refine x_iload_n F dX1_discordOf_4 rfl ?_
    refine x_aload_n F dX1_discordOf_5 rfl ?_
    refine x_iload_n F dX1_discordOf_6 rfl ?_
    refine x_V1 F (m_X1_sizeOf (by first | assumption | omega | decide) (by first | assumption | omega | decide)) mlX1_56 mvX1_sizeOf hC.1 dX1_discordOf_7 (by decide) rfl ⟨Nat.le_of_ble_eq_true rfl, Nat.le_of_ble_eq_true rfl⟩ ⟨Nat.zero_le _, Nat.zero_le _⟩ (Nat.le_of_ble_eq_true rfl) ?_
    have hf_1 := rg_szI M c r
    refine xj_icmp_ge (tgt := 37) F dX1_discordOf_10 (by decide) (by omega) (fun h_2 => ?_) (fun h_2 => ?_)
    · refine x_iload_n F dX1_discordOf_37 rfl ?_
      refine x_iret F FR dX1_discordOf_38 rfl (Nat.le_refl _) (Nat.le_refl _) ?_
      exact ⟨vj (by rw [ha]; unfold dcI; congr 1; omega), rfl⟩
    · refine x_iload_n F dX1_discordOf_13 rfl ?_
      refine x_aload_n F dX1_discordOf_14 rfl ?_
      refine x_iload_n F dX1_discordOf_15 rfl ?_
      refine xj_iconst F dX1_discordOf_16 ?_
      refine x_iload_n F dX1_discordOf_17 rfl ?_
      refine xj_iconst F dX1_discordOf_18 ?_
      refine xj_isub F dX1_discordOf_19 ?_
      refine x_aload_n F dX1_discordOf_20 rfl ?_
      refine x_iload_n F dX1_discordOf_21 rfl ?_
      refine x_iload_n F dX1_discordOf_22 rfl ?_
      refine x_V2 F (m_X1_heightAt (by first | assumption | omega | decide) (by first | assumption | omega | decide) (by first | assumption | omega | decide)) mlX1_92 mvX1_heightAt hC.1 dX1_discordOf_23 (by decide) rfl ⟨Nat.le_of_ble_eq_true rfl, Nat.le_of_ble_eq_true rfl⟩ ⟨Nat.zero_le _, Nat.zero_le _⟩ (Nat.le_of_ble_eq_true rfl) ?_
      have hf_3 := rg_heI M c r p
      refine x_V4 F (m_X1_higherBetween (by first | assumption | omega | decide) (by first | assumption | omega | decide) (by first | assumption | omega | decide) (by first | assumption | omega | decide) (by first | assumption | omega | decide) (by first | assumption | omega | decide)) mlX1_101 mvX1_higherBetween hC.1 dX1_discordOf_26 (by decide) rfl ⟨Nat.le_of_ble_eq_true rfl, Nat.le_of_ble_eq_true rfl⟩ ⟨Nat.zero_le _, Nat.zero_le _⟩ (Nat.le_of_ble_eq_true rfl) ?_
      have hf_4 := hbI_b hS r 0 (p - 1) (heI M c r p)
      refine xj_iadd F dX1_discordOf_29 ?_
      refine x_istore_n F dX1_discordOf_30 (by decide) ?_
      refine xj_iinc F dX1_discordOf_31 rfl ?_
      refine x_goto (tgt := 4) F dX1_discordOf_34 (by decide) ?_
      exact ih (p + 1) _ (by omega) (by rw [sumI_step _ hp, ← ha]) (by omega) (by omega) (by omega)
set_option maxRecDepth 20000 in
theorem m_X1_discordOf {l : Launch} {E : xE} {c : Nat} {r : Int} {M : xM} (hC : isCh c) (hO : okC M c) (hr : 0 ≤ r ∧ r < 4) : XF l E 3 yX1_discordOf cX1_discordOf 4 (some FieldType.int) [vA c, vI (jI r)] M (vI (jI (dcI M c r))) (M) := by
  refine xp_start (plainFor_of_name (by decide)) rfl (Nat.le_of_ble_eq_true rfl) ?_
  intro Y F FR
  have hS := hO.1
  have hre := hO.2.1
  have hs := hS r
  refine xj_iconst F dX1_discordOf_0 ?_
  refine x_istore_n F dX1_discordOf_1 (by decide) ?_
  refine xj_iconst F dX1_discordOf_2 ?_
  refine x_istore_n F dX1_discordOf_3 (by decide) ?_
  exact L_X1_discordOf hC hO hr F FR _ 0 0 (by omega) rfl (by omega) (by omega) (Nat.lt_succ_self _)
set_option maxRecDepth 20000 in
theorem L_X1_highestOf {l : Launch} {E : xE} {c : Nat} {r : Int} {M : xM} (hC : isCh c) (hO : okC M c) (hr : 0 ≤ r ∧ r < 4) {Y : xY} (F : xFix E (xA E) Y cX1_highestOf yX1_highestOf.cls 4) (FR : xRet E Y (some FieldType.int) 0 0 (fun r' M'' => r' = vI (jI (hiI M c r)) ∧ M'' = M) (fun _ _ => False)) : ∀ (k : Nat) (p a : Int), 0 ≤ p → a = mxI (heI M c r) p.toNat → p ≤ szI M c r → rg a → (szI M c r - p).toNat < k → WP l E (xRm 3 0 0) (xA E) Y 0 0 4 [vA c, vI (jI r), vI (jI a), vI (jI p)] [] M := by
  intro k
  induction k with
  | zero => intro p a hp ha hb hc hk; exact absurd hk (Nat.not_lt_zero _)
  | succ k ih =>
    intro p a hp ha hb hc hk
    have hS := hO.1
    have hre := hO.2.1
    have hs := hS r
    refine x_iload_n F dX1_highestOf_4 rfl ?_
    refine x_aload_n F dX1_highestOf_5 rfl ?_
    refine x_iload_n F dX1_highestOf_6 rfl ?_
    refine x_V1 F (m_X1_sizeOf (by first | assumption | omega | decide) (by first | assumption | omega | decide)) mlX1_56 mvX1_sizeOf hC.1 dX1_highestOf_7 (by decide) rfl ⟨Nat.le_of_ble_eq_true rfl, Nat.le_of_ble_eq_true rfl⟩ ⟨Nat.zero_le _, Nat.zero_le _⟩ (Nat.le_of_ble_eq_true rfl) ?_
    have hf_1 := rg_szI M c r
    refine xj_icmp_ge (tgt := 30) F dX1_highestOf_10 (by decide) (by omega) (fun h_2 => ?_) (fun h_2 => ?_)
    · refine x_iload_n F dX1_highestOf_30 rfl ?_
      refine x_iret F FR dX1_highestOf_31 rfl (Nat.le_refl _) (Nat.le_refl _) ?_
      exact ⟨vj (by rw [ha]; unfold hiI; congr 1; omega), rfl⟩
    · refine x_iload_n F dX1_highestOf_13 rfl ?_
      refine x_aload_n F dX1_highestOf_14 rfl ?_
      refine x_iload_n F dX1_highestOf_15 rfl ?_
      refine x_iload_n F dX1_highestOf_16 rfl ?_
      refine x_V2 F (m_X1_heightAt (by first | assumption | omega | decide) (by first | assumption | omega | decide) (by first | assumption | omega | decide)) mlX1_92 mvX1_heightAt hC.1 dX1_highestOf_17 (by decide) rfl ⟨Nat.le_of_ble_eq_true rfl, Nat.le_of_ble_eq_true rfl⟩ ⟨Nat.zero_le _, Nat.zero_le _⟩ (Nat.le_of_ble_eq_true rfl) ?_
      have hf_3 := rg_heI M c r p
      refine x_S2 F (m_J9_max_7cf53 (by first | assumption | omega | decide) (by first | assumption | omega | decide)) mlX1_98 msJ9_max_7cf53 dX1_highestOf_20 ⟨Nat.le_of_ble_eq_true rfl, Nat.le_of_ble_eq_true rfl⟩ ⟨Nat.zero_le _, Nat.zero_le _⟩ (Nat.le_of_ble_eq_true rfl) ?_
      refine x_istore_n F dX1_highestOf_23 (by decide) ?_
      refine xj_iinc F dX1_highestOf_24 rfl ?_
      refine x_goto (tgt := 4) F dX1_highestOf_27 (by decide) ?_
      exact ih (p + 1) _ (by omega) (by rw [mxI_step _ hp, ← ha]) (by omega) (by omega) (by omega)
set_option maxRecDepth 20000 in
theorem m_X1_highestOf {l : Launch} {E : xE} {c : Nat} {r : Int} {M : xM} (hC : isCh c) (hO : okC M c) (hr : 0 ≤ r ∧ r < 4) : XF l E 3 yX1_highestOf cX1_highestOf 4 (some FieldType.int) [vA c, vI (jI r)] M (vI (jI (hiI M c r))) (M) := by
  refine xp_start (plainFor_of_name (by decide)) rfl (Nat.le_of_ble_eq_true rfl) ?_
  intro Y F FR
  have hS := hO.1
  have hre := hO.2.1
  have hs := hS r
  refine xj_iconst F dX1_highestOf_0 ?_
  refine x_istore_n F dX1_highestOf_1 (by decide) ?_
  refine xj_iconst F dX1_highestOf_2 ?_
  refine x_istore_n F dX1_highestOf_3 (by decide) ?_
  exact L_X1_highestOf hC hO hr F FR _ 0 (-1) (by omega) rfl (by omega) (by omega) (Nat.lt_succ_self _)
set_option maxRecDepth 20000 in
theorem L_X1_oddOfAll {l : Launch} {E : xE} {c : Nat} {M : xM} (hC : isCh c) (hO : okC M c) {Y : xY} (F : xFix E (xA E) Y cX1_oddOfAll yX1_oddOfAll.cls 3) (FR : xRet E Y (some FieldType.int) 0 0 (fun r' M'' => r' = vI (jI (oaI M c)) ∧ M'' = M) (fun _ _ => False)) : ∀ (k : Nat) (i a : Int), 0 ≤ i ∧ i ≤ 4 → a = sumI (odI M c) i.toNat → 0 ≤ a ∧ a ≤ 6 * i → (4 - i).toNat < k → WP l E (xRm 5 0 0) (xA E) Y 0 0 4 [vA c, vI (jI a), vI (jI i)] [] M := by
  intro k
  induction k with
  | zero => intro i a hi ha hb hk; exact absurd hk (Nat.not_lt_zero _)
  | succ k ih =>
    intro i a hi ha hb hk
    have hS := hO.1
    have hre := hO.2.1
    have hbb := odI_b hS i
    refine x_iload_n F dX1_oddOfAll_4 rfl ?_
    refine xj_iconst F dX1_oddOfAll_5 ?_
    refine xj_icmp_ge (tgt := 23) F dX1_oddOfAll_6 (by decide) (by omega) (fun h_1 => ?_) (fun h_1 => ?_)
    · refine x_iload_n F dX1_oddOfAll_23 rfl ?_
      refine x_iret F FR dX1_oddOfAll_24 rfl (Nat.le_refl _) (Nat.le_refl _) ?_
      exact ⟨vj (by rw [ha, show i.toNat = 4 by omega]; rfl), rfl⟩
    · refine x_iload_n F dX1_oddOfAll_9 rfl ?_
      refine x_aload_n F dX1_oddOfAll_10 rfl ?_
      refine x_iload_n F dX1_oddOfAll_11 rfl ?_
      refine x_V1 F (m_X1_oddIn (by first | assumption | omega | decide) (by first | assumption | omega | decide) (by first | assumption | omega | decide)) mlX1_136 mvX1_oddIn hC.1 dX1_oddOfAll_12 (by decide) rfl ⟨Nat.le_of_ble_eq_true rfl, Nat.le_of_ble_eq_true rfl⟩ ⟨Nat.zero_le _, Nat.zero_le _⟩ (Nat.le_of_ble_eq_true rfl) ?_
      have hf_2 := odI_b hS i
      refine xj_iadd F dX1_oddOfAll_15 ?_
      refine x_istore_n F dX1_oddOfAll_16 (by decide) ?_
      refine xj_iinc F dX1_oddOfAll_17 rfl ?_
      refine x_goto (tgt := 4) F dX1_oddOfAll_20 (by decide) ?_
      exact ih (i + 1) _ (by omega) (by rw [sumI_step _ hi.1, ← ha]) (by omega) (by omega)
set_option maxRecDepth 20000 in
theorem m_X1_oddOfAll {l : Launch} {E : xE} {c : Nat} {M : xM} (hC : isCh c) (hO : okC M c) : XF l E 5 yX1_oddOfAll cX1_oddOfAll 3 (some FieldType.int) [vA c] M (vI (jI (oaI M c))) (M) := by
  refine xp_start (plainFor_of_name (by decide)) rfl (Nat.le_of_ble_eq_true rfl) ?_
  intro Y F FR
  have hS := hO.1
  have hre := hO.2.1
  refine xj_iconst F dX1_oddOfAll_0 ?_
  refine x_istore_n F dX1_oddOfAll_1 (by decide) ?_
  refine xj_iconst F dX1_oddOfAll_2 ?_
  refine x_istore_n F dX1_oddOfAll_3 (by decide) ?_
  exact L_X1_oddOfAll hC hO F FR _ 0 0 (by omega) rfl (by omega) (Nat.lt_succ_self _)
set_option maxRecDepth 20000 in
theorem L_X1_discordOfAll {l : Launch} {E : xE} {c : Nat} {M : xM} (hC : isCh c) (hO : okC M c) {Y : xY} (F : xFix E (xA E) Y cX1_discordOfAll yX1_discordOfAll.cls 3) (FR : xRet E Y (some FieldType.int) 0 0 (fun r' M'' => r' = vI (jI (daI M c)) ∧ M'' = M) (fun _ _ => False)) : ∀ (k : Nat) (i a : Int), 0 ≤ i ∧ i ≤ 4 → a = sumI (dcI M c) i.toNat → 0 ≤ a ∧ a ≤ 36 * i → (4 - i).toNat < k → WP l E (xRm 4 0 0) (xA E) Y 0 0 4 [vA c, vI (jI a), vI (jI i)] [] M := by
  intro k
  induction k with
  | zero => intro i a hi ha hb hk; exact absurd hk (Nat.not_lt_zero _)
  | succ k ih =>
    intro i a hi ha hb hk
    have hS := hO.1
    have hre := hO.2.1
    have hbb := dcI_b hS i
    refine x_iload_n F dX1_discordOfAll_4 rfl ?_
    refine xj_iconst F dX1_discordOfAll_5 ?_
    refine xj_icmp_ge (tgt := 23) F dX1_discordOfAll_6 (by decide) (by omega) (fun h_1 => ?_) (fun h_1 => ?_)
    · refine x_iload_n F dX1_discordOfAll_23 rfl ?_
      refine x_iret F FR dX1_discordOfAll_24 rfl (Nat.le_refl _) (Nat.le_refl _) ?_
      exact ⟨vj (by rw [ha, show i.toNat = 4 by omega]; rfl), rfl⟩
    · refine x_iload_n F dX1_discordOfAll_9 rfl ?_
      refine x_aload_n F dX1_discordOfAll_10 rfl ?_
      refine x_iload_n F dX1_discordOfAll_11 rfl ?_
      refine x_V1 F (m_X1_discordOf (by first | assumption | omega | decide) (by first | assumption | omega | decide) (by first | assumption | omega | decide)) mlX1_105 mvX1_discordOf hC.1 dX1_discordOfAll_12 (by decide) rfl ⟨Nat.le_of_ble_eq_true rfl, Nat.le_of_ble_eq_true rfl⟩ ⟨Nat.zero_le _, Nat.zero_le _⟩ (Nat.le_of_ble_eq_true rfl) ?_
      have hf_2 := dcI_b hS i
      refine xj_iadd F dX1_discordOfAll_15 ?_
      refine x_istore_n F dX1_discordOfAll_16 (by decide) ?_
      refine xj_iinc F dX1_discordOfAll_17 rfl ?_
      refine x_goto (tgt := 4) F dX1_discordOfAll_20 (by decide) ?_
      exact ih (i + 1) _ (by omega) (by rw [sumI_step _ hi.1, ← ha]) (by omega) (by omega)
set_option maxRecDepth 20000 in
theorem m_X1_discordOfAll {l : Launch} {E : xE} {c : Nat} {M : xM} (hC : isCh c) (hO : okC M c) : XF l E 4 yX1_discordOfAll cX1_discordOfAll 3 (some FieldType.int) [vA c] M (vI (jI (daI M c))) (M) := by
  refine xp_start (plainFor_of_name (by decide)) rfl (Nat.le_of_ble_eq_true rfl) ?_
  intro Y F FR
  have hS := hO.1
  have hre := hO.2.1
  refine xj_iconst F dX1_discordOfAll_0 ?_
  refine x_istore_n F dX1_discordOfAll_1 (by decide) ?_
  refine xj_iconst F dX1_discordOfAll_2 ?_
  refine x_istore_n F dX1_discordOfAll_3 (by decide) ?_
  exact L_X1_discordOfAll hC hO F FR _ 0 0 (by omega) rfl (by omega) (Nat.lt_succ_self _)
set_option maxRecDepth 20000 in
theorem m_X1_writtenLength {l : Launch} {E : xE} {c : Nat} {r : Int} {M : xM} (hC : isCh c) (hS : ∀ r : Int, 0 ≤ szI M c r ∧ szI M c r ≤ 6) (hr : rg r) : XF l E 2 yX1_writtenLength cX1_writtenLength 2 (some FieldType.int) [vA c, vI (jI r)] M (vI (jI (max 0 (5 * szI M c r - 1)))) (M) := by
  refine xp_start (plainFor_of_name (by decide)) rfl (Nat.le_of_ble_eq_true rfl) ?_
  intro Y F FR
  refine xj_iconst F dX1_writtenLength_0 ?_
  refine xj_iconst F dX1_writtenLength_1 ?_
  refine x_aload_n F dX1_writtenLength_2 rfl ?_
  refine x_iload_n F dX1_writtenLength_3 rfl ?_
  refine x_V1 F (m_X1_sizeOf (by first | assumption | omega | decide) (by first | assumption | omega | decide)) mlX1_56 mvX1_sizeOf hC.1 dX1_writtenLength_4 (by decide) rfl ⟨Nat.le_of_ble_eq_true rfl, Nat.le_of_ble_eq_true rfl⟩ ⟨Nat.zero_le _, Nat.zero_le _⟩ (Nat.le_of_ble_eq_true rfl) ?_
  have hf_1 := rg_szI M c r
  have hf_2 := hS r
  refine xj_imul F dX1_writtenLength_7 ?_
  refine xj_iconst F dX1_writtenLength_8 ?_
  refine xj_isub F dX1_writtenLength_9 ?_
  refine x_S2 F (m_J9_max_7cf53 (by first | assumption | omega | decide) (by first | assumption | omega | decide)) mlX1_98 msJ9_max_7cf53 dX1_writtenLength_10 ⟨Nat.le_of_ble_eq_true rfl, Nat.le_of_ble_eq_true rfl⟩ ⟨Nat.zero_le _, Nat.zero_le _⟩ (Nat.le_of_ble_eq_true rfl) ?_
  refine x_iret F FR dX1_writtenLength_13 rfl (Nat.le_refl _) (Nat.le_refl _) ?_
  exact ⟨rfl, rfl⟩
