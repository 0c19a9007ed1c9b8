/-! ORDERS as lists of places; THE MODEL: the next order -/
def gt (L : List Nat) (k : Nat) : Nat := L.getD k 0
def atF (L : List Nat) : Nat → Nat
  | 0 => 0
  | k + 1 => if gt L (k + 1) < gt L k then atF L k else k + 1
def byF (L : List Nat) (a : Nat) : Nat → Nat
  | 0 => 0
  | k + 1 => if gt L (k + 1) < gt L a then byF L a k else k + 1
def swL (L : List Nat) (i j : Nat) : List Nat := (L.set i (gt L j)).set j (gt L i)
def rvL (a n : Nat) : Nat → Nat → List Nat → List Nat
  | 0, _, L => L
  | f + 1, k, L => if a + k < n - k then rvL a n f (k + 1) (swL L (a + k) (n - k)) else L
def nxL (L : List Nat) : Option (List Nat) :=
  if atF L (L.length - 1) = 0 then none
  else some (rvL (atF L (L.length - 1) - 1) L.length L.length 1 (swL L (atF L (L.length - 1) - 1) (byF L (atF L (L.length - 1) - 1) (L.length - 1))))
theorem atF_le (L : List Nat) : ∀ k, atF L k ≤ k
  | 0 => Nat.le_refl _
  | k + 1 => by
    simp only [atF]
    split
    · exact Nat.le_succ_of_le (atF_le L k)
    · exact Nat.le_refl _
theorem atF_up (L : List Nat) : ∀ k, atF L k ≠ 0 → gt L (atF L k - 1) ≤ gt L (atF L k)
  | 0, h => absurd rfl h
  | k + 1, h => by
    simp only [atF] at h ⊢
    split
    · rename_i hh
      rw [if_pos hh] at h
      exact atF_up L k h
    · rw [Nat.add_sub_cancel]; omega
theorem byF_le (L : List Nat) (a : Nat) : ∀ k, byF L a k ≤ k
  | 0 => Nat.le_refl _
  | k + 1 => by
    simp only [byF]
    split
    · exact Nat.le_succ_of_le (byF_le L a k)
    · exact Nat.le_refl _
theorem swL_len (L : List Nat) (i j : Nat) : (swL L i j).length = L.length := by unfold swL; simp
theorem rvL_len (a n : Nat) : ∀ (f k : Nat) (L : List Nat), (rvL a n f k L).length = L.length
  | 0, _, _ => rfl
  | f + 1, k, L => by
    simp only [rvL]
    split
    · rw [rvL_len a n f, swL_len]
    · rfl
theorem gt_sw {L : List Nat} {i j : Nat} (hi : i < L.length) (hj : j < L.length) (k : Nat) : gt (swL L i j) k = if k = j then gt L i else if k = i then gt L j else gt L k := by
  unfold gt swL
  rw [List.getD_eq_getElem?_getD, List.getElem?_set, List.getElem?_set, List.length_set]
  by_cases h1 : k = j
  · subst h1
    rw [if_pos rfl, if_pos rfl, if_pos hj]; rfl
  · rw [if_neg (fun z => h1 z.symm), if_neg h1]
    by_cases h2 : k = i
    · subst h2
      rw [if_pos rfl, if_pos rfl, if_pos hi]; rfl
    · rw [if_neg (fun z => h2 z.symm), if_neg h2, ← List.getD_eq_getElem?_getD]
def isO (M : xM) (L : List Nat) : Prop := ∀ k, k < L.length → (M.1 72 k).toInt = ((gt L k : Nat) : Int) ∧ gt L k < 6
def swO (M : xM) (a b : Int) : xM := upI (upI M 72 a.toNat (jI (M.1 72 b.toNat).toInt)) 72 b.toNat (jI (M.1 72 a.toNat).toInt)
theorem isO_sw {M : xM} {L : List Nat} (h : isO M L) {i j : Nat} (hi : i < L.length) (hj : j < L.length) : isO (swO M (i : Int) (j : Int)) (swL L i j) := by
  intro k hk
  rw [swL_len] at hk
  rw [gt_sw hi hj]
  unfold swO
  rw [upI_1, upI_1]
  simp only [true_and, Int.toNat_natCast]
  have h1 := h i hi
  have h2 := h j hj
  have h3 := h k hk
  by_cases e1 : k = j
  · rw [if_pos e1, if_pos e1, jI_of]; exact h1
  · rw [if_neg e1, if_neg e1]
    by_cases e2 : k = i
    · rw [if_pos e2, if_pos e2, jI_of]; exact h2
    · rw [if_neg e2, if_neg e2]; exact h3
/-- only the order's cell changes -/
def qO (M M' : xM) : Prop := (∀ a, a ≠ 72 → M'.1 a = M.1 a) ∧ M'.2 = M.2
theorem qO_rfl (M : xM) : qO M M := ⟨fun _ _ => rfl, rfl⟩
theorem qO_sw {M0 M : xM} (h : qO M0 M) (a b : Int) : qO M0 (swO M a b) := ⟨fun e he => by unfold swO; rw [upI_row he, upI_row he]; exact h.1 e he, h.2⟩
set_option maxRecDepth 20000 in
theorem L_X7_nextOrder_71 {l : Launch} {E : xE} {L : List Nat} {M0 : xM} (hL : L.length ≤ 6) (hO : isO M0 L) {LR : List Nat} {a0 : Nat} (ha0 : a0 + 1 < L.length) (hnx : nxL L = some LR) {Y : xY} (F : xFix E (xA E) Y cX7_nextOrder yX7_nextOrder.cls 5) (FR : xRet E Y (some FieldType.boolean) 0 0 (fun r' M' => (nxL L = none → r' = vI (jI 0) ∧ M' = M0) ∧ (∀ L', nxL L = some L' → r' = vI (jI 1) ∧ isO M' L' ∧ L'.length = L.length ∧ qO M0 M')) (fun _ _ => False)) {y : Int32} : ∀ (k : Nat) (M : xM) (L1 : List Nat) (k9 f9 : Nat), (L1.length = L.length ∧ isO M L1 ∧ qO M0 M ∧ rvL a0 L.length f9 k9 L1 = LR) → (1 ≤ k9 ∧ L.length ≤ k9 + f9 ∧ k9 ≤ 6) → f9 < k → WP l E (xRm 2 0 0) (xA E) Y 0 0 71 [vA 68, vI (jI (L.length : Int)), vI (jI (a0 : Int)), vI y, vI (jI (k9 : Int))] [] M := by
  intro k
  induction k with
  | zero => intro M L1 k9 f9 hI hk9 hk; exact absurd hk (Nat.not_lt_zero _)
  | succ k ih =>
    intro M L1 k9 f9 hI hk9 hk
    obtain ⟨hl1, hO1, hq1, hrv⟩ := hI
    have hk1 : 1 ≤ k9 := hk9.1
    refine x_iload_n F dX7_nextOrder_71 rfl ?_
    refine x_iload F dX7_nextOrder_72 rfl ?_
    refine xj_iadd F dX7_nextOrder_74 ?_
    refine x_iload_n F dX7_nextOrder_75 rfl ?_
    refine x_iload F dX7_nextOrder_76 rfl ?_
    refine xj_isub F dX7_nextOrder_78 ?_
    refine xj_icmp_ge (tgt := 100) F dX7_nextOrder_79 (by decide) (by omega) (fun h_1 => ?_) (fun h_1 => ?_)
    · refine xj_iconst F dX7_nextOrder_100 ?_
      refine x_iret F FR dX7_nextOrder_101 rfl (Nat.le_refl _) (Nat.le_refl _) ?_
      have hnl : ¬ (a0 + k9 < L.length - k9) := by omega
      have e3 : rvL a0 L.length f9 k9 L1 = L1 := by
        cases f9 with
        | zero => rfl
        | succ f => simp only [rvL]; rw [if_neg hnl]
      rw [e3] at hrv
      subst hrv
      refine ⟨fun z => (by rw [hnx] at z; cases z), fun L9 h9 => ?_⟩
      rw [hnx] at h9
      cases h9
      exact ⟨rfl, hO1, hl1, hq1⟩
    · refine x_aload_n F dX7_nextOrder_82 rfl ?_
      refine x_iload_n F dX7_nextOrder_83 rfl ?_
      refine x_iload F dX7_nextOrder_84 rfl ?_
      refine xj_iadd F dX7_nextOrder_86 ?_
      refine x_iload_n F dX7_nextOrder_87 rfl ?_
      refine x_iload F dX7_nextOrder_88 rfl ?_
      refine xj_isub F dX7_nextOrder_90 ?_
      refine x_V2 F (m_X7_swapOrder (by omega) (by omega)) mlX7_87 mvX7_swapOrder rfl dX7_nextOrder_91 (by decide) rfl ⟨Nat.le_of_ble_eq_true rfl, Nat.le_of_ble_eq_true rfl⟩ ⟨Nat.zero_le _, Nat.zero_le _⟩ (Nat.le_of_ble_eq_true rfl) ?_
      refine xj_iinc F dX7_nextOrder_94 rfl ?_
      refine x_goto (tgt := 71) F dX7_nextOrder_97 (by decide) ?_
      have hlt : a0 + k9 < L.length - k9 := by omega
      have hst : rvL a0 L.length f9 k9 L1 = rvL a0 L.length (f9 - 1) (k9 + 1) (swL L1 (a0 + k9) (L.length - k9)) := by
        obtain ⟨g9, rfl⟩ : ∃ g9, f9 = g9 + 1 := ⟨f9 - 1, by omega⟩
        simp only [rvL]; rw [if_pos hlt]; rfl
      have e1 : ((a0 : Int) + (k9 : Int)).toNat = a0 + k9 := by omega
      have e2 : ((L.length : Int) - (k9 : Int)).toNat = L.length - k9 := by omega
      have g := ih (swO M ((a0 + k9 : Nat) : Int) ((L.length - k9 : Nat) : Int)) (swL L1 (a0 + k9) (L.length - k9)) (k9 + 1) (f9 - 1) ⟨(swL_len _ _ _).trans hl1, isO_sw hO1 (by omega) (by omega), qO_sw hq1 _ _, by rw [← hst]; exact hrv⟩ ⟨by omega, by omega, by omega⟩ (by omega)
      have eM : upI (upI M 72 (a0 + k9) (jI (M.1 72 (L.length - k9)).toInt)) 72 (L.length - k9) (jI (M.1 72 (a0 + k9)).toInt) = swO M ((a0 + k9 : Nat) : Int) ((L.length - k9 : Nat) : Int) := by unfold swO; simp only [Int.toNat_natCast]
      rw [e1, e2, eM]
      exact g
set_option maxRecDepth 20000 in
theorem L_X7_nextOrder_41 {l : Launch} {E : xE} {L : List Nat} {M0 : xM} (hL : L.length ≤ 6) (hO : isO M0 L) (hat : (atF L (L.length - 1)) ≠ 0) {Y : xY} (F : xFix E (xA E) Y cX7_nextOrder yX7_nextOrder.cls 5) (FR : xRet E Y (some FieldType.boolean) 0 0 (fun r' M' => (nxL L = none → r' = vI (jI 0) ∧ M' = M0) ∧ (∀ L', nxL L = some L' → r' = vI (jI 1) ∧ isO M' L' ∧ L'.length = L.length ∧ qO M0 M')) (fun _ _ => False)) : ∀ (k : Nat) (b9 : Nat), (b9 ≤ L.length - 1 ∧ (atF L (L.length - 1)) ≤ b9) → (byF L ((atF L (L.length - 1)) - 1) (L.length - 1) = byF L ((atF L (L.length - 1)) - 1) b9) → b9 < k → WP l E (xRm 2 0 0) (xA E) Y 0 0 41 [vA 68, vI (jI (L.length : Int)), vI (jI (((atF L (L.length - 1)) : Nat) - 1 : Int)), vI (jI (b9 : Int)), vU] [] M0 := by
  intro k
  induction k with
  | zero => intro b9 hb9 hby hk; exact absurd hk (Nat.not_lt_zero _)
  | succ k ih =>
    intro b9 hb9 hby hk
    have hle := atF_le L (L.length - 1)
    have hup := atF_up L (L.length - 1) hat
    have hvb := hO b9 (by omega)
    have hva := hO ((atF L (L.length - 1)) - 1) (by omega)
    have ta : (((atF L (L.length - 1)) : Nat) - 1 : Int).toNat = (atF L (L.length - 1)) - 1 := by omega
    have eb : ((b9 : Int)).toNat = b9 := by omega
    have hvb2 : (M0.1 72 ((b9 : Int)).toNat).toInt = ((gt L b9 : Nat) : Int) := by rw [eb]; exact hvb.1
    have hva2 : (M0.1 72 (((atF L (L.length - 1)) : Nat) - 1 : Int).toNat).toInt = ((gt L ((atF L (L.length - 1)) - 1) : Nat) : Int) := by rw [ta]; exact hva.1
    refine x_aload_n F dX7_nextOrder_41 rfl ?_
    refine x_getc (v := 72) F flX7_19 rfl dX7_nextOrder_42 (by decide) (by decide) rfl rfl ?_
    refine x_iload_n F dX7_nextOrder_45 rfl ?_
    refine xj_lald2 F rfl dX7_nextOrder_46 (by omega) (fun hg_1 => ?_)
    refine x_aload_n F dX7_nextOrder_47 rfl ?_
    refine x_getc (v := 72) F flX7_19 rfl dX7_nextOrder_48 (by decide) (by decide) rfl rfl ?_
    refine x_iload_n F dX7_nextOrder_51 rfl ?_
    refine xj_lald2 F rfl dX7_nextOrder_52 (by omega) (fun hg_2 => ?_)
    refine xj_icmp_ge (tgt := 62) F dX7_nextOrder_53 (by decide) (by omega) (fun h_3 => ?_) (fun h_3 => ?_)
    · refine x_aload_n F dX7_nextOrder_62 rfl ?_
      refine x_iload_n F dX7_nextOrder_63 rfl ?_
      refine x_iload_n F dX7_nextOrder_64 rfl ?_
      refine x_V2 F (m_X7_swapOrder (by omega) (by omega)) mlX7_87 mvX7_swapOrder rfl dX7_nextOrder_65 (by decide) rfl ⟨Nat.le_of_ble_eq_true rfl, Nat.le_of_ble_eq_true rfl⟩ ⟨Nat.zero_le _, Nat.zero_le _⟩ (Nat.le_of_ble_eq_true rfl) ?_
      refine xj_iconst F dX7_nextOrder_68 ?_
      refine x_istore F dX7_nextOrder_69 (by decide) ?_
      have hst : byF L ((atF L (L.length - 1)) - 1) b9 = b9 := by
        cases b9 with
        | zero => rfl
        | succ g9 => simp only [byF]; rw [if_neg (by omega)]
      have hnx : nxL L = some (rvL ((atF L (L.length - 1)) - 1) L.length L.length 1 (swL L ((atF L (L.length - 1)) - 1) b9)) := by unfold nxL; rw [if_neg hat, hby, hst]
      have g := L_X7_nextOrder_71 (l := l) hL hO (a0 := (atF L (L.length - 1)) - 1) (by omega) hnx F FR (y := jI (b9 : Int)) (L.length + 1) (swO M0 (((atF L (L.length - 1)) - 1 : Nat) : Int) (b9 : Int)) (swL L ((atF L (L.length - 1)) - 1) b9) 1 L.length ⟨swL_len _ _ _, isO_sw hO (by omega) (by omega), qO_sw (qO_rfl _) _ _, rfl⟩ ⟨by omega, by omega, by omega⟩ (by omega)
      unfold swO at g
      rw [show (((atF L (L.length - 1)) - 1 : Nat) : Int) = (((atF L (L.length - 1)) : Nat) - 1 : Int) by omega] at g
      exact g
    · refine xj_iinc F dX7_nextOrder_56 rfl ?_
      refine x_goto (tgt := 41) F dX7_nextOrder_59 (by decide) ?_
      have hne : b9 ≠ (atF L (L.length - 1)) := fun z => (by have := congrArg (gt L) z; omega)
      have hb0 : b9 ≠ 0 := by omega
      have hst : byF L ((atF L (L.length - 1)) - 1) b9 = byF L ((atF L (L.length - 1)) - 1) (b9 - 1) := by
        obtain ⟨g9, rfl⟩ : ∃ g9, b9 = g9 + 1 := ⟨b9 - 1, by omega⟩
        simp only [byF]; rw [if_pos (by omega)]; rfl
      have g := ih (b9 - 1) ⟨by omega, by omega⟩ (by rw [← hst]; exact hby) (by omega)
      rw [show ((b9 - 1 : Nat) : Int) = (b9 : Int) + -1 by omega] at g
      exact g
set_option maxRecDepth 20000 in
theorem L_X7_nextOrder_4 {l : Launch} {E : xE} {L : List Nat} {M0 : xM} (hL : L.length ≤ 6) (hO : isO M0 L) {Y : xY} (F : xFix E (xA E) Y cX7_nextOrder yX7_nextOrder.cls 5) (FR : xRet E Y (some FieldType.boolean) 0 0 (fun r' M' => (nxL L = none → r' = vI (jI 0) ∧ M' = M0) ∧ (∀ L', nxL L = some L' → r' = vI (jI 1) ∧ isO M' L' ∧ L'.length = L.length ∧ qO M0 M')) (fun _ _ => False)) : ∀ (k : Nat) (a9 : Int), (-2 ≤ a9 ∧ a9 + 1 ≤ (L.length : Int) - 1) → (atF L (L.length - 1) = atF L (a9 + 1).toNat) → (a9 + 2).toNat < k → WP l E (xRm 2 0 0) (xA E) Y 0 0 4 [vA 68, vI (jI (L.length : Int)), vI (jI a9), vU, vU] [] M0 := by
  intro k
  induction k with
  | zero => intro a9 ha9 hat hk; exact absurd hk (Nat.not_lt_zero _)
  | succ k ih =>
    intro a9 ha9 hat hk
    have hv0 : 0 ≤ a9 → (M0.1 72 a9.toNat).toInt = ((gt L a9.toNat : Nat) : Int) := fun h => (hO a9.toNat (by omega)).1
    have hv1 : 0 ≤ a9 → (M0.1 72 (a9 + 1).toNat).toInt = ((gt L (a9.toNat + 1) : Nat) : Int) := fun h => by rw [show (a9 + 1).toNat = a9.toNat + 1 by omega]; exact (hO (a9.toNat + 1) (by omega)).1
    have hlt := fun h : 0 ≤ a9 => (hO a9.toNat (by omega)).2
    have hlt1 := fun h : 0 ≤ a9 => (hO (a9.toNat + 1) (by omega)).2
    have hs1 : 0 ≤ a9 → gt L (a9.toNat + 1) < gt L a9.toNat → atF L (a9 + 1).toNat = atF L a9.toNat := fun h hh => by rw [show (a9 + 1).toNat = a9.toNat + 1 by omega]; simp only [atF]; exact if_pos hh
    have hs2 : 0 ≤ a9 → ¬ gt L (a9.toNat + 1) < gt L a9.toNat → atF L (a9 + 1).toNat = a9.toNat + 1 := fun h hh => by rw [show (a9 + 1).toNat = a9.toNat + 1 by omega]; simp only [atF]; exact if_neg hh
    refine x_iload_n F dX7_nextOrder_4 rfl ?_
    refine xj_if_lt (tgt := 31) F dX7_nextOrder_5 (by decide) (by omega) (fun h_1 => ?_) (fun h_1 => ?_)
    · refine x_iload_n F dX7_nextOrder_31 rfl ?_
      refine xj_if_ge (tgt := 37) F dX7_nextOrder_32 (by decide) (by omega) (fun h => ?_) (fun h => ?_)
      · first
        | (exfalso; omega)
        | (have hk9 : atF L (L.length - 1) = a9.toNat + 1 := hat.trans (hs2 h0 (by omega))
           refine x_iload_n F dX7_nextOrder_37 rfl ?_
           refine xj_iconst F dX7_nextOrder_38 ?_
           refine xj_isub F dX7_nextOrder_39 ?_
           refine x_istore_n F dX7_nextOrder_40 (by decide) ?_
           have g := L_X7_nextOrder_41 (l := l) hL hO (by omega) F FR _ (L.length - 1) ⟨Nat.le_refl _, atF_le _ _⟩ rfl (Nat.lt_succ_self _)
           rw [show ((atF L (L.length - 1) : Nat) - 1 : Int) = a9 by omega, show ((L.length - 1 : Nat) : Int) = (L.length : Int) - 1 by omega] at g
           exact g)
      · first
        | (exfalso; omega)
        | (have hz : atF L (L.length - 1) = 0 := (by rw [hat, show (a9 + 1).toNat = 0 by omega]; rfl)
           refine xj_iconst F dX7_nextOrder_35 ?_
           exact x_iret F FR dX7_nextOrder_36 rfl (Nat.le_refl _) (Nat.le_refl _) ⟨fun _ => ⟨rfl, rfl⟩, fun L9 h9 => by unfold nxL at h9; rw [if_pos hz] at h9; cases h9⟩)
    · have h0 : 0 ≤ a9 := by omega
      have hv0 := hv0 h0
      have hv1 := hv1 h0
      refine x_aload_n F dX7_nextOrder_8 rfl ?_
      refine x_getc (v := 72) F flX7_19 rfl dX7_nextOrder_9 (by decide) (by decide) rfl rfl ?_
      refine x_iload_n F dX7_nextOrder_12 rfl ?_
      refine xj_lald2 F rfl dX7_nextOrder_13 (by omega) (fun hg_2 => ?_)
      refine x_aload_n F dX7_nextOrder_14 rfl ?_
      refine x_getc (v := 72) F flX7_19 rfl dX7_nextOrder_15 (by decide) (by decide) rfl rfl ?_
      refine x_iload_n F dX7_nextOrder_18 rfl ?_
      refine xj_iconst F dX7_nextOrder_19 ?_
      refine xj_iadd F dX7_nextOrder_20 ?_
      refine xj_lald2 F rfl dX7_nextOrder_21 (by omega) (fun hg_3 => ?_)
      refine xj_icmp_le (tgt := 31) F dX7_nextOrder_22 (by decide) (by omega) (fun h_4 => ?_) (fun h_4 => ?_)
      · refine x_iload_n F dX7_nextOrder_31 rfl ?_
        refine xj_if_ge (tgt := 37) F dX7_nextOrder_32 (by decide) (by omega) (fun h => ?_) (fun h => ?_)
        · first
          | (exfalso; omega)
          | (have hk9 : atF L (L.length - 1) = a9.toNat + 1 := hat.trans (hs2 h0 (by omega))
             refine x_iload_n F dX7_nextOrder_37 rfl ?_
             refine xj_iconst F dX7_nextOrder_38 ?_
             refine xj_isub F dX7_nextOrder_39 ?_
             refine x_istore_n F dX7_nextOrder_40 (by decide) ?_
             have g := L_X7_nextOrder_41 (l := l) hL hO (by omega) F FR _ (L.length - 1) ⟨Nat.le_refl _, atF_le _ _⟩ rfl (Nat.lt_succ_self _)
             rw [show ((atF L (L.length - 1) : Nat) - 1 : Int) = a9 by omega, show ((L.length - 1 : Nat) : Int) = (L.length : Int) - 1 by omega] at g
             exact g)
        · first
          | (exfalso; omega)
          | (have hz : atF L (L.length - 1) = 0 := (by rw [hat, show (a9 + 1).toNat = 0 by omega]; rfl)
             refine xj_iconst F dX7_nextOrder_35 ?_
             exact x_iret F FR dX7_nextOrder_36 rfl (Nat.le_refl _) (Nat.le_refl _) ⟨fun _ => ⟨rfl, rfl⟩, fun L9 h9 => by unfold nxL at h9; rw [if_pos hz] at h9; cases h9⟩)
      · refine xj_iinc F dX7_nextOrder_25 rfl ?_
        refine x_goto (tgt := 4) F dX7_nextOrder_28 (by decide) ?_
        have g := ih (a9 + -1) (by omega) (by rw [show (a9 + -1 + 1).toNat = a9.toNat from congrArg Int.toNat (by omega), ← hs1 (by omega) (by omega)]; exact hat) (by omega)
        exact g
set_option maxRecDepth 20000 in
theorem m_X7_nextOrder {l : Launch} {E : xE} {L : List Nat} {M0 : xM} (hL : L.length ≤ 6) (hO : isO M0 L) : XP l E 2 yX7_nextOrder cX7_nextOrder 5 (some FieldType.boolean) [vA 68, vI (jI (L.length : Int))] M0 (fun r' M' => (nxL L = none → r' = vI (jI 0) ∧ M' = M0) ∧ (∀ L', nxL L = some L' → r' = vI (jI 1) ∧ isO M' L' ∧ L'.length = L.length ∧ qO M0 M')) := by
  refine xp_start (plainFor_of_name (by decide)) rfl (Nat.le_of_ble_eq_true rfl) ?_
  intro Y F FR
  refine x_iload_n F dX7_nextOrder_0 rfl ?_
  refine xj_iconst F dX7_nextOrder_1 ?_
  refine xj_isub F dX7_nextOrder_2 ?_
  refine x_istore_n F dX7_nextOrder_3 (by decide) ?_
  have g := L_X7_nextOrder_4 (l := l) hL hO F FR _ ((L.length : Int) - 2) (by omega) (congrArg _ (by omega)) (Nat.lt_succ_self _)
  exact g
