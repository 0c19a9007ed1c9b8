/-! WHAT LOOKS ANSWER, OVER EQUAL CHOIRS; THE SHARE -/
theorem eqC_swC {M M' : xM} {c c' : Nat} (h : eqC M M' c c') {i : Nat} (hi : i = 2 ∨ i = 3 ∨ i = 4) (s t : Int) : eqC (swC M (c + i) s t) (swC M' (c' + i) s t) c c' := by
  have e : ∀ z, rdI (M'.1 (c' + i)) 24 z = rdI (M.1 (c + i)) 24 z := fun z => by
    rcases hi with rfl | rfl | rfl
    · exact rd2_e h z
    · exact rd3_e h z
    · exact rd4_e h z
  unfold swC
  rw [e, e]
  exact eqC_wr (eqC_wr h hi _ _) hi _ _
theorem eqC_swQ {M M' : xM} {c c' : Nat} (h : eqC M M' c c') (s t : Int) : eqC (swP M c s t) (swP M' c' s t) c c' := eqC_swC (eqC_swC (eqC_swC h (by omega) s t) (by omega) s t) (by omega) s t
theorem sameX_e {M M' : xM} (h : sameX M M') : eqC M M' 1 1 := qX_e (qX_same h)
theorem orI_e {M M' : xM} (h : eqC M M' 1 1) (z : Int) : orI M' z = orI M z := oaI_e (eqC_up h)
theorem bpF_e {M M' : xM} (h : eqC M M' 1 1) (r : Int) (a : Nat) : ∀ (n : Nat) (q : Int × Int), bpF M' r a n q = bpF M r a n q
  | 0, _ => rfl
  | n + 1, q => by simp only [bpF]; rw [bpF_e h r a n q, oaI_e (eqC_swQ h _ _)]
theorem bpG_e {M M' : xM} (h : eqC M M' 1 1) (r : Int) : ∀ n : Nat, bpG M' r n = bpG M r n
  | 0 => by simp only [bpG]; rw [oaI_e h]
  | n + 1 => by simp only [bpG]; rw [bpG_e h r n, szI_e h, bpF_e h]
theorem bpI_e {M M' : xM} (h : eqC M M' 1 1) (r : Int) : bpI M' r = bpI M r := by unfold bpI; rw [szI_e h, bpG_e h]
theorem brF_e {M M' : xM} (h : eqC M M' 1 1) (x : Int) : ∀ n : Nat, brF M' x n = brF M x n
  | 0 => rfl
  | n + 1 => by simp only [brF]; rw [brF_e h x n, szI_e h, oaI_e (eqC_ar h _ _ _)]
def nb (x : UInt64) : Bool := decide (x &&& 0x7fffffffffffffff ≤ 0x7ff0000000000000)
theorem nb_of {x : UInt64} (h : nb x = true) : vf_n64 x := by
  unfold nb at h
  have h2 := of_decide_eq_true h
  exact h2
def shD (a b : Int) : UInt64 := if 0 < b then FP.ddiv (FP.i2d (jI a)) (FP.i2d (jI b)) else FP.dconst1
theorem shD_n {a b : Int} (ha : 0 ≤ a ∧ a ≤ 24) (hb : 1 ≤ b ∧ b ≤ 24) : vf_n64 (FP.ddiv (FP.i2d (jI a)) (FP.i2d (jI b))) := by
  have t : ∀ a, a < 25 → ∀ b, b < 25 → 1 ≤ b → nb (FP.ddiv (FP.i2d (jI (a : Nat))) (FP.i2d (jI (b : Nat)))) = true := by decide +kernel
  have := nb_of (t a.toNat (by omega) b.toNat (by omega) (by omega))
  rw [show ((a.toNat : Nat) : Int) = a by omega, show ((b.toNat : Nat) : Int) = b by omega] at this
  exact this
theorem szs_b {M : xM} {c : Nat} (hS : ∀ q : Int, 0 ≤ szI M c q ∧ szI M c q ≤ 6) : 0 ≤ sumI (szI M c) 4 ∧ sumI (szI M c) 4 ≤ 24 := sumI_b (b := 6) 4 (fun i _ _ => hS i)
set_option maxRecDepth 20000 in
theorem m_X6_oddShare {l : Launch} {E : xE} {M : xM} (hO : okC M 1) : XF l E 6 yX6_oddShare cX6_oddShare 2 (some FieldType.double) [vA 0] M (vD (shD (oaI M 1) (sumI (szI M 1) 4))) (M) := by
  refine xp_start (plainFor_of_name (by decide)) rfl (Nat.le_of_ble_eq_true rfl) ?_
  intro Y F FR
  have hC : isCh 1 := ch1
  have hC6 : isCh 6 := ch6
  have hS := hS_of hO
  have hsz := szs_b hS
  have hoa := oaI_b hS
  refine x_aload_n F dX6_oddShare_0 rfl ?_
  refine x_getc (v := 1) F flX6_12 rfl dX6_oddShare_1 (by decide) (by decide) rfl rfl ?_
  refine x_V0 F (m_X1_sizeOfAll (by first | assumption | omega | decide) (by first | assumption | omega | decide)) mlX6_165 mvX1_sizeOfAll rfl dX6_oddShare_4 (by decide) rfl ⟨Nat.le_of_ble_eq_true rfl, Nat.le_of_ble_eq_true rfl⟩ ⟨Nat.zero_le _, Nat.zero_le _⟩ (Nat.le_of_ble_eq_true rfl) ?_
  refine x_istore_n F dX6_oddShare_7 (by decide) ?_
  refine x_iload_n F dX6_oddShare_8 rfl ?_
  refine xj_if_le (tgt := 26) F dX6_oddShare_9 (by decide) (by omega) (fun h_1 => ?_) (fun h_1 => ?_)
  · refine x_dconst1 F dX6_oddShare_26 ?_
    first
      | exact x_dret F FR dX6_oddShare_27 (Nat.le_refl _) (Nat.le_refl _) ⟨by unfold shD; rw [if_pos (by omega)], rfl⟩
      | exact x_dret F FR dX6_oddShare_27 (Nat.le_refl _) (Nat.le_refl _) ⟨by unfold shD; rw [if_neg (by omega)], rfl⟩
  · refine x_aload_n F dX6_oddShare_12 rfl ?_
    refine x_getc (v := 1) F flX6_12 rfl dX6_oddShare_13 (by decide) (by decide) rfl rfl ?_
    refine x_V0 F (m_X1_oddOfAll (by first | assumption | omega | decide) (by first | assumption | omega | decide)) mlX6_103 mvX1_oddOfAll rfl dX6_oddShare_16 (by decide) rfl ⟨Nat.le_of_ble_eq_true rfl, Nat.le_of_ble_eq_true rfl⟩ ⟨Nat.zero_le _, Nat.zero_le _⟩ (Nat.le_of_ble_eq_true rfl) ?_
    have hf_2 := oaI_b hS
    refine x_i2d F dX6_oddShare_19 ?_
    refine x_iload_n F dX6_oddShare_20 rfl ?_
    refine x_i2d F dX6_oddShare_21 ?_
    refine x_ddiv F dX6_oddShare_22 (shD_n hoa (by omega)) ?_
    refine x_goto (tgt := 27) F dX6_oddShare_23 (by decide) ?_
    first
      | exact x_dret F FR dX6_oddShare_27 (Nat.le_refl _) (Nat.le_refl _) ⟨by unfold shD; rw [if_pos (by omega)], rfl⟩
      | exact x_dret F FR dX6_oddShare_27 (Nat.le_refl _) (Nat.le_refl _) ⟨by unfold shD; rw [if_neg (by omega)], rfl⟩
