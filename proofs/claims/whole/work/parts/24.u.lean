/-! CHANT -/
def txE (M M' : xM) : Prop := M'.1 48 = M.1 48 ∧ M'.1 49 = M.1 49
theorem txE.t {M M' : xM} (h : txE M M') : tlI M' = tlI M := by unfold tlI; rw [h.1]
theorem txE.c {M M' : xM} (h : txE M M') : cdI M' = cdI M := by funext z; unfold cdI; rw [h.t, h.2]
theorem txE.p {M M' : xM} (h : txE M M') (s : Int) : plI M' s = plI M s := by unfold plI; rw [h.c]
theorem txE.f {M M' : xM} (h : txE M M') (j : Nat) (a i : Int) : ftB M' j a i = ftB M j a i := by unfold ftB; rw [h.c]
theorem txE.r {M M' : xM} (h : txE M M') : ∀ (n : Nat) (s i : Int), fmR M' n s i = fmR M n s i
  | 0, s, i => by simp only [fmR]; rw [h.t]
  | n + 1, s, i => by simp only [fmR]; rw [h.p, h.c, h.f, h.r n, h.r n]
theorem txE.o {M M' : xM} (h : txE M M') : ∀ (n : Nat) (s : Int), hoR M' n s = hoR M n s
  | 0, s => rfl
  | n + 1, s => by simp only [hoR]; rw [h.p, h.t, h.o n]
theorem txE.k {M M' : xM} (h : txE M M') {s : Int} (hp : pOK M s) : pOK M' s := by
  unfold pOK
  rw [h.t, h.p, h.c]
  exact ⟨hp.1, hp.2.1, hp.2.2.1, fun k h1 h2 => by rw [h.f]; exact hp.2.2.2 k h1 h2⟩
theorem txE.b {M M' : xM} (h : txE M M') (hB : okB M) : okB M' := by unfold okB; rw [h.t, h.2]; exact hB
/-- no misfit: the part fits its form, and so does what comes behind it -/
theorem fmR_part {M : xM} {s : Int} : ∀ (n : Nat) (i : Int), s ≤ i → i ≤ s + plI M s → i + n = tlI M → fmR M n s i = tlI M →
    (∀ k : Int, i ≤ k → k < s + plI M s → k < tlI M → ftB M (fmN (cdI M s)) (k - s) k = true) ∧ (s + plI M s < tlI M → s < s + plI M s → cdI M (s + plI M s) = 59 ∧ fmR M (tlI M - (s + plI M s + 1)).toNat (s + plI M s + 1) (s + plI M s + 1) = tlI M) := by
  intro n
  induction n with
  | zero => intro i h1 h2 h3 _; exact ⟨fun k _ _ _ => by omega, fun h _ => by omega⟩
  | succ n ih =>
    intro i h1 h2 h3 h4
    simp only [fmR] at h4
    by_cases hc : s < i ∧ i = s + plI M s
    · rw [if_pos hc] at h4
      refine ⟨fun k _ _ _ => by omega, fun h _ => ?_⟩
      by_cases h59 : cdI M i = 59
      · rw [if_pos h59] at h4
        rw [← hc.2]
        refine ⟨h59, ?_⟩
        rw [show (tlI M - (i + 1)).toNat = n by omega]
        exact h4
      · rw [if_neg h59] at h4; omega
    · rw [if_neg hc] at h4
      by_cases hf : ftB M (fmN (cdI M s)) (i - s) i = true
      · rw [if_pos hf] at h4
        have hlt : i - s < plI M s := by
          unfold ftB at hf
          split at hf
          · rename_i hh; exact hh.2
          · cases hf
        obtain ⟨a1, a2⟩ := ih (i + 1) (by omega) (by omega) (by omega) h4
        refine ⟨fun k k1 k2 k3 => ?_, a2⟩
        by_cases hk : k = i
        · subst hk; exact hf
        · exact a1 k (by omega) k2 k3
      · rw [if_neg hf] at h4; omega
/-- where the text is read on: at a part that fits, or behind the end -/
def cI (M : xM) (n : Nat) (s : Int) : Prop := (0 ≤ s ∧ s < tlI M ∧ fmR M (tlI M - s).toNat s s = tlI M ∧ hoR M n s = true) ∨ s = tlI M + 1
theorem cI_step {M : xM} {n : Nat} {s : Int} (h : cI M (n + 1) s) (hs : s < tlI M) : pOK M s ∧ cI M n (s + plI M s + 1) := by
  rcases h with ⟨h0, h1, h2, h3⟩ | h
  · have hpl := plI_b M s
    obtain ⟨a1, a2⟩ := fmR_part (M := M) (s := s) (tlI M - s).toNat s (by omega) (by omega) (by omega) h2
    have hpos : s < s + plI M s := by
      rcases Int.lt_or_le s (s + plI M s) with h | h
      · exact h
      · exfalso
        have hp0 : plI M s = 0 := by omega
        rw [show (tlI M - s).toNat = (tlI M - s - 1).toNat + 1 by omega] at h2
        simp only [fmR] at h2
        rw [if_neg (by omega)] at h2
        have hf : ¬ ftB M (fmN (cdI M s)) (s - s) s = true := by
          unfold ftB
          rw [if_neg (by unfold plI at hp0; omega)]
          decide
        rw [if_neg hf] at h2
        omega
    simp only [hoR] at h3
    rw [if_pos h1] at h3
    by_cases he : s + plI M s = tlI M
    · exact ⟨⟨h0, h1, by omega, fun k k1 k2 => a1 k k1 k2 (by omega)⟩, Or.inr (by omega)⟩
    · rw [if_neg he] at h3
      have hlt : s + plI M s + 1 < tlI M := by
        cases n with
        | zero => simp only [hoR] at h3; cases h3
        | succ n =>
          simp only [hoR] at h3
          split at h3
          · assumption
          · cases h3
      obtain ⟨-, b2⟩ := a2 (by omega) hpos
      exact ⟨⟨h0, h1, by omega, fun k k1 k2 => a1 k k1 k2 (by omega)⟩, Or.inl ⟨by omega, hlt, b2, h3⟩⟩
  · omega
theorem cI_b {M : xM} {n : Nat} {s : Int} (h : cI M n s) (hB : okB M) : 0 ≤ s ∧ s ≤ 61 := by
  have hb := hB.1
  rcases h with h | h <;> omega
theorem txE.i {M M' : xM} (h : txE M M') {n : Nat} {s : Int} (hc : cI M n s) : cI M' n s := by
  unfold cI
  rw [h.t, h.r, h.o]
  exact hc
theorem cI_start {M : xM} (hB : okB M) (h : whB M = true) : cI M 60 0 := by
  have hb := hB.1
  have hf := fmI_b hB
  unfold whB at h
  split at h
  · cases h
  · have h9 := h
    rw [show hoR M 60 0 = (if 0 < tlI M then (if 0 + plI M 0 = tlI M then true else hoR M 59 (0 + plI M 0 + 1)) else false) from rfl] at h9
    split at h9
    · refine Or.inl ⟨by omega, by assumption, ?_, h⟩
      show fmR M (tlI M - 0).toNat 0 0 = tlI M
      rw [show tlI M - 0 = tlI M by omega]
      show fmI M = tlI M
      omega
    · cases h9
theorem dpM_row (M : xM) (s : Int) {a : Nat} (h : 5 < a) : (dpM M s).1 a = M.1 a := by
  unfold dpM
  split
  · unfold jtM
    split
    · exact arM_at.1 a (by omega)
    · rfl
  · split
    · unfold stM
      split
      · unfold scM; rw [upI_row (by omega), swP_row (by omega)]
      · rfl
    · split
      · exact trM_row (by omega) _
      · split
        · exact srM_row (by omega) _
        · split
          · exact srM_row (by omega) _
          · split
            · exact srM_row (by omega) _
            · rfl
theorem dpM_tx (M : xM) (s : Int) : txE M (dpM M s) := ⟨dpM_row M s (by omega), dpM_row M s (by omega)⟩
theorem okC_dpM {M : xM} {s : Int} (hO : okC M 1) (hp : pOK M s) : okC (dpM M s) 1 := by
  unfold dpM
  split
  · rename_i hx
    have hj := jt_b hp hx
    unfold jtM
    split
    · rename_i hr
      exact okC_arM hO hj.1 hr.1 (by omega)
    · exact hO
  · split
    · unfold stM
      split
      · exact okC_tot (okC_swP hO _ _) (by decide)
      · exact hO
    · split
      · exact okC_trM hO _
      · split
        · exact okC_srM hO _
        · split
          · exact okC_srM hO _
          · split
            · exact okC_srM hO _
            · exact hO
def chN : Nat → Int → xM → xM × Int
  | 0, _, M => (M, 0)
  | n + 1, s, M => if s < tlI M ∧ dpb M s = true then ((chN n (s + plI M s + 1) (dpM M s)).1, (chN n (s + plI M s + 1) (dpM M s)).2 + 1) else (M, 0)
def chX (M : xM) : Int := if ¬ (whB M = true) then 2 else 0
theorem dpM_no {M : xM} {s : Int} (h : ¬ dpb M s = true) : dpM M s = M := by
  unfold dpb at h
  unfold dpM
  split at h
  · rename_i hx
    rw [if_pos hx]
    unfold jtM
    exact if_neg (fun z => h (decide_eq_true z))
  · rename_i hx
    rw [if_neg hx]
    split at h
    · rename_i hy
      rw [if_pos hy]
      unfold stM
      exact if_neg (fun z => h (decide_eq_true z))
    · rename_i hy
      have h2 : ¬ (cdI M s = 116 ∨ cdI M s = 108 ∨ cdI M s = 104 ∨ cdI M s = 118) := fun z => h (decide_eq_true z)
      rw [if_neg hy, if_neg (by omega), if_neg (by omega), if_neg (by omega), if_neg (by omega)]
set_option maxRecDepth 20000 in
theorem L_X6_chant {l : Launch} {E : xE} {M0 : xM} (hX0 : chX M0 = 0) {Y : xY} (F : xFix E (xA E) Y cX6_chant yX6_chant.cls 3) (FR : xRet E Y (some FieldType.int) 6 36 (fun r' M' => r' = vI (jI (chN 60 0 (svM M0 1)).2) ∧ M' = upI (chN 60 0 (svM M0 1)).1 48 1 (jI 0) ∧ chX M0 = 0) (fun C M' => ∃ q9 : Int, chX M0 = q9 ∧ q9 ≠ 0 ∧ C = xcl q9 ∧ M' = M0)) : ∀ (k : Nat) (n : Nat) (s : Int) (M : xM), n ≤ 60 → okC M 1 → okB M → cI M (60 - n) s → (chN (60 - n) s M).1 = (chN 60 0 (svM M0 1)).1 → (n : Int) + (chN (60 - n) s M).2 = (chN 60 0 (svM M0 1)).2 → 60 - n < k → WP l E (xRm 20 6 36) (xA E) Y (0 + 1) (0 + 6) 25 [vA 0, vI (jI (n : Int)), vI (jI s)] [] M := by
  intro k
  induction k with
  | zero => intro n s M hn hOM hBM hcI hR1 hR2 hk; exact absurd hk (Nat.not_lt_zero _)
  | succ k ih =>
    intro n s M hn hOM hBM hcI hR1 hR2 hk
    have hb := hBM.1
    have hsb := cI_b hcI hBM
    refine x_iload_n F dX6_chant_25 rfl ?_
    refine xj_bipush F dX6_chant_26 (by decide) ?_
    refine xj_icmp_ge (tgt := 67) F dX6_chant_28 (by decide) (by omega) (fun h_1 => ?_) (fun h_1 => ?_)
    · have ez : chN (60 - n) s M = (M, 0) := by rw [show 60 - n = 0 by omega]; rfl
      refine x_aload_n F dX6_chant_67 rfl ?_
      refine x_getc (v := 48) F flX6_36 rfl dX6_chant_68 (by decide) (by decide) rfl rfl ?_
      refine x_V0 F (m_X0_empty) mlX6_139 mvX0_empty rfl dX6_chant_71 (by decide) rfl ⟨Nat.le_of_ble_eq_true rfl, Nat.le_of_ble_eq_true rfl⟩ ⟨Nat.le_of_ble_eq_true rfl, Nat.le_of_ble_eq_true rfl⟩ (Nat.le_of_ble_eq_true rfl) ?_
      refine x_iload_n F dX6_chant_74 rfl ?_
      refine x_iret F FR dX6_chant_75 rfl (Nat.le_of_ble_eq_true rfl) (Nat.le_of_ble_eq_true rfl) ?_
      rw [ez] at hR1 hR2
      refine ⟨vj2 ?_, ?_, hX0⟩
      · simp only [] at hR2; omega
      · rw [← hR1]
    · refine x_iload_n F dX6_chant_31 rfl ?_
      refine x_aload_n F dX6_chant_32 rfl ?_
      refine x_getc (v := 48) F flX6_36 rfl dX6_chant_33 (by decide) (by decide) rfl rfl ?_
      refine x_V0 F (m_X0_size) mlX6_132 mvX0_size rfl dX6_chant_36 (by decide) rfl ⟨Nat.le_of_ble_eq_true rfl, Nat.le_of_ble_eq_true rfl⟩ ⟨Nat.le_of_ble_eq_true rfl, Nat.le_of_ble_eq_true rfl⟩ (Nat.le_of_ble_eq_true rfl) ?_
      refine xj_icmp_ge (tgt := 67) F dX6_chant_39 (by decide) (by omega) (fun h_2 => ?_) (fun h_2 => ?_)
      · have ez : chN (60 - n) s M = (M, 0) := by rw [show 60 - n = (60 - n - 1) + 1 by omega]; simp only [chN]; exact if_neg (by omega)
        refine x_aload_n F dX6_chant_67 rfl ?_
        refine x_getc (v := 48) F flX6_36 rfl dX6_chant_68 (by decide) (by decide) rfl rfl ?_
        refine x_V0 F (m_X0_empty) mlX6_139 mvX0_empty rfl dX6_chant_71 (by decide) rfl ⟨Nat.le_of_ble_eq_true rfl, Nat.le_of_ble_eq_true rfl⟩ ⟨Nat.le_of_ble_eq_true rfl, Nat.le_of_ble_eq_true rfl⟩ (Nat.le_of_ble_eq_true rfl) ?_
        refine x_iload_n F dX6_chant_74 rfl ?_
        refine x_iret F FR dX6_chant_75 rfl (Nat.le_of_ble_eq_true rfl) (Nat.le_of_ble_eq_true rfl) ?_
        rw [ez] at hR1 hR2
        refine ⟨vj2 ?_, ?_, hX0⟩
        · simp only [] at hR2; omega
        · rw [← hR1]
      · have hst := cI_step (n := 60 - n - 1) (by rw [show 60 - n - 1 + 1 = 60 - n by omega]; exact hcI) (by omega)
        have hpO := hst.1
        have htx := dpM_tx M s
        refine x_aload_n F dX6_chant_42 rfl ?_
        refine x_iload_n F dX6_chant_43 rfl ?_
        refine x_V1 F (m_X6_doPart hOM hBM hpO) mlX6_149 mvX6_doPart rfl dX6_chant_44 (by decide) rfl ⟨Nat.le_of_ble_eq_true rfl, Nat.le_of_ble_eq_true rfl⟩ ⟨Nat.le_of_ble_eq_true rfl, Nat.le_of_ble_eq_true rfl⟩ (Nat.le_of_ble_eq_true rfl) ?_
        refine xb_if_eq (tgt := 67) F dX6_chant_47 (by decide) (fun h_3 => ?_) (fun h_3 => ?_)
        · rw [dpM_no h_3]
          have ez : chN (60 - n) s M = (M, 0) := by rw [show 60 - n = (60 - n - 1) + 1 by omega]; simp only [chN]; exact if_neg (fun z => h_3 z.2)
          refine x_aload_n F dX6_chant_67 rfl ?_
          refine x_getc (v := 48) F flX6_36 rfl dX6_chant_68 (by decide) (by decide) rfl rfl ?_
          refine x_V0 F (m_X0_empty) mlX6_139 mvX0_empty rfl dX6_chant_71 (by decide) rfl ⟨Nat.le_of_ble_eq_true rfl, Nat.le_of_ble_eq_true rfl⟩ ⟨Nat.le_of_ble_eq_true rfl, Nat.le_of_ble_eq_true rfl⟩ (Nat.le_of_ble_eq_true rfl) ?_
          refine x_iload_n F dX6_chant_74 rfl ?_
          refine x_iret F FR dX6_chant_75 rfl (Nat.le_of_ble_eq_true rfl) (Nat.le_of_ble_eq_true rfl) ?_
          rw [ez] at hR1 hR2
          refine ⟨vj2 ?_, ?_, hX0⟩
          · simp only [] at hR2; omega
          · rw [← hR1]
        · have ez : chN (60 - n) s M = ((chN (60 - n - 1) (s + plI M s + 1) (dpM M s)).1, (chN (60 - n - 1) (s + plI M s + 1) (dpM M s)).2 + 1) := by rw [show 60 - n = (60 - n - 1) + 1 by omega]; simp only [chN]; rw [show 60 - n - 1 + 1 - 1 = 60 - n - 1 by omega]; exact if_pos ⟨by omega, h_3⟩
          have hpl := plI_b M s
          have hBM2 := htx.b hBM
          rw [ez] at hR1 hR2
          have epl := htx.p s
          refine xj_iinc F dX6_chant_50 rfl ?_
          refine x_aload_n F dX6_chant_53 rfl ?_
          refine x_getc (v := 48) F flX6_36 rfl dX6_chant_54 (by decide) (by decide) rfl rfl ?_
          refine x_iload_n F dX6_chant_57 rfl ?_
          refine x_V1 F (m_X0_endOfPart hBM2 (by omega)) mlX6_152 mvX0_endOfPart rfl dX6_chant_58 (by decide) rfl ⟨Nat.le_of_ble_eq_true rfl, Nat.le_of_ble_eq_true rfl⟩ ⟨Nat.le_of_ble_eq_true rfl, Nat.le_of_ble_eq_true rfl⟩ (Nat.le_of_ble_eq_true rfl) ?_
          have hf_4 := plI_b (dpM M s) s
          refine xj_iconst F dX6_chant_61 ?_
          refine xj_iadd F dX6_chant_62 ?_
          refine x_istore_n F dX6_chant_63 (by decide) ?_
          refine x_goto (tgt := 25) F dX6_chant_64 (by decide) ?_
          rw [epl]
          have g := ih (n + 1) (s + plI M s + 1) (dpM M s) (by omega) (okC_dpM hOM hpO) hBM2 (by rw [show 60 - (n + 1) = 60 - n - 1 by omega]; exact htx.i hst.2) (by rw [show 60 - (n + 1) = 60 - n - 1 by omega]; exact hR1) (by rw [show 60 - (n + 1) = 60 - n - 1 by omega]; simp only [] at hR2; omega) (by omega)
          exact g
set_option maxRecDepth 20000 in
theorem m_X6_chant {l : Launch} {E : xE} (hl : l.stackTraces = false) {M0 : xM} (hO : okC M0 1) (hH : okH M0) (hB : okB M0) : XT l E 20 6 36 yX6_chant cX6_chant 3 (some FieldType.int) [vA 0] M0 (fun r' M' => r' = vI (jI (chN 60 0 (svM M0 1)).2) ∧ M' = upI (chN 60 0 (svM M0 1)).1 48 1 (jI 0) ∧ chX M0 = 0) (fun C M' => ∃ q9 : Int, chX M0 = q9 ∧ q9 ≠ 0 ∧ C = xcl q9 ∧ M' = M0) := by
  refine xt_start (plainFor_of_name (by decide)) rfl (Nat.le_of_ble_eq_true rfl) ?_
  intro Y F FR
  have hC : isCh 1 := ch1
  have hC6 : isCh 6 := ch6
  have hS := hS_of hO
  refine x_aload_n F dX6_chant_0 rfl ?_
  refine x_getc (v := 48) F flX6_36 rfl dX6_chant_1 (by decide) (by decide) rfl rfl ?_
  refine x_V0 F (m_X0_isWhole (by first | assumption | omega | decide)) mlX6_145 mvX0_isWhole rfl dX6_chant_4 (by decide) rfl ⟨Nat.le_of_ble_eq_true rfl, Nat.le_of_ble_eq_true rfl⟩ ⟨Nat.le_of_ble_eq_true rfl, Nat.le_of_ble_eq_true rfl⟩ (Nat.le_of_ble_eq_true rfl) ?_
  refine x_callST (As := [_]) F (m_X6_needArgument hl (p := (whB M0 = true))) mlX6_65 msX6_needArgument ⟨Nat.le_of_ble_eq_true rfl, Nat.le_of_ble_eq_true rfl⟩ ⟨Nat.le_of_ble_eq_true rfl, Nat.le_of_ble_eq_true rfl⟩ (Nat.le_of_ble_eq_true rfl) rfl dX6_chant_7 (fun C9 M9 hx9 => x_out F FR (Nat.le_of_ble_eq_true rfl) (Nat.le_of_ble_eq_true rfl) ?_) (fun r9 M9 q9 => ?_)
  · obtain ⟨⟨rfl, e9⟩, hx_1⟩ := hx9
    have e9 := e9.symm
    subst e9
    exact ⟨2, by unfold chX; exact if_pos hx_1, by decide, rfl, rfl⟩
  obtain ⟨⟨rfl, e9⟩, hp_2⟩ := q9
  have e9 := e9.symm
  subst e9
  refine x_aload_n F dX6_chant_10 rfl ?_
  refine x_getc (v := 16) F flX6_29 rfl dX6_chant_11 (by decide) (by decide) rfl rfl ?_
  refine x_aload_n F dX6_chant_14 rfl ?_
  refine x_getc (v := 1) F flX6_12 rfl dX6_chant_15 (by decide) (by decide) rfl rfl ?_
  refine x_V1 F (m_X3_save hC hH) mlX6_76 mvX3_save rfl dX6_chant_18 (by decide) rfl ⟨Nat.le_of_ble_eq_true rfl, Nat.le_of_ble_eq_true rfl⟩ ⟨Nat.le_of_ble_eq_true rfl, Nat.le_of_ble_eq_true rfl⟩ (Nat.le_of_ble_eq_true rfl) ?_
  have hO2 := okC_sv hO
  have hS2 := hS_of hO2
  have hX0 : chX M0 = 0 := by unfold chX; exact if_neg (fun z => z hp_2)
  have htx : txE M0 (svM M0 1) := ⟨svM_row (by omega), svM_row (by omega)⟩
  refine xj_iconst F dX6_chant_21 ?_
  refine x_istore_n F dX6_chant_22 (by decide) ?_
  refine xj_iconst F dX6_chant_23 ?_
  refine x_istore_n F dX6_chant_24 (by decide) ?_
  exact L_X6_chant hX0 F FR _ 0 0 (svM M0 1) (by omega) hO2 (htx.b hB) (htx.i (cI_start hB hp_2)) rfl (by rw [Int.natCast_zero, Int.zero_add]) (Nat.lt_succ_self _)
