/-! THE TIE: the text, part by part -/
def txR (M K : xM) : Prop := ln K = tlI M ∧ ∀ z : Int, cdZ K z = cdI M z
theorem Rl_tx {M K : xM} (h : Rl M K) : txR M K := by
  have hb := h.2.2.2.1.1
  have e11 : ln K = tlI M := congrArg Int32.toInt h.2.2.2.2.1
  refine ⟨e11, fun z => ?_⟩
  unfold cdZ cdI
  rw [e11]
  by_cases c : 0 ≤ z ∧ z < tlI M ∧ z < 60
  · rw [if_pos c, if_pos c, h.2.2.2.2.2 z.toNat (by omega)]
  · rw [if_neg c, if_neg c]
theorem vcx_e (c : Int) : vcZ c = vxI c := by
  have e0 : sB 7 0 = 98 := by decide +kernel
  have e1 : sB 7 (0 + 1) = 116 := by decide +kernel
  have e2 : sB 7 (0 + 1 + 1) = 97 := by decide +kernel
  have e3 : sB 7 (0 + 1 + 1 + 1) = 115 := by decide +kernel
  unfold vcZ vxI
  simp only [fnP, vxP, e0, e1, e2, e3, decide_eq_true_eq]
  (repeat' split) <;> omega
section TXE
variable {M K : xM} {s t a w : Int} {j : Nat}
theorem e_s (T : txR M K) (ht : t = s + a) (ha : 0 ≤ a ∧ a < sLen j) (hw : sB j a = w) (hn : w ≠ 82 ∧ w ≠ 80 ∧ w ≠ 65 ∧ w ≠ 66 ∧ w ≠ 67 ∧ w ≠ 86) : rgB K t w w = ftB M j a (s + a) := by
  unfold rgB ftB ftC
  rw [if_pos ha, hw, if_neg hn.1, if_neg hn.2.1, if_neg hn.2.2.1, if_neg hn.2.2.2.1, if_neg hn.2.2.2.2.1, if_neg hn.2.2.2.2.2, T.2, ht]
  exact decide_eq_decide.mpr ⟨fun h => by omega, fun h => by omega⟩
theorem e_R (T : txR M K) (ht : t = s + a) (ha : 0 ≤ a ∧ a < sLen j) (hw : sB j a = 82) : rgB K t 48 51 = ftB M j a (s + a) := by
  unfold rgB ftB ftC
  rw [if_pos ha, hw, if_pos rfl, T.2, ht]
theorem e_P (T : txR M K) (ht : t = s + a) (ha : 0 ≤ a ∧ a < sLen j) (hw : sB j a = 80) : rgB K t 48 53 = ftB M j a (s + a) := by
  unfold rgB ftB ftC
  rw [if_pos ha, hw, if_neg (by decide), if_pos rfl, T.2, ht]
theorem e_A (T : txR M K) (ht : t = s + a) (ha : 0 ≤ a ∧ a < sLen j) (hw : sB j a = 65) : rgB K t 49 50 = ftB M j a (s + a) := by
  unfold rgB ftB ftC
  rw [if_pos ha, hw, if_neg (by decide), if_neg (by decide), if_pos rfl, T.2, ht]
theorem e_B {t1 : Int} (T : txR M K) (ht : t = s + a) (h1 : t1 = s + a - 1) (ha : 0 ≤ a ∧ a < sLen j) (hw : sB j a = 66) : rgB K t 48 (if cdZ K t1 = 50 then 50 else 57) = ftB M j a (s + a) := by
  have e : ftB M j a (s + a) = decide (48 ≤ cdI M (s + a) ∧ cdI M (s + a) ≤ (if cdI M (s + a - 1) = 50 then 50 else 57)) := by
    unfold ftB ftC
    rw [if_pos ha, hw, if_neg (by decide), if_neg (by decide), if_neg (by decide), if_pos rfl]
  rw [e]
  unfold rgB
  rw [T.2, T.2, ht, h1]
theorem e_C {t1 t2 : Int} (T : txR M K) (ht : t = s + a) (h1 : t1 = s + a - 1) (h2 : t2 = s + a - 2) (ha : 0 ≤ a ∧ a < sLen j) (hw : sB j a = 67) : rgB K t 48 (if cdZ K t2 = 50 ∧ cdZ K t1 = 50 then 48 else 57) = ftB M j a (s + a) := by
  have e : ftB M j a (s + a) = decide (48 ≤ cdI M (s + a) ∧ cdI M (s + a) ≤ (if cdI M (s + a - 2) = 50 ∧ cdI M (s + a - 1) = 50 then 48 else 57)) := by
    unfold ftB ftC
    rw [if_pos ha, hw, if_neg (by decide), if_neg (by decide), if_neg (by decide), if_neg (by decide), if_pos rfl]
  rw [e]
  unfold rgB
  rw [T.2, T.2, T.2, ht, h1, h2]
theorem e_V (T : txR M K) (ht : t = s + a) (ha : 0 ≤ a ∧ a < sLen j) (hw : sB j a = 86) : vcB K t = ftB M j a (s + a) := by
  unfold vcB ftB ftC
  rw [if_pos ha, hw, if_neg (by decide), if_neg (by decide), if_neg (by decide), if_neg (by decide), if_neg (by decide), if_pos rfl, T.2, ht, vcx_e]
theorem e_0 (h : cdI M s = w) (ha : 0 ≤ a ∧ a < sLen j) (h0 : a = 0) (hw : sB j a = w) (hn : w ≠ 82 ∧ w ≠ 80 ∧ w ≠ 65 ∧ w ≠ 66 ∧ w ≠ 67 ∧ w ≠ 86) : true = ftB M j a (s + a) := by
  unfold ftB ftC
  rw [if_pos ha, hw, if_neg hn.1, if_neg hn.2.1, if_neg hn.2.2.1, if_neg hn.2.2.2.1, if_neg hn.2.2.2.2.1, if_neg hn.2.2.2.2.2]
  exact (decide_eq_true (by rw [h0, Int.add_zero]; exact h)).symm
/-- a list says, sign by sign, whether the text fits the form from there on -/
def fts (M : xM) (s : Int) (j : Nat) : Int → List Bool → Prop
  | _, [] => True
  | a, b :: t => b = ftB M j a (s + a) ∧ fts M s j (a + 1) t
theorem ts_j (T : txR M K) (e : cdI M s = 106) : fts M s 0 0 (tsT K s) ∧ (tsT K s).length = 11 := by
  have hcs : cdZ K s = 106 := by rw [T.2, e]
  have eT : tsT K s = [true, rgB K (s + 1) 111 111, rgB K (s + 1 + 1) 105 105, rgB K (s + 1 + 1 + 1) 110 110, rgB K (s + 1 + 3) 58 58, rgB K (s + 1 + 3 + 1) 48 51, rgB K (s + 1 + 3 + 1 + 1) 44 44, rgB K (s + 1 + 3 + 1 + 1 + 1) 49 50, rgB K (s + 1 + 3 + 1 + 1 + 1 + 1) 48 (if cdZ K (s + 1 + 3 + 1 + 1 + 1) = 50 then 50 else 57), rgB K (s + 1 + 3 + 1 + 1 + 1 + 1 + 1) 48 (if cdZ K (s + 1 + 3 + 1 + 1 + 1) = 50 ∧ cdZ K (s + 1 + 3 + 1 + 1 + 1 + 1) = 50 then 48 else 57), vcB K (s + 1 + 3 + 1 + 1 + 4)] := by
    unfold tsT
    rw [hcs]
    rfl
  rw [eT]
  refine ⟨?_, rfl⟩
  simp only [fts]
  exact ⟨e_0 e (by decide +kernel) (by decide) (by decide +kernel) (by decide), e_s T (by omega) (by decide +kernel) (by decide +kernel) (by decide), e_s T (by omega) (by decide +kernel) (by decide +kernel) (by decide), e_s T (by omega) (by decide +kernel) (by decide +kernel) (by decide), e_s T (by omega) (by decide +kernel) (by decide +kernel) (by decide), e_R T (by omega) (by decide +kernel) (by decide +kernel), e_s T (by omega) (by decide +kernel) (by decide +kernel) (by decide), e_A T (by omega) (by decide +kernel) (by decide +kernel), e_B T (by omega) (by omega) (by decide +kernel) (by decide +kernel), e_C T (by omega) (by omega) (by omega) (by decide +kernel) (by decide +kernel), e_V T (by omega) (by decide +kernel) (by decide +kernel), trivial⟩
theorem ts_s (T : txR M K) (e : cdI M s = 115) : fts M s 1 0 (tsT K s) ∧ (tsT K s).length = 9 := by
  have hcs : cdZ K s = 115 := by rw [T.2, e]
  have eT : tsT K s = [true, rgB K (s + 1) 119 119, rgB K (s + 1 + 1) 97 97, rgB K (s + 1 + 1 + 1) 112 112, rgB K (s + 1 + 3) 58 58, rgB K (s + 1 + 3 + 1) 48 51, rgB K (s + 1 + 3 + 1 + 1) 44 44, rgB K (s + 1 + 3 + 1 + 1 + 1) 48 53, rgB K (s + 1 + 3 + 1 + 1 + 1 + 1) 48 53] := by
    unfold tsT
    rw [hcs]
    rfl
  rw [eT]
  refine ⟨?_, rfl⟩
  simp only [fts]
  exact ⟨e_0 e (by decide +kernel) (by decide) (by decide +kernel) (by decide), e_s T (by omega) (by decide +kernel) (by decide +kernel) (by decide), e_s T (by omega) (by decide +kernel) (by decide +kernel) (by decide), e_s T (by omega) (by decide +kernel) (by decide +kernel) (by decide), e_s T (by omega) (by decide +kernel) (by decide +kernel) (by decide), e_R T (by omega) (by decide +kernel) (by decide +kernel), e_s T (by omega) (by decide +kernel) (by decide +kernel) (by decide), e_P T (by omega) (by decide +kernel) (by decide +kernel), e_P T (by omega) (by decide +kernel) (by decide +kernel), trivial⟩
theorem ts_t (T : txR M K) (e : cdI M s = 116) : fts M s 2 0 (tsT K s) ∧ (tsT K s).length = 6 := by
  have hcs : cdZ K s = 116 := by rw [T.2, e]
  have eT : tsT K s = [true, rgB K (s + 1) 117 117, rgB K (s + 1 + 1) 114 114, rgB K (s + 1 + 1 + 1) 110 110, rgB K (s + 1 + 3) 58 58, rgB K (s + 1 + 3 + 1) 48 51] := by
    unfold tsT
    rw [hcs]
    rfl
  rw [eT]
  refine ⟨?_, rfl⟩
  simp only [fts]
  exact ⟨e_0 e (by decide +kernel) (by decide) (by decide +kernel) (by decide), e_s T (by omega) (by decide +kernel) (by decide +kernel) (by decide), e_s T (by omega) (by decide +kernel) (by decide +kernel) (by decide), e_s T (by omega) (by decide +kernel) (by decide +kernel) (by decide), e_s T (by omega) (by decide +kernel) (by decide +kernel) (by decide), e_R T (by omega) (by decide +kernel) (by decide +kernel), trivial⟩
theorem ts_l (T : txR M K) (e : cdI M s = 108) : fts M s 3 0 (tsT K s) ∧ (tsT K s).length = 5 := by
  have hcs : cdZ K s = 108 := by rw [T.2, e]
  have eT : tsT K s = [true, rgB K (s + 1) 111 111, rgB K (s + 1 + 1) 119 119, rgB K (s + 1 + 2) 58 58, rgB K (s + 1 + 2 + 1) 48 51] := by
    unfold tsT
    rw [hcs]
    rfl
  rw [eT]
  refine ⟨?_, rfl⟩
  simp only [fts]
  exact ⟨e_0 e (by decide +kernel) (by decide) (by decide +kernel) (by decide), e_s T (by omega) (by decide +kernel) (by decide +kernel) (by decide), e_s T (by omega) (by decide +kernel) (by decide +kernel) (by decide), e_s T (by omega) (by decide +kernel) (by decide +kernel) (by decide), e_R T (by omega) (by decide +kernel) (by decide +kernel), trivial⟩
theorem ts_h (T : txR M K) (e : cdI M s = 104) : fts M s 4 0 (tsT K s) ∧ (tsT K s).length = 6 := by
  have hcs : cdZ K s = 104 := by rw [T.2, e]
  have eT : tsT K s = [true, rgB K (s + 1) 105 105, rgB K (s + 1 + 1) 103 103, rgB K (s + 1 + 1 + 1) 104 104, rgB K (s + 1 + 3) 58 58, rgB K (s + 1 + 3 + 1) 48 51] := by
    unfold tsT
    rw [hcs]
    rfl
  rw [eT]
  refine ⟨?_, rfl⟩
  simp only [fts]
  exact ⟨e_0 e (by decide +kernel) (by decide) (by decide +kernel) (by decide), e_s T (by omega) (by decide +kernel) (by decide +kernel) (by decide), e_s T (by omega) (by decide +kernel) (by decide +kernel) (by decide), e_s T (by omega) (by decide +kernel) (by decide +kernel) (by decide), e_s T (by omega) (by decide +kernel) (by decide +kernel) (by decide), e_R T (by omega) (by decide +kernel) (by decide +kernel), trivial⟩
theorem ts_v (T : txR M K) (e : cdI M s = 118) : fts M s 5 0 (tsT K s) ∧ (tsT K s).length = 7 := by
  have hcs : cdZ K s = 118 := by rw [T.2, e]
  have eT : tsT K s = [true, rgB K (s + 1) 111 111, rgB K (s + 1 + 1) 105 105, rgB K (s + 1 + 1 + 1) 99 99, rgB K (s + 1 + 3) 101 101, rgB K (s + 1 + 4) 58 58, rgB K (s + 1 + 4 + 1) 48 51] := by
    unfold tsT
    rw [hcs]
    rfl
  rw [eT]
  refine ⟨?_, rfl⟩
  simp only [fts]
  exact ⟨e_0 e (by decide +kernel) (by decide) (by decide +kernel) (by decide), e_s T (by omega) (by decide +kernel) (by decide +kernel) (by decide), e_s T (by omega) (by decide +kernel) (by decide +kernel) (by decide), e_s T (by omega) (by decide +kernel) (by decide +kernel) (by decide), e_s T (by omega) (by decide +kernel) (by decide +kernel) (by decide), e_s T (by omega) (by decide +kernel) (by decide +kernel) (by decide), e_R T (by omega) (by decide +kernel) (by decide +kernel), trivial⟩
theorem ts_fts (T : txR M K) (hw : isW (cdI M s) = true) : fts M s (fmN (cdI M s)) 0 (tsT K s) ∧ ((tsT K s).length : Int) = plI M s := by
  unfold plI
  rcases isW_iff.mp hw with e | e | e | e | e | e
  · have h := ts_j T e
    rw [e, h.2]
    exact ⟨h.1, rfl⟩
  · have h := ts_s T e
    rw [e, h.2]
    exact ⟨h.1, rfl⟩
  · have h := ts_t T e
    rw [e, h.2]
    exact ⟨h.1, rfl⟩
  · have h := ts_l T e
    rw [e, h.2]
    exact ⟨h.1, rfl⟩
  · have h := ts_h T e
    rw [e, h.2]
    exact ⟨h.1, rfl⟩
  · have h := ts_v T e
    rw [e, h.2]
    exact ⟨h.1, rfl⟩
theorem sB_pos : ∀ j, j < 8 → ∀ z : Nat, z < sLen j → 0 < sB j z := by decide +kernel
theorem cdI_in {z : Int} (h : cdI M z ≠ 0) : 0 ≤ z ∧ z < tlI M := by
  unfold cdI at h
  split at h
  · omega
  · exact absurd rfl h
theorem ft_in {i : Int} (hj : j < 8) (h : ftB M j a i = true) : 0 ≤ i ∧ i < tlI M := by
  refine cdI_in (fun z => ?_)
  unfold ftB at h
  split at h
  · rename_i ha
    have hp := sB_pos j hj a.toNat (by omega)
    rw [show ((a.toNat : Nat) : Int) = a by omega] at hp
    rw [z] at h
    unfold ftC at h
    have hv : vxI 0 = -1 := by decide +kernel
    rw [hv] at h
    (repeat' split at h) <;> (have h9 := of_decide_eq_true h; omega)
  · cases h
theorem pf_lt : ∀ {l : List Bool}, ¬ al l = true → pf l < l.length
  | [], h => absurd rfl h
  | b :: t, h => by
    by_cases hb : b = true
    · rw [al_t hb] at h
      rw [pf_t hb]
      have := pf_lt h
      rw [List.length_cons]
      omega
    · rw [pf_f hb, List.length_cons]
      omega
theorem fmR_fts {n : Int} (hn : plI M s = n) : ∀ (L : List Bool) (a : Int), fts M s (fmN (cdI M s)) a L → a + L.length = n → 0 ≤ a → s + a ≤ tlI M →
    (fmR M (tlI M - (s + a)).toNat s (s + a) = if al L = true then fmR M (tlI M - (s + n)).toNat s (s + n) else s + a + pf L) ∧ s + a + pf L ≤ tlI M
  | [], a, _, h2, h3, h4 => by
    have e : a = n := by simpa using h2
    subst e
    exact ⟨rfl, by simp only [pf]; omega⟩
  | b :: t, a, h1, h2, h3, h4 => by
    obtain ⟨hb, ht⟩ := h1
    rw [List.length_cons] at h2
    by_cases c : b = true
    · rw [al_t c, pf_t c]
      rw [c] at hb
      have hi := ft_in (fmN_lt _) hb.symm
      obtain ⟨i1, i2⟩ := fmR_fts hn t (a + 1) ht (by omega) (by omega) (by omega)
      refine ⟨?_, by omega⟩
      rw [show (tlI M - (s + a)).toNat = (tlI M - (s + (a + 1))).toNat + 1 by omega]
      simp only [fmR]
      rw [if_neg (by omega), show s + a - s = a by omega, if_pos hb.symm, show s + a + 1 = s + (a + 1) by omega, i1]
      split
      · rfl
      · omega
    · rw [if_neg (fun z => by rw [al, Bool.and_eq_true] at z; exact c z.1), pf_f c]
      refine ⟨?_, by omega⟩
      by_cases hl : s + a < tlI M
      · rw [show (tlI M - (s + a)).toNat = (tlI M - (s + a + 1)).toNat + 1 by omega]
        simp only [fmR]
        rw [if_neg (by omega), show s + a - s = a by omega, if_neg (by rw [← hb]; exact c)]
        omega
      · rw [show (tlI M - (s + a)).toNat = 0 by omega]
        simp only [fmR]
        omega
theorem fts_at : ∀ (L : List Bool) (a k : Int), fts M s j a L → al L = true → a ≤ k → k < a + L.length → ftB M j k (s + k) = true
  | [], a, k, _, _, h3, h4 => by simp only [List.length_nil] at h4; omega
  | b :: t, a, k, h1, h2, h3, h4 => by
    obtain ⟨hb, ht⟩ := h1
    rw [List.length_cons] at h4
    have h2' : b = true ∧ al t = true := by
      rw [al, Bool.and_eq_true] at h2
      exact h2
    by_cases hk : k = a
    · rw [hk, ← hb]; exact h2'.1
    · exact fts_at t (a + 1) k ht h2'.2 (by omega) (by omega)
/-- one part -/
theorem fmR_ts (T : txR M K) (hs : 0 ≤ s ∧ s ≤ tlI M) :
    (al (tsT K s) = true → fmR M (tlI M - s).toNat s s = fmR M (tlI M - (s + plI M s)).toNat s (s + plI M s) ∧ pf (tsT K s) = plI M s ∧ 5 ≤ plI M s ∧ s + plI M s ≤ tlI M ∧ pOK M s) ∧
    (¬ al (tsT K s) = true → fmR M (tlI M - s).toNat s s = s + pf (tsT K s) ∧ (s + pf (tsT K s) = tlI M → tlI M ≤ s ∨ tlI M < s + plI M s)) := by
  by_cases hw : isW (cdI M s) = true
  · obtain ⟨h1, h2⟩ := ts_fts T hw
    obtain ⟨f1, f2⟩ := fmR_fts rfl (tsT K s) 0 h1 (by omega) (by omega) (by omega)
    rw [Int.add_zero] at f1 f2
    refine ⟨fun h => ?_, fun h => ?_⟩
    · rw [if_pos h] at f1
      have e := pf_al h
      have g := tsT_in h
      refine ⟨f1, by omega, by omega, by omega, hs.1, by omega, by omega, fun k k1 k2 => ?_⟩
      have := fts_at (tsT K s) 0 (k - s) h1 h (by omega) (by omega)
      rw [show s + (k - s) = k by omega] at this
      exact this
    · rw [if_neg h] at f1
      have := pf_lt h
      exact ⟨f1, fun e => Or.inr (by omega)⟩
  · have eT : tsT K s = [false] := by
      unfold tsT
      rw [if_neg (by rw [T.2]; exact hw)]
    have e6 : fmN (cdI M s) = 6 := by
      unfold fmN
      have h := fun z => hw (isW_iff.mpr z)
      rw [if_neg (fun z => h (Or.inl z)), if_neg (fun z => h (Or.inr (Or.inl z))), if_neg (fun z => h (Or.inr (Or.inr (Or.inl z)))), if_neg (fun z => h (Or.inr (Or.inr (Or.inr (Or.inl z))))), if_neg (fun z => h (Or.inr (Or.inr (Or.inr (Or.inr (Or.inl z)))))), if_neg (fun z => h (Or.inr (Or.inr (Or.inr (Or.inr (Or.inr z))))))]
    rw [eT]
    refine ⟨fun h => absurd h (by decide), fun _ => ⟨?_, fun e => Or.inl (by simp only [pf] at e; rw [if_neg (by decide)] at e; omega)⟩⟩
    have ep : pf [false] = 0 := rfl
    rw [ep]
    by_cases hl : s < tlI M
    · rw [show (tlI M - s).toNat = (tlI M - (s + 1)).toNat + 1 by omega]
      simp only [fmR]
      rw [if_neg (by omega), e6]
      have hf : ¬ ftB M 6 (s - s) s = true := by
        unfold ftB
        rw [if_neg (fun z => by have : sLen 6 = 0 := rfl
                                rw [this] at z
                                omega)]
        decide
      rw [if_neg hf]
      omega
    · rw [show (tlI M - s).toNat = 0 by omega]
      simp only [fmR]
      omega
theorem hoR_gt : ∀ (g : Nat) (s : Int), tlI M ≤ s → hoR M g s = false
  | 0, _, _ => rfl
  | g + 1, s, h => by simp only [hoR]; exact if_neg (by omega)
/-- the whole text: where the first misfit is; whether it is parts -/
theorem fz_tie (T : txR M K) : ∀ (f : Nat) (s : Int), 0 ≤ s → s ≤ tlI M → tlI M - s < 6 * (f : Int) →
    fmR M (tlI M - s).toNat s s = (fzR K f s).1 ∧ (fmR M (tlI M - s).toNat s s = tlI M → ∀ g : Nat, f ≤ g → hoR M g s = (fzR K f s).2.1)
  | 0, s, h0, h1, h2 => by omega
  | f + 1, s, h0, h1, h2 => by
    obtain ⟨p1, p2⟩ := fmR_ts T ⟨h0, h1⟩
    simp only [fzR]
    by_cases h : al (tsT K s) = true
    · obtain ⟨a1, a2, a3, a4, -⟩ := p1 h
      rw [if_pos h, a2, a1, T.2]
      by_cases h9 : cdI M (s + plI M s) = 59
      · have hin := cdI_in (M := M) (z := s + plI M s) (by omega)
        rw [if_pos h9]
        have hstep : fmR M (tlI M - (s + plI M s)).toNat s (s + plI M s) = fmR M (tlI M - (s + plI M s + 1)).toNat (s + plI M s + 1) (s + plI M s + 1) := by
          rw [show (tlI M - (s + plI M s)).toNat = (tlI M - (s + plI M s + 1)).toNat + 1 by omega]
          simp only [fmR]
          rw [if_pos ⟨by omega, trivial⟩, if_pos h9]
        obtain ⟨i1, i2⟩ := fz_tie T f (s + plI M s + 1) (by omega) (by omega) (by omega)
        rw [hstep]
        refine ⟨i1, fun e g hg => ?_⟩
        obtain ⟨g', rfl⟩ : ∃ g', g = g' + 1 := ⟨g - 1, by omega⟩
        simp only [hoR]
        rw [if_pos (by omega), if_neg (by omega)]
        exact i2 e g' (by omega)
      · rw [if_neg h9]
        by_cases hl : s + plI M s = tlI M
        · refine ⟨?_, fun e g hg => ?_⟩
          · rw [hl, show (tlI M - tlI M).toNat = 0 by omega]
            rfl
          · obtain ⟨g', rfl⟩ : ∃ g', g = g' + 1 := ⟨g - 1, by omega⟩
            simp only [hoR]
            rw [if_pos (by omega), if_pos hl]
        · have hstep : fmR M (tlI M - (s + plI M s)).toNat s (s + plI M s) = s + plI M s := by
            rw [show (tlI M - (s + plI M s)).toNat = (tlI M - (s + plI M s + 1)).toNat + 1 by omega]
            simp only [fmR]
            rw [if_pos ⟨by omega, trivial⟩, if_neg h9]
          rw [hstep]
          exact ⟨rfl, fun e => absurd e hl⟩
    · obtain ⟨b1, b2⟩ := p2 h
      rw [if_neg h]
      refine ⟨b1, fun e g hg => ?_⟩
      rw [b1] at e
      obtain ⟨g', rfl⟩ : ∃ g', g = g' + 1 := ⟨g - 1, by omega⟩
      rcases b2 e with c | c
      · exact hoR_gt _ s c
      · simp only [hoR]
        by_cases hl : s < tlI M
        · rw [if_pos hl, if_neg (by omega)]
          exact hoR_gt _ _ (by omega)
        · exact if_neg hl
end TXE
theorem fe_tie {M K : xM} (h : Rl M K) : fmI M = feZ K ∧ whB M = wcP K ∧ (wcP K = true → (fzZ K).2.1 = true ∧ (fzZ K).1 = tlI M) := by
  have T := Rl_tx h
  have hb : 0 ≤ tlI M ∧ tlI M ≤ 60 := h.2.2.2.1.1
  obtain ⟨f1, f2⟩ := fz_tie T 12 0 (by omega) hb.1 (by omega)
  have e0 : fmR M (tlI M - 0).toNat 0 0 = fmI M := by rw [Int.sub_zero]; rfl
  rw [e0] at f1 f2
  have e1 : (fzZ K).1 = fmI M := f1.symm
  refine ⟨?_, ?_, fun hw => ?_⟩
  · unfold feZ
    by_cases hw : wcP K = true
    · rw [if_pos hw]
      unfold wcP at hw
      rw [Bool.and_eq_true, decide_eq_true_iff] at hw
      rw [← hw.2, e1]
    · rw [if_neg hw, e1]
  · unfold whB wcP
    rw [e1, T.1]
    by_cases hl : fmI M = tlI M
    · rw [if_neg (by omega), decide_eq_true hl, Bool.and_true]
      exact f2 hl 60 (by omega)
    · have := (fmI_b h.2.2.2.1).2
      rw [if_pos (by omega), decide_eq_false hl, Bool.and_false]
  · unfold wcP at hw
    rw [Bool.and_eq_true, decide_eq_true_iff, T.1] at hw
    exact hw
