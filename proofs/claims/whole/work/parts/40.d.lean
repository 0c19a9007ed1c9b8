/-! THE MODEL reads a text. s the spot; tests that a sign stands there: Bools in a row, pf how many of them hold up to the first that does not -/
def sp (M : xM) : Int := (M.1 68 12).toInt
def pa (M : xM) : Int := (M.1 68 13).toInt
def ln (M : xM) : Int := (M.1 68 11).toInt
def cdZ (M : xM) (k : Int) : Int := if 0 ≤ k ∧ k < ln M ∧ k < 60 then (M.1 74 k.toNat).toInt else 0
def spM (M : xM) (s : Int) : xM := upI M 68 12 (jI s)
def okW (M : xM) : Prop := (0 ≤ ln M ∧ ln M ≤ 60) ∧ ∀ i : Nat, i < 60 → 0 ≤ (M.1 74 i).toInt ∧ (M.1 74 i).toInt < 128
def rgB (M : xM) (s a b : Int) : Bool := decide (a ≤ cdZ M s ∧ cdZ M s ≤ b)
def pf : List Bool → Int
  | [] => 0
  | b :: t => if b = true then 1 + pf t else 0
def al : List Bool → Bool
  | [] => true
  | b :: t => b && al t
theorem pf_b : ∀ l : List Bool, 0 ≤ pf l ∧ pf l ≤ l.length
  | [] => ⟨Int.le_refl _, Int.le_refl _⟩
  | b :: t => by
    have := pf_b t
    simp only [pf, List.length_cons]
    split <;> omega
theorem pf_al : ∀ {l : List Bool}, al l = true → pf l = l.length
  | [], _ => rfl
  | b :: t, h => by
    simp only [al, Bool.and_eq_true] at h
    simp only [pf, List.length_cons]
    rw [if_pos h.1, pf_al h.2]
    omega
theorem pf_ap : ∀ (l m : List Bool), pf (l ++ m) = if al l = true then l.length + pf m else pf l
  | [], m => by simp [al]
  | b :: t, m => by
    simp only [List.cons_append, pf, al, List.length_cons, Bool.and_eq_true]
    by_cases hb : b = true
    · rw [if_pos hb, pf_ap t m, if_pos hb]
      by_cases ht : al t = true
      · rw [if_pos ht, if_pos ⟨hb, ht⟩]; omega
      · rw [if_neg ht, if_neg (fun z => ht z.2)]
    · rw [if_neg hb, if_neg hb, if_neg (fun z => hb z.1)]
theorem al_ap : ∀ (l m : List Bool), al (l ++ m) = (al l && al m)
  | [], m => rfl
  | b :: t, m => by simp only [List.cons_append, al, al_ap t m, Bool.and_assoc]
theorem pf_t {b : Bool} {t : List Bool} (h : b = true) : pf (b :: t) = 1 + pf t := if_pos h
theorem pf_f {b : Bool} {t : List Bool} (h : ¬ b = true) : pf (b :: t) = 0 := if_neg h
theorem al_t {b : Bool} {t : List Bool} (h : b = true) : al (b :: t) = al t := by simp only [al, h, Bool.true_and]
theorem al_f {b : Bool} {t : List Bool} (h : ¬ b = true) : al (b :: t) = false := by simp only [al, Bool.eq_false_iff.mpr h, Bool.false_and]
theorem spM_sp (M : xM) {s : Int} (h : rg s) : sp (spM M s) = s := by unfold sp spM; rw [upI_1, if_pos ⟨rfl, rfl⟩, jI_toInt h]
theorem spM_spM (M : xM) (s t : Int) : spM (spM M s) t = spM M t := by
  refine Prod.ext (funext fun b => funext fun j => ?_) rfl
  unfold spM
  rw [upI_1, upI_1, upI_1]
  split <;> rfl
theorem spM_self (M : xM) : spM M (sp M) = M := by
  refine Prod.ext (funext fun b => funext fun j => ?_) rfl
  unfold spM
  rw [upI_1]
  split
  · rename_i h; rw [h.1, h.2]; exact jI_of _
  · rfl
theorem spM_k (M : xM) (s : Int) {k : Nat} (h : k ≠ 12) : (spM M s).1 68 k = M.1 68 k := by unfold spM; rw [upI_1, if_neg (fun z => h z.2)]
theorem spM_row (M : xM) (s : Int) {a : Nat} (h : a ≠ 68) : (spM M s).1 a = M.1 a := by unfold spM; rw [upI_row h]
theorem spM_up (M : xM) (s : Int) {a k : Nat} {x : Int32} (h : a ≠ 68) : upI (spM M s) a k x = spM (upI M a k x) s := by
  refine Prod.ext (funext fun b => funext fun j => ?_) rfl
  unfold spM
  rw [upI_1, upI_1, upI_1, upI_1]
  by_cases hb : b = 68
  · subst hb; rw [if_neg (fun z => h z.1.symm)]; split
    · rfl
    · rw [if_neg (fun z => h z.1.symm)]
  · rw [if_neg (fun z => hb z.1) (c := b = 68 ∧ j = 12), if_neg (fun z => hb z.1) (c := b = 68 ∧ j = 12)]
theorem cdZ_up {M : xM} {a k : Nat} {x : Int32} (h : a ≠ 74) (h2 : a ≠ 68 ∨ k ≠ 11) (z : Int) : cdZ (upI M a k x) z = cdZ M z := by
  have e : (upI M a k x).1 68 11 = M.1 68 11 := by rw [upI_1, if_neg (by omega)]
  unfold cdZ ln
  rw [upI_row (b := 74) (fun z => h z.symm), e]
theorem cdZ_sp (M : xM) (s z : Int) : cdZ (spM M s) z = cdZ M z := cdZ_up (by decide) (Or.inr (by decide)) z
theorem cdZ_in {M : xM} {k : Int} (h : cdZ M k ≠ 0) : 0 ≤ k ∧ k < ln M ∧ k < 60 := by
  unfold cdZ at h
  by_cases hc : 0 ≤ k ∧ k < ln M ∧ k < 60
  · exact hc
  · exact absurd (if_neg hc) h
theorem cdZ_b {M : xM} (h : okW M) (z : Int) : 0 ≤ cdZ M z ∧ cdZ M z < 128 := by
  unfold cdZ
  split
  · exact h.2 _ (by omega)
  · omega
theorem rgB_in {M : xM} {s a b : Int} (h : rgB M s a b = true) (ha : 1 ≤ a) : (0 ≤ s ∧ s < ln M ∧ s < 60) ∧ a ≤ cdZ M s ∧ cdZ M s ≤ b := by
  have h2 := of_decide_eq_true h
  exact ⟨cdZ_in (by omega), h2⟩
set_option maxRecDepth 20000 in
theorem m_X7_isAt {l : Launch} {E : xE} {s a b : Int} {M0 : xM} (hY : okW M0) (hs : 0 ≤ s ∧ s ≤ 60) (ha : 1 ≤ a ∧ a < 1000) (hb : 0 ≤ b ∧ b < 1000) : XF l E 2 yX7_isAt cX7_isAt 3 (some FieldType.boolean) [vA 68, vI (jI a), vI (jI b)] (spM M0 s) (vI (jb (rgB M0 s a b = true))) ((spM M0 s)) := by
  refine xp_start (plainFor_of_name (by decide)) rfl (Nat.le_of_ble_eq_true rfl) ?_
  intro Y F FR
  have e11 : ((spM M0 s).1 68 11).toInt = ln M0 := by rw [spM_k _ _ (by decide)]; rfl
  have e12 : ((spM M0 s).1 68 12).toInt = s := spM_sp M0 (by omega)
  have hln := hY.1
  have e74 : (spM M0 s).1 74 = M0.1 74 := spM_row _ _ (by decide)
  have hcb := cdZ_b hY s
  have hcd : 0 ≤ s → s < ln M0 → cdZ M0 s = (M0.1 74 s.toNat).toInt := fun h1 h2 => if_pos ⟨h1, h2, by omega⟩
  have hcn : ln M0 ≤ s → cdZ M0 s = 0 := fun h => if_neg (by omega)
  refine x_aload_n F dX7_isAt_0 rfl ?_
  refine xj_geti F flX7_148 rfl dX7_isAt_1 (by decide) (by decide) rfl (fun hg_1 => ?_)
  refine x_aload_n F dX7_isAt_4 rfl ?_
  refine xj_geti F flX7_145 rfl dX7_isAt_5 (by decide) (by decide) rfl (fun hg_2 => ?_)
  rw [e12, e11]
  refine xj_icmp_ge (tgt := 32) F dX7_isAt_8 (by decide) (by omega) (fun h_3 => ?_) (fun h_3 => ?_)
  · have hcn := hcn (by omega)
    refine xj_iconst F dX7_isAt_32 ?_
    refine x_iret F FR dX7_isAt_33 rfl (Nat.le_refl _) (Nat.le_refl _) ?_
    first
      | exact ⟨by rw [jb_t (show rgB M0 s a b = true from decide_eq_true (by omega))], rfl⟩
      | exact ⟨by rw [jb_f (show ¬ rgB M0 s a b = true from fun z => absurd (of_decide_eq_true z) (by omega))], rfl⟩
  · have hcd := hcd (by omega) (by omega)
    refine x_aload_n F dX7_isAt_11 rfl ?_
    refine x_getc (v := 74) F flX7_25 rfl dX7_isAt_12 (by decide) (by decide) rfl rfl ?_
    refine x_aload_n F dX7_isAt_15 rfl ?_
    refine xj_geti F flX7_148 rfl dX7_isAt_16 (by decide) (by decide) rfl (fun hg_4 => ?_)
    rw [e12]
    refine xj_lald2 F rfl dX7_isAt_19 (by omega) (fun hg_5 => ?_)
    rw [e74]
    refine x_iload_n F dX7_isAt_20 rfl ?_
    refine x_iload_n F dX7_isAt_21 rfl ?_
    refine x_S3 F (m_X7_in (by first | assumption | omega | decide) (by first | assumption | omega | decide) (by first | assumption | omega | decide)) mlX7_44 msX7_in dX7_isAt_22 ⟨Nat.le_of_ble_eq_true rfl, Nat.le_of_ble_eq_true rfl⟩ ⟨Nat.zero_le _, Nat.zero_le _⟩ (Nat.le_of_ble_eq_true rfl) ?_
    refine xb_if_eq (tgt := 32) F dX7_isAt_25 (by decide) (fun h_6 => ?_) (fun h_6 => ?_)
    · refine xj_iconst F dX7_isAt_32 ?_
      refine x_iret F FR dX7_isAt_33 rfl (Nat.le_refl _) (Nat.le_refl _) ?_
      first
        | exact ⟨by rw [jb_t (show rgB M0 s a b = true from decide_eq_true (by omega))], rfl⟩
        | exact ⟨by rw [jb_f (show ¬ rgB M0 s a b = true from fun z => absurd (of_decide_eq_true z) (by omega))], rfl⟩
    · refine xj_iconst F dX7_isAt_28 ?_
      refine x_goto (tgt := 33) F dX7_isAt_29 (by decide) ?_
      refine x_iret F FR dX7_isAt_33 rfl (Nat.le_refl _) (Nat.le_refl _) ?_
      first
        | exact ⟨by rw [jb_t (show rgB M0 s a b = true from decide_eq_true (by omega))], rfl⟩
        | exact ⟨by rw [jb_f (show ¬ rgB M0 s a b = true from fun z => absurd (of_decide_eq_true z) (by omega))], rfl⟩
set_option maxRecDepth 20000 in
theorem m_X7_takes {l : Launch} {E : xE} {s a b : Int} {M0 : xM} (hY : okW M0) (hs : 0 ≤ s ∧ s ≤ 60) (ha : 1 ≤ a ∧ a < 1000) (hb : 0 ≤ b ∧ b < 1000) : XF l E 3 yX7_takes cX7_takes 4 (some FieldType.boolean) [vA 68, vI (jI a), vI (jI b)] (spM M0 s) (vI (jb (rgB M0 s a b = true))) ((spM M0 (s + b01 (rgB M0 s a b)))) := by
  refine xp_start (plainFor_of_name (by decide)) rfl (Nat.le_of_ble_eq_true rfl) ?_
  intro Y F FR
  have e11 : ((spM M0 s).1 68 11).toInt = ln M0 := by rw [spM_k _ _ (by decide)]; rfl
  have e12 : ((spM M0 s).1 68 12).toInt = s := spM_sp M0 (by omega)
  have hln := hY.1
  have e74 : (spM M0 s).1 74 = M0.1 74 := spM_row _ _ (by decide)
  refine x_aload_n F dX7_takes_0 rfl ?_
  refine x_iload_n F dX7_takes_1 rfl ?_
  refine x_iload_n F dX7_takes_2 rfl ?_
  refine x_V2 F (m_X7_isAt hY hs ha hb) mlX7_151 mvX7_isAt rfl dX7_takes_3 (by decide) rfl ⟨Nat.le_of_ble_eq_true rfl, Nat.le_of_ble_eq_true rfl⟩ ⟨Nat.zero_le _, Nat.zero_le _⟩ (Nat.le_of_ble_eq_true rfl) ?_
  refine x_istore_n F dX7_takes_6 (by decide) ?_
  refine x_aload_n F dX7_takes_7 rfl ?_
  refine x_dup F dX7_takes_8 rfl ?_
  refine xj_geti F flX7_148 rfl dX7_takes_9 (by decide) (by decide) rfl (fun hg_1 => ?_)
  refine x_iload_n F dX7_takes_12 rfl ?_
  refine xb_if_eq (tgt := 20) F dX7_takes_13 (by decide) (fun h_2 => ?_) (fun h_2 => ?_)
  · rw [e12]
    refine xj_iconst F dX7_takes_20 ?_
    refine xj_iadd F dX7_takes_21 ?_
    refine x_puti F flX7_148 rfl dX7_takes_22 (by decide) (by decide) rfl fw7_12 rfl rfl ?_
    refine x_iload_n F dX7_takes_25 rfl ?_
    refine x_iret F FR dX7_takes_26 (jb_nar _) (Nat.le_refl _) (Nat.le_refl _) ?_
    have e2 : ∀ x, upI (spM M0 s) 68 12 (jI x) = spM M0 x := fun x => spM_spM M0 s x
    rw [e2]
    first
      | (rw [b01_t (by assumption)]; exact ⟨rfl, rfl⟩)
      | (rw [b01_f (by assumption)]; exact ⟨rfl, rfl⟩)
  · rw [e12]
    refine xj_iconst F dX7_takes_16 ?_
    refine x_goto (tgt := 21) F dX7_takes_17 (by decide) ?_
    refine xj_iadd F dX7_takes_21 ?_
    refine x_puti F flX7_148 rfl dX7_takes_22 (by decide) (by decide) rfl fw7_12 rfl rfl ?_
    refine x_iload_n F dX7_takes_25 rfl ?_
    refine x_iret F FR dX7_takes_26 (jb_nar _) (Nat.le_refl _) (Nat.le_refl _) ?_
    have e2 : ∀ x, upI (spM M0 s) 68 12 (jI x) = spM M0 x := fun x => spM_spM M0 s x
    rw [e2]
    first
      | (rw [b01_t (by assumption)]; exact ⟨rfl, rfl⟩)
      | (rw [b01_f (by assumption)]; exact ⟨rfl, rfl⟩)
set_option maxRecDepth 20000 in
theorem m_X7_takesSign {l : Launch} {E : xE} {s a : Int} {M0 : xM} (hY : okW M0) (hs : 0 ≤ s ∧ s ≤ 60) (ha : 1 ≤ a ∧ a < 1000) : XF l E 4 yX7_takesSign cX7_takesSign 2 (some FieldType.boolean) [vA 68, vI (jI a)] (spM M0 s) (vI (jb (rgB M0 s a a = true))) ((spM M0 (s + b01 (rgB M0 s a a)))) := by
  refine xp_start (plainFor_of_name (by decide)) rfl (Nat.le_of_ble_eq_true rfl) ?_
  intro Y F FR
  refine x_aload_n F dX7_takesSign_0 rfl ?_
  refine x_iload_n F dX7_takesSign_1 rfl ?_
  refine x_iload_n F dX7_takesSign_2 rfl ?_
  refine x_V2 F (m_X7_takes hY hs ha (by omega)) mlX7_154 mvX7_takes rfl dX7_takesSign_3 (by decide) rfl ⟨Nat.le_of_ble_eq_true rfl, Nat.le_of_ble_eq_true rfl⟩ ⟨Nat.zero_le _, Nat.zero_le _⟩ (Nat.le_of_ble_eq_true rfl) ?_
  refine x_iret F FR dX7_takesSign_6 (jb_nar _) (Nat.le_refl _) (Nat.le_refl _) ?_
  exact ⟨rfl, rfl⟩
def twT (M : xM) (s b c d : Int) : List Bool := rgB M s b b :: rgB M (s + 1) c c :: (if d = 0 then [] else [rgB M (s + 1 + 1) d d])
def wdT (M : xM) (s c : Int) : List Bool := if c = 106 then twT M s 111 105 110 else if c = 115 then twT M s 119 97 112 else if c = 116 then twT M s 117 114 110 else if c = 108 then twT M s 111 119 0 else if c = 104 then twT M s 105 103 104 else if c = 118 then twT M s 111 105 99 ++ [rgB M (s + 3) 101 101] else [false]
set_option maxRecDepth 20000 in
theorem m_X7_takesWord {l : Launch} {E : xE} {s b c d : Int} {M0 : xM} (hY : okW M0) (hs : 0 ≤ s ∧ s ≤ 60) (hb : 1 ≤ b ∧ b < 1000) (hc : 1 ≤ c ∧ c < 1000) (hd9 : 0 ≤ d ∧ d < 1000) : XF l E 5 yX7_takesWord cX7_takesWord 4 (some FieldType.boolean) [vA 68, vI (jI b), vI (jI c), vI (jI d)] (spM M0 s) (vI (jb (al (twT M0 s b c d) = true))) ((spM M0 (s + pf (twT M0 s b c d)))) := by
  refine xp_start (plainFor_of_name (by decide)) rfl (Nat.le_of_ble_eq_true rfl) ?_
  intro Y F FR
  refine x_aload_n F dX7_takesWord_0 rfl ?_
  refine x_iload_n F dX7_takesWord_1 rfl ?_
  refine x_V1 F (m_X7_takesSign (M0 := M0) (s := s) hY hs hb) mlX7_157 mvX7_takesSign rfl dX7_takesWord_2 (by decide) rfl ⟨Nat.le_of_ble_eq_true rfl, Nat.le_of_ble_eq_true rfl⟩ ⟨Nat.zero_le _, Nat.zero_le _⟩ (Nat.le_of_ble_eq_true rfl) ?_
  refine xb_if_eq (tgt := 32) F dX7_takesWord_5 (by decide) (fun h_1 => ?_) (fun h_1 => ?_)
  · have zn1 := h_1
    refine xj_iconst F dX7_takesWord_32 ?_
    refine x_iret F FR dX7_takesWord_33 rfl (Nat.le_refl _) (Nat.le_refl _) ?_
    first
      | exact ⟨by rw [jb_f (show ¬ al (twT M0 s b c d) = true by unfold twT; rw [al_f zn1]; decide)], by unfold twT; rw [pf_f zn1, b01_f zn1] <;> first | rfl | (congr 1; omega)⟩
      | exact ⟨by rw [jb_f (show ¬ al (twT M0 s b c d) = true by unfold twT; rw [al_t zp1, al_f zn2]; decide)], by unfold twT; rw [pf_t zp1, pf_f zn2, b01_f zn2] <;> first | rfl | (congr 1; omega)⟩
      | exact ⟨by rw [jb_f (show ¬ al (twT M0 s b c d) = true by unfold twT; rw [al_t zp1, al_t zp2, if_neg zhd, al_f zn3]; decide)], by unfold twT; rw [pf_t zp1, pf_t zp2, if_neg zhd, pf_f zn3, b01_f zn3] <;> first | rfl | (congr 1; omega)⟩
      | exact ⟨by rw [jb_t (show al (twT M0 s b c d) = true by unfold twT; rw [al_t zp1, al_t zp2, if_pos zhd0]; rfl)], by unfold twT; rw [pf_t zp1, pf_t zp2, if_pos zhd0]; show _ = spM M0 (s + (1 + (1 + 0))); exact congrArg (spM M0) (by omega)⟩
      | exact ⟨by rw [jb_t (show al (twT M0 s b c d) = true by unfold twT; rw [al_t zp1, al_t zp2, if_neg zhd, al_t zp3]; rfl)], by unfold twT; rw [pf_t zp1, pf_t zp2, if_neg zhd, pf_t zp3, b01_t zp3]; show _ = spM M0 (s + (1 + (1 + (1 + 0)))); exact congrArg (spM M0) (by omega)⟩
  · have zp1 := h_1
    have zi1 := rgB_in zp1 (by omega)
    have hln := hY.1
    rw [b01_t zp1]
    refine x_aload_n F dX7_takesWord_8 rfl ?_
    refine x_iload_n F dX7_takesWord_9 rfl ?_
    refine x_V1 F (m_X7_takesSign (M0 := M0) (s := s + 1) hY (by omega) hc) mlX7_157 mvX7_takesSign rfl dX7_takesWord_10 (by decide) rfl ⟨Nat.le_of_ble_eq_true rfl, Nat.le_of_ble_eq_true rfl⟩ ⟨Nat.zero_le _, Nat.zero_le _⟩ (Nat.le_of_ble_eq_true rfl) ?_
    refine xb_if_eq (tgt := 32) F dX7_takesWord_13 (by decide) (fun h_2 => ?_) (fun h_2 => ?_)
    · have zn2 := h_2
      refine xj_iconst F dX7_takesWord_32 ?_
      refine x_iret F FR dX7_takesWord_33 rfl (Nat.le_refl _) (Nat.le_refl _) ?_
      first
        | exact ⟨by rw [jb_f (show ¬ al (twT M0 s b c d) = true by unfold twT; rw [al_f zn1]; decide)], by unfold twT; rw [pf_f zn1, b01_f zn1] <;> first | rfl | (congr 1; omega)⟩
        | exact ⟨by rw [jb_f (show ¬ al (twT M0 s b c d) = true by unfold twT; rw [al_t zp1, al_f zn2]; decide)], by unfold twT; rw [pf_t zp1, pf_f zn2, b01_f zn2] <;> first | rfl | (congr 1; omega)⟩
        | exact ⟨by rw [jb_f (show ¬ al (twT M0 s b c d) = true by unfold twT; rw [al_t zp1, al_t zp2, if_neg zhd, al_f zn3]; decide)], by unfold twT; rw [pf_t zp1, pf_t zp2, if_neg zhd, pf_f zn3, b01_f zn3] <;> first | rfl | (congr 1; omega)⟩
        | exact ⟨by rw [jb_t (show al (twT M0 s b c d) = true by unfold twT; rw [al_t zp1, al_t zp2, if_pos zhd0]; rfl)], by unfold twT; rw [pf_t zp1, pf_t zp2, if_pos zhd0]; show _ = spM M0 (s + (1 + (1 + 0))); exact congrArg (spM M0) (by omega)⟩
        | exact ⟨by rw [jb_t (show al (twT M0 s b c d) = true by unfold twT; rw [al_t zp1, al_t zp2, if_neg zhd, al_t zp3]; rfl)], by unfold twT; rw [pf_t zp1, pf_t zp2, if_neg zhd, pf_t zp3, b01_t zp3]; show _ = spM M0 (s + (1 + (1 + (1 + 0)))); exact congrArg (spM M0) (by omega)⟩
    · have zp2 := h_2
      have zi2 := rgB_in zp2 (by omega)
      rw [b01_t zp2]
      refine x_iload_n F dX7_takesWord_16 rfl ?_
      refine xj_if_eq (tgt := 28) F dX7_takesWord_17 (by decide) (by omega) (fun h_3 => ?_) (fun h_3 => ?_)
      · have zhd0 : d = 0 := h_3
        refine xj_iconst F dX7_takesWord_28 ?_
        refine x_goto (tgt := 33) F dX7_takesWord_29 (by decide) ?_
        refine x_iret F FR dX7_takesWord_33 rfl (Nat.le_refl _) (Nat.le_refl _) ?_
        first
          | exact ⟨by rw [jb_f (show ¬ al (twT M0 s b c d) = true by unfold twT; rw [al_f zn1]; decide)], by unfold twT; rw [pf_f zn1, b01_f zn1] <;> first | rfl | (congr 1; omega)⟩
          | exact ⟨by rw [jb_f (show ¬ al (twT M0 s b c d) = true by unfold twT; rw [al_t zp1, al_f zn2]; decide)], by unfold twT; rw [pf_t zp1, pf_f zn2, b01_f zn2] <;> first | rfl | (congr 1; omega)⟩
          | exact ⟨by rw [jb_f (show ¬ al (twT M0 s b c d) = true by unfold twT; rw [al_t zp1, al_t zp2, if_neg zhd, al_f zn3]; decide)], by unfold twT; rw [pf_t zp1, pf_t zp2, if_neg zhd, pf_f zn3, b01_f zn3] <;> first | rfl | (congr 1; omega)⟩
          | exact ⟨by rw [jb_t (show al (twT M0 s b c d) = true by unfold twT; rw [al_t zp1, al_t zp2, if_pos zhd0]; rfl)], by unfold twT; rw [pf_t zp1, pf_t zp2, if_pos zhd0]; show _ = spM M0 (s + (1 + (1 + 0))); exact congrArg (spM M0) (by omega)⟩
          | exact ⟨by rw [jb_t (show al (twT M0 s b c d) = true by unfold twT; rw [al_t zp1, al_t zp2, if_neg zhd, al_t zp3]; rfl)], by unfold twT; rw [pf_t zp1, pf_t zp2, if_neg zhd, pf_t zp3, b01_t zp3]; show _ = spM M0 (s + (1 + (1 + (1 + 0)))); exact congrArg (spM M0) (by omega)⟩
      · have zhd : ¬ d = 0 := h_3
        refine x_aload_n F dX7_takesWord_20 rfl ?_
        refine x_iload_n F dX7_takesWord_21 rfl ?_
        refine x_V1 F (m_X7_takesSign (M0 := M0) (s := s + 1 + 1) hY (by omega) (by omega)) mlX7_157 mvX7_takesSign rfl dX7_takesWord_22 (by decide) rfl ⟨Nat.le_of_ble_eq_true rfl, Nat.le_of_ble_eq_true rfl⟩ ⟨Nat.zero_le _, Nat.zero_le _⟩ (Nat.le_of_ble_eq_true rfl) ?_
        refine xb_if_eq (tgt := 32) F dX7_takesWord_25 (by decide) (fun h_4 => ?_) (fun h_4 => ?_)
        · have zn3 := h_4
          refine xj_iconst F dX7_takesWord_32 ?_
          refine x_iret F FR dX7_takesWord_33 rfl (Nat.le_refl _) (Nat.le_refl _) ?_
          first
            | exact ⟨by rw [jb_f (show ¬ al (twT M0 s b c d) = true by unfold twT; rw [al_f zn1]; decide)], by unfold twT; rw [pf_f zn1, b01_f zn1] <;> first | rfl | (congr 1; omega)⟩
            | exact ⟨by rw [jb_f (show ¬ al (twT M0 s b c d) = true by unfold twT; rw [al_t zp1, al_f zn2]; decide)], by unfold twT; rw [pf_t zp1, pf_f zn2, b01_f zn2] <;> first | rfl | (congr 1; omega)⟩
            | exact ⟨by rw [jb_f (show ¬ al (twT M0 s b c d) = true by unfold twT; rw [al_t zp1, al_t zp2, if_neg zhd, al_f zn3]; decide)], by unfold twT; rw [pf_t zp1, pf_t zp2, if_neg zhd, pf_f zn3, b01_f zn3] <;> first | rfl | (congr 1; omega)⟩
            | exact ⟨by rw [jb_t (show al (twT M0 s b c d) = true by unfold twT; rw [al_t zp1, al_t zp2, if_pos zhd0]; rfl)], by unfold twT; rw [pf_t zp1, pf_t zp2, if_pos zhd0]; show _ = spM M0 (s + (1 + (1 + 0))); exact congrArg (spM M0) (by omega)⟩
            | exact ⟨by rw [jb_t (show al (twT M0 s b c d) = true by unfold twT; rw [al_t zp1, al_t zp2, if_neg zhd, al_t zp3]; rfl)], by unfold twT; rw [pf_t zp1, pf_t zp2, if_neg zhd, pf_t zp3, b01_t zp3]; show _ = spM M0 (s + (1 + (1 + (1 + 0)))); exact congrArg (spM M0) (by omega)⟩
        · have zp3 := h_4
          refine xj_iconst F dX7_takesWord_28 ?_
          refine x_goto (tgt := 33) F dX7_takesWord_29 (by decide) ?_
          refine x_iret F FR dX7_takesWord_33 rfl (Nat.le_refl _) (Nat.le_refl _) ?_
          first
            | exact ⟨by rw [jb_f (show ¬ al (twT M0 s b c d) = true by unfold twT; rw [al_f zn1]; decide)], by unfold twT; rw [pf_f zn1, b01_f zn1] <;> first | rfl | (congr 1; omega)⟩
            | exact ⟨by rw [jb_f (show ¬ al (twT M0 s b c d) = true by unfold twT; rw [al_t zp1, al_f zn2]; decide)], by unfold twT; rw [pf_t zp1, pf_f zn2, b01_f zn2] <;> first | rfl | (congr 1; omega)⟩
            | exact ⟨by rw [jb_f (show ¬ al (twT M0 s b c d) = true by unfold twT; rw [al_t zp1, al_t zp2, if_neg zhd, al_f zn3]; decide)], by unfold twT; rw [pf_t zp1, pf_t zp2, if_neg zhd, pf_f zn3, b01_f zn3] <;> first | rfl | (congr 1; omega)⟩
            | exact ⟨by rw [jb_t (show al (twT M0 s b c d) = true by unfold twT; rw [al_t zp1, al_t zp2, if_pos zhd0]; rfl)], by unfold twT; rw [pf_t zp1, pf_t zp2, if_pos zhd0]; show _ = spM M0 (s + (1 + (1 + 0))); exact congrArg (spM M0) (by omega)⟩
            | exact ⟨by rw [jb_t (show al (twT M0 s b c d) = true by unfold twT; rw [al_t zp1, al_t zp2, if_neg zhd, al_t zp3]; rfl)], by unfold twT; rw [pf_t zp1, pf_t zp2, if_neg zhd, pf_t zp3, b01_t zp3]; show _ = spM M0 (s + (1 + (1 + (1 + 0)))); exact congrArg (spM M0) (by omega)⟩
