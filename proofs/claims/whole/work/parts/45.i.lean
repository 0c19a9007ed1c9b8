/-! THE MODEL reads the whole text -/
theorem rgB_of {M N : xM} (h : ∀ z, cdZ N z = cdZ M z) (s a b : Int) : rgB N s a b = rgB M s a b := by unfold rgB; rw [h]
theorem twT_of {M N : xM} (h : ∀ z, cdZ N z = cdZ M z) (s b c d : Int) : twT N s b c d = twT M s b c d := by unfold twT; rw [rgB_of h, rgB_of h, rgB_of h]
theorem wdT_of {M N : xM} (h : ∀ z, cdZ N z = cdZ M z) (s c : Int) : wdT N s c = wdT M s c := by unfold wdT; rw [twT_of h, twT_of h, twT_of h, twT_of h, twT_of h, twT_of h, rgB_of h]
theorem htT_of {M N : xM} (h : ∀ z, cdZ N z = cdZ M z) (s : Int) : htT N s = htT M s := by unfold htT; rw [rgB_of h, rgB_of h, rgB_of h, h, h]
theorem plT_of {M N : xM} (h : ∀ z, cdZ N z = cdZ M z) (s : Int) : plT N s = plT M s := by unfold plT; rw [rgB_of h, rgB_of h]
theorem vcB_of {M N : xM} (h : ∀ z, cdZ N z = cdZ M z) (s : Int) : vcB N s = vcB M s := by unfold vcB; rw [h]
theorem htV_of {M N : xM} (h : ∀ z, cdZ N z = cdZ M z) (s : Int) : htV N s = htV M s := by unfold htV; rw [h, h, h]
theorem tlT_of {M N : xM} (h : ∀ z, cdZ N z = cdZ M z) (s c : Int) : tlT N s c = tlT M s c := by unfold tlT; rw [rgB_of h, htT_of h, vcB_of h, plT_of h]
theorem tsT_of {M N : xM} (h : ∀ z, cdZ N z = cdZ M z) (s : Int) : tsT N s = tsT M s := by unfold tsT; rw [h, wdT_of h, rgB_of h, rgB_of h, tlT_of h]
def fzR (M : xM) : Nat → Int → Int × (Bool × List Int)
  | 0, s => (s, (false, []))
  | n + 1, s => if al (tsT M s) = true then (if cdZ M (s + pf (tsT M s)) = 59 then ((fzR M n (s + pf (tsT M s) + 1)).1, ((fzR M n (s + pf (tsT M s) + 1)).2.1, s :: (fzR M n (s + pf (tsT M s) + 1)).2.2)) else (s + pf (tsT M s), (true, [s]))) else (s + pf (tsT M s), (false, []))
def fzZ (M : xM) : Int × (Bool × List Int) := fzR M 12 0
def wcP (M : xM) : Bool := (fzZ M).2.1 && decide ((fzZ M).1 = ln M)
def rdX (M0 M : xM) : Prop := (∀ a, a ≠ 68 → a ≠ 75 → a ≠ 76 → a ≠ 77 → a ≠ 78 → M.1 a = M0.1 a) ∧ (∀ k, k ≠ 12 → k ≠ 13 → M.1 68 k = M0.1 68 k) ∧ M.2 = M0.2
def recZ (M0 M : xM) (i : Nat) (s : Int) : Prop := (M.1 75 i).toInt = cdZ M0 s ∧ (M.1 76 i).toInt = cdZ M0 (s + 1 + wdN (cdZ M0 s) + 1) - 48 ∧
  (cdZ M0 s = 106 → (M.1 77 i).toInt = htV M0 (s + 1 + wdN (cdZ M0 s) + 1 + 1 + 1) ∧ (M.1 78 i).toInt = vcZ (cdZ M0 (s + 1 + wdN (cdZ M0 s) + 1 + 1 + 4))) ∧
  (cdZ M0 s = 115 → (M.1 77 i).toInt = cdZ M0 (s + 1 + wdN (cdZ M0 s) + 1 + 1 + 1) - 48 ∧ (M.1 78 i).toInt = cdZ M0 (s + 1 + wdN (cdZ M0 s) + 1 + 1 + 1 + 1) - 48)
def recs (M0 M : xM) (l : List Int) : Prop := pa M = (l.length : Int) ∧ ∀ i s, l[i]? = some s → recZ M0 M i s
def icQ (M0 : xM) (r' : xV) (M' : xM) : Prop := ∃ M9, r' = vI (jb (wcP M0 = true)) ∧ M' = spM M9 (fzZ M0).1 ∧ rdX M0 M9 ∧ (wcP M0 = true → recs M0 M9 (fzZ M0).2.2)
theorem rdX_cd {M0 M : xM} (h : rdX M0 M) (z : Int) : cdZ M z = cdZ M0 z := by
  unfold cdZ ln
  rw [h.2.1 11 (by decide) (by decide), h.1 74 (by decide) (by decide) (by decide) (by decide) (by decide)]
theorem rdX_ok {M0 M : xM} (h : rdX M0 M) (hY : okW M0) : okW M := by
  unfold okW ln
  rw [h.2.1 11 (by decide) (by decide), h.1 74 (by decide) (by decide) (by decide) (by decide) (by decide)]
  exact hY
theorem rdX_ln {M0 M : xM} (h : rdX M0 M) : ln M = ln M0 := by unfold ln; rw [h.2.1 11 (by decide) (by decide)]
theorem rdX_W {M0 M N : xM} (h : rdX M0 M) (hw : rdW M N) : rdX M0 N := ⟨fun a h1 h2 h3 h4 h5 => (hw.1 a h1 h2 h3 h4 h5).trans (h.1 a h1 h2 h3 h4 h5), fun k h1 h2 => (hw.2.1 k h1 h2).trans (h.2.1 k h1 h2), hw.2.2.2.trans h.2.2⟩
theorem recs_add {M0 M N : xM} {l : List Int} {s : Int} (hx : rdX M0 M) (h : recs M0 M l) (hw : rdW M N) (hc : rcW M s N) : recs M0 N (l ++ [s]) := by
  obtain ⟨h1, h2⟩ := h
  have hcd := rdX_cd hx
  have hpn : (pa M).toNat = l.length := by rw [h1]; omega
  unfold rcW at hc
  rw [hpn, hcd, hcd, htV_of hcd, hcd, hcd, hcd] at hc
  obtain ⟨c1, c2, c3, c4, c5⟩ := hc
  refine ⟨by rw [c1, h1, List.length_append]; simp, fun i t hi => ?_⟩
  rcases Nat.lt_or_ge i l.length with hl | hl
  · rw [List.getElem?_append_left hl] at hi
    have e : ∀ a, a ≠ 68 → N.1 a i = M.1 a i := fun a ha => hw.2.2.1 a i ha (by omega)
    unfold recZ
    rw [e 75 (by decide), e 76 (by decide), e 77 (by decide), e 78 (by decide)]
    exact h2 i t hi
  · rw [List.getElem?_append_right hl] at hi
    have h0 : i - l.length = 0 := by
      rcases Nat.eq_zero_or_pos (i - l.length) with z | z
      · exact z
      · rw [List.getElem?_eq_none (by simp; omega)] at hi; cases hi
    rw [h0] at hi
    have : s = t := by simpa using hi
    subst this
    have : i = l.length := by omega
    subst this
    exact ⟨c2, c3, c4, c5⟩
theorem tlT_in {M : xM} {t c : Int} (ht : 0 ≤ t ∧ t ≤ ln M) (h : al (tlT M t c) = true) : t + pf (tlT M t c) ≤ ln M := by
  rw [pf_al h]
  unfold tlT at h ⊢
  by_cases h1 : c = 106
  · rw [if_pos h1] at h ⊢
    simp only [al, al_ap, Bool.and_eq_true] at h
    have h2 := htT_in h.2.1
    have h3 : vcB M (t + 4) = true := by simpa [al] using h.2.2
    have h4 := of_decide_eq_true h3
    have h5 := cdZ_in (M := M) (k := t + 4) (fun z => by rw [z] at h4; exact absurd h4 (by decide))
    simp only [List.length_cons, List.length_append, htT, List.length_nil]
    omega
  · rw [if_neg h1] at h ⊢
    by_cases h2 : c = 115
    · rw [if_pos h2] at h ⊢
      unfold plT at h ⊢
      simp only [al, Bool.and_eq_true] at h
      have h3 := rgB_in h.2.2.1 (by decide)
      simp only [List.length_cons, List.length_nil]
      omega
    · rw [if_neg h2]
      simp only [List.length_nil]
      omega
theorem tsT_in {M : xM} {s : Int} (h : al (tsT M s) = true) : 0 ≤ s ∧ 5 ≤ pf (tsT M s) ∧ s + pf (tsT M s) ≤ ln M := by
  have hw : isW (cdZ M s) = true := by
    by_cases hw : isW (cdZ M s) = true
    · exact hw
    · unfold tsT at h; rw [if_neg hw] at h; cases h
  have h0 : al (wdT M (s + 1) (cdZ M s)) = true ∧ rgB M (s + 1 + wdN (cdZ M s)) 58 58 = true ∧ rgB M (s + 1 + wdN (cdZ M s) + 1) 48 51 = true := by
    unfold tsT at h
    rw [if_pos hw, al_t rfl, al_ap, Bool.and_eq_true] at h
    simp only [al, Bool.and_eq_true] at h
    exact ⟨h.1, h.2.1, h.2.2.1⟩
  obtain ⟨g1, g2⟩ := tsT_go rfl hw h0.1 h0.2.1 h0.2.2
  have hwi := isW_iff.mp hw
  have hsi := cdZ_in (M := M) (k := s) (by omega)
  have hwb := wdN_b (cdZ M s)
  have hr := rgB_in h0.2.2 (by decide)
  have ht := tlT_in (M := M) (t := s + 1 + wdN (cdZ M s) + 1 + 1) (c := cdZ M s) (by omega) (by rw [← g1]; exact h)
  have := (pf_b (tlT M (s + 1 + wdN (cdZ M s) + 1 + 1) (cdZ M s))).1
  omega
theorem wdT_l (M : xM) (s c : Int) : (wdT M s c).length ≤ 4 := by
  have h : ∀ b c d, (twT M s b c d).length ≤ 3 := fun b c d => by unfold twT; split <;> simp
  unfold wdT
  repeat' split
  · exact Nat.le_succ_of_le (h _ _ _)
  · exact Nat.le_succ_of_le (h _ _ _)
  · exact Nat.le_succ_of_le (h _ _ _)
  · exact Nat.le_succ_of_le (h _ _ _)
  · exact Nat.le_succ_of_le (h _ _ _)
  · rw [List.length_append]; exact Nat.add_le_add (h _ _ _) (Nat.le_refl 1)
  · decide
theorem tlT_l (M : xM) (s c : Int) : (tlT M s c).length ≤ 5 := by
  unfold tlT
  repeat' split
  · simp [htT]
  · simp [plT]
  · simp
theorem tsT_l (M : xM) (s : Int) : pf (tsT M s) ≤ 12 := by
  have h := (pf_b (tsT M s)).2
  have h2 : (tsT M s).length ≤ 12 := by
    unfold tsT
    split
    · have := wdT_l M (s + 1) (cdZ M s)
      have := tlT_l M (s + 1 + wdN (cdZ M s) + 1 + 1) (cdZ M s)
      simp only [List.length_cons, List.length_append]
      omega
    · decide
  omega
theorem tsT_le {M : xM} (hY : okW M) {s : Int} (hs : 0 ≤ s ∧ s ≤ ln M) : 0 ≤ pf (tsT M s) := (pf_b _).1
abbrev oLI : Type := List Int
set_option maxRecDepth 20000 in
theorem L_X7_isChants_15 {l : Launch} {E : xE} {M0 : xM} (hY : okW M0) {Y : xY} (F : xFix E (xA E) Y cX7_isChants yX7_isChants.cls 2) (FR : xRet E Y (some FieldType.boolean) 0 0 (fun r' M' => icQ M0 r' M') (fun _ _ => False)) : ∀ (k : Nat) (M9 : xM) (n : Nat) (s : Int) (done : oLI), (rdX M0 M9 ∧ recs M0 M9 (done ++ (if al (tsT M0 s) = true then [s] else [])) ∧ (((fzR M0 (n + 1) s).1, ((fzR M0 (n + 1) s).2.1, done ++ (fzR M0 (n + 1) s).2.2)) = fzZ M0) ∧ (0 ≤ s ∧ s ≤ ln M0 ∧ 6 * (done.length : Int) ≤ s) ∧ n + 1 + done.length = 12) → n < k → WP l E (xRm 10 0 0) (xA E) Y 0 0 15 [vA 68, vI (jb (al (tsT M0 s) = true))] [] (spM M9 (s + pf (tsT M0 s))) := by
  intro k
  induction k with
  | zero => intro M9 n s done hI hk; exact absurd hk (Nat.not_lt_zero _)
  | succ k ih =>
    intro M9 n s done hI hk
    obtain ⟨hX, hrc, hr0, hs0, hn⟩ := hI
    have hln := hY.1
    have hY9 := rdX_ok hX hY
    have hcd9 := rdX_cd hX
    have hpb := pf_b (tsT M0 s)
    have hpl := tsT_l M0 s
    have hrg : rgB M9 (s + pf (tsT M0 s)) 59 59 = rgB M0 (s + pf (tsT M0 s)) 59 59 := rgB_of hcd9 _ _ _
    have e12 : ((spM M9 (s + pf (tsT M0 s))).1 68 12).toInt = s + pf (tsT M0 s) := spM_sp M9 (by omega)
    have e11 : ((spM M9 (s + pf (tsT M0 s))).1 68 11).toInt = ln M0 := (by rw [spM_k _ _ (by decide)]; exact rdX_ln hX)
    refine x_iload_n F dX7_isChants_15 rfl ?_
    refine xb_if_eq (tgt := 36) F dX7_isChants_16 (by decide) (fun h_1 => ?_) (fun h_1 => ?_)
    · have zna := h_1
      refine x_iload_n F dX7_isChants_36 rfl ?_
      refine xb_if_eq (tgt := 55) F dX7_isChants_37 (by decide) (fun h_2 => ?_) (fun h_2 => ?_)
      · have znb := h_2
        refine xj_iconst F dX7_isChants_55 ?_
        refine x_iret F FR dX7_isChants_56 rfl (Nat.le_refl _) (Nat.le_refl _) ?_
        first
          | have zguard := zna; exact absurd zyb zguard
          | have zguard := zns; exact absurd zya znb
          | (have zguard := zna
             have hst : fzR M0 (n + 1) s = (s + pf (tsT M0 s), (false, [])) := (by rw [fzR, if_neg zna])
             rw [hst] at hr0
             have hwc : ¬ wcP M0 = true := (by unfold wcP; rw [← hr0]; exact fun z => Bool.false_ne_true z)
             exact ⟨M9, by rw [jb_f hwc], by rw [← hr0], hX, fun z => absurd z hwc⟩)
          | (have zguard := zcs
             have hst : fzR M0 (n + 1) s = (s + pf (tsT M0 s), (true, [s])) := (by rw [fzR, if_pos zya, if_neg zcs])
             rw [hst] at hr0
             rw [if_pos zya] at hrc
             first
               | (have hwc : wcP M0 = true := (by unfold wcP; rw [← hr0]; exact decide_eq_true (by omega))
                  exact ⟨M9, by rw [jb_t hwc], by rw [← hr0], hX, fun _ => by rw [← hr0]; exact hrc⟩)
               | (have hwc : ¬ wcP M0 = true := (by unfold wcP; rw [← hr0]; exact fun z => absurd (of_decide_eq_true z) (by omega))
                  exact ⟨M9, by rw [jb_f hwc], by rw [← hr0], hX, fun z => absurd z hwc⟩))
      · have zyb := h_2
        refine x_aload_n F dX7_isChants_40 rfl ?_
        refine xj_geti F flX7_148 rfl dX7_isChants_41 (by decide) (by decide) rfl (fun hg_3 => ?_)
        rw [e12]
        refine x_aload_n F dX7_isChants_44 rfl ?_
        refine xj_geti F flX7_145 rfl dX7_isChants_45 (by decide) (by decide) rfl (fun hg_4 => ?_)
        rw [e11]
        refine xj_icmp_ne (tgt := 55) F dX7_isChants_48 (by decide) (by omega) (fun h_5 => ?_) (fun h_5 => ?_)
        · refine xj_iconst F dX7_isChants_55 ?_
          refine x_iret F FR dX7_isChants_56 rfl (Nat.le_refl _) (Nat.le_refl _) ?_
          first
            | have zguard := zna; exact absurd zyb zguard
            | have zguard := zns; exact absurd zya znb
            | (have zguard := zna
               have hst : fzR M0 (n + 1) s = (s + pf (tsT M0 s), (false, [])) := (by rw [fzR, if_neg zna])
               rw [hst] at hr0
               have hwc : ¬ wcP M0 = true := (by unfold wcP; rw [← hr0]; exact fun z => Bool.false_ne_true z)
               exact ⟨M9, by rw [jb_f hwc], by rw [← hr0], hX, fun z => absurd z hwc⟩)
            | (have zguard := zcs
               have hst : fzR M0 (n + 1) s = (s + pf (tsT M0 s), (true, [s])) := (by rw [fzR, if_pos zya, if_neg zcs])
               rw [hst] at hr0
               rw [if_pos zya] at hrc
               first
                 | (have hwc : wcP M0 = true := (by unfold wcP; rw [← hr0]; exact decide_eq_true (by omega))
                    exact ⟨M9, by rw [jb_t hwc], by rw [← hr0], hX, fun _ => by rw [← hr0]; exact hrc⟩)
                 | (have hwc : ¬ wcP M0 = true := (by unfold wcP; rw [← hr0]; exact fun z => absurd (of_decide_eq_true z) (by omega))
                    exact ⟨M9, by rw [jb_f hwc], by rw [← hr0], hX, fun z => absurd z hwc⟩))
        · refine xj_iconst F dX7_isChants_51 ?_
          refine x_goto (tgt := 56) F dX7_isChants_52 (by decide) ?_
          refine x_iret F FR dX7_isChants_56 rfl (Nat.le_refl _) (Nat.le_refl _) ?_
          first
            | have zguard := zna; exact absurd zyb zguard
            | have zguard := zns; exact absurd zya znb
            | (have zguard := zna
               have hst : fzR M0 (n + 1) s = (s + pf (tsT M0 s), (false, [])) := (by rw [fzR, if_neg zna])
               rw [hst] at hr0
               have hwc : ¬ wcP M0 = true := (by unfold wcP; rw [← hr0]; exact fun z => Bool.false_ne_true z)
               exact ⟨M9, by rw [jb_f hwc], by rw [← hr0], hX, fun z => absurd z hwc⟩)
            | (have zguard := zcs
               have hst : fzR M0 (n + 1) s = (s + pf (tsT M0 s), (true, [s])) := (by rw [fzR, if_pos zya, if_neg zcs])
               rw [hst] at hr0
               rw [if_pos zya] at hrc
               first
                 | (have hwc : wcP M0 = true := (by unfold wcP; rw [← hr0]; exact decide_eq_true (by omega))
                    exact ⟨M9, by rw [jb_t hwc], by rw [← hr0], hX, fun _ => by rw [← hr0]; exact hrc⟩)
                 | (have hwc : ¬ wcP M0 = true := (by unfold wcP; rw [← hr0]; exact fun z => absurd (of_decide_eq_true z) (by omega))
                    exact ⟨M9, by rw [jb_f hwc], by rw [← hr0], hX, fun z => absurd z hwc⟩))
    · have zya := h_1
      have zin := tsT_in zya
      refine x_aload_n F dX7_isChants_19 rfl ?_
      refine xj_bipush F dX7_isChants_20 (by decide) ?_
      refine x_V1 F (m_X7_takesSign (M0 := M9) (s := s + pf (tsT M0 s)) hY9 (by omega) (by decide)) mlX7_157 mvX7_takesSign rfl dX7_isChants_22 (by decide) rfl ⟨Nat.le_of_ble_eq_true rfl, Nat.le_of_ble_eq_true rfl⟩ ⟨Nat.zero_le _, Nat.zero_le _⟩ (Nat.le_of_ble_eq_true rfl) ?_
      rw [hrg]
      refine xb_if_eq (tgt := 36) F dX7_isChants_25 (by decide) (fun h_6 => ?_) (fun h_6 => ?_)
      · have zns := h_6
        have zcs : ¬ cdZ M0 (s + pf (tsT M0 s)) = 59 := fun z => zns (decide_eq_true ⟨by omega, by omega⟩)
        rw [b01_f zns, Int.add_zero]
        refine x_iload_n F dX7_isChants_36 rfl ?_
        refine xb_if_eq (tgt := 55) F dX7_isChants_37 (by decide) (fun h_7 => ?_) (fun h_7 => ?_)
        · have znb := h_7
          refine xj_iconst F dX7_isChants_55 ?_
          refine x_iret F FR dX7_isChants_56 rfl (Nat.le_refl _) (Nat.le_refl _) ?_
          first
            | have zguard := zna; exact absurd zyb zguard
            | have zguard := zns; exact absurd zya znb
            | (have zguard := zna
               have hst : fzR M0 (n + 1) s = (s + pf (tsT M0 s), (false, [])) := (by rw [fzR, if_neg zna])
               rw [hst] at hr0
               have hwc : ¬ wcP M0 = true := (by unfold wcP; rw [← hr0]; exact fun z => Bool.false_ne_true z)
               exact ⟨M9, by rw [jb_f hwc], by rw [← hr0], hX, fun z => absurd z hwc⟩)
            | (have zguard := zcs
               have hst : fzR M0 (n + 1) s = (s + pf (tsT M0 s), (true, [s])) := (by rw [fzR, if_pos zya, if_neg zcs])
               rw [hst] at hr0
               rw [if_pos zya] at hrc
               first
                 | (have hwc : wcP M0 = true := (by unfold wcP; rw [← hr0]; exact decide_eq_true (by omega))
                    exact ⟨M9, by rw [jb_t hwc], by rw [← hr0], hX, fun _ => by rw [← hr0]; exact hrc⟩)
                 | (have hwc : ¬ wcP M0 = true := (by unfold wcP; rw [← hr0]; exact fun z => absurd (of_decide_eq_true z) (by omega))
                    exact ⟨M9, by rw [jb_f hwc], by rw [← hr0], hX, fun z => absurd z hwc⟩))
        · have zyb := h_7
          refine x_aload_n F dX7_isChants_40 rfl ?_
          refine xj_geti F flX7_148 rfl dX7_isChants_41 (by decide) (by decide) rfl (fun hg_8 => ?_)
          rw [e12]
          refine x_aload_n F dX7_isChants_44 rfl ?_
          refine xj_geti F flX7_145 rfl dX7_isChants_45 (by decide) (by decide) rfl (fun hg_9 => ?_)
          rw [e11]
          refine xj_icmp_ne (tgt := 55) F dX7_isChants_48 (by decide) (by omega) (fun h_10 => ?_) (fun h_10 => ?_)
          · refine xj_iconst F dX7_isChants_55 ?_
            refine x_iret F FR dX7_isChants_56 rfl (Nat.le_refl _) (Nat.le_refl _) ?_
            first
              | have zguard := zna; exact absurd zyb zguard
              | have zguard := zns; exact absurd zya znb
              | (have zguard := zna
                 have hst : fzR M0 (n + 1) s = (s + pf (tsT M0 s), (false, [])) := (by rw [fzR, if_neg zna])
                 rw [hst] at hr0
                 have hwc : ¬ wcP M0 = true := (by unfold wcP; rw [← hr0]; exact fun z => Bool.false_ne_true z)
                 exact ⟨M9, by rw [jb_f hwc], by rw [← hr0], hX, fun z => absurd z hwc⟩)
              | (have zguard := zcs
                 have hst : fzR M0 (n + 1) s = (s + pf (tsT M0 s), (true, [s])) := (by rw [fzR, if_pos zya, if_neg zcs])
                 rw [hst] at hr0
                 rw [if_pos zya] at hrc
                 first
                   | (have hwc : wcP M0 = true := (by unfold wcP; rw [← hr0]; exact decide_eq_true (by omega))
                      exact ⟨M9, by rw [jb_t hwc], by rw [← hr0], hX, fun _ => by rw [← hr0]; exact hrc⟩)
                   | (have hwc : ¬ wcP M0 = true := (by unfold wcP; rw [← hr0]; exact fun z => absurd (of_decide_eq_true z) (by omega))
                      exact ⟨M9, by rw [jb_f hwc], by rw [← hr0], hX, fun z => absurd z hwc⟩))
          · refine xj_iconst F dX7_isChants_51 ?_
            refine x_goto (tgt := 56) F dX7_isChants_52 (by decide) ?_
            refine x_iret F FR dX7_isChants_56 rfl (Nat.le_refl _) (Nat.le_refl _) ?_
            first
              | have zguard := zna; exact absurd zyb zguard
              | have zguard := zns; exact absurd zya znb
              | (have zguard := zna
                 have hst : fzR M0 (n + 1) s = (s + pf (tsT M0 s), (false, [])) := (by rw [fzR, if_neg zna])
                 rw [hst] at hr0
                 have hwc : ¬ wcP M0 = true := (by unfold wcP; rw [← hr0]; exact fun z => Bool.false_ne_true z)
                 exact ⟨M9, by rw [jb_f hwc], by rw [← hr0], hX, fun z => absurd z hwc⟩)
              | (have zguard := zcs
                 have hst : fzR M0 (n + 1) s = (s + pf (tsT M0 s), (true, [s])) := (by rw [fzR, if_pos zya, if_neg zcs])
                 rw [hst] at hr0
                 rw [if_pos zya] at hrc
                 first
                   | (have hwc : wcP M0 = true := (by unfold wcP; rw [← hr0]; exact decide_eq_true (by omega))
                      exact ⟨M9, by rw [jb_t hwc], by rw [← hr0], hX, fun _ => by rw [← hr0]; exact hrc⟩)
                   | (have hwc : ¬ wcP M0 = true := (by unfold wcP; rw [← hr0]; exact fun z => absurd (of_decide_eq_true z) (by omega))
                      exact ⟨M9, by rw [jb_f hwc], by rw [← hr0], hX, fun z => absurd z hwc⟩))
      · have zys := h_6
        have zcy : cdZ M0 (s + pf (tsT M0 s)) = 59 := (by have := of_decide_eq_true zys; omega)
        have zci := cdZ_in (M := M0) (k := s + pf (tsT M0 s)) (by omega)
        rw [b01_t zys]
        have hlp := hrc.1
        rw [if_pos zya, List.length_append] at hlp
        simp only [List.length_cons, List.length_nil] at hlp
        refine x_aload_n F dX7_isChants_28 rfl ?_
        refine x_V0P F (m_X7_readPart (M0 := M9) (s := s + pf (tsT M0 s) + 1) hY9 (by omega) (by omega)) mlX7_182 mvX7_readPart rfl dX7_isChants_29 (by decide) rfl ⟨Nat.le_of_ble_eq_true rfl, Nat.le_of_ble_eq_true rfl⟩ ⟨Nat.zero_le _, Nat.zero_le _⟩ (Nat.le_of_ble_eq_true rfl) (fun r_29 M_29 q_29 => ?_)
        obtain ⟨M8, rfl, rfl, q3, q4, q5⟩ := q_29
        obtain ⟨n1, rfl⟩ : ∃ n1, n = n1 + 1 := ⟨n - 1, by omega⟩
        have ets : tsT M9 (s + pf (tsT M0 s) + 1) = tsT M0 (s + pf (tsT M0 s) + 1) := tsT_of hcd9 _
        have hst : fzR M0 (n1 + 1 + 1) s = ((fzR M0 (n1 + 1) (s + pf (tsT M0 s) + 1)).1, ((fzR M0 (n1 + 1) (s + pf (tsT M0 s) + 1)).2.1, s :: (fzR M0 (n1 + 1) (s + pf (tsT M0 s) + 1)).2.2)) := (by rw [fzR, if_pos zya, if_pos zcy])
        rw [ets] at q4 q5 ⊢
        refine x_istore_n F dX7_isChants_32 (by decide) ?_
        refine x_goto (tgt := 15) F dX7_isChants_33 (by decide) ?_
        rw [if_pos zya] at hrc
        refine ih M8 n1 (s + pf (tsT M0 s) + 1) (done ++ [s]) ⟨rdX_W hX q3, ?_, ?_, ?_, ?_⟩ (by omega)
        · by_cases hz : al (tsT M0 (s + pf (tsT M0 s) + 1)) = true
          · rw [if_pos hz]; exact recs_add hX hrc q3 (q4 hz)
          · rw [if_neg hz, List.append_nil]
            refine ⟨(q5 hz).trans hrc.1, fun i t hi => ?_⟩
            have hil : i < (done ++ [s]).length := (List.getElem?_eq_some_iff.mp hi).1
            have e : ∀ a, a ≠ 68 → M8.1 a i = M9.1 a i := fun a ha => q3.2.2.1 a i ha (by have := hrc.1; omega)
            unfold recZ
            rw [e 75 (by decide), e 76 (by decide), e 77 (by decide), e 78 (by decide)]
            exact hrc.2 i t hi
        · rw [hst] at hr0
          rw [← hr0, List.append_assoc]; rfl
        · simp only [List.length_append, List.length_cons, List.length_nil]; omega
        · simp only [List.length_append, List.length_cons, List.length_nil]; omega
set_option maxRecDepth 20000 in
theorem m_X7_isChants {l : Launch} {E : xE} {M0 : xM} (hY : okW M0) : XP l E 10 yX7_isChants cX7_isChants 2 (some FieldType.boolean) [vA 68] M0 (fun r' M' => icQ M0 r' M') := by
  refine xp_start (plainFor_of_name (by decide)) rfl (Nat.le_of_ble_eq_true rfl) ?_
  intro Y F FR
  have hYi : okW (upI M0 68 13 (jI 0)) := okW_up hY (by decide) (Or.inr (by decide))
  have hci : ∀ z, cdZ (upI M0 68 13 (jI 0)) z = cdZ M0 z := fun z => cdZ_up (by decide) (Or.inr (by decide)) z
  have hxi : rdX M0 (upI M0 68 13 (jI 0)) := ⟨fun a h1 _ _ _ _ => upI_row h1, fun k _ h2 => (by rw [upI_1, if_neg (by omega)]), rfl⟩
  have hln := hY.1
  have hpi : pa (upI M0 68 13 (jI 0)) = 0 := rfl
  refine x_aload_n F dX7_isChants_0 rfl ?_
  refine xj_iconst F dX7_isChants_1 ?_
  refine x_puti F flX7_148 rfl dX7_isChants_2 (by decide) (by decide) rfl fw7_12 rfl rfl ?_
  refine x_aload_n F dX7_isChants_5 rfl ?_
  refine xj_iconst F dX7_isChants_6 ?_
  refine x_puti F flX7_166 rfl dX7_isChants_7 (by decide) (by decide) rfl fw7_13 rfl rfl ?_
  rw [show upI M0 68 12 (jI 0) = spM M0 0 from rfl, spM_13]
  refine x_aload_n F dX7_isChants_10 rfl ?_
  refine x_V0P F (m_X7_readPart (M0 := (upI M0 68 13 (jI 0))) (s := 0) hYi (by decide) (by rw [hpi]; decide)) mlX7_182 mvX7_readPart rfl dX7_isChants_11 (by decide) rfl ⟨Nat.le_of_ble_eq_true rfl, Nat.le_of_ble_eq_true rfl⟩ ⟨Nat.zero_le _, Nat.zero_le _⟩ (Nat.le_of_ble_eq_true rfl) (fun r_11 M_11 q_11 => ?_)
  obtain ⟨M8, rfl, rfl, q3, q4, q5⟩ := q_11
  have ets : tsT (upI M0 68 13 (jI 0)) 0 = tsT M0 0 := tsT_of hci _
  rw [ets] at q4 q5 ⊢
  refine x_istore_n F dX7_isChants_14 (by decide) ?_
  refine L_X7_isChants_15 (l := l) hY F FR _ M8 11 0 [] ⟨rdX_W hxi q3, ?_, ?_, ⟨Int.le_refl _, hln.1, Int.le_refl _⟩, rfl⟩ (Nat.lt_succ_self _)
  · by_cases hz : al (tsT M0 0) = true
    · rw [if_pos hz]; exact recs_add hxi (l := []) ⟨hpi, fun i t hi => by simp at hi⟩ q3 (q4 hz)
    · rw [if_neg hz]; exact ⟨(q5 hz).trans hpi, fun i t hi => by simp at hi⟩
  · rfl
