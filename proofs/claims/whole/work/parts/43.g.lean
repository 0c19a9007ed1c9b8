/-! THE MODEL reads a part -/
def isW (c : Int) : Bool := decide (c = 106 ∨ c = 115 ∨ c = 116 ∨ c = 108 ∨ c = 104 ∨ c = 118)
def wdN (c : Int) : Int := if c = 108 then 2 else if c = 118 then 4 else 3
def tlT (M : xM) (s c : Int) : List Bool := if c = 106 then rgB M s 44 44 :: (htT M (s + 1) ++ [vcB M (s + 4)]) else if c = 115 then rgB M s 44 44 :: plT M (s + 1) else []
def tsT (M : xM) (s : Int) : List Bool := if isW (cdZ M s) = true then true :: (wdT M (s + 1) (cdZ M s) ++ (rgB M (s + 1 + wdN (cdZ M s)) 58 58 :: rgB M (s + 1 + wdN (cdZ M s) + 1) 48 51 :: tlT M (s + 1 + wdN (cdZ M s) + 1 + 1) (cdZ M s))) else [false]
def rdW (M0 M : xM) : Prop := (∀ a, a ≠ 68 → a ≠ 75 → a ≠ 76 → a ≠ 77 → a ≠ 78 → M.1 a = M0.1 a) ∧ (∀ k, k ≠ 12 → k ≠ 13 → M.1 68 k = M0.1 68 k) ∧ (∀ a j, a ≠ 68 → j ≠ (pa M0).toNat → M.1 a j = M0.1 a j) ∧ M.2 = M0.2
/-- what a part that is read whole leaves -/
def rcW (M0 : xM) (s : Int) (M : xM) : Prop := pa M = pa M0 + 1 ∧ (M.1 75 (pa M0).toNat).toInt = cdZ M0 s ∧ (M.1 76 (pa M0).toNat).toInt = cdZ M0 (s + 1 + wdN (cdZ M0 s) + 1) - 48 ∧
  (cdZ M0 s = 106 → (M.1 77 (pa M0).toNat).toInt = htV M0 (s + 1 + wdN (cdZ M0 s) + 1 + 1 + 1) ∧ (M.1 78 (pa M0).toNat).toInt = vcZ (cdZ M0 (s + 1 + wdN (cdZ M0 s) + 1 + 1 + 4))) ∧
  (cdZ M0 s = 115 → (M.1 77 (pa M0).toNat).toInt = cdZ M0 (s + 1 + wdN (cdZ M0 s) + 1 + 1 + 1) - 48 ∧ (M.1 78 (pa M0).toNat).toInt = cdZ M0 (s + 1 + wdN (cdZ M0 s) + 1 + 1 + 1 + 1) - 48)
def rpQ (M0 : xM) (s : Int) (r' : xV) (M' : xM) : Prop := ∃ M9, r' = vI (jb (al (tsT M0 s) = true)) ∧ M' = spM M9 (s + pf (tsT M0 s)) ∧ rdW M0 M9 ∧ (al (tsT M0 s) = true → rcW M0 s M9) ∧ (¬ al (tsT M0 s) = true → pa M9 = pa M0)
theorem rdW_rfl (M : xM) : rdW M M := ⟨fun _ _ _ _ _ _ => rfl, fun _ _ _ => rfl, fun _ _ _ _ => rfl, rfl⟩
theorem rdW_up {M0 M : xM} {a : Nat} {x : Int32} (h : rdW M0 M) (ha : a = 75 ∨ a = 76 ∨ a = 77 ∨ a = 78) : rdW M0 (upI M a (pa M0).toNat x) :=
  ⟨fun b h1 h2 h3 h4 h5 => by rw [upI_row (by omega)]; exact h.1 b h1 h2 h3 h4 h5, fun k h1 h2 => by rw [upI_row (by omega)]; exact h.2.1 k h1 h2, fun b j h1 h2 => by rw [upI_1, if_neg (fun z => h2 z.2)]; exact h.2.2.1 b j h1 h2, h.2.2.2⟩
theorem rdW_68 {M0 M : xM} {k : Nat} {x : Int32} (h : rdW M0 M) (hk : k = 12 ∨ k = 13) : rdW M0 (upI M 68 k x) :=
  ⟨fun b h1 h2 h3 h4 h5 => by rw [upI_row h1]; exact h.1 b h1 h2 h3 h4 h5, fun j h1 h2 => by rw [upI_1, if_neg (by omega)]; exact h.2.1 j h1 h2, fun b j h1 h2 => by rw [upI_row h1]; exact h.2.2.1 b j h1 h2, h.2.2.2⟩
theorem rdW_cd {M0 M : xM} (h : rdW M0 M) (z : Int) : cdZ M z = cdZ M0 z := by
  unfold cdZ ln
  rw [h.2.1 11 (by decide) (by decide), h.1 74 (by decide) (by decide) (by decide) (by decide) (by decide)]
theorem rdW_rg {M0 M : xM} (h : rdW M0 M) (s a b : Int) : rgB M s a b = rgB M0 s a b := by unfold rgB; rw [rdW_cd h]
theorem rdW_ln {M0 M : xM} (h : rdW M0 M) : ln M = ln M0 := by unfold ln; rw [h.2.1 11 (by decide) (by decide)]
theorem rdW_ok {M0 M : xM} (h : rdW M0 M) (hY : okW M0) : okW M := by
  unfold okW
  rw [rdW_ln h, h.1 74 (by decide) (by decide) (by decide) (by decide) (by decide)]
  exact hY
theorem rdW_ht {M0 M : xM} (h : rdW M0 M) (s : Int) : htT M s = htT M0 s := by unfold htT; rw [rdW_rg h, rdW_rg h, rdW_rg h, rdW_cd h, rdW_cd h]
theorem rdW_hv {M0 M : xM} (h : rdW M0 M) (s : Int) : htV M s = htV M0 s := by unfold htV; rw [rdW_cd h, rdW_cd h, rdW_cd h]
theorem rdW_vc {M0 M : xM} (h : rdW M0 M) (s : Int) : vcB M s = vcB M0 s := by unfold vcB; rw [rdW_cd h]
theorem rdW_pl {M0 M : xM} (h : rdW M0 M) (s : Int) : plT M s = plT M0 s := by unfold plT; rw [rdW_rg h, rdW_rg h]
theorem spM_13 (M : xM) (s : Int) (x : Int32) : upI (spM M s) 68 13 x = spM (upI M 68 13 x) s := by
  refine Prod.ext (funext fun b => funext fun j => ?_) rfl
  unfold spM
  rw [upI_1, upI_1, upI_1, upI_1]
  by_cases hb : b = 68 ∧ j = 13
  · rw [if_pos hb, if_neg (by omega), if_pos hb]
  · rw [if_neg hb, if_neg hb]
theorem isW_iff {c : Int} : isW c = true ↔ (c = 106 ∨ c = 115 ∨ c = 116 ∨ c = 108 ∨ c = 104 ∨ c = 118) := decide_eq_true_iff
theorem wdT_len {M : xM} {s c : Int} (h : isW c = true) : ((wdT M s c).length : Int) = wdN c := by
  have h := isW_iff.mp h
  unfold wdT wdN
  rcases h with rfl | rfl | rfl | rfl | rfl | rfl <;> rfl
theorem wdT_in {M : xM} {s c : Int} (h : isW c = true) (ha : al (wdT M s c) = true) : 0 ≤ s ∧ s + wdN c ≤ ln M := by
  have h := isW_iff.mp h
  unfold wdN
  rcases h with rfl | rfl | rfl | rfl | rfl | rfl
  · exact al_in3 (b := 111) (c := 105) (d := 110) ha (by decide) (by decide) (by decide)
  · exact al_in3 (b := 119) (c := 97) (d := 112) ha (by decide) (by decide) (by decide)
  · exact al_in3 (b := 117) (c := 114) (d := 110) ha (by decide) (by decide) (by decide)
  · exact al_in2 (b := 111) (c := 119) (d := 0) ha (by decide) (by decide)
  · exact al_in3 (b := 105) (c := 103) (d := 104) ha (by decide) (by decide) (by decide)
  · have h2 : al (twT M s 111 105 99 ++ [rgB M (s + 3) 101 101]) = true := ha
    rw [al_ap, Bool.and_eq_true] at h2
    have h3 := al_in3 h2.1 (by decide) (by decide) (by decide)
    have h4 := h2.2
    simp only [al, Bool.and_true] at h4
    have h5 := rgB_in h4 (by decide)
    rw [if_neg (by decide), if_pos rfl]
    omega
theorem wdN_b (c : Int) : 2 ≤ wdN c ∧ wdN c ≤ 4 := by unfold wdN; (repeat' split) <;> omega
theorem htT_in {M : xM} {s : Int} (h : al (htT M s) = true) : 0 ≤ s ∧ s + 3 ≤ ln M := by
  unfold htT at h
  simp only [al, Bool.and_eq_true] at h
  have h1 := rgB_in h.1 (by decide)
  have h2 := rgB_in h.2.2.1 (by decide)
  omega
theorem htT_len (M : xM) (s : Int) : ((htT M s).length : Int) = 3 := rfl
theorem plT_len (M : xM) (s : Int) : ((plT M s).length : Int) = 2 := rfl
/-- behind word, colon and row -/
theorem tsT_go {M : xM} {s t : Int} (ht : t = s + 1 + wdN (cdZ M s) + 1 + 1) (hw : isW (cdZ M s) = true) (h1 : al (wdT M (s + 1) (cdZ M s)) = true) (h2 : rgB M (s + 1 + wdN (cdZ M s)) 58 58 = true) (h3 : rgB M (s + 1 + wdN (cdZ M s) + 1) 48 51 = true) :
    al (tsT M s) = al (tlT M t (cdZ M s)) ∧ pf (tsT M s) = t - s + pf (tlT M t (cdZ M s)) := by
  subst ht
  unfold tsT
  rw [if_pos hw]
  constructor
  · rw [al_t rfl, al_ap, h1, al_t h2, al_t h3]; rfl
  · rw [pf_t rfl, pf_ap, if_pos h1, wdT_len hw, pf_t h2, pf_t h3]
    omega
theorem rp_end {M0 Mb : xM} {s t k x : Int} {r' : xV} (ht : t = s + 1 + wdN (cdZ M0 s) + 1 + 1) (hr : r' = vI (jI x)) (hx : (x = 1 ∧ al (tsT M0 s) = true) ∨ (x = 0 ∧ ¬ al (tsT M0 s) = true)) (hp : 0 ≤ pa M0 ∧ pa M0 < 12) (hpb : pa Mb = pa M0) (hrb : rdW M0 Mb) (hk : s + pf (tsT M0 s) = k)
    (hc : x = 1 → (Mb.1 75 (pa M0).toNat).toInt = cdZ M0 s ∧ (Mb.1 76 (pa M0).toNat).toInt = cdZ M0 (t - 1) - 48 ∧
  (cdZ M0 s = 106 → (Mb.1 77 (pa M0).toNat).toInt = htV M0 (t + 1) ∧ (Mb.1 78 (pa M0).toNat).toInt = vcZ (cdZ M0 (t + 4))) ∧
  (cdZ M0 s = 115 → (Mb.1 77 (pa M0).toNat).toInt = cdZ M0 (t + 1) - 48 ∧ (Mb.1 78 (pa M0).toNat).toInt = cdZ M0 (t + 1 + 1) - 48)) : rpQ M0 s r' (spM (upI Mb 68 13 (jI (pa M0 + x))) k) := by
  rw [show t - 1 = s + 1 + wdN (cdZ M0 s) + 1 by omega] at hc
  subst ht
  have hpx : pa (upI Mb 68 13 (jI (pa M0 + x))) = pa M0 + x := by unfold pa; rw [upI_1, if_pos ⟨rfl, rfl⟩, jI_toInt (by unfold pa at hp; omega)]
  refine ⟨upI Mb 68 13 (jI (pa M0 + x)), ?_, by rw [hk], rdW_68 hrb (Or.inr rfl), fun h => ?_, fun h => ?_⟩
  · rcases hx with ⟨rfl, h⟩ | ⟨rfl, h⟩
    · rw [hr, jb_t h]
    · rw [hr, jb_f h]
  · rcases hx with ⟨rfl, -⟩ | ⟨rfl, h2⟩
    · obtain ⟨c1, c2, c3, c4⟩ := hc rfl
      refine ⟨hpx, ?_, ?_, ?_, ?_⟩
      · rw [upI_row (by decide)]; exact c1
      · rw [upI_row (by decide)]; exact c2
      · rw [upI_row (by decide), upI_row (by decide)]; exact c3
      · rw [upI_row (by decide), upI_row (by decide)]; exact c4
    · exact absurd h h2
  · rcases hx with ⟨rfl, h2⟩ | ⟨rfl, -⟩
    · exact absurd h2 h
    · rw [hpx]; omega
set_option maxRecDepth 20000 in
theorem L_X7_readPart_207 {l : Launch} {E : xE} {s : Int} {M0 : xM} (hY : okW M0) (hs : 0 ≤ s ∧ s ≤ 60) (hp : 0 ≤ pa M0 ∧ pa M0 < 12) {Mb : xM} {k9 x9 : Int} (hpb : pa Mb = pa M0) (hx9 : x9 = 0 ∨ x9 = 1) {Y : xY} (F : xFix E (xA E) Y cX7_readPart yX7_readPart.cls 4) (FR : xRet E Y (some FieldType.boolean) 0 0 (fun r' M' => rpQ M0 s r' M') (fun _ _ => False)) : ∀ (k : Nat) (y y2 : Int32) (y3 : xV), (∀ r' : xV, r' = vI (jI x9) → rpQ M0 s r' (spM (upI Mb 68 13 (jI (pa M0 + x9))) k9)) → 0 < k → WP l E (xRm 9 0 0) (xA E) Y 0 0 207 [vA 68, vI y, vI y2, y3] [vI (jI x9)] (spM Mb k9) := by
  intro k
  induction k with
  | zero => intro y y2 y3 hQ hk; exact absurd hk (Nat.not_lt_zero _)
  | succ k ih =>
    intro y y2 y3 hQ hk
    have e13 : ((spM Mb k9).1 68 13).toInt = pa M0 := (by rw [spM_k _ _ (by decide)]; exact hpb)
    refine x_istore_n F dX7_readPart_207 (by decide) ?_
    refine x_aload_n F dX7_readPart_208 rfl ?_
    refine x_dup F dX7_readPart_209 rfl ?_
    refine xj_geti F flX7_166 rfl dX7_readPart_210 (by decide) (by decide) rfl (fun hg_1 => ?_)
    rw [e13]
    refine x_iload_n F dX7_readPart_213 rfl ?_
    refine xj_if_eq (tgt := 221) F dX7_readPart_214 (by decide) (by omega) (fun h_2 => ?_) (fun h_2 => ?_)
    · refine xj_iconst F dX7_readPart_221 ?_
      refine xj_iadd F dX7_readPart_222 ?_
      refine x_puti F flX7_166 rfl dX7_readPart_223 (by decide) (by decide) rfl fw7_13 rfl rfl ?_
      rw [spM_13]
      refine x_iload_n F dX7_readPart_226 rfl ?_
      refine x_iret F FR dX7_readPart_227 (by rcases hx9 with rfl | rfl <;> rfl) (Nat.le_refl _) (Nat.le_refl _) ?_
      first
        | (exfalso; omega)
        | (have e : x9 = 0 := (by omega)
           subst e
           exact hQ _ rfl)
        | (have e : x9 = 1 := (by omega)
           subst e
           exact hQ _ rfl)
    · refine xj_iconst F dX7_readPart_217 ?_
      refine x_goto (tgt := 222) F dX7_readPart_218 (by decide) ?_
      refine xj_iadd F dX7_readPart_222 ?_
      refine x_puti F flX7_166 rfl dX7_readPart_223 (by decide) (by decide) rfl fw7_13 rfl rfl ?_
      rw [spM_13]
      refine x_iload_n F dX7_readPart_226 rfl ?_
      refine x_iret F FR dX7_readPart_227 (by rcases hx9 with rfl | rfl <;> rfl) (Nat.le_refl _) (Nat.le_refl _) ?_
      first
        | (exfalso; omega)
        | (have e : x9 = 0 := (by omega)
           subst e
           exact hQ _ rfl)
        | (have e : x9 = 1 := (by omega)
           subst e
           exact hQ _ rfl)
theorem rdW_htM {M0 Mb : xM} {t : Int} (hpb : pa Mb = pa M0) (h : rdW M0 Mb) : rdW M0 (htM Mb t) ∧ pa (htM Mb t) = pa M0 := by
  unfold htM
  rw [hpb]
  split
  · exact ⟨rdW_up h (by omega), (pa_up (Or.inl (by decide))).trans hpb⟩
  · exact ⟨h, hpb⟩
theorem rdW_vcM {M0 Mb : xM} {t : Int} (hpb : pa Mb = pa M0) (h : rdW M0 Mb) : rdW M0 (vcM Mb t) ∧ pa (vcM Mb t) = pa M0 := by
  unfold vcM
  rw [hpb]
  exact ⟨rdW_up h (by omega), (pa_up (Or.inl (by decide))).trans hpb⟩
theorem rdW_plM {M0 Mb : xM} {t : Int} (hpb : pa Mb = pa M0) (h : rdW M0 Mb) : rdW M0 (plM Mb t) ∧ pa (plM Mb t) = pa M0 := by
  unfold plM
  rw [hpb]
  split
  · split
    · exact ⟨rdW_up (rdW_up h (by omega)) (by omega), (pa_up (Or.inl (by decide))).trans ((pa_up (Or.inl (by decide))).trans hpb)⟩
    · exact ⟨rdW_up h (by omega), (pa_up (Or.inl (by decide))).trans hpb⟩
  · exact ⟨h, hpb⟩
theorem htV_b {M : xM} (hY : okW M) (s : Int) : rg (htV M s) := by
  have h1 := cdZ_b hY s
  have h2 := cdZ_b hY (s + 1)
  have h3 := cdZ_b hY (s + 1 + 1)
  unfold htV
  omega
set_option maxRecDepth 20000 in
theorem L_X7_readPart_143 {l : Launch} {E : xE} {s : Int} {M0 : xM} (hY : okW M0) (hs : 0 ≤ s ∧ s ≤ 60) (hp : 0 ≤ pa M0 ∧ pa M0 < 12) (hw : isW (cdZ M0 s) = true) (h1 : al (wdT M0 (s + 1) (cdZ M0 s)) = true) (h2 : rgB M0 (s + 1 + wdN (cdZ M0 s)) 58 58 = true) (h3 : rgB M0 (s + 1 + wdN (cdZ M0 s) + 1) 48 51 = true) {Mb : xM} {t : Int} (ht : t = s + 1 + wdN (cdZ M0 s) + 1 + 1) (hpb : pa Mb = pa M0) (hrb : rdW M0 Mb) (h75 : (Mb.1 75 (pa M0).toNat).toInt = cdZ M0 s) (h76 : (Mb.1 76 (pa M0).toNat).toInt = cdZ M0 (t - 1) - 48) {Y : xY} (F : xFix E (xA E) Y cX7_readPart yX7_readPart.cls 4) (FR : xRet E Y (some FieldType.boolean) 0 0 (fun r' M' => rpQ M0 s r' M') (fun _ _ => False)) : ∀ (k : Nat) (y2 : Int32) (y3 : xV), 0 < k → WP l E (xRm 9 0 0) (xA E) Y 0 0 143 [vA 68, vI (jI (cdZ M0 s)), vI y2, y3] [] (spM Mb t) := by
  intro k
  induction k with
  | zero => intro y2 y3  hk; exact absurd hk (Nat.not_lt_zero _)
  | succ k ih =>
    intro y2 y3  hk
    have hln := hY.1
    have hpp : 0 ≤ pa Mb ∧ pa Mb < 12 := (by omega)
    have hYb := rdW_ok hrb hY
    have hlb := rdW_ln hrb
    obtain ⟨zt1, zt2⟩ := tsT_go ht hw h1 h2 h3
    have hi3 := rgB_in h3 (by decide)
    have hcb := cdZ_b hY s
    have zrg := rdW_rg hrb t 44 44
    have hwd := wdN_b (cdZ M0 s)
    have zht := rdW_ht hrb (t + 1)
    have zpl := rdW_pl hrb (t + 1)
    have zhM := rdW_htM (t := t + 1) hpb hrb
    have zpM := rdW_plM (t := t + 1) hpb hrb
    have zvM := rdW_vcM (t := t + 4) zhM.2 zhM.1
    have zvc : vcB (htM Mb (t + 1)) (t + 4) = vcB M0 (t + 4) := rdW_vc zhM.1 _
    have hcr := cdZ_b hY (s + 1 + wdN (cdZ M0 s) + 1)
    refine x_iload_n F dX7_readPart_143 rfl ?_
    refine xj_bipush F dX7_readPart_144 (by decide) ?_
    refine xj_icmp_ne (tgt := 180) F dX7_readPart_146 (by decide) (by omega) (fun h_1 => ?_) (fun h_1 => ?_)
    · have zcn : ¬ cdZ M0 s = 106 := h_1
      refine x_iload_n F dX7_readPart_180 rfl ?_
      refine xj_bipush F dX7_readPart_181 (by decide) ?_
      refine xj_icmp_ne (tgt := 202) F dX7_readPart_183 (by decide) (by omega) (fun h_2 => ?_) (fun h_2 => ?_)
      · have zco : ¬ cdZ M0 s = 115 := h_2
        refine xj_iconst F dX7_readPart_202 ?_
        refine x_goto (tgt := 207) F dX7_readPart_203 (by decide) ?_
        first
          | have zguard := zjc; exact L_X7_readPart_207 (l := l) hY hs hp (Mb := Mb) (k9 := (t + b01 (rgB M0 t 44 44))) (x9 := 0) hpb (Or.inl rfl) F FR _ _ _ _ (fun r9 hr9 => rp_end ht hr9 (Or.inr ⟨rfl, by rw [zt1]; unfold tlT; rw [if_pos zcj, al_f zjc]; exact Bool.false_ne_true⟩) hp hpb hrb (by rw [zt2]; unfold tlT; rw [if_pos zcj, pf_f zjc, b01_f zjc]; omega) (fun z => absurd z (by decide))) (Nat.lt_succ_self 0)
          | have zguard := zjh; exact L_X7_readPart_207 (l := l) hY hs hp (Mb := (htM Mb (t + 1))) (k9 := (t + 1 + pf (htT M0 (t + 1)))) (x9 := 0) zhM.2 (Or.inl rfl) F FR _ _ _ _ (fun r9 hr9 => rp_end ht hr9 (Or.inr ⟨rfl, by rw [zt1]; unfold tlT; rw [if_pos zcj, al_t zjd, al_ap, Bool.eq_false_iff.mpr zjh]; exact fun z => Bool.false_ne_true z⟩) hp zhM.2 zhM.1 (by rw [zt2]; unfold tlT; rw [if_pos zcj, pf_t zjd, pf_ap, if_neg zjh]; omega) (fun z => absurd z (by decide))) (Nat.lt_succ_self 0)
          | have zguard := zjv; exact L_X7_readPart_207 (l := l) hY hs hp (Mb := (vcM (htM Mb (t + 1)) (t + 4))) (k9 := (t + 4 + b01 (vcB M0 (t + 4)))) (x9 := 0) zvM.2 (Or.inl rfl) F FR _ _ _ _ (fun r9 hr9 => rp_end ht hr9 (Or.inr ⟨rfl, by rw [zt1]; unfold tlT; rw [if_pos zcj, al_t zjd, al_ap, zjk, al_f zjv]; decide⟩) hp zvM.2 zvM.1 (by rw [zt2]; unfold tlT; rw [if_pos zcj, pf_t zjd, pf_ap, if_pos zjk, htT_len, pf_f zjv, b01_f zjv]; omega) (fun z => absurd z (by decide))) (Nat.lt_succ_self 0)
          | have zguard := zjw; exact L_X7_readPart_207 (l := l) hY hs hp (Mb := (vcM (htM Mb (t + 1)) (t + 4))) (k9 := (t + 4 + b01 (vcB M0 (t + 4)))) (x9 := 1) zvM.2 (Or.inr rfl) F FR _ _ _ _ (fun r9 hr9 => rp_end ht hr9 (Or.inl ⟨rfl, by rw [zt1]; unfold tlT; rw [if_pos zcj, al_t zjd, al_ap, zjk, al_t zjw]; rfl⟩) hp zvM.2 zvM.1 (by rw [zt2]; unfold tlT; rw [if_pos zcj, pf_t zjd, pf_ap, if_pos zjk, htT_len, pf_t zjw, b01_t zjw]; simp only [pf]; omega) (fun _ => ⟨zg75, zg76, fun _ => zg77, fun z => absurd (zcj.symm.trans z) (by decide)⟩)) (Nat.lt_succ_self 0)
          | have zguard := zsc; exact L_X7_readPart_207 (l := l) hY hs hp (Mb := Mb) (k9 := (t + b01 (rgB M0 t 44 44))) (x9 := 0) hpb (Or.inl rfl) F FR _ _ _ _ (fun r9 hr9 => rp_end ht hr9 (Or.inr ⟨rfl, by rw [zt1]; unfold tlT; rw [if_neg zcn, if_pos zcs, al_f zsc]; exact Bool.false_ne_true⟩) hp hpb hrb (by rw [zt2]; unfold tlT; rw [if_neg zcn, if_pos zcs, pf_f zsc, b01_f zsc]; omega) (fun z => absurd z (by decide))) (Nat.lt_succ_self 0)
          | have zguard := zsp; exact L_X7_readPart_207 (l := l) hY hs hp (Mb := (plM Mb (t + 1))) (k9 := (t + 1 + pf (plT M0 (t + 1)))) (x9 := 0) zpM.2 (Or.inl rfl) F FR _ _ _ _ (fun r9 hr9 => rp_end ht hr9 (Or.inr ⟨rfl, by rw [zt1]; unfold tlT; rw [if_neg zcn, if_pos zcs, al_t zsd]; exact zsp⟩) hp zpM.2 zpM.1 (by rw [zt2]; unfold tlT; rw [if_neg zcn, if_pos zcs, pf_t zsd]; omega) (fun z => absurd z (by decide))) (Nat.lt_succ_self 0)
          | have zguard := zsq; exact L_X7_readPart_207 (l := l) hY hs hp (Mb := (plM Mb (t + 1))) (k9 := (t + 1 + pf (plT M0 (t + 1)))) (x9 := 1) zpM.2 (Or.inr rfl) F FR _ _ _ _ (fun r9 hr9 => rp_end ht hr9 (Or.inl ⟨rfl, by rw [zt1]; unfold tlT; rw [if_neg zcn, if_pos zcs, al_t zsd]; exact zsq⟩) hp zpM.2 zpM.1 (by rw [zt2]; unfold tlT; rw [if_neg zcn, if_pos zcs, pf_t zsd]; omega) (fun _ => ⟨zk75, zk76, fun z => absurd z zcn, fun _ => zk77⟩)) (Nat.lt_succ_self 0)
          | have zguard := zco; exact L_X7_readPart_207 (l := l) hY hs hp (Mb := Mb) (k9 := t) (x9 := 1) hpb (Or.inr rfl) F FR _ _ _ _ (fun r9 hr9 => rp_end ht hr9 (Or.inl ⟨rfl, by rw [zt1]; unfold tlT; rw [if_neg zcn, if_neg zco]; rfl⟩) hp hpb hrb (by rw [zt2]; unfold tlT; rw [if_neg zcn, if_neg zco]; simp only [pf]; omega) (fun _ => ⟨h75, h76, fun z => absurd z zcn, fun z => absurd z zco⟩)) (Nat.lt_succ_self 0)
      · have zcs : cdZ M0 s = 115 := h_2
        refine x_aload_n F dX7_readPart_186 rfl ?_
        refine xj_bipush F dX7_readPart_187 (by decide) ?_
        refine x_V1 F (m_X7_takesSign (M0 := Mb) (s := t) hYb (by omega) (by decide)) mlX7_157 mvX7_takesSign rfl dX7_readPart_189 (by decide) rfl ⟨Nat.le_of_ble_eq_true rfl, Nat.le_of_ble_eq_true rfl⟩ ⟨Nat.zero_le _, Nat.zero_le _⟩ (Nat.le_of_ble_eq_true rfl) ?_
        rw [zrg]
        refine xb_if_eq (tgt := 206) F dX7_readPart_192 (by decide) (fun h_3 => ?_) (fun h_3 => ?_)
        · have zsc := h_3
          refine xj_iconst F dX7_readPart_206 ?_
          first
            | have zguard := zjc; exact L_X7_readPart_207 (l := l) hY hs hp (Mb := Mb) (k9 := (t + b01 (rgB M0 t 44 44))) (x9 := 0) hpb (Or.inl rfl) F FR _ _ _ _ (fun r9 hr9 => rp_end ht hr9 (Or.inr ⟨rfl, by rw [zt1]; unfold tlT; rw [if_pos zcj, al_f zjc]; exact Bool.false_ne_true⟩) hp hpb hrb (by rw [zt2]; unfold tlT; rw [if_pos zcj, pf_f zjc, b01_f zjc]; omega) (fun z => absurd z (by decide))) (Nat.lt_succ_self 0)
            | have zguard := zjh; exact L_X7_readPart_207 (l := l) hY hs hp (Mb := (htM Mb (t + 1))) (k9 := (t + 1 + pf (htT M0 (t + 1)))) (x9 := 0) zhM.2 (Or.inl rfl) F FR _ _ _ _ (fun r9 hr9 => rp_end ht hr9 (Or.inr ⟨rfl, by rw [zt1]; unfold tlT; rw [if_pos zcj, al_t zjd, al_ap, Bool.eq_false_iff.mpr zjh]; exact fun z => Bool.false_ne_true z⟩) hp zhM.2 zhM.1 (by rw [zt2]; unfold tlT; rw [if_pos zcj, pf_t zjd, pf_ap, if_neg zjh]; omega) (fun z => absurd z (by decide))) (Nat.lt_succ_self 0)
            | have zguard := zjv; exact L_X7_readPart_207 (l := l) hY hs hp (Mb := (vcM (htM Mb (t + 1)) (t + 4))) (k9 := (t + 4 + b01 (vcB M0 (t + 4)))) (x9 := 0) zvM.2 (Or.inl rfl) F FR _ _ _ _ (fun r9 hr9 => rp_end ht hr9 (Or.inr ⟨rfl, by rw [zt1]; unfold tlT; rw [if_pos zcj, al_t zjd, al_ap, zjk, al_f zjv]; decide⟩) hp zvM.2 zvM.1 (by rw [zt2]; unfold tlT; rw [if_pos zcj, pf_t zjd, pf_ap, if_pos zjk, htT_len, pf_f zjv, b01_f zjv]; omega) (fun z => absurd z (by decide))) (Nat.lt_succ_self 0)
            | have zguard := zjw; exact L_X7_readPart_207 (l := l) hY hs hp (Mb := (vcM (htM Mb (t + 1)) (t + 4))) (k9 := (t + 4 + b01 (vcB M0 (t + 4)))) (x9 := 1) zvM.2 (Or.inr rfl) F FR _ _ _ _ (fun r9 hr9 => rp_end ht hr9 (Or.inl ⟨rfl, by rw [zt1]; unfold tlT; rw [if_pos zcj, al_t zjd, al_ap, zjk, al_t zjw]; rfl⟩) hp zvM.2 zvM.1 (by rw [zt2]; unfold tlT; rw [if_pos zcj, pf_t zjd, pf_ap, if_pos zjk, htT_len, pf_t zjw, b01_t zjw]; simp only [pf]; omega) (fun _ => ⟨zg75, zg76, fun _ => zg77, fun z => absurd (zcj.symm.trans z) (by decide)⟩)) (Nat.lt_succ_self 0)
            | have zguard := zsc; exact L_X7_readPart_207 (l := l) hY hs hp (Mb := Mb) (k9 := (t + b01 (rgB M0 t 44 44))) (x9 := 0) hpb (Or.inl rfl) F FR _ _ _ _ (fun r9 hr9 => rp_end ht hr9 (Or.inr ⟨rfl, by rw [zt1]; unfold tlT; rw [if_neg zcn, if_pos zcs, al_f zsc]; exact Bool.false_ne_true⟩) hp hpb hrb (by rw [zt2]; unfold tlT; rw [if_neg zcn, if_pos zcs, pf_f zsc, b01_f zsc]; omega) (fun z => absurd z (by decide))) (Nat.lt_succ_self 0)
            | have zguard := zsp; exact L_X7_readPart_207 (l := l) hY hs hp (Mb := (plM Mb (t + 1))) (k9 := (t + 1 + pf (plT M0 (t + 1)))) (x9 := 0) zpM.2 (Or.inl rfl) F FR _ _ _ _ (fun r9 hr9 => rp_end ht hr9 (Or.inr ⟨rfl, by rw [zt1]; unfold tlT; rw [if_neg zcn, if_pos zcs, al_t zsd]; exact zsp⟩) hp zpM.2 zpM.1 (by rw [zt2]; unfold tlT; rw [if_neg zcn, if_pos zcs, pf_t zsd]; omega) (fun z => absurd z (by decide))) (Nat.lt_succ_self 0)
            | have zguard := zsq; exact L_X7_readPart_207 (l := l) hY hs hp (Mb := (plM Mb (t + 1))) (k9 := (t + 1 + pf (plT M0 (t + 1)))) (x9 := 1) zpM.2 (Or.inr rfl) F FR _ _ _ _ (fun r9 hr9 => rp_end ht hr9 (Or.inl ⟨rfl, by rw [zt1]; unfold tlT; rw [if_neg zcn, if_pos zcs, al_t zsd]; exact zsq⟩) hp zpM.2 zpM.1 (by rw [zt2]; unfold tlT; rw [if_neg zcn, if_pos zcs, pf_t zsd]; omega) (fun _ => ⟨zk75, zk76, fun z => absurd z zcn, fun _ => zk77⟩)) (Nat.lt_succ_self 0)
            | have zguard := zco; exact L_X7_readPart_207 (l := l) hY hs hp (Mb := Mb) (k9 := t) (x9 := 1) hpb (Or.inr rfl) F FR _ _ _ _ (fun r9 hr9 => rp_end ht hr9 (Or.inl ⟨rfl, by rw [zt1]; unfold tlT; rw [if_neg zcn, if_neg zco]; rfl⟩) hp hpb hrb (by rw [zt2]; unfold tlT; rw [if_neg zcn, if_neg zco]; simp only [pf]; omega) (fun _ => ⟨h75, h76, fun z => absurd z zcn, fun z => absurd z zco⟩)) (Nat.lt_succ_self 0)
        · have zsd := h_3
          have zsi := rgB_in zsd (by decide)
          rw [b01_t zsd]
          refine x_aload_n F dX7_readPart_195 rfl ?_
          refine x_V0 F (m_X7_readPlaces (M0 := Mb) (s := t + 1) hYb (by omega) hpp) mlX7_179 mvX7_readPlaces rfl dX7_readPart_196 (by decide) rfl ⟨Nat.le_of_ble_eq_true rfl, Nat.le_of_ble_eq_true rfl⟩ ⟨Nat.zero_le _, Nat.zero_le _⟩ (Nat.le_of_ble_eq_true rfl) ?_
          rw [zpl]
          refine xb_if_eq (tgt := 206) F dX7_readPart_199 (by decide) (fun h_4 => ?_) (fun h_4 => ?_)
          · have zsp := h_4
            refine xj_iconst F dX7_readPart_206 ?_
            first
              | have zguard := zjc; exact L_X7_readPart_207 (l := l) hY hs hp (Mb := Mb) (k9 := (t + b01 (rgB M0 t 44 44))) (x9 := 0) hpb (Or.inl rfl) F FR _ _ _ _ (fun r9 hr9 => rp_end ht hr9 (Or.inr ⟨rfl, by rw [zt1]; unfold tlT; rw [if_pos zcj, al_f zjc]; exact Bool.false_ne_true⟩) hp hpb hrb (by rw [zt2]; unfold tlT; rw [if_pos zcj, pf_f zjc, b01_f zjc]; omega) (fun z => absurd z (by decide))) (Nat.lt_succ_self 0)
              | have zguard := zjh; exact L_X7_readPart_207 (l := l) hY hs hp (Mb := (htM Mb (t + 1))) (k9 := (t + 1 + pf (htT M0 (t + 1)))) (x9 := 0) zhM.2 (Or.inl rfl) F FR _ _ _ _ (fun r9 hr9 => rp_end ht hr9 (Or.inr ⟨rfl, by rw [zt1]; unfold tlT; rw [if_pos zcj, al_t zjd, al_ap, Bool.eq_false_iff.mpr zjh]; exact fun z => Bool.false_ne_true z⟩) hp zhM.2 zhM.1 (by rw [zt2]; unfold tlT; rw [if_pos zcj, pf_t zjd, pf_ap, if_neg zjh]; omega) (fun z => absurd z (by decide))) (Nat.lt_succ_self 0)
              | have zguard := zjv; exact L_X7_readPart_207 (l := l) hY hs hp (Mb := (vcM (htM Mb (t + 1)) (t + 4))) (k9 := (t + 4 + b01 (vcB M0 (t + 4)))) (x9 := 0) zvM.2 (Or.inl rfl) F FR _ _ _ _ (fun r9 hr9 => rp_end ht hr9 (Or.inr ⟨rfl, by rw [zt1]; unfold tlT; rw [if_pos zcj, al_t zjd, al_ap, zjk, al_f zjv]; decide⟩) hp zvM.2 zvM.1 (by rw [zt2]; unfold tlT; rw [if_pos zcj, pf_t zjd, pf_ap, if_pos zjk, htT_len, pf_f zjv, b01_f zjv]; omega) (fun z => absurd z (by decide))) (Nat.lt_succ_self 0)
              | have zguard := zjw; exact L_X7_readPart_207 (l := l) hY hs hp (Mb := (vcM (htM Mb (t + 1)) (t + 4))) (k9 := (t + 4 + b01 (vcB M0 (t + 4)))) (x9 := 1) zvM.2 (Or.inr rfl) F FR _ _ _ _ (fun r9 hr9 => rp_end ht hr9 (Or.inl ⟨rfl, by rw [zt1]; unfold tlT; rw [if_pos zcj, al_t zjd, al_ap, zjk, al_t zjw]; rfl⟩) hp zvM.2 zvM.1 (by rw [zt2]; unfold tlT; rw [if_pos zcj, pf_t zjd, pf_ap, if_pos zjk, htT_len, pf_t zjw, b01_t zjw]; simp only [pf]; omega) (fun _ => ⟨zg75, zg76, fun _ => zg77, fun z => absurd (zcj.symm.trans z) (by decide)⟩)) (Nat.lt_succ_self 0)
              | have zguard := zsc; exact L_X7_readPart_207 (l := l) hY hs hp (Mb := Mb) (k9 := (t + b01 (rgB M0 t 44 44))) (x9 := 0) hpb (Or.inl rfl) F FR _ _ _ _ (fun r9 hr9 => rp_end ht hr9 (Or.inr ⟨rfl, by rw [zt1]; unfold tlT; rw [if_neg zcn, if_pos zcs, al_f zsc]; exact Bool.false_ne_true⟩) hp hpb hrb (by rw [zt2]; unfold tlT; rw [if_neg zcn, if_pos zcs, pf_f zsc, b01_f zsc]; omega) (fun z => absurd z (by decide))) (Nat.lt_succ_self 0)
              | have zguard := zsp; exact L_X7_readPart_207 (l := l) hY hs hp (Mb := (plM Mb (t + 1))) (k9 := (t + 1 + pf (plT M0 (t + 1)))) (x9 := 0) zpM.2 (Or.inl rfl) F FR _ _ _ _ (fun r9 hr9 => rp_end ht hr9 (Or.inr ⟨rfl, by rw [zt1]; unfold tlT; rw [if_neg zcn, if_pos zcs, al_t zsd]; exact zsp⟩) hp zpM.2 zpM.1 (by rw [zt2]; unfold tlT; rw [if_neg zcn, if_pos zcs, pf_t zsd]; omega) (fun z => absurd z (by decide))) (Nat.lt_succ_self 0)
              | have zguard := zsq; exact L_X7_readPart_207 (l := l) hY hs hp (Mb := (plM Mb (t + 1))) (k9 := (t + 1 + pf (plT M0 (t + 1)))) (x9 := 1) zpM.2 (Or.inr rfl) F FR _ _ _ _ (fun r9 hr9 => rp_end ht hr9 (Or.inl ⟨rfl, by rw [zt1]; unfold tlT; rw [if_neg zcn, if_pos zcs, al_t zsd]; exact zsq⟩) hp zpM.2 zpM.1 (by rw [zt2]; unfold tlT; rw [if_neg zcn, if_pos zcs, pf_t zsd]; omega) (fun _ => ⟨zk75, zk76, fun z => absurd z zcn, fun _ => zk77⟩)) (Nat.lt_succ_self 0)
              | have zguard := zco; exact L_X7_readPart_207 (l := l) hY hs hp (Mb := Mb) (k9 := t) (x9 := 1) hpb (Or.inr rfl) F FR _ _ _ _ (fun r9 hr9 => rp_end ht hr9 (Or.inl ⟨rfl, by rw [zt1]; unfold tlT; rw [if_neg zcn, if_neg zco]; rfl⟩) hp hpb hrb (by rw [zt2]; unfold tlT; rw [if_neg zcn, if_neg zco]; simp only [pf]; omega) (fun _ => ⟨h75, h76, fun z => absurd z zcn, fun z => absurd z zco⟩)) (Nat.lt_succ_self 0)
          · have zsq := h_4
            have zq1 : rgB M0 (t + 1) 48 53 = true ∧ rgB M0 (t + 1 + 1) 48 53 = true := (by unfold plT at zsq; simp only [al, Bool.and_eq_true, Bool.and_true] at zsq; exact zsq)
            have zc1 := cdZ_b hY (t + 1)
            have zc2 := cdZ_b hY (t + 1 + 1)
            have epM : (plM Mb (t + 1)) = upI (upI Mb 77 (pa M0).toNat (jI (cdZ M0 (t + 1) - 48))) 78 (pa M0).toNat (jI (cdZ M0 (t + 1 + 1) - 48)) := (by unfold plM; rw [rdW_rg hrb, rdW_rg hrb, if_pos zq1.1, if_pos zq1.2, hpb, rdW_cd hrb, rdW_cd hrb])
            have zk75 : ((plM Mb (t + 1)).1 75 (pa M0).toNat).toInt = cdZ M0 s := (by rw [epM, upI_row (by decide), upI_row (by decide)]; exact h75)
            have zk76 : ((plM Mb (t + 1)).1 76 (pa M0).toNat).toInt = cdZ M0 (t - 1) - 48 := (by rw [epM, upI_row (by decide), upI_row (by decide)]; exact h76)
            have zk77 : ((plM Mb (t + 1)).1 77 (pa M0).toNat).toInt = cdZ M0 (t + 1) - 48 ∧ ((plM Mb (t + 1)).1 78 (pa M0).toNat).toInt = cdZ M0 (t + 1 + 1) - 48 := (by rw [epM]; exact ⟨by rw [upI_row (by decide), upI_1, if_pos ⟨rfl, rfl⟩, jI_toInt (by omega)], by rw [upI_1, if_pos ⟨rfl, rfl⟩, jI_toInt (by omega)]⟩)
            refine xj_iconst F dX7_readPart_202 ?_
            refine x_goto (tgt := 207) F dX7_readPart_203 (by decide) ?_
            first
              | have zguard := zjc; exact L_X7_readPart_207 (l := l) hY hs hp (Mb := Mb) (k9 := (t + b01 (rgB M0 t 44 44))) (x9 := 0) hpb (Or.inl rfl) F FR _ _ _ _ (fun r9 hr9 => rp_end ht hr9 (Or.inr ⟨rfl, by rw [zt1]; unfold tlT; rw [if_pos zcj, al_f zjc]; exact Bool.false_ne_true⟩) hp hpb hrb (by rw [zt2]; unfold tlT; rw [if_pos zcj, pf_f zjc, b01_f zjc]; omega) (fun z => absurd z (by decide))) (Nat.lt_succ_self 0)
              | have zguard := zjh; exact L_X7_readPart_207 (l := l) hY hs hp (Mb := (htM Mb (t + 1))) (k9 := (t + 1 + pf (htT M0 (t + 1)))) (x9 := 0) zhM.2 (Or.inl rfl) F FR _ _ _ _ (fun r9 hr9 => rp_end ht hr9 (Or.inr ⟨rfl, by rw [zt1]; unfold tlT; rw [if_pos zcj, al_t zjd, al_ap, Bool.eq_false_iff.mpr zjh]; exact fun z => Bool.false_ne_true z⟩) hp zhM.2 zhM.1 (by rw [zt2]; unfold tlT; rw [if_pos zcj, pf_t zjd, pf_ap, if_neg zjh]; omega) (fun z => absurd z (by decide))) (Nat.lt_succ_self 0)
              | have zguard := zjv; exact L_X7_readPart_207 (l := l) hY hs hp (Mb := (vcM (htM Mb (t + 1)) (t + 4))) (k9 := (t + 4 + b01 (vcB M0 (t + 4)))) (x9 := 0) zvM.2 (Or.inl rfl) F FR _ _ _ _ (fun r9 hr9 => rp_end ht hr9 (Or.inr ⟨rfl, by rw [zt1]; unfold tlT; rw [if_pos zcj, al_t zjd, al_ap, zjk, al_f zjv]; decide⟩) hp zvM.2 zvM.1 (by rw [zt2]; unfold tlT; rw [if_pos zcj, pf_t zjd, pf_ap, if_pos zjk, htT_len, pf_f zjv, b01_f zjv]; omega) (fun z => absurd z (by decide))) (Nat.lt_succ_self 0)
              | have zguard := zjw; exact L_X7_readPart_207 (l := l) hY hs hp (Mb := (vcM (htM Mb (t + 1)) (t + 4))) (k9 := (t + 4 + b01 (vcB M0 (t + 4)))) (x9 := 1) zvM.2 (Or.inr rfl) F FR _ _ _ _ (fun r9 hr9 => rp_end ht hr9 (Or.inl ⟨rfl, by rw [zt1]; unfold tlT; rw [if_pos zcj, al_t zjd, al_ap, zjk, al_t zjw]; rfl⟩) hp zvM.2 zvM.1 (by rw [zt2]; unfold tlT; rw [if_pos zcj, pf_t zjd, pf_ap, if_pos zjk, htT_len, pf_t zjw, b01_t zjw]; simp only [pf]; omega) (fun _ => ⟨zg75, zg76, fun _ => zg77, fun z => absurd (zcj.symm.trans z) (by decide)⟩)) (Nat.lt_succ_self 0)
              | have zguard := zsc; exact L_X7_readPart_207 (l := l) hY hs hp (Mb := Mb) (k9 := (t + b01 (rgB M0 t 44 44))) (x9 := 0) hpb (Or.inl rfl) F FR _ _ _ _ (fun r9 hr9 => rp_end ht hr9 (Or.inr ⟨rfl, by rw [zt1]; unfold tlT; rw [if_neg zcn, if_pos zcs, al_f zsc]; exact Bool.false_ne_true⟩) hp hpb hrb (by rw [zt2]; unfold tlT; rw [if_neg zcn, if_pos zcs, pf_f zsc, b01_f zsc]; omega) (fun z => absurd z (by decide))) (Nat.lt_succ_self 0)
              | have zguard := zsp; exact L_X7_readPart_207 (l := l) hY hs hp (Mb := (plM Mb (t + 1))) (k9 := (t + 1 + pf (plT M0 (t + 1)))) (x9 := 0) zpM.2 (Or.inl rfl) F FR _ _ _ _ (fun r9 hr9 => rp_end ht hr9 (Or.inr ⟨rfl, by rw [zt1]; unfold tlT; rw [if_neg zcn, if_pos zcs, al_t zsd]; exact zsp⟩) hp zpM.2 zpM.1 (by rw [zt2]; unfold tlT; rw [if_neg zcn, if_pos zcs, pf_t zsd]; omega) (fun z => absurd z (by decide))) (Nat.lt_succ_self 0)
              | have zguard := zsq; exact L_X7_readPart_207 (l := l) hY hs hp (Mb := (plM Mb (t + 1))) (k9 := (t + 1 + pf (plT M0 (t + 1)))) (x9 := 1) zpM.2 (Or.inr rfl) F FR _ _ _ _ (fun r9 hr9 => rp_end ht hr9 (Or.inl ⟨rfl, by rw [zt1]; unfold tlT; rw [if_neg zcn, if_pos zcs, al_t zsd]; exact zsq⟩) hp zpM.2 zpM.1 (by rw [zt2]; unfold tlT; rw [if_neg zcn, if_pos zcs, pf_t zsd]; omega) (fun _ => ⟨zk75, zk76, fun z => absurd z zcn, fun _ => zk77⟩)) (Nat.lt_succ_self 0)
              | have zguard := zco; exact L_X7_readPart_207 (l := l) hY hs hp (Mb := Mb) (k9 := t) (x9 := 1) hpb (Or.inr rfl) F FR _ _ _ _ (fun r9 hr9 => rp_end ht hr9 (Or.inl ⟨rfl, by rw [zt1]; unfold tlT; rw [if_neg zcn, if_neg zco]; rfl⟩) hp hpb hrb (by rw [zt2]; unfold tlT; rw [if_neg zcn, if_neg zco]; simp only [pf]; omega) (fun _ => ⟨h75, h76, fun z => absurd z zcn, fun z => absurd z zco⟩)) (Nat.lt_succ_self 0)
    · have zcj : cdZ M0 s = 106 := h_1
      refine x_aload_n F dX7_readPart_149 rfl ?_
      refine xj_bipush F dX7_readPart_150 (by decide) ?_
      refine x_V1 F (m_X7_takesSign (M0 := Mb) (s := t) hYb (by omega) (by decide)) mlX7_157 mvX7_takesSign rfl dX7_readPart_152 (by decide) rfl ⟨Nat.le_of_ble_eq_true rfl, Nat.le_of_ble_eq_true rfl⟩ ⟨Nat.zero_le _, Nat.zero_le _⟩ (Nat.le_of_ble_eq_true rfl) ?_
      rw [zrg]
      refine xb_if_eq (tgt := 176) F dX7_readPart_155 (by decide) (fun h_5 => ?_) (fun h_5 => ?_)
      · have zjc := h_5
        refine xj_iconst F dX7_readPart_176 ?_
        refine x_goto (tgt := 207) F dX7_readPart_177 (by decide) ?_
        first
          | have zguard := zjc; exact L_X7_readPart_207 (l := l) hY hs hp (Mb := Mb) (k9 := (t + b01 (rgB M0 t 44 44))) (x9 := 0) hpb (Or.inl rfl) F FR _ _ _ _ (fun r9 hr9 => rp_end ht hr9 (Or.inr ⟨rfl, by rw [zt1]; unfold tlT; rw [if_pos zcj, al_f zjc]; exact Bool.false_ne_true⟩) hp hpb hrb (by rw [zt2]; unfold tlT; rw [if_pos zcj, pf_f zjc, b01_f zjc]; omega) (fun z => absurd z (by decide))) (Nat.lt_succ_self 0)
          | have zguard := zjh; exact L_X7_readPart_207 (l := l) hY hs hp (Mb := (htM Mb (t + 1))) (k9 := (t + 1 + pf (htT M0 (t + 1)))) (x9 := 0) zhM.2 (Or.inl rfl) F FR _ _ _ _ (fun r9 hr9 => rp_end ht hr9 (Or.inr ⟨rfl, by rw [zt1]; unfold tlT; rw [if_pos zcj, al_t zjd, al_ap, Bool.eq_false_iff.mpr zjh]; exact fun z => Bool.false_ne_true z⟩) hp zhM.2 zhM.1 (by rw [zt2]; unfold tlT; rw [if_pos zcj, pf_t zjd, pf_ap, if_neg zjh]; omega) (fun z => absurd z (by decide))) (Nat.lt_succ_self 0)
          | have zguard := zjv; exact L_X7_readPart_207 (l := l) hY hs hp (Mb := (vcM (htM Mb (t + 1)) (t + 4))) (k9 := (t + 4 + b01 (vcB M0 (t + 4)))) (x9 := 0) zvM.2 (Or.inl rfl) F FR _ _ _ _ (fun r9 hr9 => rp_end ht hr9 (Or.inr ⟨rfl, by rw [zt1]; unfold tlT; rw [if_pos zcj, al_t zjd, al_ap, zjk, al_f zjv]; decide⟩) hp zvM.2 zvM.1 (by rw [zt2]; unfold tlT; rw [if_pos zcj, pf_t zjd, pf_ap, if_pos zjk, htT_len, pf_f zjv, b01_f zjv]; omega) (fun z => absurd z (by decide))) (Nat.lt_succ_self 0)
          | have zguard := zjw; exact L_X7_readPart_207 (l := l) hY hs hp (Mb := (vcM (htM Mb (t + 1)) (t + 4))) (k9 := (t + 4 + b01 (vcB M0 (t + 4)))) (x9 := 1) zvM.2 (Or.inr rfl) F FR _ _ _ _ (fun r9 hr9 => rp_end ht hr9 (Or.inl ⟨rfl, by rw [zt1]; unfold tlT; rw [if_pos zcj, al_t zjd, al_ap, zjk, al_t zjw]; rfl⟩) hp zvM.2 zvM.1 (by rw [zt2]; unfold tlT; rw [if_pos zcj, pf_t zjd, pf_ap, if_pos zjk, htT_len, pf_t zjw, b01_t zjw]; simp only [pf]; omega) (fun _ => ⟨zg75, zg76, fun _ => zg77, fun z => absurd (zcj.symm.trans z) (by decide)⟩)) (Nat.lt_succ_self 0)
          | have zguard := zsc; exact L_X7_readPart_207 (l := l) hY hs hp (Mb := Mb) (k9 := (t + b01 (rgB M0 t 44 44))) (x9 := 0) hpb (Or.inl rfl) F FR _ _ _ _ (fun r9 hr9 => rp_end ht hr9 (Or.inr ⟨rfl, by rw [zt1]; unfold tlT; rw [if_neg zcn, if_pos zcs, al_f zsc]; exact Bool.false_ne_true⟩) hp hpb hrb (by rw [zt2]; unfold tlT; rw [if_neg zcn, if_pos zcs, pf_f zsc, b01_f zsc]; omega) (fun z => absurd z (by decide))) (Nat.lt_succ_self 0)
          | have zguard := zsp; exact L_X7_readPart_207 (l := l) hY hs hp (Mb := (plM Mb (t + 1))) (k9 := (t + 1 + pf (plT M0 (t + 1)))) (x9 := 0) zpM.2 (Or.inl rfl) F FR _ _ _ _ (fun r9 hr9 => rp_end ht hr9 (Or.inr ⟨rfl, by rw [zt1]; unfold tlT; rw [if_neg zcn, if_pos zcs, al_t zsd]; exact zsp⟩) hp zpM.2 zpM.1 (by rw [zt2]; unfold tlT; rw [if_neg zcn, if_pos zcs, pf_t zsd]; omega) (fun z => absurd z (by decide))) (Nat.lt_succ_self 0)
          | have zguard := zsq; exact L_X7_readPart_207 (l := l) hY hs hp (Mb := (plM Mb (t + 1))) (k9 := (t + 1 + pf (plT M0 (t + 1)))) (x9 := 1) zpM.2 (Or.inr rfl) F FR _ _ _ _ (fun r9 hr9 => rp_end ht hr9 (Or.inl ⟨rfl, by rw [zt1]; unfold tlT; rw [if_neg zcn, if_pos zcs, al_t zsd]; exact zsq⟩) hp zpM.2 zpM.1 (by rw [zt2]; unfold tlT; rw [if_neg zcn, if_pos zcs, pf_t zsd]; omega) (fun _ => ⟨zk75, zk76, fun z => absurd z zcn, fun _ => zk77⟩)) (Nat.lt_succ_self 0)
          | have zguard := zco; exact L_X7_readPart_207 (l := l) hY hs hp (Mb := Mb) (k9 := t) (x9 := 1) hpb (Or.inr rfl) F FR _ _ _ _ (fun r9 hr9 => rp_end ht hr9 (Or.inl ⟨rfl, by rw [zt1]; unfold tlT; rw [if_neg zcn, if_neg zco]; rfl⟩) hp hpb hrb (by rw [zt2]; unfold tlT; rw [if_neg zcn, if_neg zco]; simp only [pf]; omega) (fun _ => ⟨h75, h76, fun z => absurd z zcn, fun z => absurd z zco⟩)) (Nat.lt_succ_self 0)
      · have zjd := h_5
        have zji := rgB_in zjd (by decide)
        rw [b01_t zjd]
        refine x_aload_n F dX7_readPart_158 rfl ?_
        refine x_V0 F (m_X7_readHeight (M0 := Mb) (s := t + 1) hYb (by omega) hpp) mlX7_172 mvX7_readHeight rfl dX7_readPart_159 (by decide) rfl ⟨Nat.le_of_ble_eq_true rfl, Nat.le_of_ble_eq_true rfl⟩ ⟨Nat.zero_le _, Nat.zero_le _⟩ (Nat.le_of_ble_eq_true rfl) ?_
        rw [zht]
        refine xb_if_eq (tgt := 176) F dX7_readPart_162 (by decide) (fun h_6 => ?_) (fun h_6 => ?_)
        · have zjh := h_6
          refine xj_iconst F dX7_readPart_176 ?_
          refine x_goto (tgt := 207) F dX7_readPart_177 (by decide) ?_
          first
            | have zguard := zjc; exact L_X7_readPart_207 (l := l) hY hs hp (Mb := Mb) (k9 := (t + b01 (rgB M0 t 44 44))) (x9 := 0) hpb (Or.inl rfl) F FR _ _ _ _ (fun r9 hr9 => rp_end ht hr9 (Or.inr ⟨rfl, by rw [zt1]; unfold tlT; rw [if_pos zcj, al_f zjc]; exact Bool.false_ne_true⟩) hp hpb hrb (by rw [zt2]; unfold tlT; rw [if_pos zcj, pf_f zjc, b01_f zjc]; omega) (fun z => absurd z (by decide))) (Nat.lt_succ_self 0)
            | have zguard := zjh; exact L_X7_readPart_207 (l := l) hY hs hp (Mb := (htM Mb (t + 1))) (k9 := (t + 1 + pf (htT M0 (t + 1)))) (x9 := 0) zhM.2 (Or.inl rfl) F FR _ _ _ _ (fun r9 hr9 => rp_end ht hr9 (Or.inr ⟨rfl, by rw [zt1]; unfold tlT; rw [if_pos zcj, al_t zjd, al_ap, Bool.eq_false_iff.mpr zjh]; exact fun z => Bool.false_ne_true z⟩) hp zhM.2 zhM.1 (by rw [zt2]; unfold tlT; rw [if_pos zcj, pf_t zjd, pf_ap, if_neg zjh]; omega) (fun z => absurd z (by decide))) (Nat.lt_succ_self 0)
            | have zguard := zjv; exact L_X7_readPart_207 (l := l) hY hs hp (Mb := (vcM (htM Mb (t + 1)) (t + 4))) (k9 := (t + 4 + b01 (vcB M0 (t + 4)))) (x9 := 0) zvM.2 (Or.inl rfl) F FR _ _ _ _ (fun r9 hr9 => rp_end ht hr9 (Or.inr ⟨rfl, by rw [zt1]; unfold tlT; rw [if_pos zcj, al_t zjd, al_ap, zjk, al_f zjv]; decide⟩) hp zvM.2 zvM.1 (by rw [zt2]; unfold tlT; rw [if_pos zcj, pf_t zjd, pf_ap, if_pos zjk, htT_len, pf_f zjv, b01_f zjv]; omega) (fun z => absurd z (by decide))) (Nat.lt_succ_self 0)
            | have zguard := zjw; exact L_X7_readPart_207 (l := l) hY hs hp (Mb := (vcM (htM Mb (t + 1)) (t + 4))) (k9 := (t + 4 + b01 (vcB M0 (t + 4)))) (x9 := 1) zvM.2 (Or.inr rfl) F FR _ _ _ _ (fun r9 hr9 => rp_end ht hr9 (Or.inl ⟨rfl, by rw [zt1]; unfold tlT; rw [if_pos zcj, al_t zjd, al_ap, zjk, al_t zjw]; rfl⟩) hp zvM.2 zvM.1 (by rw [zt2]; unfold tlT; rw [if_pos zcj, pf_t zjd, pf_ap, if_pos zjk, htT_len, pf_t zjw, b01_t zjw]; simp only [pf]; omega) (fun _ => ⟨zg75, zg76, fun _ => zg77, fun z => absurd (zcj.symm.trans z) (by decide)⟩)) (Nat.lt_succ_self 0)
            | have zguard := zsc; exact L_X7_readPart_207 (l := l) hY hs hp (Mb := Mb) (k9 := (t + b01 (rgB M0 t 44 44))) (x9 := 0) hpb (Or.inl rfl) F FR _ _ _ _ (fun r9 hr9 => rp_end ht hr9 (Or.inr ⟨rfl, by rw [zt1]; unfold tlT; rw [if_neg zcn, if_pos zcs, al_f zsc]; exact Bool.false_ne_true⟩) hp hpb hrb (by rw [zt2]; unfold tlT; rw [if_neg zcn, if_pos zcs, pf_f zsc, b01_f zsc]; omega) (fun z => absurd z (by decide))) (Nat.lt_succ_self 0)
            | have zguard := zsp; exact L_X7_readPart_207 (l := l) hY hs hp (Mb := (plM Mb (t + 1))) (k9 := (t + 1 + pf (plT M0 (t + 1)))) (x9 := 0) zpM.2 (Or.inl rfl) F FR _ _ _ _ (fun r9 hr9 => rp_end ht hr9 (Or.inr ⟨rfl, by rw [zt1]; unfold tlT; rw [if_neg zcn, if_pos zcs, al_t zsd]; exact zsp⟩) hp zpM.2 zpM.1 (by rw [zt2]; unfold tlT; rw [if_neg zcn, if_pos zcs, pf_t zsd]; omega) (fun z => absurd z (by decide))) (Nat.lt_succ_self 0)
            | have zguard := zsq; exact L_X7_readPart_207 (l := l) hY hs hp (Mb := (plM Mb (t + 1))) (k9 := (t + 1 + pf (plT M0 (t + 1)))) (x9 := 1) zpM.2 (Or.inr rfl) F FR _ _ _ _ (fun r9 hr9 => rp_end ht hr9 (Or.inl ⟨rfl, by rw [zt1]; unfold tlT; rw [if_neg zcn, if_pos zcs, al_t zsd]; exact zsq⟩) hp zpM.2 zpM.1 (by rw [zt2]; unfold tlT; rw [if_neg zcn, if_pos zcs, pf_t zsd]; omega) (fun _ => ⟨zk75, zk76, fun z => absurd z zcn, fun _ => zk77⟩)) (Nat.lt_succ_self 0)
            | have zguard := zco; exact L_X7_readPart_207 (l := l) hY hs hp (Mb := Mb) (k9 := t) (x9 := 1) hpb (Or.inr rfl) F FR _ _ _ _ (fun r9 hr9 => rp_end ht hr9 (Or.inl ⟨rfl, by rw [zt1]; unfold tlT; rw [if_neg zcn, if_neg zco]; rfl⟩) hp hpb hrb (by rw [zt2]; unfold tlT; rw [if_neg zcn, if_neg zco]; simp only [pf]; omega) (fun _ => ⟨h75, h76, fun z => absurd z zcn, fun z => absurd z zco⟩)) (Nat.lt_succ_self 0)
        · have zjk := h_6
          have zkl := htT_in zjk
          rw [pf_w zjk (htT_len _ _), show t + 1 + 3 = t + 4 by omega]
          refine x_aload_n F dX7_readPart_165 rfl ?_
          refine x_V0 F (m_X7_readVoice (M0 := (htM Mb (t + 1))) (s := t + 4) (rdW_ok zhM.1 hY) (by omega) (by have := zhM.2; omega)) mlX7_176 mvX7_readVoice rfl dX7_readPart_166 (by decide) rfl ⟨Nat.le_of_ble_eq_true rfl, Nat.le_of_ble_eq_true rfl⟩ ⟨Nat.zero_le _, Nat.zero_le _⟩ (Nat.le_of_ble_eq_true rfl) ?_
          rw [zvc]
          refine xb_if_eq (tgt := 176) F dX7_readPart_169 (by decide) (fun h_7 => ?_) (fun h_7 => ?_)
          · have zjv := h_7
            refine xj_iconst F dX7_readPart_176 ?_
            refine x_goto (tgt := 207) F dX7_readPart_177 (by decide) ?_
            first
              | have zguard := zjc; exact L_X7_readPart_207 (l := l) hY hs hp (Mb := Mb) (k9 := (t + b01 (rgB M0 t 44 44))) (x9 := 0) hpb (Or.inl rfl) F FR _ _ _ _ (fun r9 hr9 => rp_end ht hr9 (Or.inr ⟨rfl, by rw [zt1]; unfold tlT; rw [if_pos zcj, al_f zjc]; exact Bool.false_ne_true⟩) hp hpb hrb (by rw [zt2]; unfold tlT; rw [if_pos zcj, pf_f zjc, b01_f zjc]; omega) (fun z => absurd z (by decide))) (Nat.lt_succ_self 0)
              | have zguard := zjh; exact L_X7_readPart_207 (l := l) hY hs hp (Mb := (htM Mb (t + 1))) (k9 := (t + 1 + pf (htT M0 (t + 1)))) (x9 := 0) zhM.2 (Or.inl rfl) F FR _ _ _ _ (fun r9 hr9 => rp_end ht hr9 (Or.inr ⟨rfl, by rw [zt1]; unfold tlT; rw [if_pos zcj, al_t zjd, al_ap, Bool.eq_false_iff.mpr zjh]; exact fun z => Bool.false_ne_true z⟩) hp zhM.2 zhM.1 (by rw [zt2]; unfold tlT; rw [if_pos zcj, pf_t zjd, pf_ap, if_neg zjh]; omega) (fun z => absurd z (by decide))) (Nat.lt_succ_self 0)
              | have zguard := zjv; exact L_X7_readPart_207 (l := l) hY hs hp (Mb := (vcM (htM Mb (t + 1)) (t + 4))) (k9 := (t + 4 + b01 (vcB M0 (t + 4)))) (x9 := 0) zvM.2 (Or.inl rfl) F FR _ _ _ _ (fun r9 hr9 => rp_end ht hr9 (Or.inr ⟨rfl, by rw [zt1]; unfold tlT; rw [if_pos zcj, al_t zjd, al_ap, zjk, al_f zjv]; decide⟩) hp zvM.2 zvM.1 (by rw [zt2]; unfold tlT; rw [if_pos zcj, pf_t zjd, pf_ap, if_pos zjk, htT_len, pf_f zjv, b01_f zjv]; omega) (fun z => absurd z (by decide))) (Nat.lt_succ_self 0)
              | have zguard := zjw; exact L_X7_readPart_207 (l := l) hY hs hp (Mb := (vcM (htM Mb (t + 1)) (t + 4))) (k9 := (t + 4 + b01 (vcB M0 (t + 4)))) (x9 := 1) zvM.2 (Or.inr rfl) F FR _ _ _ _ (fun r9 hr9 => rp_end ht hr9 (Or.inl ⟨rfl, by rw [zt1]; unfold tlT; rw [if_pos zcj, al_t zjd, al_ap, zjk, al_t zjw]; rfl⟩) hp zvM.2 zvM.1 (by rw [zt2]; unfold tlT; rw [if_pos zcj, pf_t zjd, pf_ap, if_pos zjk, htT_len, pf_t zjw, b01_t zjw]; simp only [pf]; omega) (fun _ => ⟨zg75, zg76, fun _ => zg77, fun z => absurd (zcj.symm.trans z) (by decide)⟩)) (Nat.lt_succ_self 0)
              | have zguard := zsc; exact L_X7_readPart_207 (l := l) hY hs hp (Mb := Mb) (k9 := (t + b01 (rgB M0 t 44 44))) (x9 := 0) hpb (Or.inl rfl) F FR _ _ _ _ (fun r9 hr9 => rp_end ht hr9 (Or.inr ⟨rfl, by rw [zt1]; unfold tlT; rw [if_neg zcn, if_pos zcs, al_f zsc]; exact Bool.false_ne_true⟩) hp hpb hrb (by rw [zt2]; unfold tlT; rw [if_neg zcn, if_pos zcs, pf_f zsc, b01_f zsc]; omega) (fun z => absurd z (by decide))) (Nat.lt_succ_self 0)
              | have zguard := zsp; exact L_X7_readPart_207 (l := l) hY hs hp (Mb := (plM Mb (t + 1))) (k9 := (t + 1 + pf (plT M0 (t + 1)))) (x9 := 0) zpM.2 (Or.inl rfl) F FR _ _ _ _ (fun r9 hr9 => rp_end ht hr9 (Or.inr ⟨rfl, by rw [zt1]; unfold tlT; rw [if_neg zcn, if_pos zcs, al_t zsd]; exact zsp⟩) hp zpM.2 zpM.1 (by rw [zt2]; unfold tlT; rw [if_neg zcn, if_pos zcs, pf_t zsd]; omega) (fun z => absurd z (by decide))) (Nat.lt_succ_self 0)
              | have zguard := zsq; exact L_X7_readPart_207 (l := l) hY hs hp (Mb := (plM Mb (t + 1))) (k9 := (t + 1 + pf (plT M0 (t + 1)))) (x9 := 1) zpM.2 (Or.inr rfl) F FR _ _ _ _ (fun r9 hr9 => rp_end ht hr9 (Or.inl ⟨rfl, by rw [zt1]; unfold tlT; rw [if_neg zcn, if_pos zcs, al_t zsd]; exact zsq⟩) hp zpM.2 zpM.1 (by rw [zt2]; unfold tlT; rw [if_neg zcn, if_pos zcs, pf_t zsd]; omega) (fun _ => ⟨zk75, zk76, fun z => absurd z zcn, fun _ => zk77⟩)) (Nat.lt_succ_self 0)
              | have zguard := zco; exact L_X7_readPart_207 (l := l) hY hs hp (Mb := Mb) (k9 := t) (x9 := 1) hpb (Or.inr rfl) F FR _ _ _ _ (fun r9 hr9 => rp_end ht hr9 (Or.inl ⟨rfl, by rw [zt1]; unfold tlT; rw [if_neg zcn, if_neg zco]; rfl⟩) hp hpb hrb (by rw [zt2]; unfold tlT; rw [if_neg zcn, if_neg zco]; simp only [pf]; omega) (fun _ => ⟨h75, h76, fun z => absurd z zcn, fun z => absurd z zco⟩)) (Nat.lt_succ_self 0)
          · have zjw := h_7
            have zhv := htV_b hY (t + 1)
            have zvb := vcZ_b (cdZ M0 (t + 4))
            have ehM : (htM Mb (t + 1)) = upI Mb 77 (pa M0).toNat (jI (htV M0 (t + 1))) := (by unfold htM; rw [zht, if_pos zjk, hpb, rdW_hv hrb])
            have evM : (vcM (htM Mb (t + 1)) (t + 4)) = upI (upI Mb 77 (pa M0).toNat (jI (htV M0 (t + 1)))) 78 (pa M0).toNat (jI (vcZ (cdZ M0 (t + 4)))) := (by unfold vcM; rw [zhM.2, rdW_cd zhM.1, ehM])
            have zg75 : ((vcM (htM Mb (t + 1)) (t + 4)).1 75 (pa M0).toNat).toInt = cdZ M0 s := (by rw [evM, upI_row (by decide), upI_row (by decide)]; exact h75)
            have zg76 : ((vcM (htM Mb (t + 1)) (t + 4)).1 76 (pa M0).toNat).toInt = cdZ M0 (t - 1) - 48 := (by rw [evM, upI_row (by decide), upI_row (by decide)]; exact h76)
            have zg77 : ((vcM (htM Mb (t + 1)) (t + 4)).1 77 (pa M0).toNat).toInt = htV M0 (t + 1) ∧ ((vcM (htM Mb (t + 1)) (t + 4)).1 78 (pa M0).toNat).toInt = vcZ (cdZ M0 (t + 4)) := (by rw [evM]; exact ⟨by rw [upI_row (by decide), upI_1, if_pos ⟨rfl, rfl⟩, jI_toInt zhv], by rw [upI_1, if_pos ⟨rfl, rfl⟩, jI_toInt (by omega)]⟩)
            refine xj_iconst F dX7_readPart_172 ?_
            refine x_goto (tgt := 207) F dX7_readPart_173 (by decide) ?_
            first
              | have zguard := zjc; exact L_X7_readPart_207 (l := l) hY hs hp (Mb := Mb) (k9 := (t + b01 (rgB M0 t 44 44))) (x9 := 0) hpb (Or.inl rfl) F FR _ _ _ _ (fun r9 hr9 => rp_end ht hr9 (Or.inr ⟨rfl, by rw [zt1]; unfold tlT; rw [if_pos zcj, al_f zjc]; exact Bool.false_ne_true⟩) hp hpb hrb (by rw [zt2]; unfold tlT; rw [if_pos zcj, pf_f zjc, b01_f zjc]; omega) (fun z => absurd z (by decide))) (Nat.lt_succ_self 0)
              | have zguard := zjh; exact L_X7_readPart_207 (l := l) hY hs hp (Mb := (htM Mb (t + 1))) (k9 := (t + 1 + pf (htT M0 (t + 1)))) (x9 := 0) zhM.2 (Or.inl rfl) F FR _ _ _ _ (fun r9 hr9 => rp_end ht hr9 (Or.inr ⟨rfl, by rw [zt1]; unfold tlT; rw [if_pos zcj, al_t zjd, al_ap, Bool.eq_false_iff.mpr zjh]; exact fun z => Bool.false_ne_true z⟩) hp zhM.2 zhM.1 (by rw [zt2]; unfold tlT; rw [if_pos zcj, pf_t zjd, pf_ap, if_neg zjh]; omega) (fun z => absurd z (by decide))) (Nat.lt_succ_self 0)
              | have zguard := zjv; exact L_X7_readPart_207 (l := l) hY hs hp (Mb := (vcM (htM Mb (t + 1)) (t + 4))) (k9 := (t + 4 + b01 (vcB M0 (t + 4)))) (x9 := 0) zvM.2 (Or.inl rfl) F FR _ _ _ _ (fun r9 hr9 => rp_end ht hr9 (Or.inr ⟨rfl, by rw [zt1]; unfold tlT; rw [if_pos zcj, al_t zjd, al_ap, zjk, al_f zjv]; decide⟩) hp zvM.2 zvM.1 (by rw [zt2]; unfold tlT; rw [if_pos zcj, pf_t zjd, pf_ap, if_pos zjk, htT_len, pf_f zjv, b01_f zjv]; omega) (fun z => absurd z (by decide))) (Nat.lt_succ_self 0)
              | have zguard := zjw; exact L_X7_readPart_207 (l := l) hY hs hp (Mb := (vcM (htM Mb (t + 1)) (t + 4))) (k9 := (t + 4 + b01 (vcB M0 (t + 4)))) (x9 := 1) zvM.2 (Or.inr rfl) F FR _ _ _ _ (fun r9 hr9 => rp_end ht hr9 (Or.inl ⟨rfl, by rw [zt1]; unfold tlT; rw [if_pos zcj, al_t zjd, al_ap, zjk, al_t zjw]; rfl⟩) hp zvM.2 zvM.1 (by rw [zt2]; unfold tlT; rw [if_pos zcj, pf_t zjd, pf_ap, if_pos zjk, htT_len, pf_t zjw, b01_t zjw]; simp only [pf]; omega) (fun _ => ⟨zg75, zg76, fun _ => zg77, fun z => absurd (zcj.symm.trans z) (by decide)⟩)) (Nat.lt_succ_self 0)
              | have zguard := zsc; exact L_X7_readPart_207 (l := l) hY hs hp (Mb := Mb) (k9 := (t + b01 (rgB M0 t 44 44))) (x9 := 0) hpb (Or.inl rfl) F FR _ _ _ _ (fun r9 hr9 => rp_end ht hr9 (Or.inr ⟨rfl, by rw [zt1]; unfold tlT; rw [if_neg zcn, if_pos zcs, al_f zsc]; exact Bool.false_ne_true⟩) hp hpb hrb (by rw [zt2]; unfold tlT; rw [if_neg zcn, if_pos zcs, pf_f zsc, b01_f zsc]; omega) (fun z => absurd z (by decide))) (Nat.lt_succ_self 0)
              | have zguard := zsp; exact L_X7_readPart_207 (l := l) hY hs hp (Mb := (plM Mb (t + 1))) (k9 := (t + 1 + pf (plT M0 (t + 1)))) (x9 := 0) zpM.2 (Or.inl rfl) F FR _ _ _ _ (fun r9 hr9 => rp_end ht hr9 (Or.inr ⟨rfl, by rw [zt1]; unfold tlT; rw [if_neg zcn, if_pos zcs, al_t zsd]; exact zsp⟩) hp zpM.2 zpM.1 (by rw [zt2]; unfold tlT; rw [if_neg zcn, if_pos zcs, pf_t zsd]; omega) (fun z => absurd z (by decide))) (Nat.lt_succ_self 0)
              | have zguard := zsq; exact L_X7_readPart_207 (l := l) hY hs hp (Mb := (plM Mb (t + 1))) (k9 := (t + 1 + pf (plT M0 (t + 1)))) (x9 := 1) zpM.2 (Or.inr rfl) F FR _ _ _ _ (fun r9 hr9 => rp_end ht hr9 (Or.inl ⟨rfl, by rw [zt1]; unfold tlT; rw [if_neg zcn, if_pos zcs, al_t zsd]; exact zsq⟩) hp zpM.2 zpM.1 (by rw [zt2]; unfold tlT; rw [if_neg zcn, if_pos zcs, pf_t zsd]; omega) (fun _ => ⟨zk75, zk76, fun z => absurd z zcn, fun _ => zk77⟩)) (Nat.lt_succ_self 0)
              | have zguard := zco; exact L_X7_readPart_207 (l := l) hY hs hp (Mb := Mb) (k9 := t) (x9 := 1) hpb (Or.inr rfl) F FR _ _ _ _ (fun r9 hr9 => rp_end ht hr9 (Or.inl ⟨rfl, by rw [zt1]; unfold tlT; rw [if_neg zcn, if_neg zco]; rfl⟩) hp hpb hrb (by rw [zt2]; unfold tlT; rw [if_neg zcn, if_neg zco]; simp only [pf]; omega) (fun _ => ⟨h75, h76, fun z => absurd z zcn, fun z => absurd z zco⟩)) (Nat.lt_succ_self 0)
