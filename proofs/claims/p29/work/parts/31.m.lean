/-! most(): all orders by their codes, in the cell that it makes -/
theorem facN_le : ∀ n, n < 7 → 1 ≤ facN n ∧ facN n ≤ 720 := by decide +kernel
theorem psC_all : ∀ n, n < 7 → (List.range (facN n)).all (fun c => decide (psC n c ≤ 36)) = true := by decide +kernel
theorem psC_le {n c : Nat} (hn : n < 7) (hc : c < facN n) : psC n c ≤ 36 := of_decide_eq_true (List.all_eq_true.mp (psC_all n hn) c (List.mem_range.mpr hc))
theorem whR_ge : ∀ (f g s w : Nat), w ≤ whR f g s w
  | 0, _, _, w => Nat.le_refl w
  | f + 1, g, s, w => by
    simp only [whR]
    split
    · exact Nat.le_trans (Nat.le_succ w) (whR_ge f g _ (w + 1))
    · exact Nat.le_refl w
theorem runC_pre : ∀ (m l p g : Nat) (L : List Nat), ∃ R, (runC m l p g L).2 = L ++ R ∧ R.length = m
  | 0, _, _, _, L => ⟨[], by simp [runC], rfl⟩
  | m + 1, l, p, g, L => by
    obtain ⟨R, e, hR⟩ := runC_pre m (l / (m + 1)) (p + l % (m + 1)) (g ||| 2 ^ whR 7 g (l % (m + 1)) 0) (L ++ [whR 7 g (l % (m + 1)) 0])
    refine ⟨whR 7 g (l % (m + 1)) 0 :: R, ?_, by simp [hR]⟩
    simp only [runC]
    rw [e]
    simp
theorem shr_lt {g : Nat} (h : g < 64) (w : Nat) : g >>> w < 64 := by
  rw [Nat.shiftRight_eq_div_pow]
  exact Nat.lt_of_le_of_lt (Nat.div_le_self _ _) h
theorem tbq {g : Nat} (h : g < 64) {w : Nat} (hw : w < 6) : ((g >>> w : Nat) : Int) % 2 = 1 ↔ g.testBit w = true := by
  have := shr_par g h w hw
  constructor
  · intro z
    by_cases e : g.testBit w = true
    · exact e
    · rw [if_neg e] at this; omega
  · intro z
    rw [if_pos z] at this
    omega
theorem sk_eq {g : Nat} (h : g < 64) {w s : Nat} (hw : w < 6) (hs : g.testBit w = true ∨ 0 < s) : (s : Int) - (if ((g >>> w : Nat) : Int) % 2 = 1 then 0 else 1) = (((if g.testBit w = true then s else s - 1) : Nat) : Int) := by
  by_cases e : g.testBit w = true
  · rw [if_pos ((tbq h hw).mpr e), if_pos e]; omega
  · rw [if_neg (fun z => e ((tbq h hw).mp z)), if_neg e]
    rcases hs with hs | hs
    · exact absurd hs e
    · omega
theorem up1 {q p : Int × Int} (h : q.1 < p.1) : upQ q p = p := by unfold upQ; rw [if_pos h, if_pos (Or.inl h)]
theorem up2 {q p : Int × Int} (h : ¬ q.1 < p.1) (h2 : p.1 = q.1 ∧ p.2 < q.2) : upQ q p = (q.1, p.2) := by unfold upQ; rw [if_neg h, if_pos (Or.inr h2)]
theorem up3 {q p : Int × Int} (h : ¬ q.1 < p.1) (h2 : ¬ (p.1 = q.1 ∧ p.2 < q.2)) : upQ q p = q := by unfold upQ; rw [if_neg h, if_neg (fun z => z.elim h h2)]
theorem wrQ_b {h n : aT} {r : Int} {c : Nat} (hc : c < facN (mnI h r).toNat) : (0 ≤ (wrQ h n r (orC (mnI h r).toNat c)).1 ∧ (wrQ h n r (orC (mnI h r).toNat c)).1 ≤ 6) ∧ (wrQ h n r (orC (mnI h r).toNat c)).2 = (psC (mnI h r).toNat c : Int) := by
  have hb := mnI_b h r
  obtain ⟨h1, h2⟩ := orC_in (n := (mnI h r).toNat) (by omega) hc
  obtain ⟨hl, -, -⟩ := prm_in (n := (mnI h r).toNat) (by omega) h1
  refine ⟨odI_b (vC_hS (pmA h r (orC (mnI h r).toNat c)) n) r, ?_⟩
  show sS _ _ = _
  rw [hl, h2]
theorem qCd_b {h n : aT} {r : Int} {c : Nat} (hc : c ≤ facN (mnI h r).toNat) : (-1 ≤ (qCd h n r c).1 ∧ (qCd h n r c).1 ≤ 6) ∧ 0 ≤ (qCd h n r c).2 ∧ (qCd h n r c).2 ≤ 36 := by
  have hb := mnI_b h r
  obtain ⟨-, -, h3⟩ := fldQ_ge (f := wrQ h n r) ((List.range c).map (orC (mnI h r).toNat)) (-1, 0)
  unfold qCd
  rcases h3 with h3 | ⟨L, hL, h3⟩
  · rw [h3]; decide
  · rw [h3]
    obtain ⟨c9, hc9, rfl⟩ := List.mem_map.mp hL
    have hlt : c9 < facN (mnI h r).toNat := Nat.lt_of_lt_of_le (List.mem_range.mp hc9) hc
    obtain ⟨b1, b2⟩ := wrQ_b (n := n) hlt
    have := psC_le (by omega) hlt
    omega
/-- the tried order as it stands in the cell -/
theorem tr_pm {h t : aT} {r : Int} {L : List Nat} (hr : 0 ≤ r ∧ r < 4) (hl : (L.length : Int) = mnI h r) (h1 : ∀ i, i < L.length → t ((6 * r).toNat + i) = h ((6 * r).toNat + gt L i)) (h2 : ∀ j : Nat, j < 24 → ((j : Int) < 6 * r ∨ 6 * r + mnI h r ≤ (j : Int)) → t j = h j) : ∀ j, j < 24 → t j = pmA h r L j := fun j hj => by
  unfold pmA
  by_cases e : 6 * r.toNat ≤ j ∧ j < 6 * r.toNat + L.length
  · rw [if_pos e]
    have := h1 (j - 6 * r.toNat) (by omega)
    rw [show (6 * r).toNat + (j - 6 * r.toNat) = j by omega, show (6 * r).toNat + gt L (j - 6 * r.toNat) = 6 * r.toNat + gt L (j - 6 * r.toNat) by omega] at this
    exact this
  · rw [if_neg e]
    exact h2 j hj (by omega)
set_option maxRecDepth 20000 in
theorem L_most_18 {l : Launch} {E : xE} {h n : aT} {r : Int} {M0 W : xM} (hE : xN E = 73) (hr : 0 ≤ r ∧ r < 4) {Y : xY} (F : xFix E (xA E) Y cL_most yL_most.cls 15) : ∀ (k : Nat) (i : Nat), 2 ≤ i ∧ i ≤ 7 → (i : Int) ≤ mnI h r + 1 ∨ i = 2 → (∀ y : xV, WP l E (xRm 3 1 24) (xA E) Y 1 24 38 [vA 68, vA 71, vI (jI r), vA 72, vI (jI (mnI h r)), vI (jI ((facN (mnI h r).toNat : Nat) : Int)), y, vU, vU, vU, vU, vU, vU, vU, vU] [] W) → 8 - i < k → WP l E (xRm 3 1 24) (xA E) Y 1 24 18 [vA 68, vA 71, vI (jI r), vA 72, vI (jI (mnI h r)), vI (jI ((facN (i - 1) : Nat) : Int)), vI (jI (i : Int)), vU, vU, vU, vU, vU, vU, vU, vU] [] W := by
  intro k
  induction k with
  | zero => intro i hi hi2 hex hk; exact absurd hk (Nat.not_lt_zero _)
  | succ k ih =>
    intro i hi hi2 hex hk
    have hb := mnI_b h r
    have hf := facN_le (i - 1) (by omega)
    refine x_iload F dL_most_18 rfl ?_
    refine x_iload F dL_most_20 rfl ?_
    refine xj_icmp_gt (tgt := 38) F dL_most_22 (by decide) (by omega) (fun h_1 => ?_) (fun h_1 => ?_)
    · have e : facN (i - 1) = facN (mnI h r).toNat := by
        rcases (show mnI h r = 0 ∨ mnI h r = 1 ∨ i = (mnI h r).toNat + 1 by omega) with z | z | z
        · rw [z, show i = 2 by omega]; rfl
        · rw [z, show i = 2 by omega]; rfl
        · rw [z]; rfl
      rw [e]
      exact hex _
    · refine x_iload F dL_most_25 rfl ?_
      refine x_iload F dL_most_27 rfl ?_
      refine xj_imul F dL_most_29 ?_
      refine x_istore F dL_most_30 (by decide) ?_
      refine xj_iinc F dL_most_32 rfl ?_
      refine x_goto (tgt := 18) F dL_most_35 (by decide) ?_
      have e : facN i = i * facN (i - 1) := by
        obtain ⟨i9, rfl⟩ : ∃ i9, i = i9 + 1 := ⟨i - 1, by omega⟩
        rfl
      have g := ih (i + 1) (by omega) (by omega) hex (by omega)
      rw [show i + 1 - 1 = i by omega, e] at g
      rw [Int.mul_comm]
      exact g
set_option maxRecDepth 20000 in
theorem L_most_41 {l : Launch} {E : xE} {h n : aT} {r : Int} {M0 : xM} (hE : xN E = 73) (hr : 0 ≤ r ∧ r < 4) (hh0 : M0.1 68 = h) {Y : xY} (F : xFix E (xA E) Y cL_most yL_most.cls 15) : ∀ (k : Nat) (i : Nat) (W : xM), i ≤ 24 → (∀ a, a < 72 → W.1 a = M0.1 a) → W.2 = M0.2 → (∀ j, j < i → W.1 72 j = h j) → (∀ (W9 : xM) (y : xV), (∀ a, a < 72 → W9.1 a = M0.1 a) → W9.2 = M0.2 → (∀ j, j < 24 → W9.1 72 j = h j) → WP l E (xRm 3 1 24) (xA E) Y 1 24 62 [vA 68, vA 71, vI (jI r), vA 72, vI (jI (mnI h r)), vI (jI ((facN (mnI h r).toNat : Nat) : Int)), y, vU, vU, vU, vU, vU, vU, vU, vU] [] W9) → 24 - i < k → WP l E (xRm 3 1 24) (xA E) Y 1 24 41 [vA 68, vA 71, vI (jI r), vA 72, vI (jI (mnI h r)), vI (jI ((facN (mnI h r).toNat : Nat) : Int)), vI (jI (i : Int)), vU, vU, vU, vU, vU, vU, vU, vU] [] W := by
  intro k
  induction k with
  | zero => intro i W hi hW hW2 hT hex hk; exact absurd hk (Nat.not_lt_zero _)
  | succ k ih =>
    intro i W hi hW hW2 hT hex hk
    have hb := mnI_b h r
    have hh : W.1 68 = h := (hW 68 (by decide)).trans hh0
    refine x_iload F dL_most_41 rfl ?_
    refine xj_bipush F dL_most_43 (by decide) ?_
    refine xj_icmp_ge (tgt := 62) F dL_most_45 (by decide) (by omega) (fun h_1 => ?_) (fun h_1 => ?_)
    · exact hex W _ hW hW2 (fun j hj => hT j (by omega))
    · refine x_aload_n F dL_most_48 rfl ?_
      refine x_iload F dL_most_49 rfl ?_
      refine x_aload_n F dL_most_51 rfl ?_
      refine x_iload F dL_most_52 rfl ?_
      refine xf_hald (f := h) (j := ((i : Int)).toNat) F (Or.inl rfl) hh dL_most_54 (by omega) rfl (fun hg_2 => ?_)
      refine xf_hast F (Or.inr ⟨rfl, hE⟩) dL_most_55 (by omega) ?_
      refine xj_iinc F dL_most_56 rfl ?_
      refine x_goto (tgt := 41) F dL_most_59 (by decide) ?_
      refine ih (i + 1) _ (by omega) (fun a ha => ?_) hW2 (fun j hj => ?_) hex (by omega)
      · rw [upI_row (by omega)]; exact hW a ha
      · show (if 72 = 72 ∧ j = _ then _ else _) = _
        by_cases e : j = i
        · rw [if_pos ⟨rfl, by omega⟩, jI_of, e]; rfl
        · rw [if_neg (fun z => e (by omega))]; exact hT j (by omega)
set_option maxRecDepth 20000 in
theorem L_most_128 {l : Launch} {E : xE} {h n : aT} {r : Int} {M0 : xM} (hE : xN E = 73) (hr : 0 ≤ r ∧ r < 4) {c gone place w : Nat} {left passed : Int} {W : xM} (hg : gone < 64) (hw6 : w < 6) {Y : xY} (F : xFix E (xA E) Y cL_most yL_most.cls 15) : ∀ (k : Nat) (f skip who : Nat), f + who = 7 → skip ≤ 1000 → whR f gone skip who = w → (∀ y : xV, WP l E (xRm 3 1 24) (xA E) Y 1 24 171 [vA 68, vA 71, vI (jI r), vA 72, vI (jI (mnI h r)), vI (jI ((facN (mnI h r).toNat : Nat) : Int)), vI (jI (qCd h n r c).1), vI (jI (qCd h n r c).2), vI (jI (c : Int)), vI (jI left), vI (jI passed), vI (jI (gone : Int)), vI (jI (place : Int)), y, vI (jI (w : Int))] [] W) → f < k → WP l E (xRm 3 1 24) (xA E) Y 1 24 128 [vA 68, vA 71, vI (jI r), vA 72, vI (jI (mnI h r)), vI (jI ((facN (mnI h r).toNat : Nat) : Int)), vI (jI (qCd h n r c).1), vI (jI (qCd h n r c).2), vI (jI (c : Int)), vI (jI left), vI (jI passed), vI (jI (gone : Int)), vI (jI (place : Int)), vI (jI (skip : Int)), vI (jI (who : Int))] [] W := by
  intro k
  induction k with
  | zero => intro f skip who hf hsk hw hex hk; exact absurd hk (Nat.not_lt_zero _)
  | succ k ih =>
    intro f skip who hf hsk hw hex hk
    have hge := whR_ge f gone skip who
    have hsh := shr_lt hg who
    rw [hw] at hge
    refine x_iload F dL_most_128 rfl ?_
    refine x_iload F dL_most_130 rfl ?_
    refine x_ishr F dL_most_132 ?_
    rw [bj_shr gone hg who (by omega)]
    refine xj_iconst F dL_most_133 ?_
    refine xj_and1 F dL_most_134 ⟨rg64 hsh, Int.natCast_nonneg _⟩ ?_
    refine xj_iconst F dL_most_135 ?_
    refine xj_icmp_eq (tgt := 144) F dL_most_136 (by decide) (by omega) (fun h_1 => ?_) (fun h_1 => ?_)
    · have htb := (tbq hg (show who < 6 by omega)).mp h_1
      have hor : gone.testBit who = true ∨ 0 < skip := Or.inl htb
      refine x_iload F dL_most_144 rfl ?_
      refine x_iload F dL_most_146 rfl ?_
      refine x_iload F dL_most_148 rfl ?_
      refine x_ishr F dL_most_150 ?_
      rw [bj_shr gone hg who (by omega)]
      refine xj_iconst F dL_most_151 ?_
      refine xj_and1 F dL_most_152 ⟨rg64 hsh, Int.natCast_nonneg _⟩ ?_
      refine xj_iconst F dL_most_153 ?_
      refine xs_icmp_ne (tgt := 161) (a := 0) (b := 1) (la := 1) (lb := 1) (e := 162) F dL_most_154 (by decide) (Or.inl ⟨dL_most_157, rfl⟩) (Or.inl ⟨dL_most_161, rfl⟩) dL_most_158 (by decide) (by decide) (by omega) ?_
      refine xj_isub F dL_most_162 ?_
      refine x_istore F dL_most_163 (by decide) ?_
      refine xj_iinc F dL_most_165 rfl ?_
      refine x_goto (tgt := 128) F dL_most_168 (by decide) ?_
      rw [sk_eq hg (by omega) hor, show (who : Int) + 1 = ((who + 1 : Nat) : Int) from rfl]
      obtain ⟨f9, rfl⟩ : ∃ f9, f = f9 + 1 := ⟨f - 1, by omega⟩
      simp only [whR] at hw
      rw [if_pos hor] at hw
      exact ih f9 _ (who + 1) (by omega) (by split <;> omega) hw hex (by omega)
    · have htb : ¬ gone.testBit who = true := fun z => h_1 ((tbq hg (show who < 6 by omega)).mpr z)
      refine x_iload F dL_most_139 rfl ?_
      refine xj_if_le (tgt := 171) F dL_most_141 (by decide) (by omega) (fun h_2 => ?_) (fun h_2 => ?_)
      · obtain ⟨f9, rfl⟩ : ∃ f9, f = f9 + 1 := ⟨f - 1, by omega⟩
        simp only [whR] at hw
        rw [if_neg (fun z => z.elim htb (fun z2 => by omega))] at hw
        rw [hw]
        exact hex _
      · have hor : gone.testBit who = true ∨ 0 < skip := Or.inr (by omega)
        refine x_iload F dL_most_144 rfl ?_
        refine x_iload F dL_most_146 rfl ?_
        refine x_iload F dL_most_148 rfl ?_
        refine x_ishr F dL_most_150 ?_
        rw [bj_shr gone hg who (by omega)]
        refine xj_iconst F dL_most_151 ?_
        refine xj_and1 F dL_most_152 ⟨rg64 hsh, Int.natCast_nonneg _⟩ ?_
        refine xj_iconst F dL_most_153 ?_
        refine xs_icmp_ne (tgt := 161) (a := 0) (b := 1) (la := 1) (lb := 1) (e := 162) F dL_most_154 (by decide) (Or.inl ⟨dL_most_157, rfl⟩) (Or.inl ⟨dL_most_161, rfl⟩) dL_most_158 (by decide) (by decide) (by omega) ?_
        refine xj_isub F dL_most_162 ?_
        refine x_istore F dL_most_163 (by decide) ?_
        refine xj_iinc F dL_most_165 rfl ?_
        refine x_goto (tgt := 128) F dL_most_168 (by decide) ?_
        rw [sk_eq hg (by omega) hor, show (who : Int) + 1 = ((who + 1 : Nat) : Int) from rfl]
        obtain ⟨f9, rfl⟩ : ∃ f9, f = f9 + 1 := ⟨f - 1, by omega⟩
        simp only [whR] at hw
        rw [if_pos hor] at hw
        exact ih f9 _ (who + 1) (by omega) (by split <;> omega) hw hex (by omega)
set_option maxRecDepth 20000 in
theorem L_most_91 {l : Launch} {E : xE} {h n : aT} {r : Int} {M0 : xM} (hE : xN E = 73) (hr : 0 ≤ r ∧ r < 4) (hh0 : M0.1 68 = h) {c P : Nat} {O : List Nat} (hO : O.length = (mnI h r).toNat ∧ ∀ i, i < (mnI h r).toNat → gt O i < (mnI h r).toNat) {Y : xY} (F : xFix E (xA E) Y cL_most yL_most.cls 15) : ∀ (k : Nat) (left passed gone place : Nat) (L : List Nat) (W : xM) (y13 y14 : xV), (place : Int) ≤ mnI h r → L.length = place → runC ((mnI h r).toNat - place) left passed gone L = (P, O) → gone < 64 → left < 720 → passed ≤ 6 * place → (∀ a, a < 72 → W.1 a = M0.1 a) → W.2 = M0.2 → (∀ i, i < place → W.1 72 ((6 * r).toNat + i) = h ((6 * r).toNat + gt L i)) → (∀ j : Nat, j < 24 → ((j : Int) < 6 * r ∨ 6 * r + mnI h r ≤ (j : Int)) → W.1 72 j = h j) → (∀ (W9 : xM) (y9 y11 y12 y13 y14 : xV), (∀ a, a < 72 → W9.1 a = M0.1 a) → W9.2 = M0.2 → (∀ i, i < (mnI h r).toNat → W9.1 72 ((6 * r).toNat + i) = h ((6 * r).toNat + gt O i)) → (∀ j : Nat, j < 24 → ((j : Int) < 6 * r ∨ 6 * r + mnI h r ≤ (j : Int)) → W9.1 72 j = h j) → WP l E (xRm 3 1 24) (xA E) Y 1 24 204 [vA 68, vA 71, vI (jI r), vA 72, vI (jI (mnI h r)), vI (jI ((facN (mnI h r).toNat : Nat) : Int)), vI (jI (qCd h n r c).1), vI (jI (qCd h n r c).2), vI (jI (c : Int)), y9, vI (jI (P : Int)), y11, y12, y13, y14] [] W9) → (mnI h r).toNat - place < k → WP l E (xRm 3 1 24) (xA E) Y 1 24 91 [vA 68, vA 71, vI (jI r), vA 72, vI (jI (mnI h r)), vI (jI ((facN (mnI h r).toNat : Nat) : Int)), vI (jI (qCd h n r c).1), vI (jI (qCd h n r c).2), vI (jI (c : Int)), vI (jI (left : Int)), vI (jI (passed : Int)), vI (jI (gone : Int)), vI (jI (place : Int)), y13, y14] [] W := by
  intro k
  induction k with
  | zero => intro left passed gone place L W y13 y14 hp hL hrun hg hl hps hW hW2 hT1 hT2 hex hk; exact absurd hk (Nat.not_lt_zero _)
  | succ k ih =>
    intro left passed gone place L W y13 y14 hp hL hrun hg hl hps hW hW2 hT1 hT2 hex hk
    have hb := mnI_b h r
    have hh : W.1 68 = h := (hW 68 (by decide)).trans hh0
    refine x_iload F dL_most_91 rfl ?_
    refine x_iload F dL_most_93 rfl ?_
    refine xj_icmp_ge (tgt := 204) F dL_most_95 (by decide) (by omega) (fun h_1 => ?_) (fun h_1 => ?_)
    · rw [show (mnI h r).toNat - place = 0 by omega] at hrun
      simp only [runC] at hrun
      have eP : passed = P := congrArg Prod.fst hrun
      have eO : L = O := congrArg Prod.snd hrun
      subst eP
      subst eO
      exact hex W _ _ _ _ _ hW hW2 (fun i hi => hT1 i (by omega)) hT2
    · refine x_iload F dL_most_98 rfl ?_
      refine x_iload F dL_most_100 rfl ?_
      refine x_iload F dL_most_102 rfl ?_
      refine xj_isub F dL_most_104 ?_
      refine xj_irem F dL_most_105 (by omega) ?_
      refine x_istore F dL_most_106 (by decide) ?_
      refine x_iload F dL_most_108 rfl ?_
      refine x_iload F dL_most_110 rfl ?_
      refine x_iload F dL_most_112 rfl ?_
      refine xj_isub F dL_most_114 ?_
      refine xj_idiv F dL_most_115 (by omega) ?_
      refine x_istore F dL_most_116 (by decide) ?_
      refine x_iload F dL_most_118 rfl ?_
      refine x_iload F dL_most_120 rfl ?_
      refine xj_iadd F dL_most_122 ?_
      refine x_istore F dL_most_123 (by decide) ?_
      refine xj_iconst F dL_most_125 ?_
      refine x_istore F dL_most_126 (by decide) ?_
      obtain ⟨m, hm⟩ : ∃ m, (mnI h r).toNat - place = m + 1 := ⟨(mnI h r).toNat - place - 1, by omega⟩
      rw [hm] at hrun
      simp only [runC] at hrun
      have em : mnI h r - (place : Int) = ((m + 1 : Nat) : Int) := by omega
      have e1 : (left : Int) % (mnI h r - (place : Int)) = ((left % (m + 1) : Nat) : Int) := by rw [em]; exact (Int.natCast_emod _ _).symm
      have e2 : (left : Int) / (mnI h r - (place : Int)) = ((left / (m + 1) : Nat) : Int) := by rw [em]; exact (Int.natCast_ediv _ _).symm
      have hmod := Nat.mod_lt left (show 0 < m + 1 by omega)
      rw [e1, e2, show (passed : Int) + ((left % (m + 1) : Nat) : Int) = ((passed + left % (m + 1) : Nat) : Int) from rfl]
      obtain ⟨w, hw⟩ : ∃ w, whR 7 gone (left % (m + 1)) 0 = w := ⟨_, rfl⟩
      rw [hw] at hrun
      obtain ⟨R, hR, hRl⟩ := runC_pre m (left / (m + 1)) (passed + left % (m + 1)) (gone ||| 2 ^ w) (L ++ [w])
      rw [hrun] at hR
      have hwp : gt O place = w := by
        show gt (P, O).2 place = w
        rw [hR, gt_pre (by simp; omega), ← hL, gt_end]
      have hwn := hO.2 place (by omega)
      rw [hwp] at hwn
      refine L_most_128 (M0 := M0) (c := c) hE hr hg (show w < 6 by omega) F _ 7 (left % (m + 1)) 0 (by omega) (by omega) hw (fun y => ?_) (Nat.lt_succ_self _)
      refine x_iload F dL_most_171 rfl ?_
      refine xj_iconst F dL_most_173 ?_
      refine x_iload F dL_most_174 rfl ?_
      refine x_ishl F dL_most_176 ?_
      rw [show jI 1 = jI ((1 : Nat) : Int) from rfl, bj_shl 1 (by decide) w (by omega), Nat.one_mul]
      refine x_ior F dL_most_177 ?_
      rw [bj_or]
      refine x_istore F dL_most_178 (by decide) ?_
      refine x_aload_n F dL_most_180 rfl ?_
      refine xj_bipush F dL_most_181 (by decide) ?_
      refine x_iload_n F dL_most_183 rfl ?_
      refine xj_imul F dL_most_184 ?_
      refine x_iload F dL_most_185 rfl ?_
      refine xj_iadd F dL_most_187 ?_
      refine x_aload_n F dL_most_188 rfl ?_
      refine xj_bipush F dL_most_189 (by decide) ?_
      refine x_iload_n F dL_most_191 rfl ?_
      refine xj_imul F dL_most_192 ?_
      refine x_iload F dL_most_193 rfl ?_
      refine xj_iadd F dL_most_195 ?_
      refine xf_hald (f := h) (j := (((6 * r) + (w : Int))).toNat) F (Or.inl rfl) hh dL_most_196 (by omega) rfl (fun hg_1 => ?_)
      refine xf_hast F (Or.inr ⟨rfl, hE⟩) dL_most_197 (by omega) ?_
      refine xj_iinc F dL_most_198 rfl ?_
      refine x_goto (tgt := 91) F dL_most_201 (by decide) ?_
      rw [show (place : Int) + 1 = ((place + 1 : Nat) : Int) from rfl]
      refine ih _ _ _ (place + 1) (L ++ [w]) _ _ _ (by omega) (by simp [hL]) (by rw [show (mnI h r).toNat - (place + 1) = m by omega]; exact hrun) (lt64_or hg (lt64_pow (by omega))) (Nat.lt_of_le_of_lt (Nat.div_le_self _ _) hl) (by omega) (fun a ha => ?_) hW2 (fun i hi => ?_) (fun j hj h9 => ?_) hex (by omega)
      · rw [upI_row (by omega)]; exact hW a ha
      · show (if 72 = 72 ∧ _ = _ then _ else _) = _
        by_cases e : i = place
        · rw [if_pos ⟨rfl, by omega⟩, jI_of, e, ← hL, gt_end, show (6 * r + (w : Int)).toNat = (6 * r).toNat + w by omega]
        · rw [if_neg (fun z => e (by omega)), gt_ap (by omega)]; exact hT1 i (by omega)
      · show (if 72 = 72 ∧ _ = _ then _ else _) = _
        rw [if_neg (fun z => by omega)]
        exact hT2 j hj h9
set_option maxRecDepth 20000 in
theorem L_most_71 {l : Launch} {E : xE} {h n : aT} {r : Int} {M0 : xM} (hE : xN E = 73) (hr : 0 ≤ r ∧ r < 4) (hh0 : M0.1 68 = h) (hn0 : M0.1 71 = n) (hA : okA h n) {Y : xY} (F : xFix E (xA E) Y cL_most yL_most.cls 15) : ∀ (k : Nat) (c : Nat) (W : xM) (y9 y10 y11 y12 y13 y14 : xV), c ≤ facN (mnI h r).toNat → (∀ a, a < 72 → W.1 a = M0.1 a) → W.2 = M0.2 → (∀ j : Nat, j < 24 → ((j : Int) < 6 * r ∨ 6 * r + mnI h r ≤ (j : Int)) → W.1 72 j = h j) → (∀ (W9 : xM) (y8 y9 y10 y11 y12 y13 y14 : xV), (∀ a, a < 72 → W9.1 a = M0.1 a) → W9.2 = M0.2 → WP l E (xRm 3 1 24) (xA E) Y 1 24 264 [vA 68, vA 71, vI (jI r), vA 72, vI (jI (mnI h r)), vI (jI ((facN (mnI h r).toNat : Nat) : Int)), vI (jI (qCd h n r (facN (mnI h r).toNat)).1), vI (jI (qCd h n r (facN (mnI h r).toNat)).2), y8, y9, y10, y11, y12, y13, y14] [] W9) → facN (mnI h r).toNat - c < k → WP l E (xRm 3 1 24) (xA E) Y 1 24 71 [vA 68, vA 71, vI (jI r), vA 72, vI (jI (mnI h r)), vI (jI ((facN (mnI h r).toNat : Nat) : Int)), vI (jI (qCd h n r c).1), vI (jI (qCd h n r c).2), vI (jI (c : Int)), y9, y10, y11, y12, y13, y14] [] W := by
  intro k
  induction k with
  | zero => intro c W y9 y10 y11 y12 y13 y14 hc hW hW2 hT2 hex hk; exact absurd hk (Nat.not_lt_zero _)
  | succ k ih =>
    intro c W y9 y10 y11 y12 y13 y14 hc hW hW2 hT2 hex hk
    have hb := mnI_b h r
    have hf := facN_le (mnI h r).toNat (by omega)
    have hqb := qCd_b (n := n) hc
    refine x_iload F dL_most_71 rfl ?_
    refine x_iload F dL_most_73 rfl ?_
    refine xj_icmp_ge (tgt := 264) F dL_most_75 (by decide) (by omega) (fun h_1 => ?_) (fun h_1 => ?_)
    · have e : c = facN (mnI h r).toNat := by omega
      subst e
      exact hex W _ _ _ _ _ _ _ hW hW2
    · refine x_iload F dL_most_78 rfl ?_
      refine x_istore F dL_most_80 (by decide) ?_
      refine xj_iconst F dL_most_82 ?_
      refine x_istore F dL_most_83 (by decide) ?_
      refine xj_iconst F dL_most_85 ?_
      refine x_istore F dL_most_86 (by decide) ?_
      refine xj_iconst F dL_most_88 ?_
      refine x_istore F dL_most_89 (by decide) ?_
      have hcl : c < facN (mnI h r).toNat := by omega
      have hpl := psC_le (by omega) hcl
      obtain ⟨hmem, hpsc⟩ := orC_in (n := (mnI h r).toNat) (by omega) hcl
      obtain ⟨hOl, hOg, hOd⟩ := prm_in (n := (mnI h r).toNat) (by omega) hmem
      obtain ⟨hw1, hw2⟩ := wrQ_b (n := n) hcl
      refine L_most_91 (n := n) (c := c) (P := psC (mnI h r).toNat c) (O := orC (mnI h r).toNat c) hE hr hh0 ⟨hOl, hOg⟩ F _ c 0 0 0 [] W _ _ (by omega) rfl (show runC _ c 0 0 [] = _ from rfl) (by decide) (by omega) (by omega) hW hW2 (fun i hi => absurd hi (Nat.not_lt_zero _)) hT2 (fun W9 y9 y11 y12 y13 y14 hW9 hW92 hT19 hT29 => ?_) (Nat.lt_succ_self _)
      have hn9 : W9.1 71 = n := (hW9 71 (by decide)).trans hn0
      have hpm := tr_pm hr (show ((orC (mnI h r).toNat c).length : Int) = mnI h r by omega) (fun i hi => hT19 i (by omega)) hT29
      have hokt : okA (W9.1 72) n := okA_cong hpm (pm_ok hA hr hmem)
      have hodd : odI (vC (W9.1 72) n) 1 r = (wrQ h n r (orC (mnI h r).toNat c)).1 := odI_h (vC_cong hpm) (vC_hS _ _) r
      rw [← hw2]
      have hw3 : 0 ≤ (wrQ h n r (orC (mnI h r).toNat c)).2 ∧ (wrQ h n r (orC (mnI h r).toNat c)).2 ≤ 36 := by omega
      refine x_aload_n F dL_most_204 rfl ?_
      refine x_aload_n F dL_most_205 rfl ?_
      refine x_iload_n F dL_most_206 rfl ?_
      refine x_S3 F (m_L_odd (h := W9.1 72) (n := n) (Or.inr ⟨rfl, hE⟩) rfl hn9 hokt hr) mlL_19 msL_odd dL_most_207 ⟨Nat.le_of_ble_eq_true rfl, Nat.le_of_ble_eq_true rfl⟩ ⟨Nat.le_of_ble_eq_true rfl, Nat.le_of_ble_eq_true rfl⟩ (Nat.le_of_ble_eq_true rfl) ?_
      have hf_1 := odI_b (vC_hS (W9.1 72) n) r
      rw [hodd]
      refine x_istore F dL_most_210 (by decide) ?_
      refine x_iload F dL_most_212 rfl ?_
      refine x_iload F dL_most_214 rfl ?_
      refine xj_icmp_gt (tgt := 233) F dL_most_216 (by decide) (by omega) (fun h_2 => ?_) (fun h_2 => ?_)
      · refine x_iload F dL_most_233 rfl ?_
        refine x_goto (tgt := 240) F dL_most_235 (by decide) ?_
        refine x_istore F dL_most_240 (by decide) ?_
        refine x_iload F dL_most_242 rfl ?_
        refine x_iload F dL_most_244 rfl ?_
        refine xj_icmp_le (tgt := 254) F dL_most_246 (by decide) (by omega) (fun h_3 => ?_) (fun h_3 => ?_)
        · refine x_iload F dL_most_254 rfl ?_
          refine x_istore F dL_most_256 (by decide) ?_
          refine xj_iinc F dL_most_258 rfl ?_
          refine x_goto (tgt := 71) F dL_most_261 (by decide) ?_
          first
            | (exfalso; omega)
            | (have g := fun (z9 z10 z11 z12 z13 z14 : xV) => ih (c + 1) W9 z9 z10 z11 z12 z13 z14 (by omega) hW9 hW92 hT29 hex (by omega); rw [qCd_s] at g; first | (rw [up1 (q := qCd h n r c) (p := (wrQ h n r (orC (mnI h r).toNat c))) (by omega)] at g; exact g _ _ _ _ _ _) | (rw [up2 (q := qCd h n r c) (p := (wrQ h n r (orC (mnI h r).toNat c))) (by omega) (by omega)] at g; exact g _ _ _ _ _ _) | (rw [up3 (q := qCd h n r c) (p := (wrQ h n r (orC (mnI h r).toNat c))) (by omega) (by omega)] at g; exact g _ _ _ _ _ _))
        · refine x_iload F dL_most_249 rfl ?_
          refine x_goto (tgt := 256) F dL_most_251 (by decide) ?_
          refine x_istore F dL_most_256 (by decide) ?_
          refine xj_iinc F dL_most_258 rfl ?_
          refine x_goto (tgt := 71) F dL_most_261 (by decide) ?_
          first
            | (exfalso; omega)
            | (have g := fun (z9 z10 z11 z12 z13 z14 : xV) => ih (c + 1) W9 z9 z10 z11 z12 z13 z14 (by omega) hW9 hW92 hT29 hex (by omega); rw [qCd_s] at g; first | (rw [up1 (q := qCd h n r c) (p := (wrQ h n r (orC (mnI h r).toNat c))) (by omega)] at g; exact g _ _ _ _ _ _) | (rw [up2 (q := qCd h n r c) (p := (wrQ h n r (orC (mnI h r).toNat c))) (by omega) (by omega)] at g; exact g _ _ _ _ _ _) | (rw [up3 (q := qCd h n r c) (p := (wrQ h n r (orC (mnI h r).toNat c))) (by omega) (by omega)] at g; exact g _ _ _ _ _ _))
      · refine x_iload F dL_most_219 rfl ?_
        refine x_iload F dL_most_221 rfl ?_
        refine xj_icmp_ne (tgt := 238) F dL_most_223 (by decide) (by omega) (fun h_4 => ?_) (fun h_4 => ?_)
        · refine x_iload F dL_most_238 rfl ?_
          refine x_istore F dL_most_240 (by decide) ?_
          refine x_iload F dL_most_242 rfl ?_
          refine x_iload F dL_most_244 rfl ?_
          refine xj_icmp_le (tgt := 254) F dL_most_246 (by decide) (by omega) (fun h_5 => ?_) (fun h_5 => ?_)
          · refine x_iload F dL_most_254 rfl ?_
            refine x_istore F dL_most_256 (by decide) ?_
            refine xj_iinc F dL_most_258 rfl ?_
            refine x_goto (tgt := 71) F dL_most_261 (by decide) ?_
            first
              | (exfalso; omega)
              | (have g := fun (z9 z10 z11 z12 z13 z14 : xV) => ih (c + 1) W9 z9 z10 z11 z12 z13 z14 (by omega) hW9 hW92 hT29 hex (by omega); rw [qCd_s] at g; first | (rw [up1 (q := qCd h n r c) (p := (wrQ h n r (orC (mnI h r).toNat c))) (by omega)] at g; exact g _ _ _ _ _ _) | (rw [up2 (q := qCd h n r c) (p := (wrQ h n r (orC (mnI h r).toNat c))) (by omega) (by omega)] at g; exact g _ _ _ _ _ _) | (rw [up3 (q := qCd h n r c) (p := (wrQ h n r (orC (mnI h r).toNat c))) (by omega) (by omega)] at g; exact g _ _ _ _ _ _))
          · refine x_iload F dL_most_249 rfl ?_
            refine x_goto (tgt := 256) F dL_most_251 (by decide) ?_
            refine x_istore F dL_most_256 (by decide) ?_
            refine xj_iinc F dL_most_258 rfl ?_
            refine x_goto (tgt := 71) F dL_most_261 (by decide) ?_
            first
              | (exfalso; omega)
              | (have g := fun (z9 z10 z11 z12 z13 z14 : xV) => ih (c + 1) W9 z9 z10 z11 z12 z13 z14 (by omega) hW9 hW92 hT29 hex (by omega); rw [qCd_s] at g; first | (rw [up1 (q := qCd h n r c) (p := (wrQ h n r (orC (mnI h r).toNat c))) (by omega)] at g; exact g _ _ _ _ _ _) | (rw [up2 (q := qCd h n r c) (p := (wrQ h n r (orC (mnI h r).toNat c))) (by omega) (by omega)] at g; exact g _ _ _ _ _ _) | (rw [up3 (q := qCd h n r c) (p := (wrQ h n r (orC (mnI h r).toNat c))) (by omega) (by omega)] at g; exact g _ _ _ _ _ _))
        · refine x_iload F dL_most_226 rfl ?_
          refine x_iload F dL_most_228 rfl ?_
          refine xj_icmp_ge (tgt := 238) F dL_most_230 (by decide) (by omega) (fun h_6 => ?_) (fun h_6 => ?_)
          · refine x_iload F dL_most_238 rfl ?_
            refine x_istore F dL_most_240 (by decide) ?_
            refine x_iload F dL_most_242 rfl ?_
            refine x_iload F dL_most_244 rfl ?_
            refine xj_icmp_le (tgt := 254) F dL_most_246 (by decide) (by omega) (fun h_7 => ?_) (fun h_7 => ?_)
            · refine x_iload F dL_most_254 rfl ?_
              refine x_istore F dL_most_256 (by decide) ?_
              refine xj_iinc F dL_most_258 rfl ?_
              refine x_goto (tgt := 71) F dL_most_261 (by decide) ?_
              first
                | (exfalso; omega)
                | (have g := fun (z9 z10 z11 z12 z13 z14 : xV) => ih (c + 1) W9 z9 z10 z11 z12 z13 z14 (by omega) hW9 hW92 hT29 hex (by omega); rw [qCd_s] at g; first | (rw [up1 (q := qCd h n r c) (p := (wrQ h n r (orC (mnI h r).toNat c))) (by omega)] at g; exact g _ _ _ _ _ _) | (rw [up2 (q := qCd h n r c) (p := (wrQ h n r (orC (mnI h r).toNat c))) (by omega) (by omega)] at g; exact g _ _ _ _ _ _) | (rw [up3 (q := qCd h n r c) (p := (wrQ h n r (orC (mnI h r).toNat c))) (by omega) (by omega)] at g; exact g _ _ _ _ _ _))
            · refine x_iload F dL_most_249 rfl ?_
              refine x_goto (tgt := 256) F dL_most_251 (by decide) ?_
              refine x_istore F dL_most_256 (by decide) ?_
              refine xj_iinc F dL_most_258 rfl ?_
              refine x_goto (tgt := 71) F dL_most_261 (by decide) ?_
              first
                | (exfalso; omega)
                | (have g := fun (z9 z10 z11 z12 z13 z14 : xV) => ih (c + 1) W9 z9 z10 z11 z12 z13 z14 (by omega) hW9 hW92 hT29 hex (by omega); rw [qCd_s] at g; first | (rw [up1 (q := qCd h n r c) (p := (wrQ h n r (orC (mnI h r).toNat c))) (by omega)] at g; exact g _ _ _ _ _ _) | (rw [up2 (q := qCd h n r c) (p := (wrQ h n r (orC (mnI h r).toNat c))) (by omega) (by omega)] at g; exact g _ _ _ _ _ _) | (rw [up3 (q := qCd h n r c) (p := (wrQ h n r (orC (mnI h r).toNat c))) (by omega) (by omega)] at g; exact g _ _ _ _ _ _))
          · refine x_iload F dL_most_233 rfl ?_
            refine x_goto (tgt := 240) F dL_most_235 (by decide) ?_
            refine x_istore F dL_most_240 (by decide) ?_
            refine x_iload F dL_most_242 rfl ?_
            refine x_iload F dL_most_244 rfl ?_
            refine xj_icmp_le (tgt := 254) F dL_most_246 (by decide) (by omega) (fun h_8 => ?_) (fun h_8 => ?_)
            · refine x_iload F dL_most_254 rfl ?_
              refine x_istore F dL_most_256 (by decide) ?_
              refine xj_iinc F dL_most_258 rfl ?_
              refine x_goto (tgt := 71) F dL_most_261 (by decide) ?_
              first
                | (exfalso; omega)
                | (have g := fun (z9 z10 z11 z12 z13 z14 : xV) => ih (c + 1) W9 z9 z10 z11 z12 z13 z14 (by omega) hW9 hW92 hT29 hex (by omega); rw [qCd_s] at g; first | (rw [up1 (q := qCd h n r c) (p := (wrQ h n r (orC (mnI h r).toNat c))) (by omega)] at g; exact g _ _ _ _ _ _) | (rw [up2 (q := qCd h n r c) (p := (wrQ h n r (orC (mnI h r).toNat c))) (by omega) (by omega)] at g; exact g _ _ _ _ _ _) | (rw [up3 (q := qCd h n r c) (p := (wrQ h n r (orC (mnI h r).toNat c))) (by omega) (by omega)] at g; exact g _ _ _ _ _ _))
            · refine x_iload F dL_most_249 rfl ?_
              refine x_goto (tgt := 256) F dL_most_251 (by decide) ?_
              refine x_istore F dL_most_256 (by decide) ?_
              refine xj_iinc F dL_most_258 rfl ?_
              refine x_goto (tgt := 71) F dL_most_261 (by decide) ?_
              first
                | (exfalso; omega)
                | (have g := fun (z9 z10 z11 z12 z13 z14 : xV) => ih (c + 1) W9 z9 z10 z11 z12 z13 z14 (by omega) hW9 hW92 hT29 hex (by omega); rw [qCd_s] at g; first | (rw [up1 (q := qCd h n r c) (p := (wrQ h n r (orC (mnI h r).toNat c))) (by omega)] at g; exact g _ _ _ _ _ _) | (rw [up2 (q := qCd h n r c) (p := (wrQ h n r (orC (mnI h r).toNat c))) (by omega) (by omega)] at g; exact g _ _ _ _ _ _) | (rw [up3 (q := qCd h n r c) (p := (wrQ h n r (orC (mnI h r).toNat c))) (by omega) (by omega)] at g; exact g _ _ _ _ _ _))
set_option maxRecDepth 20000 in
theorem m_L_most {l : Launch} {E : xE} {r : Int} {h n : aT} {M : xM} (hN : xN E = 72) (hT : okT M) (hh : M.1 68 = h) (hn : M.1 71 = n) (hA : okA h n) (hr : 0 ≤ r ∧ r < 4) : XT l E 3 1 24 yL_most cL_most 15 (some FieldType.int) [vA 68, vA 71, vI (jI r)] M (fun r' M'' => r' = vI (jI (100 * (goA (vC h n) 1 r).1 + (goA (vC h n) 1 r).2)) ∧ M'' = M) (fun _ _ => False) := by
  refine xt_start (plainFor_of_name (by decide)) rfl (Nat.le_of_ble_eq_true rfl) ?_
  intro Y F FR
  have hb := mnI_b h r
  refine xj_bipush F dL_most_0 (by decide) ?_
  refine x_newT F hN hT dL_most_2 ⟨Nat.le_of_ble_eq_true rfl, Nat.le_of_ble_eq_true rfl⟩ rfl (fun q hq F1 => ?_)
  have hE : xN (exE E q) = 73 := exE_N E q
  have hW1 : ∀ a, a < 72 → (newM M).1 a = M.1 a := fun a ha => by (funext j; show (if a = 72 then (0 : Int32) else M.1 a j) = M.1 a j; rw [if_neg (by omega)])
  have hh1 : (newM M).1 68 = h := (hW1 68 (by decide)).trans hh
  have hn1 : (newM M).1 71 = n := (hW1 71 (by decide)).trans hn
  refine x_astore_n F1 dL_most_4 (by decide) ?_
  refine x_aload_n F1 dL_most_5 rfl ?_
  refine x_iload_n F1 dL_most_6 rfl ?_
  refine x_S2 F1 (m_L_many (h := h) (Or.inl rfl) hh1 hr) mlL_9 msL_many dL_most_7 ⟨Nat.le_of_ble_eq_true rfl, Nat.le_of_ble_eq_true rfl⟩ ⟨Nat.le_of_ble_eq_true rfl, Nat.le_of_ble_eq_true rfl⟩ (Nat.le_of_ble_eq_true rfl) ?_
  have hf_1 := mnI_b h r
  refine x_istore F1 dL_most_10 (by decide) ?_
  refine xj_iconst F1 dL_most_12 ?_
  refine x_istore F1 dL_most_13 (by decide) ?_
  refine xj_iconst F1 dL_most_15 ?_
  refine x_istore F1 dL_most_16 (by decide) ?_
  refine L_most_18 (M0 := M) (h := h) (n := n) hE hr F1 _ 2 (by omega) (Or.inr rfl) (fun y => ?_) (Nat.lt_succ_self _)
  refine xj_iconst F1 dL_most_38 ?_
  refine x_istore F1 dL_most_39 (by decide) ?_
  refine L_most_41 (M0 := M) (n := n) hE hr hh F1 _ 0 (newM M) (by omega) hW1 rfl (fun j hj => absurd hj (Nat.not_lt_zero _)) (fun W9 y9 hW hW2 hT9 => ?_) (Nat.lt_succ_self _)
  refine xj_iconst F1 dL_most_62 ?_
  refine x_istore F1 dL_most_63 (by decide) ?_
  refine xj_iconst F1 dL_most_65 ?_
  refine x_istore F1 dL_most_66 (by decide) ?_
  refine xj_iconst F1 dL_most_68 ?_
  refine x_istore F1 dL_most_69 (by decide) ?_
  refine L_most_71 (M0 := M) (h := h) (n := n) hE hr hh hn hA F1 _ 0 W9 _ _ _ _ _ _ (Nat.zero_le _) hW hW2 (fun j hj _ => hT9 j hj) (fun W8 y8 y9 y10 y11 y12 y13 y14 hW hW2 => ?_) (Nat.lt_succ_self _)
  rw [qCd_end hA hr]
  have hqb := qCd_b (h := h) (n := n) (r := r) (c := facN (mnI h r).toNat) (Nat.le_refl _)
  rw [qCd_end hA hr] at hqb
  refine xj_bipush F1 dL_most_264 (by decide) ?_
  refine x_iload F1 dL_most_266 rfl ?_
  refine xj_imul F1 dL_most_268 ?_
  refine x_iload F1 dL_most_269 rfl ?_
  refine xj_iadd F1 dL_most_271 ?_
  exact x_iretT F1 FR hN hq hT dL_most_272 rfl (Nat.le_refl _) (Nat.le_refl _) hW hW2 ⟨rfl, rfl⟩
