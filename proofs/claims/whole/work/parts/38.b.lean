/-! THE MODEL goes through all orders of a row -/
abbrev oLL : Type := List (List Nat)
def lvs (n : Nat) : Nat → List Nat → List (List Nat)
  | 0, pre => [pre]
  | d + 1, pre => (List.range n).flatMap (fun w => if pre.contains w then [] else lvs n d (pre ++ [w]))
def prm (n : Nat) : List (List Nat) := lvs n n []
def okL (n : Nat) (L : List Nat) : Bool := decide (L.length = n) && L.all (fun x => decide (x < n))
def chk (n : Nat) : List Nat → List (List Nat) → Bool
  | L, [] => decide (nxL L = none) && okL n L
  | L, L2 :: r => decide (nxL L = some L2) && (okL n L && chk n L2 r)
theorem prm_chk : ∀ n, n < 7 → (match prm n with | [] => false | a :: r => decide (a = List.range n) && chk n a r) = true := by decide +kernel
theorem okL_lt {n : Nat} {L : List Nat} (h : okL n L = true) : L.length = n ∧ ∀ k, k < L.length → gt L k < L.length := by
  unfold okL at h
  simp only [Bool.and_eq_true, decide_eq_true_eq, List.all_eq_true] at h
  refine ⟨h.1, fun k hk => ?_⟩
  rw [h.1]
  refine h.2 _ ?_
  unfold gt
  rw [List.getD_eq_getElem?_getD, List.getElem?_eq_getElem hk]
  exact List.getElem_mem hk
theorem chk_ok {n : Nat} {L : List Nat} {r : List (List Nat)} (h : chk n L r = true) : okL n L = true := by
  cases r with
  | nil => simp only [chk, Bool.and_eq_true] at h; exact h.2
  | cons a r => simp only [chk, Bool.and_eq_true] at h; exact h.2.1
theorem prm_ex {n : Nat} (h : n < 7) : ∃ r, prm n = List.range n :: r ∧ chk n (List.range n) r = true := by
  have := prm_chk n h
  revert this
  cases prm n with
  | nil => intro z; cases z
  | cons a r =>
    intro z
    simp only [Bool.and_eq_true, decide_eq_true_eq] at z
    obtain ⟨rfl, z⟩ := z
    exact ⟨r, rfl, z⟩
def upQ (q p : Int × Int) : Int × Int := (if q.1 < p.1 then p.1 else q.1, if q.1 < p.1 ∨ (p.1 = q.1 ∧ p.2 < q.2) then p.2 else q.2)
def fldQ (f : List Nat → Int × Int) : List (List Nat) → Int × Int → Int × Int
  | [], q => q
  | L :: r, q => fldQ f r (upQ q (f L))
def invL (L : List Nat) : Int := sumI (fun p => sumI (fun q => b01 (decide ((gt L p.toNat : Int) < (gt L q.toNat : Int)))) p.toNat) L.length
def pmM (M : xM) (r : Int) (L : List Nat) : xM := (fun e j => if e = 69 ∧ 28 + 6 * r.toNat ≤ j ∧ j < 28 + 6 * r.toNat + L.length then M.1 69 (28 + 6 * r.toNat + gt L (j - (28 + 6 * r.toNat))) else M.1 e j, M.2)
def owQ (M : xM) (r : Int) (L : List Nat) : Int × Int := (odZ (pmM M r L) r, invL L)
def toQ (M : xM) (r : Int) : Int × Int := fldQ (owQ M r) (prm (zI M r).toNat) (-1, (M.1 68 9).toInt)
def qT (M M' : xM) : Prop := (∀ a, a ≠ 68 → a ≠ 72 → a ≠ 73 → M'.1 a = M.1 a) ∧ (∀ k, k ≠ 8 → k ≠ 9 → M'.1 68 k = M.1 68 k) ∧ M'.2 = M.2
theorem sumI_cong {f g : Int → Int} : ∀ (n : Nat), (∀ i : Int, 0 ≤ i → i < n → f i = g i) → sumI f n = sumI g n
  | 0, _ => rfl
  | n + 1, h => by
    simp only [sumI]
    rw [sumI_cong n (fun i h0 h1 => h i h0 (by omega)), h n (by omega) (by omega)]
theorem odZ_of {M M' : xM} (h : M'.1 69 = M.1 69) (r : Int) : odZ M' r = odZ M r := by
  unfold odZ hhZ hiB hrB zI
  rw [h]
theorem soI_of {M : xM} {L : List Nat} (h : isO M L) : soI M (L.length : Int) = invL L := by
  unfold soI invL
  rw [Int.toNat_natCast]
  refine sumI_cong _ (fun p h0 h1 => sumI_cong _ (fun q h2 h3 => ?_))
  unfold oI
  rw [(h p.toNat (by omega)).1, (h q.toNat (by omega)).1]
theorem soI_b {M : xM} {s : Int} (hs : 0 ≤ s ∧ s ≤ 6) : 0 ≤ soI M s ∧ soI M s ≤ 36 := by
  unfold soI
  have := sumI_b (f := fun p => sumI (fun q => b01 (decide (oI M p < oI M q))) p.toNat) (b := 6) s.toNat (fun i h0 h1 => by
    have := sumI_b (f := fun q => b01 (decide (oI M i < oI M q))) (b := 1) i.toNat (fun j _ _ => b01_b _)
    omega)
  omega
/-- while the orders are gone through -/
def tI (M0 : xM) (r : Int) (M : xM) : Prop := (∀ a, a ≠ 68 → a ≠ 69 → a ≠ 72 → a ≠ 73 → M.1 a = M0.1 a) ∧ (∀ k, k ≠ 8 → k ≠ 9 → M.1 68 k = M0.1 68 k) ∧ M.2 = M0.2 ∧ (∀ j, (j < 28 + 6 * r.toNat ∨ 28 + 6 * r.toNat + (zI M0 r).toNat ≤ j) → M.1 69 j = M0.1 69 j)
def hI (M0 : xM) (r : Int) (M : xM) (n : Nat) : Prop := ∀ k, k < n → M.1 73 k = M0.1 69 (28 + 6 * r.toNat + k)
theorem tI_lo {M0 M : xM} {r : Int} (h : tI M0 r M) {k : Int} (hk : (0 ≤ k ∧ k < 4) ∨ 76 ≤ k) (hr : 0 ≤ r ∧ r < 4) (hn : zI M0 r ≤ 6) : zI M k = zI M0 k := by
  unfold zI; rw [h.2.2.2 _ (by omega)]
theorem tI_ok {M0 M : xM} {r : Int} (h : tI M0 r M) (hr : 0 ≤ r ∧ r < 4) (hZ : okZ M0) : okZ M := by
  have hn := (hZ.1 r hr.1 hr.2).2
  unfold okZ
  rw [tI_lo h (k := 76) (Or.inr (by decide)) hr hn, tI_lo h (k := 77) (Or.inr (by decide)) hr hn]
  exact ⟨fun q h0 h1 => by rw [tI_lo h (Or.inl ⟨h0, h1⟩) hr hn]; exact hZ.1 q h0 h1, hZ.2⟩
theorem tI_69 {M0 M : xM} {r : Int} (h : tI M0 r M) {j : Nat} {x : Int32} (hj : 28 + 6 * r.toNat ≤ j ∧ j < 28 + 6 * r.toNat + (zI M0 r).toNat) : tI M0 r (upI M 69 j x) :=
  ⟨fun a h1 h2 h3 h4 => by rw [upI_row h2]; exact h.1 a h1 h2 h3 h4, fun k h1 h2 => by rw [upI_row (by decide)]; exact h.2.1 k h1 h2, h.2.2.1, fun k hk => by rw [upI_1, if_neg (by omega)]; exact h.2.2.2 k hk⟩
theorem tI_7 {M0 M : xM} {r : Int} (h : tI M0 r M) {a j : Nat} {x : Int32} (ha : a = 72 ∨ a = 73) : tI M0 r (upI M a j x) :=
  ⟨fun e h1 h2 h3 h4 => by rw [upI_row (by omega)]; exact h.1 e h1 h2 h3 h4, fun k h1 h2 => by rw [upI_row (by omega)]; exact h.2.1 k h1 h2, h.2.2.1, fun k hk => by rw [upI_row (by omega)]; exact h.2.2.2 k hk⟩
theorem tI_68 {M0 M : xM} {r : Int} (h : tI M0 r M) {j : Nat} {x : Int32} (hj : j = 8 ∨ j = 9) : tI M0 r (upI M 68 j x) :=
  ⟨fun e h1 h2 h3 h4 => by rw [upI_row h1]; exact h.1 e h1 h2 h3 h4, fun k h1 h2 => by rw [upI_1, if_neg (by omega)]; exact h.2.1 k h1 h2, h.2.2.1, fun k hk => by rw [upI_row (by omega)]; exact h.2.2.2 k hk⟩
theorem tI_q {M0 M M' : xM} {r : Int} (h : tI M0 r M) (hq : qO M M') : tI M0 r M' :=
  ⟨fun e h1 h2 h3 h4 => by rw [hq.1 e h3]; exact h.1 e h1 h2 h3 h4, fun k h1 h2 => by rw [hq.1 68 (by decide)]; exact h.2.1 k h1 h2, hq.2.trans h.2.2.1, fun k hk => by rw [hq.1 69 (by decide)]; exact h.2.2.2 k hk⟩
theorem tI_pm {M0 M : xM} {r : Int} {L : List Nat} (h : tI M0 r M) (hl : L.length = (zI M0 r).toNat) (hp : ∀ k, k < L.length → M.1 69 (28 + 6 * r.toNat + k) = M0.1 69 (28 + 6 * r.toNat + gt L k)) : M.1 69 = (pmM M0 r L).1 69 := by
  funext j
  unfold pmM
  dsimp only
  by_cases hj : 28 + 6 * r.toNat ≤ j ∧ j < 28 + 6 * r.toNat + L.length
  · rw [if_pos ⟨rfl, hj⟩]
    have := hp (j - (28 + 6 * r.toNat)) (by omega)
    rw [show 28 + 6 * r.toNat + (j - (28 + 6 * r.toNat)) = j by omega] at this
    exact this
  · rw [if_neg (fun z => hj z.2)]
    exact h.2.2.2 j (by omega)
theorem tI_back {M0 M : xM} {r : Int} (h : tI M0 r M) (hp : ∀ k, k < (zI M0 r).toNat → M.1 69 (28 + 6 * r.toNat + k) = M0.1 69 (28 + 6 * r.toNat + k)) : qT M0 M := by
  refine ⟨fun a h1 h2 h3 => ?_, h.2.1, h.2.2.1⟩
  by_cases ha : a = 69
  · subst ha
    funext j
    by_cases hj : 28 + 6 * r.toNat ≤ j ∧ j < 28 + 6 * r.toNat + (zI M0 r).toNat
    · have := hp (j - (28 + 6 * r.toNat)) (by omega)
      rw [show 28 + 6 * r.toNat + (j - (28 + 6 * r.toNat)) = j by omega] at this
      exact this
    · exact h.2.2.2 j (by omega)
  · exact h.1 a h1 ha h2 h3
set_option maxRecDepth 20000 in
theorem L_X7_tryOrders_182 {l : Launch} {E : xE} {r : Int} {M0 : xM} (hZ : okZ M0) (hr : 0 ≤ r ∧ r < 4) {Y : xY} (F : xFix E (xA E) Y cX7_tryOrders yX7_tryOrders.cls 6) (FR : xRet E Y none 0 0 (fun r' M' => r' = vU ∧ qT M0 M' ∧ ((M'.1 68 8).toInt = (toQ M0 r).1 ∧ (M'.1 68 9).toInt = (toQ M0 r).2)) (fun _ _ => False)) {x3 : Int} : ∀ (k : Nat) (M : xM) (k9 : Nat) (y9 : xV), (tI M0 r M ∧ hI M0 r M (zI M0 r).toNat ∧ (∀ k, k < k9 → M.1 69 (28 + 6 * r.toNat + k) = M0.1 69 (28 + 6 * r.toNat + k)) ∧ (M.1 68 8).toInt = (toQ M0 r).1 ∧ (M.1 68 9).toInt = (toQ M0 r).2) → (k9 : Int) ≤ zI M0 r → (zI M0 r - k9).toNat < k → WP l E (xRm 6 0 0) (xA E) Y 0 0 182 [vA 68, vI (jI r), vI (jI (zI M0 r)), vI (jI x3), vI (jI (k9 : Int)), y9] [] M := by
  intro k
  induction k with
  | zero => intro M k9 y9 hT hk9 hk; exact absurd hk (Nat.not_lt_zero _)
  | succ k ih =>
    intro M k9 y9 hT hk9 hk
    have hz := hZ.1 r hr.1 hr.2
    obtain ⟨h1, h2, h3, h4, h5⟩ := hT
    refine x_iload F dX7_tryOrders_182 rfl ?_
    refine x_iload_n F dX7_tryOrders_184 rfl ?_
    refine xj_icmp_ge (tgt := 216) F dX7_tryOrders_185 (by decide) (by omega) (fun h_1 => ?_) (fun h_1 => ?_)
    · refine x_vret F FR dX7_tryOrders_216 (Nat.le_refl _) (Nat.le_refl _) ?_
      exact ⟨rfl, tI_back h1 (fun k hk => h3 k (by omega)), h4, h5⟩
    · refine x_aload_n F dX7_tryOrders_188 rfl ?_
      refine x_getc (v := 69) F flX7_7 rfl dX7_tryOrders_189 (by decide) (by decide) rfl rfl ?_
      refine xj_bipush F dX7_tryOrders_192 (by decide) ?_
      refine xj_bipush F dX7_tryOrders_194 (by decide) ?_
      refine x_iload_n F dX7_tryOrders_196 rfl ?_
      refine xj_imul F dX7_tryOrders_197 ?_
      refine xj_iadd F dX7_tryOrders_198 ?_
      refine x_iload F dX7_tryOrders_199 rfl ?_
      refine xj_iadd F dX7_tryOrders_201 ?_
      refine x_aload_n F dX7_tryOrders_202 rfl ?_
      refine x_getc (v := 73) F flX7_22 rfl dX7_tryOrders_203 (by decide) (by decide) rfl rfl ?_
      refine x_iload F dX7_tryOrders_206 rfl ?_
      refine xj_lald2 F rfl dX7_tryOrders_208 (by omega) (fun hg_2 => ?_)
      refine xj_iast F rfl dX7_tryOrders_209 (by omega) ?_
      refine xj_iinc F dX7_tryOrders_210 rfl ?_
      refine x_goto (tgt := 182) F dX7_tryOrders_213 (by decide) ?_
      have e1 : (28 + 6 * r + (k9 : Int)).toNat = 28 + 6 * r.toNat + k9 := by omega
      have e2 : ((k9 : Int)).toNat = k9 := by omega
      rw [e1, e2, h2 k9 (by omega), jI_of]
      refine ih _ (k9 + 1) y9 ⟨tI_69 h1 (by omega), fun k hk => ?_, fun k hk => ?_, ?_, ?_⟩ (by omega) (by omega)
      · rw [upI_row (by decide)]; exact h2 k hk
      · rw [upI_1]
        by_cases hkk : k = k9
        · subst hkk; rw [if_pos ⟨rfl, rfl⟩]
        · rw [if_neg (by omega)]; exact h3 k (by omega)
      · rw [upI_row (by decide)]; exact h4
      · rw [upI_row (by decide)]; exact h5
set_option maxRecDepth 20000 in
theorem L_X7_tryOrders_55 {l : Launch} {E : xE} {r : Int} {M0 : xM} (hZ : okZ M0) (hr : 0 ≤ r ∧ r < 4) {L : List Nat} (hl : L.length = (zI M0 r).toNat) {Mh : xM} {Y : xY} (F : xFix E (xA E) Y cX7_tryOrders yX7_tryOrders.cls 6) (FR : xRet E Y none 0 0 (fun r' M' => r' = vU ∧ qT M0 M' ∧ ((M'.1 68 8).toInt = (toQ M0 r).1 ∧ (M'.1 68 9).toInt = (toQ M0 r).2)) (fun _ _ => False)) : ∀ (k : Nat) (M : xM) (k9 : Nat) (y9 : xV), (tI M0 r M ∧ hI M0 r M (zI M0 r).toNat ∧ (∀ k, k < k9 → M.1 69 (28 + 6 * r.toNat + k) = M0.1 69 (28 + 6 * r.toNat + gt L k)) ∧ isO M L ∧ (∀ a, a ≠ 69 → M.1 a = Mh.1 a)) → k9 ≤ L.length → (∀ k, k < L.length → gt L k < L.length) → (∀ (M : xM) (y y9 : xV), tI M0 r M → hI M0 r M (zI M0 r).toNat → (∀ k, k < L.length → M.1 69 (28 + 6 * r.toNat + k) = M0.1 69 (28 + 6 * r.toNat + gt L k)) → isO M L → (∀ a, a ≠ 69 → M.1 a = Mh.1 a) → WP l E (xRm 6 0 0) (xA E) Y 0 0 94 [vA 68, vI (jI r), vI (jI (zI M0 r)), vI (jI 1), y, y9] [] M) → L.length - k9 < k → WP l E (xRm 6 0 0) (xA E) Y 0 0 55 [vA 68, vI (jI r), vI (jI (zI M0 r)), vI (jI 1), vI (jI (k9 : Int)), y9] [] M := by
  intro k
  induction k with
  | zero => intro M k9 y9 hT hk9 hlt hex hk; exact absurd hk (Nat.not_lt_zero _)
  | succ k ih =>
    intro M k9 y9 hT hk9 hlt hex hk
    have hz := hZ.1 r hr.1 hr.2
    obtain ⟨h1, h2, h3, h4, h5⟩ := hT
    have hgn : k9 < L.length → gt L k9 < (zI M0 r).toNat := fun z => by have := hlt k9 z; omega
    refine x_iload F dX7_tryOrders_55 rfl ?_
    refine x_iload_n F dX7_tryOrders_57 rfl ?_
    refine xj_icmp_ge (tgt := 94) F dX7_tryOrders_58 (by decide) (by omega) (fun h_1 => ?_) (fun h_1 => ?_)
    · have e : k9 = L.length := by omega
      subst e
      exact hex M _ y9 h1 h2 h3 h4 h5
    · refine x_aload_n F dX7_tryOrders_61 rfl ?_
      refine x_getc (v := 69) F flX7_7 rfl dX7_tryOrders_62 (by decide) (by decide) rfl rfl ?_
      refine xj_bipush F dX7_tryOrders_65 (by decide) ?_
      refine xj_bipush F dX7_tryOrders_67 (by decide) ?_
      refine x_iload_n F dX7_tryOrders_69 rfl ?_
      refine xj_imul F dX7_tryOrders_70 ?_
      refine xj_iadd F dX7_tryOrders_71 ?_
      refine x_iload F dX7_tryOrders_72 rfl ?_
      refine xj_iadd F dX7_tryOrders_74 ?_
      refine x_aload_n F dX7_tryOrders_75 rfl ?_
      refine x_getc (v := 73) F flX7_22 rfl dX7_tryOrders_76 (by decide) (by decide) rfl rfl ?_
      refine x_aload_n F dX7_tryOrders_79 rfl ?_
      refine x_getc (v := 72) F flX7_19 rfl dX7_tryOrders_80 (by decide) (by decide) rfl rfl ?_
      refine x_iload F dX7_tryOrders_83 rfl ?_
      refine xj_lald2 F rfl dX7_tryOrders_85 (by omega) (fun hg_2 => ?_)
      rw [show ((k9 : Int)).toNat = k9 from Int.toNat_natCast k9, (h4 k9 (by omega)).1]
      have hg9 := (h4 k9 (by omega)).2
      refine xj_lald2 F rfl dX7_tryOrders_86 (by omega) (fun hg_3 => ?_)
      refine xj_iast F rfl dX7_tryOrders_87 (by omega) ?_
      refine xj_iinc F dX7_tryOrders_88 rfl ?_
      refine x_goto (tgt := 55) F dX7_tryOrders_91 (by decide) ?_
      have e1 : (28 + 6 * r + (k9 : Int)).toNat = 28 + 6 * r.toNat + k9 := by omega
      have e2 : ((gt L k9 : Nat) : Int).toNat = gt L k9 := by omega
      rw [e1, e2, h2 _ (hgn (by omega)), jI_of]
      refine ih _ (k9 + 1) y9 ⟨tI_69 h1 (by omega), fun k hk => ?_, fun k hk => ?_, fun k hk => ?_, fun a ha => ?_⟩ (by omega) hlt hex (by omega)
      · rw [upI_row (by decide)]; exact h2 k hk
      · rw [upI_1]
        by_cases hkk : k = k9
        · subst hkk; rw [if_pos ⟨rfl, rfl⟩]
        · rw [if_neg (by omega)]; exact h3 k (by omega)
      · rw [upI_row (by decide)]; exact h4 k hk
      · rw [upI_row ha]; exact h5 a ha
def tS (M0 : xM) (r : Int) (M : xM) (L : List Nat) (rest : oLL) : Prop := tI M0 r M ∧ hI M0 r M (zI M0 r).toNat ∧ isO M L ∧ chk (zI M0 r).toNat L rest = true ∧ fldQ (owQ M0 r) (L :: rest) (((M.1 68 8).toInt, (M.1 68 9).toInt) : Int × Int) = toQ M0 r ∧ (-1 ≤ (M.1 68 8).toInt ∧ (M.1 68 8).toInt ≤ 6)
theorem tS_end {M0 M M' : xM} {r : Int} {w m : Int} (ht : tI M0 r M) (hh : hI M0 r M (zI M0 r).toNat) (hw : rg w) (hm : rg m) (hM : M' = upI (upI M 68 9 (jI w)) 68 8 (jI m)) : tI M0 r M' ∧ hI M0 r M' (zI M0 r).toNat ∧ (M'.1 68 8).toInt = m ∧ (M'.1 68 9).toInt = w := by
  subst hM
  refine ⟨tI_68 (tI_68 ht (Or.inr rfl)) (Or.inl rfl), fun k hk => ?_, ?_, ?_⟩
  · rw [upI_row (by decide), upI_row (by decide)]; exact hh k hk
  · rw [upI_1, if_pos ⟨rfl, rfl⟩, jI_toInt hm]
  · rw [upI_1, if_neg (by decide), upI_1, if_pos ⟨rfl, rfl⟩, jI_toInt hw]
set_option maxRecDepth 20000 in
theorem L_X7_tryOrders_170 {l : Launch} {E : xE} {r : Int} {M0 : xM} (hZ : okZ M0) (hr : 0 ≤ r ∧ r < 4) {L : List Nat} {rest : oLL} (hl : L.length = (zI M0 r).toNat) (hL6 : L.length ≤ 6) {Y : xY} (F : xFix E (xA E) Y cX7_tryOrders yX7_tryOrders.cls 6) (FR : xRet E Y none 0 0 (fun r' M' => r' = vU ∧ qT M0 M' ∧ ((M'.1 68 8).toInt = (toQ M0 r).1 ∧ (M'.1 68 9).toInt = (toQ M0 r).2)) (fun _ _ => False)) (hrec : (∀ (M : xM) (L2 : List Nat) (r2 : oLL) (y y9 : xV), rest = L2 :: r2 → tS M0 r M L2 r2 → WP l E (xRm 6 0 0) (xA E) Y 0 0 48 [vA 68, vI (jI r), vI (jI (L.length : Int)), vI (jI 1), y, y9] [] M)) : ∀ (k : Nat) (M : xM) (y y9 : xV), tI M0 r M → hI M0 r M (zI M0 r).toNat → isO M L → chk (zI M0 r).toNat L rest = true → fldQ (owQ M0 r) rest (((M.1 68 8).toInt, (M.1 68 9).toInt) : Int × Int) = toQ M0 r → (-1 ≤ (M.1 68 8).toInt ∧ (M.1 68 8).toInt ≤ 6) → 0 < k → WP l E (xRm 6 0 0) (xA E) Y 0 0 170 [vA 68, vI (jI r), vI (jI (L.length : Int)), vI (jI 1), y, y9] [] M := by
  intro k
  induction k with
  | zero => intro M y y9 ht hh hO hch hfd hb hk; exact absurd hk (Nat.not_lt_zero _)
  | succ k ih =>
    intro M y y9 ht hh hO hch hfd hb hk
    have hz := hZ.1 r hr.1 hr.2
    refine x_aload_n F dX7_tryOrders_170 rfl ?_
    refine x_iload_n F dX7_tryOrders_171 rfl ?_
    refine x_V1P F (m_X7_nextOrder hL6 hO) mlX7_100 mvX7_nextOrder rfl dX7_tryOrders_172 (by decide) rfl ⟨Nat.le_of_ble_eq_true rfl, Nat.le_of_ble_eq_true rfl⟩ ⟨Nat.zero_le _, Nat.zero_le _⟩ (Nat.le_of_ble_eq_true rfl) (fun r_172 M_172 q_172 => ?_)
    obtain ⟨q1, q2⟩ := q_172
    cases rest with
    | nil =>
      simp only [chk, Bool.and_eq_true, decide_eq_true_eq] at hch
      obtain ⟨rfl, e9⟩ := q1 hch.1
      subst e9
      refine x_istore_n F dX7_tryOrders_175 (by decide) ?_
      refine x_goto (tgt := 48) F dX7_tryOrders_176 (by decide) ?_
      refine x_iload_n F dX7_tryOrders_48 rfl ?_
      refine xj_if_eq (tgt := 179) F dX7_tryOrders_49 (by decide) (by omega) (fun _ => ?_) (fun z => absurd rfl z)
      refine xj_iconst F dX7_tryOrders_179 ?_
      refine x_istore F dX7_tryOrders_180 (by decide) ?_
      simp only [fldQ] at hfd
      have g := L_X7_tryOrders_182 (l := l) hZ hr F FR (x3 := 0) _ M_172 0 y9 ⟨ht, hh, fun k hk => absurd hk (Nat.not_lt_zero _), by rw [← hfd], by rw [← hfd]⟩ (by omega) (Nat.lt_succ_self _)
      rw [show zI M0 r = (L.length : Int) by omega] at g
      exact g
    | cons L2 r2 =>
      simp only [chk, Bool.and_eq_true, decide_eq_true_eq] at hch
      obtain ⟨rfl, hO2, hl2, hq2⟩ := q2 L2 hch.1
      refine x_istore_n F dX7_tryOrders_175 (by decide) ?_
      refine x_goto (tgt := 48) F dX7_tryOrders_176 (by decide) ?_
      refine hrec _ L2 r2 _ _ rfl ⟨tI_q ht hq2, fun k hk => by rw [hq2.1 73 (by decide)]; exact hh k hk, hO2, hch.2.2, ?_, ?_⟩
      · rw [hq2.1 68 (by decide)]; exact hfd
      · rw [hq2.1 68 (by decide)]; exact hb
set_option maxRecDepth 20000 in
theorem L_X7_tryOrders_94 {l : Launch} {E : xE} {r : Int} {M0 : xM} (hZ : okZ M0) (hr : 0 ≤ r ∧ r < 4) {L : List Nat} {rest : oLL} (hl : L.length = (zI M0 r).toNat) (hL6 : L.length ≤ 6) {Y : xY} (F : xFix E (xA E) Y cX7_tryOrders yX7_tryOrders.cls 6) (FR : xRet E Y none 0 0 (fun r' M' => r' = vU ∧ qT M0 M' ∧ ((M'.1 68 8).toInt = (toQ M0 r).1 ∧ (M'.1 68 9).toInt = (toQ M0 r).2)) (fun _ _ => False)) (hrec : (∀ (M : xM) (L2 : List Nat) (r2 : oLL) (y y9 : xV), rest = L2 :: r2 → tS M0 r M L2 r2 → WP l E (xRm 6 0 0) (xA E) Y 0 0 48 [vA 68, vI (jI r), vI (jI (L.length : Int)), vI (jI 1), y, y9] [] M)) : ∀ (k : Nat) (M : xM) (y y9 : xV), tI M0 r M → hI M0 r M (zI M0 r).toNat → (∀ k, k < L.length → M.1 69 (28 + 6 * r.toNat + k) = M0.1 69 (28 + 6 * r.toNat + gt L k)) → isO M L → chk (zI M0 r).toNat L rest = true → fldQ (owQ M0 r) (L :: rest) (((M.1 68 8).toInt, (M.1 68 9).toInt) : Int × Int) = toQ M0 r → (-1 ≤ (M.1 68 8).toInt ∧ (M.1 68 8).toInt ≤ 6) → 0 < k → WP l E (xRm 6 0 0) (xA E) Y 0 0 94 [vA 68, vI (jI r), vI (jI (L.length : Int)), vI (jI 1), y, y9] [] M := by
  intro k
  induction k with
  | zero => intro M y y9 ht hh hp hO hch hfd hb hk; exact absurd hk (Nat.not_lt_zero _)
  | succ k ih =>
    intro M y y9 ht hh hp hO hch hfd hb hk
    have hz := hZ.1 r hr.1 hr.2
    have hZM := tI_ok ht hr hZ
    have hob := odZ_b hZM hr
    have hsb := soI_b (M := M) (s := (L.length : Int)) (by omega)
    have hr9 : rg ((M.1 68 9).toInt) := rg_of _
    have e8 : ∀ x, ((upI M 68 9 x).1 68 8).toInt = (M.1 68 8).toInt := fun _ => rfl
    have hown : owQ M0 r L = (odZ M r, soI M (L.length : Int)) := by unfold owQ; rw [soI_of hO, ← odZ_of (tI_pm ht hl hp)]
    refine x_aload_n F dX7_tryOrders_94 rfl ?_
    refine x_iload_n F dX7_tryOrders_95 rfl ?_
    refine x_V1 F (m_X7_oddIn hZM hr) mlX7_84 mvX7_oddIn rfl dX7_tryOrders_96 (by decide) rfl ⟨Nat.le_of_ble_eq_true rfl, Nat.le_of_ble_eq_true rfl⟩ ⟨Nat.zero_le _, Nat.zero_le _⟩ (Nat.le_of_ble_eq_true rfl) ?_
    refine x_istore F dX7_tryOrders_99 (by decide) ?_
    refine x_aload_n F dX7_tryOrders_101 rfl ?_
    refine x_iload_n F dX7_tryOrders_102 rfl ?_
    refine x_V1 F (m_X7_swapsOf (by omega)) mlX7_94 mvX7_swapsOf rfl dX7_tryOrders_103 (by decide) rfl ⟨Nat.le_of_ble_eq_true rfl, Nat.le_of_ble_eq_true rfl⟩ ⟨Nat.zero_le _, Nat.zero_le _⟩ (Nat.le_of_ble_eq_true rfl) ?_
    refine x_istore F dX7_tryOrders_106 (by decide) ?_
    refine x_aload_n F dX7_tryOrders_108 rfl ?_
    refine x_iload F dX7_tryOrders_109 rfl ?_
    refine x_aload_n F dX7_tryOrders_111 rfl ?_
    refine xj_geti F flX7_91 rfl dX7_tryOrders_112 (by decide) (by decide) rfl (fun hg_1 => ?_)
    refine xj_icmp_gt (tgt := 136) F dX7_tryOrders_115 (by decide) (by omega) (fun h_2 => ?_) (fun h_2 => ?_)
    · refine x_iload F dX7_tryOrders_136 rfl ?_
      refine x_goto (tgt := 145) F dX7_tryOrders_138 (by decide) ?_
      refine x_puti F flX7_97 rfl dX7_tryOrders_145 (by decide) (by decide) rfl fw7_9 rfl rfl ?_
      refine x_aload_n F dX7_tryOrders_148 rfl ?_
      refine x_iload F dX7_tryOrders_149 rfl ?_
      refine x_aload_n F dX7_tryOrders_151 rfl ?_
      refine xj_geti F flX7_91 rfl dX7_tryOrders_152 (by decide) (by decide) rfl (fun hg_3 => ?_)
      rw [e8]
      refine xj_icmp_le (tgt := 163) F dX7_tryOrders_155 (by decide) (by omega) (fun h_4 => ?_) (fun h_4 => ?_)
      · refine x_aload_n F dX7_tryOrders_163 rfl ?_
        refine xj_geti F flX7_91 rfl dX7_tryOrders_164 (by decide) (by decide) rfl (fun hg_5 => ?_)
        try rw [e8]
        refine x_puti F flX7_91 rfl dX7_tryOrders_167 (by decide) (by decide) rfl fw7_8 rfl rfl ?_
        first
          | (have hq : upQ (((M.1 68 8).toInt, (M.1 68 9).toInt) : Int × Int) (owQ M0 r L) = ((odZ M r), (soI M (L.length : Int))) := by
               unfold upQ; rw [hown]; dsimp only
               refine Prod.ext ?_ ?_ <;> dsimp only
               · first
                 | exact if_pos (by omega)
                 | exact if_neg (by omega)
               · first
                 | exact if_pos (by omega)
                 | exact if_neg (by omega)
             have hMM : upI (upI M 68 9 (jI (soI M (L.length : Int)))) 68 8 (jI (odZ M r)) = upI (upI M 68 9 (jI (soI M (L.length : Int)))) 68 8 (jI (odZ M r)) := rfl
             have hN := tS_end ht hh (w := (soI M (L.length : Int))) (m := (odZ M r)) (by omega) (by omega) rfl
             refine L_X7_tryOrders_170 (l := l) hZ hr hl hL6 F FR hrec _ (upI (upI M 68 9 (jI (soI M (L.length : Int)))) 68 8 (jI (odZ M r))) _ _ hN.1 hN.2.1 (fun k hk => ?_) hch ?_ ?_ (Nat.lt_succ_self 0)
             · rw [upI_row (by decide), upI_row (by decide)]; exact hO k hk
             · rw [hN.2.2.1, hN.2.2.2, ← hq]; exact hfd
             · rw [hN.2.2.1]; omega)
          | (have hq : upQ (((M.1 68 8).toInt, (M.1 68 9).toInt) : Int × Int) (owQ M0 r L) = (((M.1 68 8).toInt), (soI M (L.length : Int))) := by
               unfold upQ; rw [hown]; dsimp only
               refine Prod.ext ?_ ?_ <;> dsimp only
               · first
                 | exact if_pos (by omega)
                 | exact if_neg (by omega)
               · first
                 | exact if_pos (by omega)
                 | exact if_neg (by omega)
             have hMM : upI (upI M 68 9 (jI (soI M (L.length : Int)))) 68 8 (jI ((M.1 68 8).toInt)) = upI (upI M 68 9 (jI (soI M (L.length : Int)))) 68 8 (jI ((M.1 68 8).toInt)) := rfl
             have hN := tS_end ht hh (w := (soI M (L.length : Int))) (m := ((M.1 68 8).toInt)) (by omega) (by omega) rfl
             refine L_X7_tryOrders_170 (l := l) hZ hr hl hL6 F FR hrec _ (upI (upI M 68 9 (jI (soI M (L.length : Int)))) 68 8 (jI ((M.1 68 8).toInt))) _ _ hN.1 hN.2.1 (fun k hk => ?_) hch ?_ ?_ (Nat.lt_succ_self 0)
             · rw [upI_row (by decide), upI_row (by decide)]; exact hO k hk
             · rw [hN.2.2.1, hN.2.2.2, ← hq]; exact hfd
             · rw [hN.2.2.1]; omega)
          | (have hq : upQ (((M.1 68 8).toInt, (M.1 68 9).toInt) : Int × Int) (owQ M0 r L) = ((odZ M r), ((M.1 68 9).toInt)) := by
               unfold upQ; rw [hown]; dsimp only
               refine Prod.ext ?_ ?_ <;> dsimp only
               · first
                 | exact if_pos (by omega)
                 | exact if_neg (by omega)
               · first
                 | exact if_pos (by omega)
                 | exact if_neg (by omega)
             have hMM : upI (upI M 68 9 (jI ((M.1 68 9).toInt))) 68 8 (jI (odZ M r)) = upI (upI M 68 9 (jI ((M.1 68 9).toInt))) 68 8 (jI (odZ M r)) := rfl
             have hN := tS_end ht hh (w := ((M.1 68 9).toInt)) (m := (odZ M r)) (by omega) (by omega) rfl
             refine L_X7_tryOrders_170 (l := l) hZ hr hl hL6 F FR hrec _ (upI (upI M 68 9 (jI ((M.1 68 9).toInt))) 68 8 (jI (odZ M r))) _ _ hN.1 hN.2.1 (fun k hk => ?_) hch ?_ ?_ (Nat.lt_succ_self 0)
             · rw [upI_row (by decide), upI_row (by decide)]; exact hO k hk
             · rw [hN.2.2.1, hN.2.2.2, ← hq]; exact hfd
             · rw [hN.2.2.1]; omega)
          | (have hq : upQ (((M.1 68 8).toInt, (M.1 68 9).toInt) : Int × Int) (owQ M0 r L) = (((M.1 68 8).toInt), ((M.1 68 9).toInt)) := by
               unfold upQ; rw [hown]; dsimp only
               refine Prod.ext ?_ ?_ <;> dsimp only
               · first
                 | exact if_pos (by omega)
                 | exact if_neg (by omega)
               · first
                 | exact if_pos (by omega)
                 | exact if_neg (by omega)
             have hMM : upI (upI M 68 9 (jI ((M.1 68 9).toInt))) 68 8 (jI ((M.1 68 8).toInt)) = upI (upI M 68 9 (jI ((M.1 68 9).toInt))) 68 8 (jI ((M.1 68 8).toInt)) := rfl
             have hN := tS_end ht hh (w := ((M.1 68 9).toInt)) (m := ((M.1 68 8).toInt)) (by omega) (by omega) rfl
             refine L_X7_tryOrders_170 (l := l) hZ hr hl hL6 F FR hrec _ (upI (upI M 68 9 (jI ((M.1 68 9).toInt))) 68 8 (jI ((M.1 68 8).toInt))) _ _ hN.1 hN.2.1 (fun k hk => ?_) hch ?_ ?_ (Nat.lt_succ_self 0)
             · rw [upI_row (by decide), upI_row (by decide)]; exact hO k hk
             · rw [hN.2.2.1, hN.2.2.2, ← hq]; exact hfd
             · rw [hN.2.2.1]; omega)
      · refine x_iload F dX7_tryOrders_158 rfl ?_
        refine x_goto (tgt := 167) F dX7_tryOrders_160 (by decide) ?_
        try rw [e8]
        refine x_puti F flX7_91 rfl dX7_tryOrders_167 (by decide) (by decide) rfl fw7_8 rfl rfl ?_
        first
          | (have hq : upQ (((M.1 68 8).toInt, (M.1 68 9).toInt) : Int × Int) (owQ M0 r L) = ((odZ M r), (soI M (L.length : Int))) := by
               unfold upQ; rw [hown]; dsimp only
               refine Prod.ext ?_ ?_ <;> dsimp only
               · first
                 | exact if_pos (by omega)
                 | exact if_neg (by omega)
               · first
                 | exact if_pos (by omega)
                 | exact if_neg (by omega)
             have hMM : upI (upI M 68 9 (jI (soI M (L.length : Int)))) 68 8 (jI (odZ M r)) = upI (upI M 68 9 (jI (soI M (L.length : Int)))) 68 8 (jI (odZ M r)) := rfl
             have hN := tS_end ht hh (w := (soI M (L.length : Int))) (m := (odZ M r)) (by omega) (by omega) rfl
             refine L_X7_tryOrders_170 (l := l) hZ hr hl hL6 F FR hrec _ (upI (upI M 68 9 (jI (soI M (L.length : Int)))) 68 8 (jI (odZ M r))) _ _ hN.1 hN.2.1 (fun k hk => ?_) hch ?_ ?_ (Nat.lt_succ_self 0)
             · rw [upI_row (by decide), upI_row (by decide)]; exact hO k hk
             · rw [hN.2.2.1, hN.2.2.2, ← hq]; exact hfd
             · rw [hN.2.2.1]; omega)
          | (have hq : upQ (((M.1 68 8).toInt, (M.1 68 9).toInt) : Int × Int) (owQ M0 r L) = (((M.1 68 8).toInt), (soI M (L.length : Int))) := by
               unfold upQ; rw [hown]; dsimp only
               refine Prod.ext ?_ ?_ <;> dsimp only
               · first
                 | exact if_pos (by omega)
                 | exact if_neg (by omega)
               · first
                 | exact if_pos (by omega)
                 | exact if_neg (by omega)
             have hMM : upI (upI M 68 9 (jI (soI M (L.length : Int)))) 68 8 (jI ((M.1 68 8).toInt)) = upI (upI M 68 9 (jI (soI M (L.length : Int)))) 68 8 (jI ((M.1 68 8).toInt)) := rfl
             have hN := tS_end ht hh (w := (soI M (L.length : Int))) (m := ((M.1 68 8).toInt)) (by omega) (by omega) rfl
             refine L_X7_tryOrders_170 (l := l) hZ hr hl hL6 F FR hrec _ (upI (upI M 68 9 (jI (soI M (L.length : Int)))) 68 8 (jI ((M.1 68 8).toInt))) _ _ hN.1 hN.2.1 (fun k hk => ?_) hch ?_ ?_ (Nat.lt_succ_self 0)
             · rw [upI_row (by decide), upI_row (by decide)]; exact hO k hk
             · rw [hN.2.2.1, hN.2.2.2, ← hq]; exact hfd
             · rw [hN.2.2.1]; omega)
          | (have hq : upQ (((M.1 68 8).toInt, (M.1 68 9).toInt) : Int × Int) (owQ M0 r L) = ((odZ M r), ((M.1 68 9).toInt)) := by
               unfold upQ; rw [hown]; dsimp only
               refine Prod.ext ?_ ?_ <;> dsimp only
               · first
                 | exact if_pos (by omega)
                 | exact if_neg (by omega)
               · first
                 | exact if_pos (by omega)
                 | exact if_neg (by omega)
             have hMM : upI (upI M 68 9 (jI ((M.1 68 9).toInt))) 68 8 (jI (odZ M r)) = upI (upI M 68 9 (jI ((M.1 68 9).toInt))) 68 8 (jI (odZ M r)) := rfl
             have hN := tS_end ht hh (w := ((M.1 68 9).toInt)) (m := (odZ M r)) (by omega) (by omega) rfl
             refine L_X7_tryOrders_170 (l := l) hZ hr hl hL6 F FR hrec _ (upI (upI M 68 9 (jI ((M.1 68 9).toInt))) 68 8 (jI (odZ M r))) _ _ hN.1 hN.2.1 (fun k hk => ?_) hch ?_ ?_ (Nat.lt_succ_self 0)
             · rw [upI_row (by decide), upI_row (by decide)]; exact hO k hk
             · rw [hN.2.2.1, hN.2.2.2, ← hq]; exact hfd
             · rw [hN.2.2.1]; omega)
          | (have hq : upQ (((M.1 68 8).toInt, (M.1 68 9).toInt) : Int × Int) (owQ M0 r L) = (((M.1 68 8).toInt), ((M.1 68 9).toInt)) := by
               unfold upQ; rw [hown]; dsimp only
               refine Prod.ext ?_ ?_ <;> dsimp only
               · first
                 | exact if_pos (by omega)
                 | exact if_neg (by omega)
               · first
                 | exact if_pos (by omega)
                 | exact if_neg (by omega)
             have hMM : upI (upI M 68 9 (jI ((M.1 68 9).toInt))) 68 8 (jI ((M.1 68 8).toInt)) = upI (upI M 68 9 (jI ((M.1 68 9).toInt))) 68 8 (jI ((M.1 68 8).toInt)) := rfl
             have hN := tS_end ht hh (w := ((M.1 68 9).toInt)) (m := ((M.1 68 8).toInt)) (by omega) (by omega) rfl
             refine L_X7_tryOrders_170 (l := l) hZ hr hl hL6 F FR hrec _ (upI (upI M 68 9 (jI ((M.1 68 9).toInt))) 68 8 (jI ((M.1 68 8).toInt))) _ _ hN.1 hN.2.1 (fun k hk => ?_) hch ?_ ?_ (Nat.lt_succ_self 0)
             · rw [upI_row (by decide), upI_row (by decide)]; exact hO k hk
             · rw [hN.2.2.1, hN.2.2.2, ← hq]; exact hfd
             · rw [hN.2.2.1]; omega)
    · refine x_iload F dX7_tryOrders_118 rfl ?_
      refine x_aload_n F dX7_tryOrders_120 rfl ?_
      refine xj_geti F flX7_91 rfl dX7_tryOrders_121 (by decide) (by decide) rfl (fun hg_6 => ?_)
      refine xj_icmp_ne (tgt := 141) F dX7_tryOrders_124 (by decide) (by omega) (fun h_7 => ?_) (fun h_7 => ?_)
      · refine x_aload_n F dX7_tryOrders_141 rfl ?_
        refine xj_geti F flX7_97 rfl dX7_tryOrders_142 (by decide) (by decide) rfl (fun hg_8 => ?_)
        refine x_puti F flX7_97 rfl dX7_tryOrders_145 (by decide) (by decide) rfl fw7_9 rfl rfl ?_
        refine x_aload_n F dX7_tryOrders_148 rfl ?_
        refine x_iload F dX7_tryOrders_149 rfl ?_
        refine x_aload_n F dX7_tryOrders_151 rfl ?_
        refine xj_geti F flX7_91 rfl dX7_tryOrders_152 (by decide) (by decide) rfl (fun hg_9 => ?_)
        rw [e8]
        refine xj_icmp_le (tgt := 163) F dX7_tryOrders_155 (by decide) (by omega) (fun h_10 => ?_) (fun h_10 => ?_)
        · refine x_aload_n F dX7_tryOrders_163 rfl ?_
          refine xj_geti F flX7_91 rfl dX7_tryOrders_164 (by decide) (by decide) rfl (fun hg_11 => ?_)
          try rw [e8]
          refine x_puti F flX7_91 rfl dX7_tryOrders_167 (by decide) (by decide) rfl fw7_8 rfl rfl ?_
          first
            | (have hq : upQ (((M.1 68 8).toInt, (M.1 68 9).toInt) : Int × Int) (owQ M0 r L) = ((odZ M r), (soI M (L.length : Int))) := by
                 unfold upQ; rw [hown]; dsimp only
                 refine Prod.ext ?_ ?_ <;> dsimp only
                 · first
                   | exact if_pos (by omega)
                   | exact if_neg (by omega)
                 · first
                   | exact if_pos (by omega)
                   | exact if_neg (by omega)
               have hMM : upI (upI M 68 9 (jI (soI M (L.length : Int)))) 68 8 (jI (odZ M r)) = upI (upI M 68 9 (jI (soI M (L.length : Int)))) 68 8 (jI (odZ M r)) := rfl
               have hN := tS_end ht hh (w := (soI M (L.length : Int))) (m := (odZ M r)) (by omega) (by omega) rfl
               refine L_X7_tryOrders_170 (l := l) hZ hr hl hL6 F FR hrec _ (upI (upI M 68 9 (jI (soI M (L.length : Int)))) 68 8 (jI (odZ M r))) _ _ hN.1 hN.2.1 (fun k hk => ?_) hch ?_ ?_ (Nat.lt_succ_self 0)
               · rw [upI_row (by decide), upI_row (by decide)]; exact hO k hk
               · rw [hN.2.2.1, hN.2.2.2, ← hq]; exact hfd
               · rw [hN.2.2.1]; omega)
            | (have hq : upQ (((M.1 68 8).toInt, (M.1 68 9).toInt) : Int × Int) (owQ M0 r L) = (((M.1 68 8).toInt), (soI M (L.length : Int))) := by
                 unfold upQ; rw [hown]; dsimp only
                 refine Prod.ext ?_ ?_ <;> dsimp only
                 · first
                   | exact if_pos (by omega)
                   | exact if_neg (by omega)
                 · first
                   | exact if_pos (by omega)
                   | exact if_neg (by omega)
               have hMM : upI (upI M 68 9 (jI (soI M (L.length : Int)))) 68 8 (jI ((M.1 68 8).toInt)) = upI (upI M 68 9 (jI (soI M (L.length : Int)))) 68 8 (jI ((M.1 68 8).toInt)) := rfl
               have hN := tS_end ht hh (w := (soI M (L.length : Int))) (m := ((M.1 68 8).toInt)) (by omega) (by omega) rfl
               refine L_X7_tryOrders_170 (l := l) hZ hr hl hL6 F FR hrec _ (upI (upI M 68 9 (jI (soI M (L.length : Int)))) 68 8 (jI ((M.1 68 8).toInt))) _ _ hN.1 hN.2.1 (fun k hk => ?_) hch ?_ ?_ (Nat.lt_succ_self 0)
               · rw [upI_row (by decide), upI_row (by decide)]; exact hO k hk
               · rw [hN.2.2.1, hN.2.2.2, ← hq]; exact hfd
               · rw [hN.2.2.1]; omega)
            | (have hq : upQ (((M.1 68 8).toInt, (M.1 68 9).toInt) : Int × Int) (owQ M0 r L) = ((odZ M r), ((M.1 68 9).toInt)) := by
                 unfold upQ; rw [hown]; dsimp only
                 refine Prod.ext ?_ ?_ <;> dsimp only
                 · first
                   | exact if_pos (by omega)
                   | exact if_neg (by omega)
                 · first
                   | exact if_pos (by omega)
                   | exact if_neg (by omega)
               have hMM : upI (upI M 68 9 (jI ((M.1 68 9).toInt))) 68 8 (jI (odZ M r)) = upI (upI M 68 9 (jI ((M.1 68 9).toInt))) 68 8 (jI (odZ M r)) := rfl
               have hN := tS_end ht hh (w := ((M.1 68 9).toInt)) (m := (odZ M r)) (by omega) (by omega) rfl
               refine L_X7_tryOrders_170 (l := l) hZ hr hl hL6 F FR hrec _ (upI (upI M 68 9 (jI ((M.1 68 9).toInt))) 68 8 (jI (odZ M r))) _ _ hN.1 hN.2.1 (fun k hk => ?_) hch ?_ ?_ (Nat.lt_succ_self 0)
               · rw [upI_row (by decide), upI_row (by decide)]; exact hO k hk
               · rw [hN.2.2.1, hN.2.2.2, ← hq]; exact hfd
               · rw [hN.2.2.1]; omega)
            | (have hq : upQ (((M.1 68 8).toInt, (M.1 68 9).toInt) : Int × Int) (owQ M0 r L) = (((M.1 68 8).toInt), ((M.1 68 9).toInt)) := by
                 unfold upQ; rw [hown]; dsimp only
                 refine Prod.ext ?_ ?_ <;> dsimp only
                 · first
                   | exact if_pos (by omega)
                   | exact if_neg (by omega)
                 · first
                   | exact if_pos (by omega)
                   | exact if_neg (by omega)
               have hMM : upI (upI M 68 9 (jI ((M.1 68 9).toInt))) 68 8 (jI ((M.1 68 8).toInt)) = upI (upI M 68 9 (jI ((M.1 68 9).toInt))) 68 8 (jI ((M.1 68 8).toInt)) := rfl
               have hN := tS_end ht hh (w := ((M.1 68 9).toInt)) (m := ((M.1 68 8).toInt)) (by omega) (by omega) rfl
               refine L_X7_tryOrders_170 (l := l) hZ hr hl hL6 F FR hrec _ (upI (upI M 68 9 (jI ((M.1 68 9).toInt))) 68 8 (jI ((M.1 68 8).toInt))) _ _ hN.1 hN.2.1 (fun k hk => ?_) hch ?_ ?_ (Nat.lt_succ_self 0)
               · rw [upI_row (by decide), upI_row (by decide)]; exact hO k hk
               · rw [hN.2.2.1, hN.2.2.2, ← hq]; exact hfd
               · rw [hN.2.2.1]; omega)
        · refine x_iload F dX7_tryOrders_158 rfl ?_
          refine x_goto (tgt := 167) F dX7_tryOrders_160 (by decide) ?_
          try rw [e8]
          refine x_puti F flX7_91 rfl dX7_tryOrders_167 (by decide) (by decide) rfl fw7_8 rfl rfl ?_
          first
            | (have hq : upQ (((M.1 68 8).toInt, (M.1 68 9).toInt) : Int × Int) (owQ M0 r L) = ((odZ M r), (soI M (L.length : Int))) := by
                 unfold upQ; rw [hown]; dsimp only
                 refine Prod.ext ?_ ?_ <;> dsimp only
                 · first
                   | exact if_pos (by omega)
                   | exact if_neg (by omega)
                 · first
                   | exact if_pos (by omega)
                   | exact if_neg (by omega)
               have hMM : upI (upI M 68 9 (jI (soI M (L.length : Int)))) 68 8 (jI (odZ M r)) = upI (upI M 68 9 (jI (soI M (L.length : Int)))) 68 8 (jI (odZ M r)) := rfl
               have hN := tS_end ht hh (w := (soI M (L.length : Int))) (m := (odZ M r)) (by omega) (by omega) rfl
               refine L_X7_tryOrders_170 (l := l) hZ hr hl hL6 F FR hrec _ (upI (upI M 68 9 (jI (soI M (L.length : Int)))) 68 8 (jI (odZ M r))) _ _ hN.1 hN.2.1 (fun k hk => ?_) hch ?_ ?_ (Nat.lt_succ_self 0)
               · rw [upI_row (by decide), upI_row (by decide)]; exact hO k hk
               · rw [hN.2.2.1, hN.2.2.2, ← hq]; exact hfd
               · rw [hN.2.2.1]; omega)
            | (have hq : upQ (((M.1 68 8).toInt, (M.1 68 9).toInt) : Int × Int) (owQ M0 r L) = (((M.1 68 8).toInt), (soI M (L.length : Int))) := by
                 unfold upQ; rw [hown]; dsimp only
                 refine Prod.ext ?_ ?_ <;> dsimp only
                 · first
                   | exact if_pos (by omega)
                   | exact if_neg (by omega)
                 · first
                   | exact if_pos (by omega)
                   | exact if_neg (by omega)
               have hMM : upI (upI M 68 9 (jI (soI M (L.length : Int)))) 68 8 (jI ((M.1 68 8).toInt)) = upI (upI M 68 9 (jI (soI M (L.length : Int)))) 68 8 (jI ((M.1 68 8).toInt)) := rfl
               have hN := tS_end ht hh (w := (soI M (L.length : Int))) (m := ((M.1 68 8).toInt)) (by omega) (by omega) rfl
               refine L_X7_tryOrders_170 (l := l) hZ hr hl hL6 F FR hrec _ (upI (upI M 68 9 (jI (soI M (L.length : Int)))) 68 8 (jI ((M.1 68 8).toInt))) _ _ hN.1 hN.2.1 (fun k hk => ?_) hch ?_ ?_ (Nat.lt_succ_self 0)
               · rw [upI_row (by decide), upI_row (by decide)]; exact hO k hk
               · rw [hN.2.2.1, hN.2.2.2, ← hq]; exact hfd
               · rw [hN.2.2.1]; omega)
            | (have hq : upQ (((M.1 68 8).toInt, (M.1 68 9).toInt) : Int × Int) (owQ M0 r L) = ((odZ M r), ((M.1 68 9).toInt)) := by
                 unfold upQ; rw [hown]; dsimp only
                 refine Prod.ext ?_ ?_ <;> dsimp only
                 · first
                   | exact if_pos (by omega)
                   | exact if_neg (by omega)
                 · first
                   | exact if_pos (by omega)
                   | exact if_neg (by omega)
               have hMM : upI (upI M 68 9 (jI ((M.1 68 9).toInt))) 68 8 (jI (odZ M r)) = upI (upI M 68 9 (jI ((M.1 68 9).toInt))) 68 8 (jI (odZ M r)) := rfl
               have hN := tS_end ht hh (w := ((M.1 68 9).toInt)) (m := (odZ M r)) (by omega) (by omega) rfl
               refine L_X7_tryOrders_170 (l := l) hZ hr hl hL6 F FR hrec _ (upI (upI M 68 9 (jI ((M.1 68 9).toInt))) 68 8 (jI (odZ M r))) _ _ hN.1 hN.2.1 (fun k hk => ?_) hch ?_ ?_ (Nat.lt_succ_self 0)
               · rw [upI_row (by decide), upI_row (by decide)]; exact hO k hk
               · rw [hN.2.2.1, hN.2.2.2, ← hq]; exact hfd
               · rw [hN.2.2.1]; omega)
            | (have hq : upQ (((M.1 68 8).toInt, (M.1 68 9).toInt) : Int × Int) (owQ M0 r L) = (((M.1 68 8).toInt), ((M.1 68 9).toInt)) := by
                 unfold upQ; rw [hown]; dsimp only
                 refine Prod.ext ?_ ?_ <;> dsimp only
                 · first
                   | exact if_pos (by omega)
                   | exact if_neg (by omega)
                 · first
                   | exact if_pos (by omega)
                   | exact if_neg (by omega)
               have hMM : upI (upI M 68 9 (jI ((M.1 68 9).toInt))) 68 8 (jI ((M.1 68 8).toInt)) = upI (upI M 68 9 (jI ((M.1 68 9).toInt))) 68 8 (jI ((M.1 68 8).toInt)) := rfl
               have hN := tS_end ht hh (w := ((M.1 68 9).toInt)) (m := ((M.1 68 8).toInt)) (by omega) (by omega) rfl
               refine L_X7_tryOrders_170 (l := l) hZ hr hl hL6 F FR hrec _ (upI (upI M 68 9 (jI ((M.1 68 9).toInt))) 68 8 (jI ((M.1 68 8).toInt))) _ _ hN.1 hN.2.1 (fun k hk => ?_) hch ?_ ?_ (Nat.lt_succ_self 0)
               · rw [upI_row (by decide), upI_row (by decide)]; exact hO k hk
               · rw [hN.2.2.1, hN.2.2.2, ← hq]; exact hfd
               · rw [hN.2.2.1]; omega)
      · refine x_iload F dX7_tryOrders_127 rfl ?_
        refine x_aload_n F dX7_tryOrders_129 rfl ?_
        refine xj_geti F flX7_97 rfl dX7_tryOrders_130 (by decide) (by decide) rfl (fun hg_12 => ?_)
        refine xj_icmp_ge (tgt := 141) F dX7_tryOrders_133 (by decide) (by omega) (fun h_13 => ?_) (fun h_13 => ?_)
        · refine x_aload_n F dX7_tryOrders_141 rfl ?_
          refine xj_geti F flX7_97 rfl dX7_tryOrders_142 (by decide) (by decide) rfl (fun hg_14 => ?_)
          refine x_puti F flX7_97 rfl dX7_tryOrders_145 (by decide) (by decide) rfl fw7_9 rfl rfl ?_
          refine x_aload_n F dX7_tryOrders_148 rfl ?_
          refine x_iload F dX7_tryOrders_149 rfl ?_
          refine x_aload_n F dX7_tryOrders_151 rfl ?_
          refine xj_geti F flX7_91 rfl dX7_tryOrders_152 (by decide) (by decide) rfl (fun hg_15 => ?_)
          rw [e8]
          refine xj_icmp_le (tgt := 163) F dX7_tryOrders_155 (by decide) (by omega) (fun h_16 => ?_) (fun h_16 => ?_)
          · refine x_aload_n F dX7_tryOrders_163 rfl ?_
            refine xj_geti F flX7_91 rfl dX7_tryOrders_164 (by decide) (by decide) rfl (fun hg_17 => ?_)
            try rw [e8]
            refine x_puti F flX7_91 rfl dX7_tryOrders_167 (by decide) (by decide) rfl fw7_8 rfl rfl ?_
            first
              | (have hq : upQ (((M.1 68 8).toInt, (M.1 68 9).toInt) : Int × Int) (owQ M0 r L) = ((odZ M r), (soI M (L.length : Int))) := by
                   unfold upQ; rw [hown]; dsimp only
                   refine Prod.ext ?_ ?_ <;> dsimp only
                   · first
                     | exact if_pos (by omega)
                     | exact if_neg (by omega)
                   · first
                     | exact if_pos (by omega)
                     | exact if_neg (by omega)
                 have hMM : upI (upI M 68 9 (jI (soI M (L.length : Int)))) 68 8 (jI (odZ M r)) = upI (upI M 68 9 (jI (soI M (L.length : Int)))) 68 8 (jI (odZ M r)) := rfl
                 have hN := tS_end ht hh (w := (soI M (L.length : Int))) (m := (odZ M r)) (by omega) (by omega) rfl
                 refine L_X7_tryOrders_170 (l := l) hZ hr hl hL6 F FR hrec _ (upI (upI M 68 9 (jI (soI M (L.length : Int)))) 68 8 (jI (odZ M r))) _ _ hN.1 hN.2.1 (fun k hk => ?_) hch ?_ ?_ (Nat.lt_succ_self 0)
                 · rw [upI_row (by decide), upI_row (by decide)]; exact hO k hk
                 · rw [hN.2.2.1, hN.2.2.2, ← hq]; exact hfd
                 · rw [hN.2.2.1]; omega)
              | (have hq : upQ (((M.1 68 8).toInt, (M.1 68 9).toInt) : Int × Int) (owQ M0 r L) = (((M.1 68 8).toInt), (soI M (L.length : Int))) := by
                   unfold upQ; rw [hown]; dsimp only
                   refine Prod.ext ?_ ?_ <;> dsimp only
                   · first
                     | exact if_pos (by omega)
                     | exact if_neg (by omega)
                   · first
                     | exact if_pos (by omega)
                     | exact if_neg (by omega)
                 have hMM : upI (upI M 68 9 (jI (soI M (L.length : Int)))) 68 8 (jI ((M.1 68 8).toInt)) = upI (upI M 68 9 (jI (soI M (L.length : Int)))) 68 8 (jI ((M.1 68 8).toInt)) := rfl
                 have hN := tS_end ht hh (w := (soI M (L.length : Int))) (m := ((M.1 68 8).toInt)) (by omega) (by omega) rfl
                 refine L_X7_tryOrders_170 (l := l) hZ hr hl hL6 F FR hrec _ (upI (upI M 68 9 (jI (soI M (L.length : Int)))) 68 8 (jI ((M.1 68 8).toInt))) _ _ hN.1 hN.2.1 (fun k hk => ?_) hch ?_ ?_ (Nat.lt_succ_self 0)
                 · rw [upI_row (by decide), upI_row (by decide)]; exact hO k hk
                 · rw [hN.2.2.1, hN.2.2.2, ← hq]; exact hfd
                 · rw [hN.2.2.1]; omega)
              | (have hq : upQ (((M.1 68 8).toInt, (M.1 68 9).toInt) : Int × Int) (owQ M0 r L) = ((odZ M r), ((M.1 68 9).toInt)) := by
                   unfold upQ; rw [hown]; dsimp only
                   refine Prod.ext ?_ ?_ <;> dsimp only
                   · first
                     | exact if_pos (by omega)
                     | exact if_neg (by omega)
                   · first
                     | exact if_pos (by omega)
                     | exact if_neg (by omega)
                 have hMM : upI (upI M 68 9 (jI ((M.1 68 9).toInt))) 68 8 (jI (odZ M r)) = upI (upI M 68 9 (jI ((M.1 68 9).toInt))) 68 8 (jI (odZ M r)) := rfl
                 have hN := tS_end ht hh (w := ((M.1 68 9).toInt)) (m := (odZ M r)) (by omega) (by omega) rfl
                 refine L_X7_tryOrders_170 (l := l) hZ hr hl hL6 F FR hrec _ (upI (upI M 68 9 (jI ((M.1 68 9).toInt))) 68 8 (jI (odZ M r))) _ _ hN.1 hN.2.1 (fun k hk => ?_) hch ?_ ?_ (Nat.lt_succ_self 0)
                 · rw [upI_row (by decide), upI_row (by decide)]; exact hO k hk
                 · rw [hN.2.2.1, hN.2.2.2, ← hq]; exact hfd
                 · rw [hN.2.2.1]; omega)
              | (have hq : upQ (((M.1 68 8).toInt, (M.1 68 9).toInt) : Int × Int) (owQ M0 r L) = (((M.1 68 8).toInt), ((M.1 68 9).toInt)) := by
                   unfold upQ; rw [hown]; dsimp only
                   refine Prod.ext ?_ ?_ <;> dsimp only
                   · first
                     | exact if_pos (by omega)
                     | exact if_neg (by omega)
                   · first
                     | exact if_pos (by omega)
                     | exact if_neg (by omega)
                 have hMM : upI (upI M 68 9 (jI ((M.1 68 9).toInt))) 68 8 (jI ((M.1 68 8).toInt)) = upI (upI M 68 9 (jI ((M.1 68 9).toInt))) 68 8 (jI ((M.1 68 8).toInt)) := rfl
                 have hN := tS_end ht hh (w := ((M.1 68 9).toInt)) (m := ((M.1 68 8).toInt)) (by omega) (by omega) rfl
                 refine L_X7_tryOrders_170 (l := l) hZ hr hl hL6 F FR hrec _ (upI (upI M 68 9 (jI ((M.1 68 9).toInt))) 68 8 (jI ((M.1 68 8).toInt))) _ _ hN.1 hN.2.1 (fun k hk => ?_) hch ?_ ?_ (Nat.lt_succ_self 0)
                 · rw [upI_row (by decide), upI_row (by decide)]; exact hO k hk
                 · rw [hN.2.2.1, hN.2.2.2, ← hq]; exact hfd
                 · rw [hN.2.2.1]; omega)
          · refine x_iload F dX7_tryOrders_158 rfl ?_
            refine x_goto (tgt := 167) F dX7_tryOrders_160 (by decide) ?_
            try rw [e8]
            refine x_puti F flX7_91 rfl dX7_tryOrders_167 (by decide) (by decide) rfl fw7_8 rfl rfl ?_
            first
              | (have hq : upQ (((M.1 68 8).toInt, (M.1 68 9).toInt) : Int × Int) (owQ M0 r L) = ((odZ M r), (soI M (L.length : Int))) := by
                   unfold upQ; rw [hown]; dsimp only
                   refine Prod.ext ?_ ?_ <;> dsimp only
                   · first
                     | exact if_pos (by omega)
                     | exact if_neg (by omega)
                   · first
                     | exact if_pos (by omega)
                     | exact if_neg (by omega)
                 have hMM : upI (upI M 68 9 (jI (soI M (L.length : Int)))) 68 8 (jI (odZ M r)) = upI (upI M 68 9 (jI (soI M (L.length : Int)))) 68 8 (jI (odZ M r)) := rfl
                 have hN := tS_end ht hh (w := (soI M (L.length : Int))) (m := (odZ M r)) (by omega) (by omega) rfl
                 refine L_X7_tryOrders_170 (l := l) hZ hr hl hL6 F FR hrec _ (upI (upI M 68 9 (jI (soI M (L.length : Int)))) 68 8 (jI (odZ M r))) _ _ hN.1 hN.2.1 (fun k hk => ?_) hch ?_ ?_ (Nat.lt_succ_self 0)
                 · rw [upI_row (by decide), upI_row (by decide)]; exact hO k hk
                 · rw [hN.2.2.1, hN.2.2.2, ← hq]; exact hfd
                 · rw [hN.2.2.1]; omega)
              | (have hq : upQ (((M.1 68 8).toInt, (M.1 68 9).toInt) : Int × Int) (owQ M0 r L) = (((M.1 68 8).toInt), (soI M (L.length : Int))) := by
                   unfold upQ; rw [hown]; dsimp only
                   refine Prod.ext ?_ ?_ <;> dsimp only
                   · first
                     | exact if_pos (by omega)
                     | exact if_neg (by omega)
                   · first
                     | exact if_pos (by omega)
                     | exact if_neg (by omega)
                 have hMM : upI (upI M 68 9 (jI (soI M (L.length : Int)))) 68 8 (jI ((M.1 68 8).toInt)) = upI (upI M 68 9 (jI (soI M (L.length : Int)))) 68 8 (jI ((M.1 68 8).toInt)) := rfl
                 have hN := tS_end ht hh (w := (soI M (L.length : Int))) (m := ((M.1 68 8).toInt)) (by omega) (by omega) rfl
                 refine L_X7_tryOrders_170 (l := l) hZ hr hl hL6 F FR hrec _ (upI (upI M 68 9 (jI (soI M (L.length : Int)))) 68 8 (jI ((M.1 68 8).toInt))) _ _ hN.1 hN.2.1 (fun k hk => ?_) hch ?_ ?_ (Nat.lt_succ_self 0)
                 · rw [upI_row (by decide), upI_row (by decide)]; exact hO k hk
                 · rw [hN.2.2.1, hN.2.2.2, ← hq]; exact hfd
                 · rw [hN.2.2.1]; omega)
              | (have hq : upQ (((M.1 68 8).toInt, (M.1 68 9).toInt) : Int × Int) (owQ M0 r L) = ((odZ M r), ((M.1 68 9).toInt)) := by
                   unfold upQ; rw [hown]; dsimp only
                   refine Prod.ext ?_ ?_ <;> dsimp only
                   · first
                     | exact if_pos (by omega)
                     | exact if_neg (by omega)
                   · first
                     | exact if_pos (by omega)
                     | exact if_neg (by omega)
                 have hMM : upI (upI M 68 9 (jI ((M.1 68 9).toInt))) 68 8 (jI (odZ M r)) = upI (upI M 68 9 (jI ((M.1 68 9).toInt))) 68 8 (jI (odZ M r)) := rfl
                 have hN := tS_end ht hh (w := ((M.1 68 9).toInt)) (m := (odZ M r)) (by omega) (by omega) rfl
                 refine L_X7_tryOrders_170 (l := l) hZ hr hl hL6 F FR hrec _ (upI (upI M 68 9 (jI ((M.1 68 9).toInt))) 68 8 (jI (odZ M r))) _ _ hN.1 hN.2.1 (fun k hk => ?_) hch ?_ ?_ (Nat.lt_succ_self 0)
                 · rw [upI_row (by decide), upI_row (by decide)]; exact hO k hk
                 · rw [hN.2.2.1, hN.2.2.2, ← hq]; exact hfd
                 · rw [hN.2.2.1]; omega)
              | (have hq : upQ (((M.1 68 8).toInt, (M.1 68 9).toInt) : Int × Int) (owQ M0 r L) = (((M.1 68 8).toInt), ((M.1 68 9).toInt)) := by
                   unfold upQ; rw [hown]; dsimp only
                   refine Prod.ext ?_ ?_ <;> dsimp only
                   · first
                     | exact if_pos (by omega)
                     | exact if_neg (by omega)
                   · first
                     | exact if_pos (by omega)
                     | exact if_neg (by omega)
                 have hMM : upI (upI M 68 9 (jI ((M.1 68 9).toInt))) 68 8 (jI ((M.1 68 8).toInt)) = upI (upI M 68 9 (jI ((M.1 68 9).toInt))) 68 8 (jI ((M.1 68 8).toInt)) := rfl
                 have hN := tS_end ht hh (w := ((M.1 68 9).toInt)) (m := ((M.1 68 8).toInt)) (by omega) (by omega) rfl
                 refine L_X7_tryOrders_170 (l := l) hZ hr hl hL6 F FR hrec _ (upI (upI M 68 9 (jI ((M.1 68 9).toInt))) 68 8 (jI ((M.1 68 8).toInt))) _ _ hN.1 hN.2.1 (fun k hk => ?_) hch ?_ ?_ (Nat.lt_succ_self 0)
                 · rw [upI_row (by decide), upI_row (by decide)]; exact hO k hk
                 · rw [hN.2.2.1, hN.2.2.2, ← hq]; exact hfd
                 · rw [hN.2.2.1]; omega)
        · refine x_iload F dX7_tryOrders_136 rfl ?_
          refine x_goto (tgt := 145) F dX7_tryOrders_138 (by decide) ?_
          refine x_puti F flX7_97 rfl dX7_tryOrders_145 (by decide) (by decide) rfl fw7_9 rfl rfl ?_
          refine x_aload_n F dX7_tryOrders_148 rfl ?_
          refine x_iload F dX7_tryOrders_149 rfl ?_
          refine x_aload_n F dX7_tryOrders_151 rfl ?_
          refine xj_geti F flX7_91 rfl dX7_tryOrders_152 (by decide) (by decide) rfl (fun hg_18 => ?_)
          rw [e8]
          refine xj_icmp_le (tgt := 163) F dX7_tryOrders_155 (by decide) (by omega) (fun h_19 => ?_) (fun h_19 => ?_)
          · refine x_aload_n F dX7_tryOrders_163 rfl ?_
            refine xj_geti F flX7_91 rfl dX7_tryOrders_164 (by decide) (by decide) rfl (fun hg_20 => ?_)
            try rw [e8]
            refine x_puti F flX7_91 rfl dX7_tryOrders_167 (by decide) (by decide) rfl fw7_8 rfl rfl ?_
            first
              | (have hq : upQ (((M.1 68 8).toInt, (M.1 68 9).toInt) : Int × Int) (owQ M0 r L) = ((odZ M r), (soI M (L.length : Int))) := by
                   unfold upQ; rw [hown]; dsimp only
                   refine Prod.ext ?_ ?_ <;> dsimp only
                   · first
                     | exact if_pos (by omega)
                     | exact if_neg (by omega)
                   · first
                     | exact if_pos (by omega)
                     | exact if_neg (by omega)
                 have hMM : upI (upI M 68 9 (jI (soI M (L.length : Int)))) 68 8 (jI (odZ M r)) = upI (upI M 68 9 (jI (soI M (L.length : Int)))) 68 8 (jI (odZ M r)) := rfl
                 have hN := tS_end ht hh (w := (soI M (L.length : Int))) (m := (odZ M r)) (by omega) (by omega) rfl
                 refine L_X7_tryOrders_170 (l := l) hZ hr hl hL6 F FR hrec _ (upI (upI M 68 9 (jI (soI M (L.length : Int)))) 68 8 (jI (odZ M r))) _ _ hN.1 hN.2.1 (fun k hk => ?_) hch ?_ ?_ (Nat.lt_succ_self 0)
                 · rw [upI_row (by decide), upI_row (by decide)]; exact hO k hk
                 · rw [hN.2.2.1, hN.2.2.2, ← hq]; exact hfd
                 · rw [hN.2.2.1]; omega)
              | (have hq : upQ (((M.1 68 8).toInt, (M.1 68 9).toInt) : Int × Int) (owQ M0 r L) = (((M.1 68 8).toInt), (soI M (L.length : Int))) := by
                   unfold upQ; rw [hown]; dsimp only
                   refine Prod.ext ?_ ?_ <;> dsimp only
                   · first
                     | exact if_pos (by omega)
                     | exact if_neg (by omega)
                   · first
                     | exact if_pos (by omega)
                     | exact if_neg (by omega)
                 have hMM : upI (upI M 68 9 (jI (soI M (L.length : Int)))) 68 8 (jI ((M.1 68 8).toInt)) = upI (upI M 68 9 (jI (soI M (L.length : Int)))) 68 8 (jI ((M.1 68 8).toInt)) := rfl
                 have hN := tS_end ht hh (w := (soI M (L.length : Int))) (m := ((M.1 68 8).toInt)) (by omega) (by omega) rfl
                 refine L_X7_tryOrders_170 (l := l) hZ hr hl hL6 F FR hrec _ (upI (upI M 68 9 (jI (soI M (L.length : Int)))) 68 8 (jI ((M.1 68 8).toInt))) _ _ hN.1 hN.2.1 (fun k hk => ?_) hch ?_ ?_ (Nat.lt_succ_self 0)
                 · rw [upI_row (by decide), upI_row (by decide)]; exact hO k hk
                 · rw [hN.2.2.1, hN.2.2.2, ← hq]; exact hfd
                 · rw [hN.2.2.1]; omega)
              | (have hq : upQ (((M.1 68 8).toInt, (M.1 68 9).toInt) : Int × Int) (owQ M0 r L) = ((odZ M r), ((M.1 68 9).toInt)) := by
                   unfold upQ; rw [hown]; dsimp only
                   refine Prod.ext ?_ ?_ <;> dsimp only
                   · first
                     | exact if_pos (by omega)
                     | exact if_neg (by omega)
                   · first
                     | exact if_pos (by omega)
                     | exact if_neg (by omega)
                 have hMM : upI (upI M 68 9 (jI ((M.1 68 9).toInt))) 68 8 (jI (odZ M r)) = upI (upI M 68 9 (jI ((M.1 68 9).toInt))) 68 8 (jI (odZ M r)) := rfl
                 have hN := tS_end ht hh (w := ((M.1 68 9).toInt)) (m := (odZ M r)) (by omega) (by omega) rfl
                 refine L_X7_tryOrders_170 (l := l) hZ hr hl hL6 F FR hrec _ (upI (upI M 68 9 (jI ((M.1 68 9).toInt))) 68 8 (jI (odZ M r))) _ _ hN.1 hN.2.1 (fun k hk => ?_) hch ?_ ?_ (Nat.lt_succ_self 0)
                 · rw [upI_row (by decide), upI_row (by decide)]; exact hO k hk
                 · rw [hN.2.2.1, hN.2.2.2, ← hq]; exact hfd
                 · rw [hN.2.2.1]; omega)
              | (have hq : upQ (((M.1 68 8).toInt, (M.1 68 9).toInt) : Int × Int) (owQ M0 r L) = (((M.1 68 8).toInt), ((M.1 68 9).toInt)) := by
                   unfold upQ; rw [hown]; dsimp only
                   refine Prod.ext ?_ ?_ <;> dsimp only
                   · first
                     | exact if_pos (by omega)
                     | exact if_neg (by omega)
                   · first
                     | exact if_pos (by omega)
                     | exact if_neg (by omega)
                 have hMM : upI (upI M 68 9 (jI ((M.1 68 9).toInt))) 68 8 (jI ((M.1 68 8).toInt)) = upI (upI M 68 9 (jI ((M.1 68 9).toInt))) 68 8 (jI ((M.1 68 8).toInt)) := rfl
                 have hN := tS_end ht hh (w := ((M.1 68 9).toInt)) (m := ((M.1 68 8).toInt)) (by omega) (by omega) rfl
                 refine L_X7_tryOrders_170 (l := l) hZ hr hl hL6 F FR hrec _ (upI (upI M 68 9 (jI ((M.1 68 9).toInt))) 68 8 (jI ((M.1 68 8).toInt))) _ _ hN.1 hN.2.1 (fun k hk => ?_) hch ?_ ?_ (Nat.lt_succ_self 0)
                 · rw [upI_row (by decide), upI_row (by decide)]; exact hO k hk
                 · rw [hN.2.2.1, hN.2.2.2, ← hq]; exact hfd
                 · rw [hN.2.2.1]; omega)
          · refine x_iload F dX7_tryOrders_158 rfl ?_
            refine x_goto (tgt := 167) F dX7_tryOrders_160 (by decide) ?_
            try rw [e8]
            refine x_puti F flX7_91 rfl dX7_tryOrders_167 (by decide) (by decide) rfl fw7_8 rfl rfl ?_
            first
              | (have hq : upQ (((M.1 68 8).toInt, (M.1 68 9).toInt) : Int × Int) (owQ M0 r L) = ((odZ M r), (soI M (L.length : Int))) := by
                   unfold upQ; rw [hown]; dsimp only
                   refine Prod.ext ?_ ?_ <;> dsimp only
                   · first
                     | exact if_pos (by omega)
                     | exact if_neg (by omega)
                   · first
                     | exact if_pos (by omega)
                     | exact if_neg (by omega)
                 have hMM : upI (upI M 68 9 (jI (soI M (L.length : Int)))) 68 8 (jI (odZ M r)) = upI (upI M 68 9 (jI (soI M (L.length : Int)))) 68 8 (jI (odZ M r)) := rfl
                 have hN := tS_end ht hh (w := (soI M (L.length : Int))) (m := (odZ M r)) (by omega) (by omega) rfl
                 refine L_X7_tryOrders_170 (l := l) hZ hr hl hL6 F FR hrec _ (upI (upI M 68 9 (jI (soI M (L.length : Int)))) 68 8 (jI (odZ M r))) _ _ hN.1 hN.2.1 (fun k hk => ?_) hch ?_ ?_ (Nat.lt_succ_self 0)
                 · rw [upI_row (by decide), upI_row (by decide)]; exact hO k hk
                 · rw [hN.2.2.1, hN.2.2.2, ← hq]; exact hfd
                 · rw [hN.2.2.1]; omega)
              | (have hq : upQ (((M.1 68 8).toInt, (M.1 68 9).toInt) : Int × Int) (owQ M0 r L) = (((M.1 68 8).toInt), (soI M (L.length : Int))) := by
                   unfold upQ; rw [hown]; dsimp only
                   refine Prod.ext ?_ ?_ <;> dsimp only
                   · first
                     | exact if_pos (by omega)
                     | exact if_neg (by omega)
                   · first
                     | exact if_pos (by omega)
                     | exact if_neg (by omega)
                 have hMM : upI (upI M 68 9 (jI (soI M (L.length : Int)))) 68 8 (jI ((M.1 68 8).toInt)) = upI (upI M 68 9 (jI (soI M (L.length : Int)))) 68 8 (jI ((M.1 68 8).toInt)) := rfl
                 have hN := tS_end ht hh (w := (soI M (L.length : Int))) (m := ((M.1 68 8).toInt)) (by omega) (by omega) rfl
                 refine L_X7_tryOrders_170 (l := l) hZ hr hl hL6 F FR hrec _ (upI (upI M 68 9 (jI (soI M (L.length : Int)))) 68 8 (jI ((M.1 68 8).toInt))) _ _ hN.1 hN.2.1 (fun k hk => ?_) hch ?_ ?_ (Nat.lt_succ_self 0)
                 · rw [upI_row (by decide), upI_row (by decide)]; exact hO k hk
                 · rw [hN.2.2.1, hN.2.2.2, ← hq]; exact hfd
                 · rw [hN.2.2.1]; omega)
              | (have hq : upQ (((M.1 68 8).toInt, (M.1 68 9).toInt) : Int × Int) (owQ M0 r L) = ((odZ M r), ((M.1 68 9).toInt)) := by
                   unfold upQ; rw [hown]; dsimp only
                   refine Prod.ext ?_ ?_ <;> dsimp only
                   · first
                     | exact if_pos (by omega)
                     | exact if_neg (by omega)
                   · first
                     | exact if_pos (by omega)
                     | exact if_neg (by omega)
                 have hMM : upI (upI M 68 9 (jI ((M.1 68 9).toInt))) 68 8 (jI (odZ M r)) = upI (upI M 68 9 (jI ((M.1 68 9).toInt))) 68 8 (jI (odZ M r)) := rfl
                 have hN := tS_end ht hh (w := ((M.1 68 9).toInt)) (m := (odZ M r)) (by omega) (by omega) rfl
                 refine L_X7_tryOrders_170 (l := l) hZ hr hl hL6 F FR hrec _ (upI (upI M 68 9 (jI ((M.1 68 9).toInt))) 68 8 (jI (odZ M r))) _ _ hN.1 hN.2.1 (fun k hk => ?_) hch ?_ ?_ (Nat.lt_succ_self 0)
                 · rw [upI_row (by decide), upI_row (by decide)]; exact hO k hk
                 · rw [hN.2.2.1, hN.2.2.2, ← hq]; exact hfd
                 · rw [hN.2.2.1]; omega)
              | (have hq : upQ (((M.1 68 8).toInt, (M.1 68 9).toInt) : Int × Int) (owQ M0 r L) = (((M.1 68 8).toInt), ((M.1 68 9).toInt)) := by
                   unfold upQ; rw [hown]; dsimp only
                   refine Prod.ext ?_ ?_ <;> dsimp only
                   · first
                     | exact if_pos (by omega)
                     | exact if_neg (by omega)
                   · first
                     | exact if_pos (by omega)
                     | exact if_neg (by omega)
                 have hMM : upI (upI M 68 9 (jI ((M.1 68 9).toInt))) 68 8 (jI ((M.1 68 8).toInt)) = upI (upI M 68 9 (jI ((M.1 68 9).toInt))) 68 8 (jI ((M.1 68 8).toInt)) := rfl
                 have hN := tS_end ht hh (w := ((M.1 68 9).toInt)) (m := ((M.1 68 8).toInt)) (by omega) (by omega) rfl
                 refine L_X7_tryOrders_170 (l := l) hZ hr hl hL6 F FR hrec _ (upI (upI M 68 9 (jI ((M.1 68 9).toInt))) 68 8 (jI ((M.1 68 8).toInt))) _ _ hN.1 hN.2.1 (fun k hk => ?_) hch ?_ ?_ (Nat.lt_succ_self 0)
                 · rw [upI_row (by decide), upI_row (by decide)]; exact hO k hk
                 · rw [hN.2.2.1, hN.2.2.2, ← hq]; exact hfd
                 · rw [hN.2.2.1]; omega)
set_option maxRecDepth 20000 in
theorem L_X7_tryOrders_48 {l : Launch} {E : xE} {r : Int} {M0 : xM} (hZ : okZ M0) (hr : 0 ≤ r ∧ r < 4) {Y : xY} (F : xFix E (xA E) Y cX7_tryOrders yX7_tryOrders.cls 6) (FR : xRet E Y none 0 0 (fun r' M' => r' = vU ∧ qT M0 M' ∧ ((M'.1 68 8).toInt = (toQ M0 r).1 ∧ (M'.1 68 9).toInt = (toQ M0 r).2)) (fun _ _ => False)) : ∀ (k : Nat) (M : xM) (L : List Nat) (rest : oLL) (y y9 : xV), tS M0 r M L rest → rest.length < k → WP l E (xRm 6 0 0) (xA E) Y 0 0 48 [vA 68, vI (jI r), vI (jI (zI M0 r)), vI (jI 1), y, y9] [] M := by
  intro k
  induction k with
  | zero => intro M L rest y y9 hS hk; exact absurd hk (Nat.not_lt_zero _)
  | succ k ih =>
    intro M L rest y y9 hS hk
    have hz := hZ.1 r hr.1 hr.2
    obtain ⟨s1, s2, s3, s4, s5, s6⟩ := hS
    obtain ⟨hl, hlt⟩ := okL_lt (chk_ok s4)
    have hL6 : L.length ≤ 6 := by omega
    have en : zI M0 r = (L.length : Int) := by omega
    refine x_iload_n F dX7_tryOrders_48 rfl ?_
    refine xj_if_eq (tgt := 179) F dX7_tryOrders_49 (by decide) (by omega) (fun h_1 => ?_) (fun h_1 => ?_)
    · exact absurd h_1 (by decide)
    · refine xj_iconst F dX7_tryOrders_52 ?_
      refine x_istore F dX7_tryOrders_53 (by decide) ?_
      refine L_X7_tryOrders_55 (l := l) hZ hr hl (Mh := M) F FR _ M 0 _ ⟨s1, s2, fun k hk => absurd hk (Nat.not_lt_zero _), s3, fun _ _ => rfl⟩ (Nat.zero_le _) hlt (fun M1 z1 z2 t1 t2 t3 t4 t5 => ?_) (Nat.lt_succ_self _)
      have g := L_X7_tryOrders_94 (l := l) hZ hr hl hL6 F FR (rest := rest) (fun M2 L2 r2 w1 w2 e9 hs9 => by
          rw [← en]
          exact ih M2 L2 r2 w1 w2 hs9 (by subst e9; simp only [List.length_cons] at hk; omega)) _ M1 z1 z2 t1 t2 t3 t4 s4 (by rw [t5 68 (by decide)]; exact s5) (by rw [t5 68 (by decide)]; exact s6) (Nat.lt_succ_self 0)
      rw [← en] at g
      exact g
set_option maxRecDepth 20000 in
theorem L_X7_tryOrders_11 {l : Launch} {E : xE} {r : Int} {M0 : xM} (hZ : okZ M0) (hr : 0 ≤ r ∧ r < 4) {Y : xY} (F : xFix E (xA E) Y cX7_tryOrders yX7_tryOrders.cls 6) (FR : xRet E Y none 0 0 (fun r' M' => r' = vU ∧ qT M0 M' ∧ ((M'.1 68 8).toInt = (toQ M0 r).1 ∧ (M'.1 68 9).toInt = (toQ M0 r).2)) (fun _ _ => False)) : ∀ (k : Nat) (M : xM) (k9 : Nat), (tI M0 r M ∧ hI M0 r M k9 ∧ (∀ k, k < k9 → M.1 72 k = jI (k : Int)) ∧ M.1 69 = M0.1 69 ∧ M.1 68 = M0.1 68) → (k9 : Int) ≤ zI M0 r → (zI M0 r - k9).toNat < k → WP l E (xRm 6 0 0) (xA E) Y 0 0 11 [vA 68, vI (jI r), vI (jI (zI M0 r)), vI (jI (k9 : Int)), vU, vU] [] M := by
  intro k
  induction k with
  | zero => intro M k9 hT hk9 hk; exact absurd hk (Nat.not_lt_zero _)
  | succ k ih =>
    intro M k9 hT hk9 hk
    have hz := hZ.1 r hr.1 hr.2
    obtain ⟨h1, h2, h3, h4, h5⟩ := hT
    have ek : ((k9 : Int)).toNat = k9 := by omega
    refine x_iload_n F dX7_tryOrders_11 rfl ?_
    refine x_iload_n F dX7_tryOrders_12 rfl ?_
    refine xj_icmp_ge (tgt := 41) F dX7_tryOrders_13 (by decide) (by omega) (fun h_1 => ?_) (fun h_1 => ?_)
    · refine x_aload_n F dX7_tryOrders_41 rfl ?_
      refine xj_iconst F dX7_tryOrders_42 ?_
      refine x_puti F flX7_91 rfl dX7_tryOrders_43 (by decide) (by decide) rfl fw7_8 rfl rfl ?_
      refine xj_iconst F dX7_tryOrders_46 ?_
      refine x_istore_n F dX7_tryOrders_47 (by decide) ?_
      obtain ⟨rest, hp, hc⟩ := prm_ex (n := (zI M0 r).toNat) (by omega)
      refine L_X7_tryOrders_48 (l := l) hZ hr F FR _ _ (List.range (zI M0 r).toNat) rest _ _ ⟨tI_68 h1 (Or.inl rfl), fun k hk => ?_, fun k hk => ?_, hc, ?_, ?_⟩ (Nat.lt_succ_self _)
      · rw [upI_row (by decide)]; exact h2 k (by omega)
      · rw [List.length_range] at hk
        rw [upI_row (by decide), h3 k (by omega), jI_toInt (by omega)]
        have eg : gt (List.range (zI M0 r).toNat) k = k := by unfold gt; rw [List.getD_eq_getElem?_getD, List.getElem?_range hk]; rfl
        rw [eg]
        exact ⟨rfl, by omega⟩
      · unfold toQ
        rw [hp, upI_1, if_pos ⟨rfl, rfl⟩, upI_1, if_neg (by decide), h5]; rfl
      · rw [upI_1, if_pos ⟨rfl, rfl⟩]; decide
    · refine x_aload_n F dX7_tryOrders_16 rfl ?_
      refine x_getc (v := 72) F flX7_19 rfl dX7_tryOrders_17 (by decide) (by decide) rfl rfl ?_
      refine x_iload_n F dX7_tryOrders_20 rfl ?_
      refine x_iload_n F dX7_tryOrders_21 rfl ?_
      refine xj_iast F rfl dX7_tryOrders_22 (by omega) ?_
      refine x_aload_n F dX7_tryOrders_23 rfl ?_
      refine x_getc (v := 73) F flX7_22 rfl dX7_tryOrders_24 (by decide) (by decide) rfl rfl ?_
      refine x_iload_n F dX7_tryOrders_27 rfl ?_
      refine x_aload_n F dX7_tryOrders_28 rfl ?_
      refine x_iload_n F dX7_tryOrders_29 rfl ?_
      refine x_iload_n F dX7_tryOrders_30 rfl ?_
      refine x_V2 F (m_X7_heightAt hr (by omega)) mlX7_77 mvX7_heightAt rfl dX7_tryOrders_31 (by decide) rfl ⟨Nat.le_of_ble_eq_true rfl, Nat.le_of_ble_eq_true rfl⟩ ⟨Nat.zero_le _, Nat.zero_le _⟩ (Nat.le_of_ble_eq_true rfl) ?_
      refine xj_iast F rfl dX7_tryOrders_34 (by omega) ?_
      refine xj_iinc F dX7_tryOrders_35 rfl ?_
      refine x_goto (tgt := 11) F dX7_tryOrders_38 (by decide) ?_
      have e1 : (28 + 6 * r + (k9 : Int)).toNat = 28 + 6 * r.toNat + k9 := by omega
      have e2 : jI (zI (upI M 72 ((k9 : Int)).toNat (jI (k9 : Int))) (28 + 6 * r + (k9 : Int))) = M0.1 69 (28 + 6 * r.toNat + k9) := by unfold zI; rw [upI_row (by decide), h4, e1, jI_of]
      rw [e2, ek]
      refine ih _ (k9 + 1) ⟨tI_7 (tI_7 h1 (Or.inl rfl)) (Or.inr rfl), fun k hk => ?_, fun k hk => ?_, ?_, ?_⟩ (by omega) (by omega)
      · rw [upI_1]
        by_cases hkk : k = k9
        · subst hkk; rw [if_pos ⟨rfl, rfl⟩]
        · rw [if_neg (by omega), upI_row (by decide)]; exact h2 k (by omega)
      · rw [upI_row (by decide), upI_1]
        by_cases hkk : k = k9
        · subst hkk; rw [if_pos ⟨rfl, rfl⟩]
        · rw [if_neg (by omega)]; exact h3 k (by omega)
      · rw [upI_row (by decide), upI_row (by decide)]; exact h4
      · rw [upI_row (by decide), upI_row (by decide)]; exact h5
set_option maxRecDepth 20000 in
theorem m_X7_tryOrders {l : Launch} {E : xE} {r : Int} {M0 : xM} (hZ : okZ M0) (hr : 0 ≤ r ∧ r < 4) : XP l E 6 yX7_tryOrders cX7_tryOrders 6 none [vA 68, vI (jI r)] M0 (fun r' M' => r' = vU ∧ qT M0 M' ∧ ((M'.1 68 8).toInt = (toQ M0 r).1 ∧ (M'.1 68 9).toInt = (toQ M0 r).2)) := by
  refine xp_start (plainFor_of_name (by decide)) rfl (Nat.le_of_ble_eq_true rfl) ?_
  intro Y F FR
  have hz := hZ.1 r hr.1 hr.2
  have e0 : (M0.1 69 (0 + r).toNat).toInt = zI M0 r := by rw [Int.zero_add]; rfl
  refine x_aload_n F dX7_tryOrders_0 rfl ?_
  refine x_getc (v := 69) F flX7_7 rfl dX7_tryOrders_1 (by decide) (by decide) rfl rfl ?_
  refine xj_iconst F dX7_tryOrders_4 ?_
  refine x_iload_n F dX7_tryOrders_5 rfl ?_
  refine xj_iadd F dX7_tryOrders_6 ?_
  refine xj_lald2 F rfl dX7_tryOrders_7 (by omega) (fun hg_1 => ?_)
  rw [e0]
  refine x_istore_n F dX7_tryOrders_8 (by decide) ?_
  refine xj_iconst F dX7_tryOrders_9 ?_
  refine x_istore_n F dX7_tryOrders_10 (by decide) ?_
  refine L_X7_tryOrders_11 (l := l) hZ hr F FR _ M0 0 ⟨⟨fun _ _ _ _ _ => rfl, fun _ _ _ => rfl, rfl, fun _ _ => rfl⟩, fun k hk => absurd hk (Nat.not_lt_zero _), fun k hk => absurd hk (Nat.not_lt_zero _), rfl, rfl⟩ (by omega) (Nat.lt_succ_self _)
