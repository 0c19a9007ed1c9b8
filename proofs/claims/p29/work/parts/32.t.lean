/-! THE TIE: the class's choir and the law's arrays. (vld to gdC_v come from the proof of whole.) -/
abbrev vld (M : xM) (c : Nat) (r p : Int) : Prop := 0 ≤ r ∧ r < 4 ∧ 0 ≤ p ∧ p < szI M c r
abbrev atI (M : xM) (c k : Nat) (r p : Int) : Int := (M.1 (c + k) (6 * r + p).toNat).toInt
/-- numbers differ, all in their bounds -/
def gdC (M : xM) (c : Nat) : Prop := (0 ≤ (M.1 c 6).toInt ∧ (M.1 c 6).toInt ≤ 999) ∧
  (∀ r p : Int, vld M c r p → (0 ≤ atI M c 2 r p ∧ atI M c 2 r p < (M.1 c 6).toInt) ∧ (0 ≤ atI M c 3 r p ∧ atI M c 3 r p ≤ 1000) ∧ (0 ≤ atI M c 4 r p ∧ atI M c 4 r p ≤ 3)) ∧
  (∀ r p r2 p2 : Int, vld M c r p → vld M c r2 p2 → atI M c 2 r p = atI M c 2 r2 p2 → r = r2 ∧ p = p2)
/-- places of one come from places of the other -/
theorem gdC_map {M M' : xM} {c c' : Nat} (h : gdC M c) (h6 : (M'.1 c' 6).toInt = (M.1 c 6).toInt) (t : Int → Int → Int × Int)
    (ht : ∀ r p, vld M' c' r p → vld M c (t r p).1 (t r p).2 ∧ atI M' c' 2 r p = atI M c 2 (t r p).1 (t r p).2 ∧ atI M' c' 3 r p = atI M c 3 (t r p).1 (t r p).2 ∧ atI M' c' 4 r p = atI M c 4 (t r p).1 (t r p).2)
    (hi : ∀ r p r2 p2, vld M' c' r p → vld M' c' r2 p2 → t r p = t r2 p2 → r = r2 ∧ p = p2) : gdC M' c' := by
  refine ⟨by rw [h6]; exact h.1, fun r p hv => ?_, fun r p r2 p2 hv hv2 e => ?_⟩
  · obtain ⟨v, e2, e3, e4⟩ := ht r p hv
    rw [e2, e3, e4, h6]
    exact h.2.1 _ _ v
  · obtain ⟨v, e2, -, -⟩ := ht r p hv
    obtain ⟨v', e2', -, -⟩ := ht r2 p2 hv2
    rw [e2, e2'] at e
    have := h.2.2 _ _ _ _ v v' e
    exact hi r p r2 p2 hv hv2 (Prod.ext this.1 this.2)
theorem gdC_v {M M' : xM} {c c' : Nat} (h : gdC M c) (e : eqV M M' c c') : gdC M' c' := by
  refine gdC_map h (by rw [e.2.2 6 (by omega) (by omega)]) (fun r p => (r, p)) (fun r p hv => ?_) (fun r p r2 p2 _ _ z => ⟨congrArg Prod.fst z, congrArg Prod.snd z⟩)
  have hv' : vld M c r p := ⟨hv.1, hv.2.1, hv.2.2.1, by rw [← szI_v e]; exact hv.2.2.2⟩
  have := e.2.1 r p hv'.1 hv'.2.1 hv'.2.2.1 hv'.2.2.2
  exact ⟨hv', congrArg Int32.toInt this.1, congrArg Int32.toInt this.2.1, congrArg Int32.toInt this.2.2⟩
/-- the class's choir goes with the law's arrays, at most t have come -/
def Rl (t : Int) (M : xM) (h v d n : aT) : Prop :=
  (okC M 1 ∧ gdC M 1) ∧ okA h n ∧ eqH M (vC h n) 1 1 ∧ (∀ r p : Int, vld M 1 r p → d (6 * r + p).toNat = M.1 3 (6 * r + p).toNat ∧ v (6 * r + p).toNat = M.1 5 (6 * r + p).toNat) ∧ (n 2 = M.1 1 6 ∧ n 3 = M.1 1 7 ∧ n 4 = M.1 1 8) ∧ ((n 2).toInt - (n 3).toInt = sumI (szI M 1) 4 ∧ 0 ≤ (n 3).toInt ∧ (n 2).toInt ≤ t)
section RL
variable {t : Int} {M : xM} {h v d n : aT}
theorem Rl_sz (R : Rl t M h v d n) {r : Int} (hr : 0 ≤ r ∧ r < 4) : szI M 1 r = mnI h r := by rw [← szI_h R.2.2.1, vC_sz h n hr]
theorem Rl_szs (R : Rl t M h v d n) (r : Int) : szI (vC h n) 1 r = szI M 1 r := szI_h R.2.2.1 r
theorem Rl_vld (R : Rl t M h v d n) {r p : Int} : vld M 1 r p ↔ (0 ≤ r ∧ r < 4) ∧ 0 ≤ p ∧ p < mnI h r := by
  constructor
  · rintro ⟨h1, h2, h3, h4⟩
    rw [Rl_sz R ⟨h1, h2⟩] at h4
    exact ⟨⟨h1, h2⟩, h3, h4⟩
  · rintro ⟨⟨h1, h2⟩, h3, h4⟩
    rw [← Rl_sz R ⟨h1, h2⟩] at h4
    exact ⟨h1, h2, h3, h4⟩
theorem Rl_0 (R : Rl t M h v d n) : n 0 = M.1 1 4 := R.2.2.1.2.2 4 (Or.inl rfl)
theorem Rl_1 (R : Rl t M h v d n) : n 1 = M.1 1 5 := R.2.2.1.2.2 5 (Or.inr rfl)
theorem Rl_he (R : Rl t M h v d n) {r p : Int} (hv : vld M 1 r p) : heI M 1 r p = hgt h r p := by
  have hb := R.1.1.1 r
  rw [← heI_h R.2.2.1 R.1.1.1 ⟨hv.1, hv.2.1⟩ hv.2.2, vC_he h n ⟨hv.1, hv.2.1⟩ ⟨hv.2.2.1, by have := hv.2.2.2; omega⟩]
theorem Rl_os (R : Rl t M h v d n) {r p : Int} (hr : 0 ≤ r ∧ r < 4) (hp : 0 ≤ p ∧ p < mnI h r) : osI M 1 r p 0 = (d (6 * r + p).toNat).toInt ∧ osI M 1 r p 1 = (h (6 * r + p).toNat).toInt ∧ osI M 1 r p 2 = (v (6 * r + p).toNat).toInt ∧ osI M 1 r p 3 = hdV h n r p ∧ osI M 1 r p 4 = hhI (vC h n) 1 r p ∧ osI M 1 r p 5 = hhI (vC h n) 1 r p ∧ osI M 1 r p 6 = hhI (vC h n) 1 r p % 2 ∧ osI M 1 r p 7 = hrV h n r p := by
  have hb := mnI_b h r
  have hv := (Rl_vld R).mpr ⟨hr, hp⟩
  have e := R.2.2.2.1 r p hv
  have hS : hSz M 1 := R.1.1.1
  refine ⟨?_, Rl_he R hv, ?_, ?_, ?_, ?_, ?_, ?_⟩
  · show rdI (M.1 3) 24 (spI r p) = _
    rw [sp_in hr (by omega), rdI_at hr (by omega), e.1]
  · show rdI (M.1 5) 24 (spI r p) = _
    rw [sp_in hr (by omega), rdI_at hr (by omega), e.2]
  · show sbI M 1 r (p - (M.1 1 4).toInt) (p - 1) + sbI M 1 (rbI M 1 r) (p - (M.1 1 4).toInt) p = _
    unfold hdV
    rw [sbI_h R.2.2.1, sbI_h R.2.2.1, rbI_h R.2.2.1, Rl_0 R]
  · exact (hhI_h R.2.2.1 hS hr hv.2.2).symm
  · exact (hhI_h R.2.2.1 hS hr hv.2.2).symm
  · show hhI M 1 r p % 2 = _
    rw [hhI_h R.2.2.1 hS hr hv.2.2]
  · show sbI M 1 r (p + 1) (p + (M.1 1 4).toInt) + sbI M 1 (rfI M 1 r) p (p + (M.1 1 4).toInt) = _
    rw [hrV_eq R.2.1 hr hp, sbI_h R.2.2.1, sbI_h R.2.2.1, rfI_h R.2.2.1, Rl_0 R]
theorem Rl_ow (R : Rl t M h v d n) {r : Int} (hr : 0 ≤ r ∧ r < 4) : owI M 1 r 0 = mnI h r ∧ owI M 1 r 1 = odI (vC h n) 1 r ∧ owI M 1 r 2 = dcI (vC h n) 1 r ∧ owI M 1 r 3 = dcI (vC h n) 1 r % 2 ∧ owI M 1 r 4 = (goA (vC h n) 1 r).1 ∧ owI M 1 r 5 = (goA (vC h n) 1 r).2 ∧ owI M 1 r 6 = hiI (vC h n) 1 r := by
  have hS : hSz M 1 := R.1.1.1
  refine ⟨Rl_sz R hr, (odI_h R.2.2.1 hS r).symm, (dcI_h R.2.2.1 hS r).symm, ?_, ?_, ?_, (hiI_h R.2.2.1 hS r).symm⟩
  · show dcI M 1 r % 2 = _
    rw [dcI_h R.2.2.1 hS]
  · show (goA M 1 r).1 = _
    rw [goA_h R.2.2.1 hS hr]
  · show (goA M 1 r).2 = _
    rw [goA_h R.2.2.1 hS hr]
theorem Rl_oh (R : Rl t M h v d n) : ohI M 0 = sumI (szI M 1) 4 ∧ ohI M 1 = oaI (vC h n) 1 ∧ ohI M 2 = (n 2).toInt ∧ ohI M 3 = (n 3).toInt ∧ ohI M 4 = (n 4).toInt ∧ ohI M 5 = daI (vC h n) 1 ∧ ohI M 6 = (n 0).toInt ∧ ohI M 7 = (n 1).toInt := by
  have hS : hSz M 1 := R.1.1.1
  refine ⟨rfl, (oaI_h R.2.2.1 hS).symm, ?_, ?_, ?_, (daI_h R.2.2.1 hS).symm, ?_, ?_⟩
  · show (M.1 1 6).toInt = _; rw [R.2.2.2.2.1.1]
  · show (M.1 1 7).toInt = _; rw [R.2.2.2.2.1.2.1]
  · show (M.1 1 8).toInt = _; rw [R.2.2.2.2.1.2.2]
  · show (M.1 1 4).toInt = _; rw [Rl_0 R]
  · show (M.1 1 5).toInt = _; rw [Rl_1 R]
/-- where a number is found -/
theorem fnP_hit {P : Int → Bool} {k : Int} : ∀ (m : Nat) (i : Int), i ≤ k → k < i + m → P k = true → (∀ j : Int, i ≤ j → j < i + m → P j = true → j = k) → fnP P i m = k
  | 0, i, h1, h2, _, _ => by omega
  | m + 1, i, h1, h2, hk, hu => by
    simp only [fnP]
    by_cases e : P i = true
    · rw [if_pos e]
      exact hu i (by omega) (by omega) e
    · rw [if_neg e]
      exact fnP_hit m (i + 1) (by have : i ≠ k := fun z => e (by rw [z]; exact hk); omega) (by omega) hk (fun j h3 h4 h5 => hu j (by omega) (by omega) h5)
theorem fnP_no {P : Int → Bool} : ∀ (m : Nat) (i : Int), (∀ j : Int, i ≤ j → j < i + m → P j = false) → fnP P i m = -1
  | 0, _, _ => rfl
  | m + 1, i, h => by
    simp only [fnP]
    rw [if_neg (by rw [h i (by omega) (by omega)]; decide)]
    exact fnP_no m (i + 1) (fun j h3 h4 => h j (by omega) (by omega))
theorem nuP_at {M : xM} {x r p : Int} (hr : 0 ≤ r ∧ r < 4) (hp : 0 ≤ p ∧ p < 6) : nuP M 1 x r p = true ↔ atI M 1 2 r p = x := by
  unfold nuP
  rw [sp_in hr hp, rdI_at hr hp, decide_eq_true_eq]
theorem fnR_hit {M : xM} (hg : gdC M 1) (hS : hSz M 1) {r p : Int} (hv : vld M 1 r p) : ∀ (m : Nat) (q : Int), 0 ≤ q → q ≤ r → r < q + m → q + m ≤ 4 → fnR M 1 (atI M 1 2 r p) q m = 6 * r + p
  | 0, q, _, _, h3, _ => by omega
  | m + 1, q, h1, h2, h3, h4 => by
    have hq := hS q
    simp only [fnR]
    by_cases e : q = r
    · subst e
      have hb := hv.2.2
      rw [fnP_hit (k := p) (szI M 1 q).toNat 0 hb.1 (by omega) ((nuP_at ⟨h1, by omega⟩ ⟨hb.1, by omega⟩).mpr rfl) (fun j g1 g2 g3 => (hg.2.2 q j q p ⟨h1, by omega, g1, by omega⟩ hv ((nuP_at ⟨h1, by omega⟩ ⟨g1, by omega⟩).mp g3)).2)]
      rw [if_neg (by omega)]
    · rw [fnP_no (szI M 1 q).toNat 0 (fun j g1 g2 => ?_), if_pos rfl]
      · exact fnR_hit hg hS hv m (q + 1) (by omega) (by omega) (by omega) (by omega)
      · rw [Bool.eq_false_iff]
        intro z
        exact e (hg.2.2 q j r p ⟨h1, by omega, g1, by omega⟩ hv ((nuP_at ⟨h1, by omega⟩ ⟨g1, by omega⟩).mp z)).1
theorem fnR_no {M : xM} (hS : hSz M 1) {x : Int} (hx : ∀ r p, vld M 1 r p → atI M 1 2 r p ≠ x) : ∀ (m : Nat) (q : Int), 0 ≤ q → q + m ≤ 4 → fnR M 1 x q m = -1
  | 0, _, _, _ => rfl
  | m + 1, q, h1, h2 => by
    have hq := hS q
    simp only [fnR]
    rw [fnP_no (szI M 1 q).toNat 0 (fun j g1 g2 => ?_), if_pos rfl]
    · exact fnR_no hS hx m (q + 1) (by omega) (by omega)
    · rw [Bool.eq_false_iff]
      intro z
      exact hx q j ⟨h1, by omega, g1, by omega⟩ ((nuP_at ⟨h1, by omega⟩ ⟨g1, by omega⟩).mp z)
theorem Rl_find (R : Rl t M h v d n) {r p : Int} (hr : 0 ≤ r ∧ r < 4) (hp : 0 ≤ p ∧ p < mnI h r) : fnR M 1 (d (6 * r + p).toNat).toInt 0 4 = 6 * r + p := by
  have hv := (Rl_vld R).mpr ⟨hr, hp⟩
  rw [(R.2.2.2.1 r p hv).1]
  exact fnR_hit R.1.2 R.1.1.1 hv 4 0 (by omega) (by omega) (by omega) (by omega)
theorem Rl_d0 (R : Rl t M h v d n) {r p : Int} (hr : 0 ≤ r ∧ r < 4) (hp : 0 ≤ p ∧ p < mnI h r) : (0 ≤ (d (6 * r + p).toNat).toInt ∧ (d (6 * r + p).toNat).toInt < (n 2).toInt) ∧ 0 ≤ (v (6 * r + p).toNat).toInt ∧ (v (6 * r + p).toNat).toInt ≤ 3 := by
  have hv := (Rl_vld R).mpr ⟨hr, hp⟩
  have e := R.2.2.2.1 r p hv
  have g := R.1.2.2.1 r p hv
  rw [e.1, e.2, R.2.2.2.2.1.1]
  exact ⟨g.1, g.2.2⟩
theorem Rl_came (R : Rl t M h v d n) : 0 ≤ (n 2).toInt ∧ (n 2).toInt ≤ 999 := by rw [R.2.2.2.2.1.1]; exact R.1.2.1
theorem Rl_none (R : Rl t M h v d n) : fnR M 1 (n 2).toInt 0 4 = -1 := by
  refine fnR_no R.1.1.1 (fun r p hv => ?_) 4 0 (by omega) (by omega)
  have := R.1.2.2.1 r p hv
  rw [R.2.2.2.2.1.1]
  omega
/-! the writing -/
theorem wr0 : ∀ h, h < 1001 → jI 48 + jI ((h : Nat) : Int) / jI 100 = jI (48 + ((h : Nat) : Int) / 100) := by decide +kernel
theorem wr1 : ∀ h, h < 1001 → jI 48 + (jI ((h : Nat) : Int) / jI 10 - jI ((h : Nat) : Int) / jI 10 / jI 10 * jI 10) = jI (48 + ((h : Nat) : Int) / 10 % 10) := by decide +kernel
theorem wr2 : ∀ h, h < 1001 → jI 48 + (jI ((h : Nat) : Int) - jI ((h : Nat) : Int) / jI 10 * jI 10) = jI (48 + ((h : Nat) : Int) % 10) := by decide +kernel
theorem Rl_wr (R : Rl t M h v d n) {r p : Int} (hr : 0 ≤ r ∧ r < 4) (hp : 0 ≤ p ∧ p < mnI h r) : wcI M 1 r (5 * p) = jI (48 + (h (6 * r + p).toNat).toInt / 100) ∧ wcI M 1 r (5 * p + 1) = jI (48 + (h (6 * r + p).toNat).toInt / 10 % 10) ∧ wcI M 1 r (5 * p + 2) = jI (48 + (h (6 * r + p).toNat).toInt % 10) ∧ wcI M 1 r (5 * p + 3) = jI (ltI (v (6 * r + p).toNat).toInt) ∧ wcI M 1 r (5 * p + 4) = jI (if p + 1 < mnI h r then 32 else -1) := by
  have hb := mnI_b h r
  have hv := (Rl_vld R).mpr ⟨hr, hp⟩
  have hsz := Rl_sz R hr
  have e := R.2.2.2.1 r p hv
  have hh := Rl_he R hv
  have ha : 0 < hgt h r p ∧ hgt h r p ≤ 1000 := (R.2.1.1 r p hr.1 hr.2 hp.1 (by omega)).1 hp.2
  have ec : (h (6 * r + p).toNat).toInt = (((h (6 * r + p).toNat).toInt.toNat : Nat) : Int) := by
    have : hgt h r p = (h (6 * r + p).toNat).toInt := rfl
    omega
  have hlt : (h (6 * r + p).toNat).toInt.toNat < 1001 := by
    have : hgt h r p = (h (6 * r + p).toNat).toInt := rfl
    omega
  have key : ∀ j : Int, 0 ≤ j → j < 5 → (j < 4 ∨ p + 1 < mnI h r) → wcI M 1 r (5 * p + j) = wrC (jI (h (6 * r + p).toNat).toInt) (v (6 * r + p).toNat).toInt j := fun j h0 h1 h2 => by
    unfold wcI
    rw [hsz, if_neg (by omega), show (5 * p + j) / 5 = p by omega, show (5 * p + j) % 5 = j by omega, hh, sp_in hr (by omega), rdI_at hr (by omega), ← e.2]
  refine ⟨?_, ?_, ?_, ?_, ?_⟩
  · have := key 0 (by omega) (by omega) (by omega)
    rw [Int.add_zero] at this
    rw [this]
    unfold wrC
    rw [if_pos rfl, ec, wr0 _ hlt]
  · rw [key 1 (by omega) (by omega) (by omega)]
    unfold wrC
    rw [if_neg (by decide), if_pos rfl, ec, wr1 _ hlt]
  · rw [key 2 (by omega) (by omega) (by omega)]
    unfold wrC
    rw [if_neg (by decide), if_neg (by decide), if_pos rfl, ec, wr2 _ hlt]
  · rw [key 3 (by omega) (by omega) (by omega)]
    unfold wrC
    rw [if_neg (by decide), if_neg (by decide), if_neg (by decide), if_pos rfl]
  · by_cases h9 : p + 1 < mnI h r
    · rw [if_pos h9, key 4 (by omega) (by omega) (Or.inr h9)]
      unfold wrC
      rw [if_neg (by decide), if_neg (by decide), if_neg (by decide), if_neg (by decide)]
    · rw [if_neg h9]
      unfold wcI
      rw [hsz, if_pos (by omega)]
theorem Rl_wn (R : Rl t M h v d n) {r : Int} (hr : 0 ≤ r ∧ r < 4) : wcI M 1 r (5 * mnI h r) = jI (-1) := by
  have hb := mnI_b h r
  unfold wcI
  rw [Rl_sz R hr, if_pos (by omega)]
end RL
theorem ltI_b : ∀ v, v < 4 → 0 ≤ ltI ((v : Nat) : Int) ∧ ltI ((v : Nat) : Int) < 128 := by decide +kernel
theorem ltI_rg {v : Int} (h : 0 ≤ v ∧ v ≤ 3) : 0 ≤ ltI v ∧ ltI v < 128 := by
  have := ltI_b v.toNat (by omega)
  rw [show ((v.toNat : Nat) : Int) = v by omega] at this
  exact this
