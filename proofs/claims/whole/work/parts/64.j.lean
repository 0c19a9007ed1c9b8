/-! THE TIE: join, leave, cross -/
def oK (k : Nat) : Nat := if k = 2 then 4 else if k = 3 then 28 else 52
theorem vW_k (K : xM) {k : Nat} (hk : k = 2 ∨ k = 3 ∨ k = 4) (j : Nat) : (vW K).1 (1 + k) j = K.1 69 (oK k + j) := by
  rcases hk with rfl | rfl | rfl <;> rfl
theorem k234 {A B : xM} {j : Nat} : (A.1 (1 + 2) j = B.1 (1 + 2) j ∧ A.1 (1 + 3) j = B.1 (1 + 3) j ∧ A.1 (1 + 4) j = B.1 (1 + 4) j) ↔ ∀ k, (k = 2 ∨ k = 3 ∨ k = 4) → A.1 (1 + k) j = B.1 (1 + k) j :=
  ⟨fun h k hk => by rcases hk with rfl | rfl | rfl; exact h.1; exact h.2.1; exact h.2.2, fun h => ⟨h 2 (by omega), h 3 (by omega), h 4 (by omega)⟩⟩
theorem jnZ_69 {K : xM} {r x v : Int} (hr : 0 ≤ r ∧ r < 4) (hs : 0 ≤ zI K r ∧ zI K r < 6) (j : Nat) : (jnZ K r x v).1 69 j = if j = 78 then jI (zI K 78 + 1) else if j = r.toNat then jI (zI K r + 1) else if (j : Int) = 52 + (6 * r + zI K r) then jI v else if (j : Int) = 28 + (6 * r + zI K r) then jI x else if (j : Int) = 4 + (6 * r + zI K r) then jI (zI K 78) else K.1 69 j := by
  obtain ⟨s, hs9⟩ : ∃ s, zI K r = s := ⟨_, rfl⟩
  rw [hs9] at hs ⊢
  have e3 : ∀ q : Int, (0 ≤ q ∧ q < 4) ∨ 76 ≤ q → zI (upI (upI (upI K 69 (4 + (6 * r + s)).toNat (jI (zI K 78))) 69 (28 + (6 * r + s)).toNat (jI x)) 69 (52 + (6 * r + s)).toNat (jI v)) q = zI K q := fun q hq => by
    rw [zI_up _ (by omega) (by omega), if_neg (by omega), zI_up _ (by omega) (by omega), if_neg (by omega), zI_up _ (by omega) (by omega), if_neg (by omega)]
  unfold jnZ
  dsimp only
  rw [hs9, e3 r (by omega), zI_up _ (by omega) (by decide), if_neg (by omega), e3 78 (by omega), hs9]
  simp only [upI_1, true_and]
  by_cases c1 : j = 78
  · rw [if_pos (by omega), if_pos c1]
  rw [if_neg (by omega), if_neg c1]
  by_cases c2 : j = r.toNat
  · rw [if_pos c2, if_pos c2]
  rw [if_neg c2, if_neg c2]
  by_cases c3 : (j : Int) = 52 + (6 * r + s)
  · rw [if_pos (by omega), if_pos c3]
  rw [if_neg (by omega), if_neg c3]
  by_cases c4 : (j : Int) = 28 + (6 * r + s)
  · rw [if_pos (by omega), if_pos c4]
  rw [if_neg (by omega), if_neg c4]
  by_cases c5 : (j : Int) = 4 + (6 * r + s)
  · rw [if_pos (by omega), if_pos c5]
  rw [if_neg (by omega), if_neg c5]
theorem vW_jn {K : xM} {r x v : Int} (hZ : okZ K) (hr : 0 ≤ r ∧ r < 4) (hs : zI K r < 6) : eqV (arM (vW K) 1 r x v) (vW (jnZ K r x v)) 1 1 := by
  have hz := hZ.1 r hr.1 hr.2
  have hsz : szI (vW K) 1 r = zI K r := vW_sz K hr
  have hat := arM_at2 (N := vW K) (b := 1) (x := x) (v := v) hr (by rw [hsz]; omega)
  have hA := arM_at (M := vW K) (c := 1) (r := r) (h := x) (v := v)
  have hj := jnZ_69 (K := K) (x := x) (v := v) hr ⟨hz.1, hs⟩
  rw [hsz] at hat
  refine ⟨fun j hj4 => ?_, fun q y h0 h1 h2 h3 => ?_, fun j a b => ?_⟩
  · rw [hat.1]
    show (jnZ K r x v).1 69 j = _
    rw [hj, if_neg (by omega)]
    by_cases c : j = r.toNat
    · rw [if_pos c, if_pos c]
    · rw [if_neg c, if_neg c, if_neg (by omega), if_neg (by omega), if_neg (by omega)]
      rfl
  · rw [szI_arM hr (by rw [hsz]; omega), hsz] at h3
    have hq := hZ.1 q h0 h1
    have hy : y < 6 := by
      split at h3
      · omega
      · rw [vW_sz K ⟨h0, h1⟩] at h3
        omega
    refine ⟨?_, ?_, ?_⟩
    · rw [hat.2.1]
      show (jnZ K r x v).1 69 (4 + (6 * q + y).toNat) = _
      rw [hj, if_neg (by omega), if_neg (by omega), if_neg (by omega), if_neg (by omega)]
      by_cases c : (((6 * q + y).toNat : Nat) : Int) = 6 * r + zI K r
      · rw [if_pos (by omega), if_pos c]
        rfl
      · rw [if_neg (by omega), if_neg c]
        rfl
    · rw [hat.2.2.1]
      show (jnZ K r x v).1 69 (28 + (6 * q + y).toNat) = _
      rw [hj, if_neg (by omega), if_neg (by omega), if_neg (by omega)]
      by_cases c : (((6 * q + y).toNat : Nat) : Int) = 6 * r + zI K r
      · rw [if_pos (by omega), if_pos c]
      · rw [if_neg (by omega), if_neg c, if_neg (by omega)]
        rfl
    · rw [hat.2.2.2]
      show (jnZ K r x v).1 69 (52 + (6 * q + y).toNat) = _
      rw [hj, if_neg (by omega), if_neg (by omega)]
      by_cases c : (((6 * q + y).toNat : Nat) : Int) = 6 * r + zI K r
      · rw [if_pos (by omega), if_pos c]
      · rw [if_neg (by omega), if_neg c, if_neg (by omega), if_neg (by omega)]
        rfl
  · show (jnZ K r x v).1 69 (72 + j) = _
    rw [hj]
    by_cases c : j = 6
    · subst c
      rw [if_pos rfl, hA.2.2.2]
      rfl
    · rw [if_neg (by omega), if_neg (by omega), if_neg (by omega), if_neg (by omega), if_neg (by omega), hA.2.2.1 j c]
      rfl
theorem gdC_arM {M : xM} {r x v : Int} (h : gdC M 1) (hS : hSz M 1) (hr : 0 ≤ r ∧ r < 4) (hs : szI M 1 r < 6) (hc : (M.1 1 6).toInt < 999) (hx : 0 ≤ x ∧ x ≤ 1000) (hv : 0 ≤ v ∧ v ≤ 3) : gdC (arM M 1 r x v) 1 := by
  have hz := hS r
  have hat := arM_at2 (N := M) (b := 1) (x := x) (v := v) hr ⟨hz.1, hs⟩
  have hA := arM_at (M := M) (c := 1) (r := r) (h := x) (v := v)
  obtain ⟨g0, g1, g2⟩ := h
  have e6 : ((arM M 1 r x v).1 1 6).toInt = (M.1 1 6).toInt + 1 := by rw [hA.2.2.2, jI_toInt (by omega)]
  have hb : ∀ q y, vld (arM M 1 r x v) 1 q y → ((0 ≤ q ∧ q < 4) ∧ 0 ≤ y ∧ y < 6) ∧ ((q = r ∧ y = szI M 1 r) ∨ (¬ (q = r ∧ y = szI M 1 r) ∧ vld M 1 q y)) := by
    rintro q y ⟨h0, h1, h2, h3⟩
    rw [szI_arM hr ⟨hz.1, hs⟩] at h3
    have hq := hS q
    split at h3
    · rename_i c
      subst c
      refine ⟨⟨⟨h0, h1⟩, h2, by omega⟩, ?_⟩
      by_cases c2 : y = szI M 1 q
      · exact Or.inl ⟨rfl, c2⟩
      · exact Or.inr ⟨fun z => c2 z.2, h0, h1, h2, by omega⟩
    · rename_i c
      exact ⟨⟨⟨h0, h1⟩, h2, by omega⟩, Or.inr ⟨fun z => c z.1, h0, h1, h2, h3⟩⟩
  have hi : ∀ q y : Int, 0 ≤ q → 0 ≤ y ∧ y < 6 → (((((6 * q + y).toNat : Nat) : Int) = 6 * r + szI M 1 r) ↔ (q = r ∧ y = szI M 1 r)) := fun q y a b => nat6 a b hr.1 ⟨hz.1, hs⟩
  have a2 : ∀ q y : Int, 0 ≤ q → 0 ≤ y ∧ y < 6 → atI (arM M 1 r x v) 1 2 q y = if q = r ∧ y = szI M 1 r then (M.1 1 6).toInt else atI M 1 2 q y := fun q y a b => by
    show ((arM M 1 r x v).1 3 (6 * q + y).toNat).toInt = _
    rw [hat.2.1]
    by_cases c : q = r ∧ y = szI M 1 r
    · rw [if_pos ((hi q y a b).mpr c), if_pos c, jI_of]
    · rw [if_neg (fun z => c ((hi q y a b).mp z)), if_neg c]
  refine ⟨by rw [e6]; omega, fun q y hq => ?_, fun q y q2 y2 hq hq2 e => ?_⟩
  · obtain ⟨⟨b1, b2⟩, hor⟩ := hb q y hq
    rw [a2 q y b1.1 b2, e6]
    show _ ∧ (0 ≤ ((arM M 1 r x v).1 4 (6 * q + y).toNat).toInt ∧ ((arM M 1 r x v).1 4 (6 * q + y).toNat).toInt ≤ 1000) ∧ 0 ≤ ((arM M 1 r x v).1 5 (6 * q + y).toNat).toInt ∧ ((arM M 1 r x v).1 5 (6 * q + y).toNat).toInt ≤ 3
    rw [hat.2.2.1, hat.2.2.2]
    rcases hor with c | ⟨c, hv2⟩
    · rw [if_pos c, if_pos ((hi q y b1.1 b2).mpr c), if_pos ((hi q y b1.1 b2).mpr c), jI_toInt (by omega), jI_toInt (by omega)]
      exact ⟨by omega, hx, hv⟩
    · rw [if_neg c, if_neg (fun z => c ((hi q y b1.1 b2).mp z)), if_neg (fun z => c ((hi q y b1.1 b2).mp z))]
      have g := g1 q y hv2
      exact ⟨by omega, g.2.1, g.2.2⟩
  · obtain ⟨⟨b1, b2⟩, hor⟩ := hb q y hq
    obtain ⟨⟨d1, d2⟩, hor2⟩ := hb q2 y2 hq2
    rw [a2 q y b1.1 b2, a2 q2 y2 d1.1 d2] at e
    rcases hor with c | ⟨c, hv2⟩ <;> rcases hor2 with c' | ⟨c', hv2'⟩
    · omega
    · rw [if_pos c, if_neg c'] at e
      have := g1 q2 y2 hv2'
      omega
    · rw [if_neg c, if_pos c'] at e
      have := g1 q y hv2
      omega
    · rw [if_neg c, if_neg c'] at e
      exact g2 q y q2 y2 hv2 hv2' e
theorem Rl_jn {M K : xM} (h : Rl M K) {r x v : Int} (hr : 0 ≤ r ∧ r < 4) (hs : szI M 1 r < 6) (hc : (M.1 1 6).toInt < 999) (hx : 0 ≤ x ∧ x ≤ 1000) (hv : 0 ≤ v ∧ v ≤ 3) : Rl (arM M 1 r x v) (jnZ K r x v) := by
  have hS := Rl_hS h
  have hz := Rl_sz h hr
  exact Rl_c h (fun a ha => arM_at.1 a (by omega)) (fun a ha => jnZ_row ha) ⟨okC_arM h.1.1 hr hs (by omega), gdC_arM h.1.2.1 hS hr hs hc hx hv, eB_of (eqV_trans (arM_v (Rl_v h) hS hr hs x v) (vW_jn (Rl_Z h) hr (by rw [hz]; exact hs)))⟩
/-- the model's copying of a place -/
theorem cpZ_69 {K : xM} {a b : Int} (ha : 0 ≤ a ∧ a < 24) (hb : 0 ≤ b ∧ b < 24) {k : Nat} (hk : k = 2 ∨ k = 3 ∨ k = 4) {j : Nat} (hj : j < 24) : (cpZ K a b).1 69 (oK k + j) = if (j : Int) = b then K.1 69 (oK k + a.toNat) else K.1 69 (oK k + j) := by
  have e1 : zI (upI K 69 (4 + b).toNat (jI (zI K (4 + a)))) (28 + a) = zI K (28 + a) := by rw [zI_up _ (by omega) (by omega), if_neg (by omega)]
  have e2 : zI (upI (upI K 69 (4 + b).toNat (jI (zI K (4 + a)))) 69 (28 + b).toNat (jI (zI K (28 + a)))) (52 + a) = zI K (52 + a) := by rw [zI_up _ (by omega) (by omega), if_neg (by omega), zI_up _ (by omega) (by omega), if_neg (by omega)]
  have hz : ∀ q : Int, jI (zI K q) = K.1 69 q.toNat := fun q => jI_of _
  unfold cpZ
  dsimp only
  rw [e1, e2]
  simp only [upI_1, true_and, hz]
  rcases hk with rfl | rfl | rfl
  · show (if 4 + j = _ then _ else if 4 + j = _ then _ else if 4 + j = _ then _ else K.1 69 (4 + j)) = if _ then K.1 69 (4 + a.toNat) else K.1 69 (4 + j)
    rw [if_neg (by omega), if_neg (by omega)]
    by_cases c : (j : Int) = b
    · rw [if_pos (by omega), if_pos c, show (4 + a).toNat = 4 + a.toNat by omega]
    · rw [if_neg (by omega), if_neg c]
  · show (if 28 + j = _ then _ else if 28 + j = _ then _ else if 28 + j = _ then _ else K.1 69 (28 + j)) = if _ then K.1 69 (28 + a.toNat) else K.1 69 (28 + j)
    rw [if_neg (by omega)]
    by_cases c : (j : Int) = b
    · rw [if_pos (by omega), if_pos c, show (28 + a).toNat = 28 + a.toNat by omega]
    · rw [if_neg (by omega), if_neg (by omega), if_neg c]
  · show (if 52 + j = _ then _ else if 52 + j = _ then _ else if 52 + j = _ then _ else K.1 69 (52 + j)) = if _ then K.1 69 (52 + a.toNat) else K.1 69 (52 + j)
    by_cases c : (j : Int) = b
    · rw [if_pos (by omega), if_pos c, show (52 + a).toNat = 52 + a.toNat by omega]
    · rw [if_neg (by omega), if_neg (by omega), if_neg (by omega), if_neg c]
/-- at all taken places but one -/
def agE (M K : xM) (S : Int → Int) (r0 p0 : Int) : Prop := ∀ q y : Int, 0 ≤ q → q < 4 → 0 ≤ y → y < S q → ¬ (q = r0 ∧ y = p0) → ∀ k, (k = 2 ∨ k = 3 ∨ k = 4) → M.1 (1 + k) (6 * q + y).toNat = K.1 69 (oK k + (6 * q + y).toNat)
theorem agE_mv {M K : xM} {S : Int → Int} (hS : ∀ q, 0 ≤ S q ∧ S q ≤ 6) {r p : Int} (hr : 0 ≤ r ∧ r < 4) (hp : 0 ≤ p) (h : agE M K S r p) : ∀ n : Nat, p + n < S r →
    agE (mvM M 1 r p n) (rmL K r p n) S r (p + n) ∧ ∀ k, (k = 2 ∨ k = 3 ∨ k = 4) → (mvM M 1 r p n).1 (1 + k) (6 * r + (p + n)).toNat = M.1 (1 + k) (6 * r + p).toNat
  | 0, _ => by
    rw [show p + ((0 : Nat) : Int) = p by omega]
    exact ⟨h, fun _ _ => rfl⟩
  | n + 1, hn => by
    obtain ⟨i1, i2⟩ := agE_mv hS hr hp h n (by omega)
    have hs := hS r
    have e1 : spI r (p + n) = 6 * r + (p + n) := sp_in hr (by omega)
    have e2 : spI r (p + n + 1) = 6 * r + (p + n + 1) := sp_in hr (by omega)
    have hat : ∀ k, (k = 2 ∨ k = 3 ∨ k = 4) → ∀ j, (mvM M 1 r p (n + 1)).1 (1 + k) j = if (j : Int) = 6 * r + (p + n + 1) then (mvM M 1 r p n).1 (1 + k) (6 * r + (p + n)).toNat else if (j : Int) = 6 * r + (p + n) then (mvM M 1 r p n).1 (1 + k) (6 * r + (p + n + 1)).toNat else (mvM M 1 r p n).1 (1 + k) j := by
      intro k hk j
      show (swP (mvM M 1 r p n) 1 (spI r (p + n)) (spI r (p + n + 1))).1 (1 + k) j = _
      rw [e1, e2, swP_at (by omega) (by omega) (by omega)]
    have hK : ∀ k, (k = 2 ∨ k = 3 ∨ k = 4) → ∀ j, j < 24 → (rmL K r p (n + 1)).1 69 (oK k + j) = if (j : Int) = 6 * r + (p + n) then (rmL K r p n).1 69 (oK k + (6 * r + (p + n) + 1).toNat) else (rmL K r p n).1 69 (oK k + j) := by
      intro k hk j hj
      show (cpZ (rmL K r p n) (6 * r + (p + n) + 1) (6 * r + (p + n))).1 69 (oK k + j) = _
      rw [cpZ_69 (by omega) (by omega) hk hj]
    refine ⟨fun q y h0 h1 h2 h3 hne k hk => ?_, fun k hk => ?_⟩
    · have hq := hS q
      rw [hat k hk, hK k hk _ (by omega)]
      by_cases c : (((6 * q + y).toNat : Nat) : Int) = 6 * r + (p + n)
      · rw [if_neg (by omega), if_pos c, if_pos c]
        rw [show (6 * r + (p + n) + 1).toNat = (6 * r + (p + n + 1)).toNat by omega]
        exact i1 r (p + n + 1) hr.1 hr.2 (by omega) (by omega) (by omega) k hk
      · rw [if_neg (by omega), if_neg c, if_neg c]
        exact i1 q y h0 h1 h2 h3 (by omega) k hk
    · rw [hat k hk, if_pos (by omega)]
      exact i2 k hk
