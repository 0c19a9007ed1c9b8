/-! THE TIE: leave, cross -/
theorem clZ_69 {K : xM} {a : Int} (ha : 0 ≤ a ∧ a < 24) {k : Nat} (hk : k = 2 ∨ k = 3 ∨ k = 4) {j : Nat} (hj : j < 24) (hne : (j : Int) ≠ a) : (clZ K a).1 69 (oK k + j) = K.1 69 (oK k + j) := by
  unfold clZ
  simp only [upI_1, true_and]
  rcases hk with rfl | rfl | rfl
  · show (if 4 + j = _ then _ else if 4 + j = _ then _ else if 4 + j = _ then _ else K.1 69 (4 + j)) = K.1 69 (4 + j)
    rw [if_neg (by omega), if_neg (by omega), if_neg (by omega)]
  · show (if 28 + j = _ then _ else if 28 + j = _ then _ else if 28 + j = _ then _ else K.1 69 (28 + j)) = K.1 69 (28 + j)
    rw [if_neg (by omega), if_neg (by omega), if_neg (by omega)]
  · show (if 52 + j = _ then _ else if 52 + j = _ then _ else if 52 + j = _ then _ else K.1 69 (52 + j)) = K.1 69 (52 + j)
    rw [if_neg (by omega), if_neg (by omega), if_neg (by omega)]
theorem clZ_out {K : xM} {a : Int} (ha : 0 ≤ a ∧ a < 24) {j : Nat} (hj : j < 4 ∨ 76 ≤ j) : (clZ K a).1 69 j = K.1 69 j := by
  unfold clZ
  simp only [upI_1, true_and]
  rw [if_neg (by omega), if_neg (by omega), if_neg (by omega)]
theorem cpZ_out {K : xM} {a b : Int} (hb : 0 ≤ b ∧ b < 24) {j : Nat} (hj : j < 4 ∨ 76 ≤ j) : (cpZ K a b).1 69 j = K.1 69 j := by
  unfold cpZ
  dsimp only
  rw [upI_1, if_neg (by omega), upI_1, if_neg (by omega), upI_1, if_neg (by omega)]
theorem rmL_out {K : xM} {r p : Int} (hr : 0 ≤ r ∧ r < 4) (hp : 0 ≤ p) {j : Nat} (hj : j < 4 ∨ 76 ≤ j) : ∀ n : Nat, p + n ≤ 6 → (rmL K r p n).1 69 j = K.1 69 j
  | 0, _ => rfl
  | n + 1, hn => by
    simp only [rmL]
    rw [cpZ_out (by omega) hj, rmL_out hr hp hj n (by omega)]
theorem rmL_other {K : xM} {r p : Int} (hr : 0 ≤ r ∧ r < 4) (hp : 0 ≤ p) {k : Nat} (hk : k = 2 ∨ k = 3 ∨ k = 4) {j : Nat} (hj : j < 24) : ∀ n : Nat, p + n < 6 → ((j : Int) < 6 * r + p ∨ 6 * r + p + n ≤ j) → (rmL K r p n).1 69 (oK k + j) = K.1 69 (oK k + j)
  | 0, _, _ => rfl
  | n + 1, hn, hj2 => by
    simp only [rmL]
    rw [cpZ_69 (by omega) (by omega) hk hj, if_neg (by omega), rmL_other hr hp hk hj n (by omega) (by omega)]
theorem rmZ_row {K : xM} {r p : Int} {a : Nat} (ha : a ≠ 69) : (rmZ K r p).1 a = K.1 a := by
  have h : ∀ (n : Nat) (K : xM), (rmL K r p n).1 a = K.1 a := by
    intro n
    induction n with
    | zero => intro K; rfl
    | succ n ih => intro K; simp only [rmL]; rw [cpZ_row ha, ih]
  unfold rmZ clZ
  rw [upI_row ha, upI_row ha, upI_row ha, h, upI_row ha]
/-- what stands after a removal -/
theorem rmZ_at {K : xM} {r p : Int} (hr : 0 ≤ r ∧ r < 4) (hp : 0 ≤ p ∧ p < zI K r) (hs : zI K r ≤ 6) :
    (∀ j, (j < 4 ∨ 76 ≤ j) → (rmZ K r p).1 69 j = if j = r.toNat then jI (zI K r - 1) else K.1 69 j) ∧
    ∀ k, (k = 2 ∨ k = 3 ∨ k = 4) → ∀ j : Nat, j < 24 → (j : Int) ≠ 6 * r + (zI K r - 1) → (rmZ K r p).1 69 (oK k + j) = (rmL (upI K 69 r.toNat (jI (zI K r - 1))) r p (zI K r - 1 - p).toNat).1 69 (oK k + j) := by
  refine ⟨fun j hj => ?_, fun k hk j hj hne => ?_⟩
  · unfold rmZ
    rw [clZ_out (by omega) hj, rmL_out hr hp.1 hj _ (by omega), upI_1]
    simp only [true_and]
  · unfold rmZ
    rw [clZ_69 (by omega) hk hj hne]
theorem gdC_mvM {M : xM} {r p : Int} (h : gdC M 1) (hS : hSz M 1) (hr : 0 ≤ r ∧ r < 4) (hp : 0 ≤ p) : ∀ n : Nat, p + n < szI M 1 r → gdC (mvM M 1 r p n) 1
  | 0, _ => h
  | n + 1, hn => by
    have ih := gdC_mvM h hS hr hp n (by omega)
    have e := szI_mvM M 1 r p n
    simp only [mvM]
    exact gdC_swP (fun q => by rw [e]; exact hS q) ih ⟨hr.1, hr.2, by omega, by rw [e]; omega⟩ ⟨hr.1, hr.2, by omega, by rw [e]; omega⟩
theorem okC_mvM {M : xM} {r p : Int} (h : okC M 1) : ∀ n : Nat, okC (mvM M 1 r p n) 1
  | 0 => h
  | n + 1 => by simp only [mvM]; exact okC_swP (okC_mvM h n) _ _
theorem csM_at {M : xM} {c : Nat} {t b : Int} (ht : 0 ≤ t ∧ t < 4) (hb : 0 ≤ szI M c t + b ∧ szI M c t + b ≤ 6) (j : Nat) : (csM M c t b).1 (c + 1) j = if j = t.toNat then jI (szI M c t + b) else M.1 (c + 1) j := by
  unfold csM
  rw [if_pos ⟨ht.1, ht.2, hb⟩, upI_1]
  simp only [true_and]
theorem okC_csM {M : xM} {c : Nat} {t b : Int} (h : okC M c) (ht : 0 ≤ t ∧ t < 4) (hb : 0 ≤ szI M c t + b ∧ szI M c t + b ≤ 6) : okC (csM M c t b) c := by
  refine ⟨fun q => ?_, by rw [csM_row (by omega)]; exact h.2.1, by rw [csM_row (by omega)]; exact h.2.2.1, fun k hk => by rw [csM_row (by omega)]; exact h.2.2.2 k hk⟩
  rw [szI_csM ht hb]
  split
  · omega
  · exact h.1 q
/-- fewer places -/
theorem gdC_cs {M : xM} {r : Int} (h : gdC M 1) (hr : 0 ≤ r ∧ r < 4) (hs : 0 < szI M 1 r ∧ szI M 1 r ≤ 6) : gdC (csM M 1 r (-1)) 1 := by
  refine gdC_map h (by rw [csM_row (by decide)]) (fun q y => (q, y)) (fun q y hv => ⟨?_, ?_, ?_, ?_⟩) (fun q y q2 y2 _ _ z => ⟨congrArg Prod.fst z, congrArg Prod.snd z⟩)
  · obtain ⟨h0, h1, h2, h3⟩ := hv
    rw [szI_csM hr (by omega)] at h3
    refine ⟨h0, h1, h2, ?_⟩
    split at h3
    · rename_i c
      subst c
      show y < szI M 1 q
      omega
    · exact h3
  · show ((csM M 1 r (-1)).1 3 _).toInt = _
    rw [csM_row (by decide)]
  · show ((csM M 1 r (-1)).1 4 _).toInt = _
    rw [csM_row (by decide)]
  · show ((csM M 1 r (-1)).1 5 _).toInt = _
    rw [csM_row (by decide)]
theorem agE_of {M K K' : xM} (h : Rl M K) {r p : Int} (e : ∀ q y : Int, vld M 1 q y → ∀ k, (k = 2 ∨ k = 3 ∨ k = 4) → K'.1 69 (oK k + (6 * q + y).toNat) = K.1 69 (oK k + (6 * q + y).toNat)) : agE M K' (szI M 1) r p := by
  intro q y h0 h1 h2 h3 _ k hk
  have a := k234.mp ((Rl_v h).2.1 q y h0 h1 h2 h3) k hk
  rw [e q y ⟨h0, h1, h2, h3⟩ k hk, ← vW_k K hk]
  exact a.symm
theorem oK_b {k : Nat} (hk : k = 2 ∨ k = 3 ∨ k = 4) : oK k = 4 ∨ oK k = 28 ∨ oK k = 52 := by
  rcases hk with rfl | rfl | rfl
  · exact Or.inl rfl
  · exact Or.inr (Or.inl rfl)
  · exact Or.inr (Or.inr rfl)
/-- removed -/
theorem Rl_ds {M K : xM} (h : Rl M K) {r p : Int} (hv : vld M 1 r p) : Rl (dsM M 1 r p) (rmZ K r p) := by
  have hS := Rl_hS h
  obtain ⟨hr, hp6⟩ := vld_b hS hv
  obtain ⟨-, -, hp0, hps⟩ := hv
  obtain ⟨s, hs⟩ : ∃ s, szI M 1 r = s := ⟨_, rfl⟩
  have hs6 := hS r
  have hz : zI K r = s := by rw [Rl_sz h hr, hs]
  obtain ⟨n, hn⟩ : ∃ n : Nat, (szI M 1 r - 1 - p).toNat = n := ⟨_, rfl⟩
  have hpn : p + n = s - 1 := by omega
  have eM : dsM M 1 r p = csM (mvM M 1 r p n) 1 r (-1) := by unfold dsM; rw [hn]
  have hsm : ∀ q, szI (mvM M 1 r p n) 1 q = szI M 1 q := szI_mvM M 1 r p n
  have hcs : 0 ≤ szI (mvM M 1 r p n) 1 r + -1 ∧ szI (mvM M 1 r p n) 1 r + -1 ≤ 6 := by rw [hsm]; omega
  obtain ⟨z1, z2⟩ := rmZ_at (K := K) hr (p := p) (by rw [hz]; omega) (by rw [hz]; omega)
  rw [hz] at z1 z2
  rw [show (s - 1 - p).toNat = n by omega] at z2
  have ag := (agE_mv (K := upI K 69 r.toNat (jI (s - 1))) hS hr hp0 (agE_of h fun q y hq k hk => by
    have := vld_b hS hq
    have := oK_b hk
    rw [upI_1, if_neg (by omega)]) n (by omega)).1
  rw [eM]
  refine Rl_c h (fun a ha => by rw [csM_row (by omega), mvM_row (by omega)]) (fun a ha => rmZ_row ha) ⟨okC_csM (okC_mvM h.1.1 n) hr hcs, gdC_cs (gdC_mvM h.1.2.1 hS hr hp0 n (by omega)) hr (by rw [hsm]; omega), eB_of ?_⟩
  refine ⟨fun j hj => ?_, fun q y h0 h1 h2 h3 => ?_, fun j a b => ?_⟩
  · rw [csM_at hr hcs, hsm, hs]
    show (rmZ K r p).1 69 j = _
    rw [z1 j (by omega)]
    by_cases c : j = r.toNat
    · rw [if_pos c, if_pos c]
      rfl
    · rw [if_neg c, if_neg c, mvM_row (by decide)]
      exact (Rl_v h).1 j hj
  · rw [szI_csM hr hcs, hsm, hsm, hs] at h3
    have hq := hS q
    have hy : y < szI M 1 q ∧ ¬ (q = r ∧ y = p + n) := by
      split at h3
      · rename_i c
        subst c
        omega
      · rename_i c
        exact ⟨h3, fun z => c z.1⟩
    refine k234.mpr fun k hk => ?_
    rw [vW_k _ hk, z2 k hk _ (by omega) (by omega), csM_row (by omega)]
    exact (ag q y h0 h1 h2 hy.1 hy.2 k hk).symm
  · rw [csM_row (by decide), mvM_row (by decide)]
    show (rmZ K r p).1 69 (72 + j) = _
    rw [z1 _ (by omega), if_neg (by omega)]
    exact (Rl_v h).2.2 j a b
theorem Rl_le {M K : xM} (h : Rl M K) {r p : Int} (hv : vld M 1 r p) : Rl (leM M r p) (leZ K r p) := by
  have h1 := Rl_ds h hv
  have e : zI (rmZ K r p) 79 = ((dsM M 1 r p).1 1 7).toInt := congrArg Int32.toInt (Rl_f h1 (j := 7) (by omega) (by omega))
  unfold leM leZ
  rw [e]
  exact Rl_up h1 (by omega) (by omega) _ (okC_tot h1.1.1 (by omega)) (gdC_up h1.1.2.1 (by omega))
/-- into another row -/
theorem Rl_cr {M K : xM} (h : Rl M K) {r p t : Int} (hv : vld M 1 r p) (ht : 0 ≤ t ∧ t < 4) (hne : r ≠ t) (hst : szI M 1 t < 6) : Rl (moM M 1 r p t) (crZ K r p t) := by
  have hS := Rl_hS h
  obtain ⟨hr, hp6⟩ := vld_b hS hv
  obtain ⟨-, -, hp0, hps⟩ := hv
  obtain ⟨s, hs⟩ : ∃ s, szI M 1 r = s := ⟨_, rfl⟩
  obtain ⟨u, hu⟩ : ∃ u, szI M 1 t = u := ⟨_, rfl⟩
  have hs6 := hS r
  have hu6 := hS t
  have hz : zI K r = s := by rw [Rl_sz h hr, hs]
  have hzt : zI K t = u := by rw [Rl_sz h ht, hu]
  obtain ⟨n, hn⟩ : ∃ n : Nat, (szI M 1 r - 1 - p).toNat = n := ⟨_, rfl⟩
  have hpn : p + n = s - 1 := by omega
  have hsm : ∀ q, szI (mvM M 1 r p n) 1 q = szI M 1 q := szI_mvM M 1 r p n
  have hc1 : 0 ≤ szI (mvM M 1 r p n) 1 t + 1 ∧ szI (mvM M 1 r p n) 1 t + 1 ≤ 6 := by rw [hsm]; omega
  have hs2 : ∀ q, szI (csM (mvM M 1 r p n) 1 t 1) 1 q = if q = t then u + 1 else szI M 1 q := fun q => by rw [szI_csM ht hc1, hsm, hsm, hu]
  have eM : moM M 1 r p t = csM (swP (csM (mvM M 1 r p n) 1 t 1) 1 (6 * r + (s - 1)) (6 * t + u)) 1 r (-1) := by
    unfold moM
    dsimp only
    rw [hn, hs2, if_neg hne, hs, hsm, hu, sp_in hr (by omega), sp_in ht (by omega)]
  have hs3 : ∀ q, szI (swP (csM (mvM M 1 r p n) 1 t 1) 1 (6 * r + (s - 1)) (6 * t + u)) 1 q = if q = t then u + 1 else szI M 1 q := fun q => by rw [szI_swP, hs2]
  have hc2 : 0 ≤ szI (swP (csM (mvM M 1 r p n) 1 t 1) 1 (6 * r + (s - 1)) (6 * t + u)) 1 r + -1 ∧ szI (swP (csM (mvM M 1 r p n) 1 t 1) 1 (6 * r + (s - 1)) (6 * t + u)) 1 r + -1 ≤ 6 := by rw [hs3, if_neg hne]; omega
  have hsz : ∀ q, szI (moM M 1 r p t) 1 q = if q = r then s - 1 else if q = t then u + 1 else szI M 1 q := fun q => by
    rw [eM, szI_csM hr hc2, hs3, hs3, if_neg hne, hs]
    rfl
  have hat : ∀ k, (k = 2 ∨ k = 3 ∨ k = 4) → ∀ j : Nat, (moM M 1 r p t).1 (1 + k) j = if (j : Int) = 6 * t + u then (mvM M 1 r p n).1 (1 + k) (6 * r + (s - 1)).toNat else if (j : Int) = 6 * r + (s - 1) then (mvM M 1 r p n).1 (1 + k) (6 * t + u).toNat else (mvM M 1 r p n).1 (1 + k) j := by
    intro k hk j
    rw [eM, csM_row (by omega), swP_at (by omega) (by omega) (by omega), csM_row (by omega)]
  have hrow : ∀ a, a < 2 ∨ 5 < a → (moM M 1 r p t).1 a = M.1 a := fun a ha => by
    rw [eM, csM_row (by omega), swP_row (by omega), csM_row (by omega), mvM_row (by omega)]
  -- the model
  obtain ⟨K2, hK2⟩ : ∃ K2, upI (cpZ K (6 * r + p) (6 * t + u)) 69 t.toNat (jI (u + 1)) = K2 := ⟨_, rfl⟩
  have eK : crZ K r p t = rmZ K2 r p := by
    unfold crZ
    dsimp only
    rw [hzt, cpZ_lo (by omega) (by omega), hzt, hK2]
  have hz2 : zI K2 r = s := by
    rw [← hK2, zI_up _ ht.1 hr.1, if_neg (by omega), cpZ_lo (by omega) (by omega), hz]
  have k2lo : ∀ j : Nat, j < 4 ∨ 76 ≤ j → K2.1 69 j = if j = t.toNat then jI (u + 1) else K.1 69 j := fun j hj => by
    rw [← hK2, upI_1, cpZ_out (by omega) hj]
    simp only [true_and]
  have k2at : ∀ k, (k = 2 ∨ k = 3 ∨ k = 4) → ∀ j : Nat, j < 24 → K2.1 69 (oK k + j) = if (j : Int) = 6 * t + u then K.1 69 (oK k + (6 * r + p).toNat) else K.1 69 (oK k + j) := fun k hk j hj => by
    have := oK_b hk
    rw [← hK2, upI_1, if_neg (by omega), cpZ_69 (by omega) (by omega) hk hj]
  obtain ⟨z1, z2⟩ := rmZ_at (K := K2) hr (p := p) (by rw [hz2]; omega) (by rw [hz2]; omega)
  rw [hz2] at z1 z2
  rw [show (s - 1 - p).toNat = n by omega] at z2
  have agg := agE_mv (K := upI K2 69 r.toNat (jI (s - 1))) hS hr hp0 (agE_of h fun q y hq k hk => by
    have := vld_b hS hq
    have := oK_b hk
    have hq3 := hq.2.2.2
    rw [upI_1, if_neg (by omega), k2at k hk _ (by omega), if_neg ?_]
    intro z
    have hqt : q = t ∧ y = u := by omega
    rw [hqt.1, hu] at hq3
    omega) n (by omega)
  obtain ⟨ag, agm⟩ := agg
  rw [eK]
  have hvv : ∀ q y, vld (moM M 1 r p t) 1 q y → ((0 ≤ q ∧ q < 4) ∧ 0 ≤ y ∧ y < 6) ∧ ¬ (q = r ∧ y = s - 1) ∧ ((q = t ∧ y = u) ∨ (¬ (q = t ∧ y = u) ∧ vld M 1 q y)) := by
    rintro q y ⟨h0, h1, h2, h3⟩
    rw [hsz] at h3
    have hq := hS q
    by_cases c : q = r
    · subst c
      rw [if_pos rfl] at h3
      exact ⟨⟨⟨h0, h1⟩, h2, by omega⟩, by omega, Or.inr ⟨fun z => hne z.1, h0, h1, h2, by omega⟩⟩
    · rw [if_neg c] at h3
      by_cases c2 : q = t
      · subst c2
        rw [if_pos rfl] at h3
        refine ⟨⟨⟨h0, h1⟩, h2, by omega⟩, fun z => c z.1, ?_⟩
        by_cases c3 : y = u
        · exact Or.inl ⟨rfl, c3⟩
        · exact Or.inr ⟨fun z => c3 z.2, h0, h1, h2, by omega⟩
      · rw [if_neg c2] at h3
        exact ⟨⟨⟨h0, h1⟩, h2, by omega⟩, fun z => c z.1, Or.inr ⟨fun z => c2 z.1, h0, h1, h2, h3⟩⟩
  refine Rl_c h (fun a ha => hrow a (by omega)) (fun a ha => by rw [rmZ_row ha, ← hK2, upI_row ha, cpZ_row ha]) ⟨?_, ?_, eB_of ?_⟩
  · rw [eM]
    exact okC_csM (okC_swP (okC_csM (okC_mvM h.1.1 n) ht hc1) _ _) hr hc2
  · refine gdC_map (gdC_mvM h.1.2.1 hS hr hp0 n (by omega)) (by rw [hrow 1 (by omega), mvM_row (by decide)]) (fun q y => if q = t ∧ y = u then (r, s - 1) else (q, y)) (fun q y hq => ?_) (fun q y q2 y2 hq hq2 e => ?_)
    · obtain ⟨⟨b1, b2⟩, hn1, hor⟩ := hvv q y hq
      have hm : ∀ k, (k = 2 ∨ k = 3 ∨ k = 4) → atI (moM M 1 r p t) 1 k q y = atI (mvM M 1 r p n) 1 k (if q = t ∧ y = u then (r, s - 1) else (q, y)).1 (if q = t ∧ y = u then (r, s - 1) else (q, y)).2 := fun k hk => by
        show ((moM M 1 r p t).1 (1 + k) (6 * q + y).toNat).toInt = _
        rw [hat k hk]
        by_cases c : q = t ∧ y = u
        · rw [if_pos (by omega), if_pos c]
        · rw [if_neg (by omega), if_neg (by omega), if_neg c]
      refine ⟨?_, hm 2 (by omega), hm 3 (by omega), hm 4 (by omega)⟩
      rcases hor with c | ⟨c, hv2⟩
      · rw [if_pos c]
        exact ⟨hr.1, hr.2, by show 0 ≤ s - 1; omega, by show s - 1 < _; rw [hsm, hs]; omega⟩
      · rw [if_neg c]
        refine ⟨hv2.1, hv2.2.1, hv2.2.2.1, ?_⟩
        rw [hsm]
        exact hv2.2.2.2
    · obtain ⟨-, n1, -⟩ := hvv q y hq
      obtain ⟨-, n2, -⟩ := hvv q2 y2 hq2
      have e9 : (if q = t ∧ y = u then (r, s - 1) else (q, y)) = (if q2 = t ∧ y2 = u then (r, s - 1) else (q2, y2)) := e
      clear e
      (repeat' split at e9) <;> (try rw [Prod.mk.injEq] at e9) <;> omega
  · refine ⟨fun j hj => ?_, fun q y h0 h1 h2 h3 => ?_, fun j a b => ?_⟩
    · show (rmZ K2 r p).1 69 j = _
      rw [z1 j (by omega), k2lo j (by omega), eM, csM_at hr hc2, hs3, if_neg hne, hs]
      by_cases c : j = r.toNat
      · rw [if_pos c, if_pos c]
        rfl
      · rw [if_neg c, if_neg c, swP_row (by decide), csM_at ht hc1, hsm, hu]
        by_cases c2 : j = t.toNat
        · rw [if_pos c2, if_pos c2]
        · rw [if_neg c2, if_neg c2, mvM_row (by decide)]
          exact (Rl_v h).1 j hj
    · obtain ⟨⟨b1, b2⟩, hn1, hor⟩ := hvv q y ⟨h0, h1, h2, h3⟩
      refine k234.mpr fun k hk => ?_
      have hob := oK_b hk
      rw [vW_k _ hk, z2 k hk _ (by omega) (by omega), hat k hk]
      rcases hor with c | ⟨c, hv2⟩
      · rw [if_pos (by omega), rmL_other hr hp0 hk (by omega) n (by omega) (by omega), upI_1, if_neg (by omega), k2at k hk _ (by omega), if_pos (by omega)]
        have e1 := agm k hk
        rw [show p + (n : Int) = s - 1 by omega] at e1
        rw [e1]
        have a := k234.mp ((Rl_v h).2.1 r p hr.1 hr.2 hp0 hps) k hk
        rw [← vW_k K hk]
        exact a
      · rw [if_neg (by omega), if_neg (by omega)]
        exact (ag q y h0 h1 h2 hv2.2.2.2 (by omega) k hk).symm
    · show (rmZ K2 r p).1 69 (72 + j) = _
      rw [z1 _ (by omega), if_neg (by omega), k2lo _ (by omega), if_neg (by omega), hrow 1 (by omega)]
      exact (Rl_v h).2.2 j a b
