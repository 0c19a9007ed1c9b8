/-! THE TIE: changes of the choir: swap, join, grow, set, turn -/
theorem nat6 {r p r2 p2 : Int} (hr : 0 ≤ r) (hp : 0 ≤ p ∧ p < 6) (hr2 : 0 ≤ r2) (hp2 : 0 ≤ p2 ∧ p2 < 6) : ((((6 * r + p).toNat : Nat) : Int) = 6 * r2 + p2) ↔ (r = r2 ∧ p = p2) := by omega
theorem vld_b {M : xM} {c : Nat} (hS : hSz M c) {r p : Int} (h : vld M c r p) : (0 ≤ r ∧ r < 4) ∧ 0 ≤ p ∧ p < 6 := by
  have := hS r
  obtain ⟨a, b, c, d⟩ := h
  omega
/-- swapping two places keeps the numbers apart -/
theorem gdC_swP {M : xM} {c : Nat} {r p r2 p2 : Int} (hS : hSz M c) (h : gdC M c) (hv : vld M c r p) (hv2 : vld M c r2 p2) : gdC (swP M c (spI r p) (spI r2 p2)) c := by
  obtain ⟨a1, a2⟩ := vld_b hS hv
  obtain ⟨b1, b2⟩ := vld_b hS hv2
  rw [sp_in a1 a2, sp_in b1 b2]
  have hat : ∀ (k : Nat), (k = 2 ∨ k = 3 ∨ k = 4) → ∀ q x : Int, vld M c q x → atI (swP M c (6 * r + p) (6 * r2 + p2)) c k q x = if q = r2 ∧ x = p2 then atI M c k r p else if q = r ∧ x = p then atI M c k r2 p2 else atI M c k q x := by
    intro k hk q x hq
    obtain ⟨q1, q2⟩ := vld_b hS hq
    show ((swP M c (6 * r + p) (6 * r2 + p2)).1 (c + k) (6 * q + x).toNat).toInt = _
    rw [swP_at (by omega) (by omega) (by omega)]
    by_cases e2 : q = r2 ∧ x = p2
    · rw [if_pos ((nat6 q1.1 q2 b1.1 b2).mpr e2), if_pos e2]
    · rw [if_neg (fun z => e2 ((nat6 q1.1 q2 b1.1 b2).mp z)), if_neg e2]
      by_cases e1 : q = r ∧ x = p
      · rw [if_pos ((nat6 q1.1 q2 a1.1 a2).mpr e1), if_pos e1]
      · rw [if_neg (fun z => e1 ((nat6 q1.1 q2 a1.1 a2).mp z)), if_neg e1]
  have hvv : ∀ q x, vld (swP M c (6 * r + p) (6 * r2 + p2)) c q x → vld M c q x := fun q x z => by
    unfold vld at z ⊢
    rw [szI_swP] at z
    exact z
  refine gdC_map h (by rw [swP_row (by omega)]) (fun q x => if q = r2 ∧ x = p2 then (r, p) else if q = r ∧ x = p then (r2, p2) else (q, x)) (fun q x hq => ?_) (fun q x q2 x2 hq hq2 e => ?_)
  · have hq' := hvv q x hq
    rw [hat 2 (by omega) q x hq', hat 3 (by omega) q x hq', hat 4 (by omega) q x hq']
    by_cases e2 : q = r2 ∧ x = p2
    · simp only [if_pos e2, and_true]
      exact hv
    · simp only [if_neg e2]
      by_cases e1 : q = r ∧ x = p
      · simp only [if_pos e1, and_true]
        exact hv2
      · simp only [if_neg e1, and_true]
        exact hq'
  · have e9 : (if q = r2 ∧ x = p2 then (r, p) else if q = r ∧ x = p then (r2, p2) else (q, x)) = (if q2 = r2 ∧ x2 = p2 then (r, p) else if q2 = r ∧ x2 = p then (r2, p2) else (q2, x2)) := e
    clear e
    (repeat' split at e9) <;> rw [Prod.mk.injEq] at e9 <;> omega
theorem Rl_ex {M K : xM} (h : Rl M K) {r p r2 p2 : Int} (hv : vld M 1 r p) (hv2 : vld M 1 r2 p2) : Rl (swP M 1 (spI r p) (spI r2 p2)) (exZ K (6 * r + p) (6 * r2 + p2)) := by
  have hS := Rl_hS h
  obtain ⟨a1, a2⟩ := vld_b hS hv
  obtain ⟨b1, b2⟩ := vld_b hS hv2
  refine Rl_c h (fun a ha => swP_row (by omega)) (fun a ha => exZ_row ha) ⟨okC_swP h.1.1 _ _, gdC_swP hS h.1.2.1 hv hv2, ?_⟩
  refine eB_of (eqV_trans (swP_vs (Rl_v h) hS a1 ⟨hv.2.2.1, hv.2.2.2⟩ b1 ⟨hv2.2.2.1, hv2.2.2.2⟩) ?_)
  rw [sp_in a1 a2, sp_in b1 b2]
  exact eqV_C (vW_ex (by omega) (by omega)) (hS_swP (vW_hS (Rl_Z h)) _ _)
/-- one of the five numbers -/
theorem vW_69 (K : xM) {i : Nat} (hi : i = 2 ∨ i = 3 ∨ i = 4) (x : Int) (j : Nat) : (vW K).1 (1 + i) j = K.1 69 ((if i = 2 then 4 else if i = 3 then 28 else 52) + j) := by
  rcases hi with rfl | rfl | rfl <;> rfl
theorem vW_up {K : xM} (hZ : okZ K) {k : Nat} (h4 : 4 ≤ k) (h8 : k ≤ 8) (x : Int32) : eqV (upI (vW K) 1 k x) (vW (upI K 69 (72 + k) x)) 1 1 := by
  have hS := vW_hS hZ
  refine ⟨fun j hj => ?_, fun r p h0 h1 h2 h3 => ?_, fun j a b => ?_⟩
  · rw [upI_row (by decide)]
    show (upI K 69 (72 + k) x).1 69 j = K.1 69 j
    rw [upI_1, if_neg (by omega)]
  · rw [szI_up (by decide)] at h3
    have := hS r
    rw [upI_row (by decide), upI_row (by decide), upI_row (by decide)]
    refine ⟨?_, ?_, ?_⟩
    · show (upI K 69 (72 + k) x).1 69 (4 + (6 * r + p).toNat) = K.1 69 (4 + (6 * r + p).toNat)
      rw [upI_1, if_neg (by omega)]
    · show (upI K 69 (72 + k) x).1 69 (28 + (6 * r + p).toNat) = K.1 69 (28 + (6 * r + p).toNat)
      rw [upI_1, if_neg (by omega)]
    · show (upI K 69 (72 + k) x).1 69 (52 + (6 * r + p).toNat) = K.1 69 (52 + (6 * r + p).toNat)
      rw [upI_1, if_neg (by omega)]
  · rw [upI_1]
    show (upI K 69 (72 + k) x).1 69 (72 + j) = _
    rw [upI_1]
    by_cases e : j = k
    · rw [if_pos ⟨rfl, by omega⟩, if_pos ⟨rfl, e⟩]
    · rw [if_neg (by omega), if_neg (by omega)]
      rfl
theorem Rl_up {M K : xM} (h : Rl M K) {k : Nat} (h4 : 4 ≤ k) (h8 : k ≤ 8) (x : Int32) (ho : okC (upI M 1 k x) 1) (hg : gdC (upI M 1 k x) 1) : Rl (upI M 1 k x) (upI K 69 (72 + k) x) :=
  Rl_c h (fun a ha => upI_row (by omega)) (fun a ha => upI_row ha) ⟨ho, hg, eB_of (eqV_trans (eqV_up (Rl_v h) h4 x) (vW_up (Rl_Z h) h4 h8 x))⟩
theorem gdC_up {M : xM} {c k : Nat} {x : Int32} (h : gdC M c) (hk : k ≠ 6) : gdC (upI M c k x) c := by
  have hs : ∀ r, szI (upI M c k x) c r = szI M c r := fun r => szI_up (by omega) r
  refine gdC_map h (by rw [upI_1, if_neg (by omega)]) (fun r p => (r, p)) (fun r p hv => ⟨?_, ?_, ?_, ?_⟩) (fun r p r2 p2 _ _ z => ⟨congrArg Prod.fst z, congrArg Prod.snd z⟩)
  · unfold vld at hv ⊢
    rw [hs] at hv
    exact hv
  · show ((upI M c k x).1 (c + 2) _).toInt = _
    rw [upI_row (by omega)]
  · show ((upI M c k x).1 (c + 3) _).toInt = _
    rw [upI_row (by omega)]
  · show ((upI M c k x).1 (c + 4) _).toInt = _
    rw [upI_row (by omega)]
/-- swapped, and counted -/
theorem Rl_sw {M K : xM} (h : Rl M K) {r p r2 p2 : Int} (hv : vld M 1 r p) (hv2 : vld M 1 r2 p2) : Rl (swM M r p r2 p2) (swZ K r p r2 p2) := by
  have h1 := Rl_ex h hv hv2
  have e : zI (exZ K (6 * r + p) (6 * r2 + p2)) 80 = ((swP M 1 (spI r p) (spI r2 p2)).1 1 8).toInt := congrArg Int32.toInt (Rl_f h1 (j := 8) (by omega) (by omega))
  unfold swM swZ
  rw [e]
  exact Rl_up h1 (by omega) (by omega) _ (okC_tot h1.1.1 (by omega)) (gdC_up h1.1.2.1 (by omega))
/-- set -/
theorem Rl_set {M K : xM} (h : Rl M K) {s x : Int} (hx : seX s x = 0) : Rl (upI M 1 (if s = 0 then 4 else 5) (jI x)) (upI K 69 (76 + s).toNat (jI x)) := by
  have hs : 0 ≤ s ∧ s ≤ 1 := by
    unfold seX at hx
    by_cases z : 0 ≤ s ∧ s ≤ 1
    · exact z
    · rw [if_pos z] at hx
      omega
  unfold seX at hx
  rw [if_neg (fun z => z hs)] at hx
  have o := h.1.1
  by_cases h0 : s = 0
  · subst h0
    have hxx : 1 ≤ x ∧ x ≤ 6 := by
      by_cases z : 1 ≤ x ∧ x ≤ 6
      · exact z
      · rw [if_pos ⟨rfl, z⟩] at hx
        omega
    have hj : (jI x).toInt = x := jI_toInt (by omega)
    rw [if_pos rfl]
    refine Rl_up h (k := 4) (by omega) (by omega) _ ⟨fun q => by rw [szI_up (by decide)]; exact o.1 q, by rw [upI_1, if_pos ⟨rfl, rfl⟩, hj]; exact hxx, by rw [upI_1, if_neg (by decide)]; exact o.2.2.1, fun k hk => by rw [upI_row (by decide)]; exact o.2.2.2 k hk⟩ (gdC_up h.1.2.1 (by omega))
  · have h1 : s = 1 := by omega
    subst h1
    have hxx : 0 ≤ x ∧ x ≤ 1 := by
      rw [if_neg (by omega)] at hx
      by_cases z : 0 ≤ x ∧ x ≤ 1
      · exact z
      · rw [if_pos ⟨by decide, z⟩] at hx
        omega
    have hj : (jI x).toInt = x := jI_toInt (by omega)
    rw [if_neg (by decide)]
    refine Rl_up h (k := 5) (by omega) (by omega) _ ⟨fun q => by rw [szI_up (by decide)]; exact o.1 q, by rw [upI_1, if_neg (by decide)]; exact o.2.1, by rw [upI_1, if_pos ⟨rfl, rfl⟩, hj]; omega, fun k hk => by rw [upI_row (by decide)]; exact o.2.2.2 k hk⟩ (gdC_up h.1.2.1 (by omega))
/-- turned -/
theorem Rl_tr {M K : xM} (h : Rl M K) {r : Int} (hr : 0 ≤ r ∧ r < 4) : ∀ n : Nat, 2 * (n : Int) ≤ szI M 1 r → Rl (trM M 1 r n) (trZ K r n)
  | 0, _ => h
  | n + 1, hn => by
    have ih := Rl_tr h hr n (by omega)
    have hs := h.1.1.1 r
    have hz : zI K r = szI M 1 r := Rl_sz h hr
    have hsz : szI (trM M 1 r n) 1 r = szI M 1 r := szI_of (trM_row (by decide) n) r
    have := Rl_ex ih (r := r) (p := n) (r2 := r) (p2 := szI M 1 r - 1 - n) ⟨hr.1, hr.2, by omega, by rw [hsz]; omega⟩ ⟨hr.1, hr.2, by omega, by rw [hsz]; omega⟩
    simp only [trM, trZ]
    rw [hz, show 6 * r + szI M 1 r - 1 - (n : Int) = 6 * r + (szI M 1 r - 1 - (n : Int)) by omega]
    exact this
/-- grown -/
theorem Rl_gr {M K : xM} (h : Rl M K) {r p x : Int} (hv : vld M 1 r p) (hx : 100 ≤ x ∧ x ≤ 220) : Rl (wrI M (1 + 3) 24 (spI r p) (jI x)) (upI K 69 (28 + 6 * r + p).toNat (jI x)) := by
  have hS := Rl_hS h
  obtain ⟨a1, a2⟩ := vld_b hS hv
  have hj : (jI x).toInt = x := jI_toInt (by omega)
  rw [sp_in a1 a2]
  have hat : ∀ j, (wrI M (1 + 3) 24 (6 * r + p) (jI x)).1 4 j = if (j : Int) = 6 * r + p then jI x else M.1 4 j := fun j => by
    rw [wrI_1]
    by_cases e : (j : Int) = 6 * r + p
    · rw [if_pos ⟨rfl, by omega, e⟩, if_pos e]
    · rw [if_neg (fun z => e z.2.2), if_neg e]
  have hs : ∀ q, szI (wrI M (1 + 3) 24 (6 * r + p) (jI x)) 1 q = szI M 1 q := fun q => szI_wr (by decide) q
  refine Rl_c h (fun a ha => wrI_row (by omega)) (fun a ha => upI_row ha) ⟨⟨fun q => by rw [hs]; exact h.1.1.1 q, by rw [wrI_row (by decide)]; exact h.1.1.2.1, by rw [wrI_row (by decide)]; exact h.1.1.2.2.1, fun k hk => ?_⟩, ?_, ?_⟩
  · rw [hat]
    split
    · rw [hj]
      omega
    · exact h.1.1.2.2.2 k hk
  · obtain ⟨g0, g1, g2⟩ := h.1.2.1
    have e6 : ((wrI M (1 + 3) 24 (6 * r + p) (jI x)).1 1 6) = M.1 1 6 := by rw [wrI_row (by decide)]
    have e2 : ∀ q y, atI (wrI M (1 + 3) 24 (6 * r + p) (jI x)) 1 2 q y = atI M 1 2 q y := fun q y => by
      show ((wrI M (1 + 3) 24 (6 * r + p) (jI x)).1 3 _).toInt = _
      rw [wrI_row (by decide)]
    have e4 : ∀ q y, atI (wrI M (1 + 3) 24 (6 * r + p) (jI x)) 1 4 q y = atI M 1 4 q y := fun q y => by
      show ((wrI M (1 + 3) 24 (6 * r + p) (jI x)).1 5 _).toInt = _
      rw [wrI_row (by decide)]
    have hvv : ∀ q y, vld (wrI M (1 + 3) 24 (6 * r + p) (jI x)) 1 q y → vld M 1 q y := fun q y z => by
      unfold vld at z ⊢
      rw [hs] at z
      exact z
    refine ⟨by rw [e6]; exact g0, fun q y z => ?_, fun q y q2 y2 z z2 e => ?_⟩
    · have g := g1 q y (hvv q y z)
      rw [e2, e4, e6]
      refine ⟨g.1, ?_, g.2.2⟩
      show 0 ≤ ((wrI M (1 + 3) 24 (6 * r + p) (jI x)).1 4 (6 * q + y).toNat).toInt ∧ ((wrI M (1 + 3) 24 (6 * r + p) (jI x)).1 4 (6 * q + y).toNat).toInt ≤ 1000
      rw [hat]
      split
      · rw [hj]
        omega
      · exact g.2.1
    · rw [e2, e2] at e
      exact g2 q y q2 y2 (hvv q y z) (hvv q2 y2 z2) e
  · refine eB_of (eqV_trans (M' := wrI (vW K) (1 + 3) 24 (6 * r + p) (jI x)) (c' := 1) ?_ ?_)
    · have e := Rl_v h
      refine ⟨fun j hj => by rw [wrI_row (by decide), wrI_row (by decide)]; exact e.1 j hj, fun q y h0 h1 h2 h3 => ?_, fun j u v => by rw [wrI_row (by decide), wrI_row (by decide)]; exact e.2.2 j u v⟩
      rw [hs] at h3
      have := e.2.1 q y h0 h1 h2 h3
      refine ⟨by rw [wrI_row (by decide), wrI_row (by decide)]; exact this.1, ?_, by rw [wrI_row (by decide), wrI_row (by decide)]; exact this.2.2⟩
      rw [wrI_1, wrI_1]
      split
      · rfl
      · exact this.2.1
    · have hZ := Rl_Z h
      refine ⟨fun j hj => ?_, fun q y h0 h1 h2 h3 => ?_, fun j u v => ?_⟩
      · rw [wrI_row (by decide)]
        show (upI K 69 (28 + 6 * r + p).toNat (jI x)).1 69 j = K.1 69 j
        rw [upI_1, if_neg (by omega)]
      · rw [szI_wr (by decide)] at h3
        have hq := vW_hS hZ q
        refine ⟨?_, ?_, ?_⟩
        · rw [wrI_row (by decide)]
          show (upI K 69 (28 + 6 * r + p).toNat (jI x)).1 69 (4 + (6 * q + y).toNat) = K.1 69 (4 + (6 * q + y).toNat)
          rw [upI_1, if_neg (by omega)]
        · rw [wrI_1]
          show (upI K 69 (28 + 6 * r + p).toNat (jI x)).1 69 (28 + (6 * q + y).toNat) = _
          rw [upI_1]
          by_cases e : (((6 * q + y).toNat : Nat) : Int) = 6 * r + p
          · rw [if_pos ⟨rfl, by omega⟩, if_pos ⟨rfl, by omega, e⟩]
          · rw [if_neg (by omega), if_neg (fun z => e z.2.2)]
            rfl
        · rw [wrI_row (by decide)]
          show (upI K 69 (28 + 6 * r + p).toNat (jI x)).1 69 (52 + (6 * q + y).toNat) = K.1 69 (52 + (6 * q + y).toNat)
          rw [upI_1, if_neg (by omega)]
      · rw [wrI_row (by decide)]
        show (upI K 69 (28 + 6 * r + p).toNat (jI x)).1 69 (72 + j) = K.1 69 (72 + j)
        rw [upI_1, if_neg (by omega)]
