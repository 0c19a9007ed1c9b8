/-! THE TIE: the looks -/
section TIEC
variable {M M1 : xM} {r' : xV}
/-- a look of the model leaves this -/
def lkT (K K2 : xM) : Prop := (∀ a, a < 68 ∨ a = 70 ∨ a = 71 ∨ a = 74 → K2.1 a = K.1 a) ∧ (∀ k, k = 2 ∨ k = 4 ∨ k = 5 ∨ k = 11 → K2.1 68 k = K.1 68 k) ∧ eqV (vW K) (vW K2) 1 1 ∧ K2.2.1 = K.2.1 ∧ K2.2.2 79 = K.2.2 79
theorem lkT_rfl (K : xM) : lkT K K := ⟨fun _ _ => rfl, fun _ _ => rfl, eqV_rfl _ _, rfl, rfl⟩
theorem lkT_qT {K K2 : xM} (h : qT K K2) : lkT K K2 := ⟨fun a ha => h.1 a (by omega) (by omega) (by omega), fun k hk => h.2.1 k (by omega) (by omega), eqV_69 (h.1 69 (by omega) (by omega) (by omega)), by rw [h.2.2], by rw [h.2.2]⟩
theorem lkT_gB {K K2 : xM} (h : gB K K2) : lkT K K2 := ⟨fun a ha => h.1 a (by omega), fun k hk => by rw [h.1 68 (by omega)], h.2.2, by rw [h.2.1], by rw [h.2.1]⟩
theorem lkT_dR {K K2 : xM} {x : Int64} (h : dR K K2 x) : lkT K K2 := ⟨fun a ha => h.1.1 a (by omega) (by omega) (by omega) (by omega), fun k hk => h.1.2 k (by omega) (by omega), h.2.1, h.2.2.1.1, funext fun k => h.2.2.1.2 79 k (Or.inl (by decide))⟩
theorem lkT_rdX {K M9 : xM} {s : Int} (h : rdX K M9) : lkT K (spM M9 s) := by
  have e : ∀ a, a ≠ 68 → a ≠ 75 → a ≠ 76 → a ≠ 77 → a ≠ 78 → (spM M9 s).1 a = K.1 a := fun a h1 h2 h3 h4 h5 => (upI_row h1).trans (h.1 a h1 h2 h3 h4 h5)
  refine ⟨fun a ha => e a (by omega) (by omega) (by omega) (by omega) (by omega), fun k hk => ?_, eqV_69 (e 69 (by omega) (by omega) (by omega) (by omega) (by omega)), congrArg Prod.fst h.2.2, congrFun (congrArg Prod.snd h.2.2) 79⟩
  show (upI M9 68 12 (jI s)).1 68 k = _
  rw [upI_1, if_neg (by omega), h.2.1 k (by omega) (by omega)]
theorem Rl_look {Mq K2 : xM} (H : Rl M M) (q : qX M Mq) (lk : lkT (t0 Mq) K2) : Rl K2 K2 := by
  have hm := Rl_t0 (Rl_m0 H (Mc := Mq) (fun a ha => q.1 a (by omega)))
  refine Rl_r hm (fun a ha => ?_) (fun k hk => lk.2.1 k (by omega)) lk.2.2.1 (fun a ha => lk.1 a (by omega))
  rw [lk.1 a (by omega), t0_r _ (by omega)]
  exact q.1 a (by omega)
theorem tie_look {Mq K2 : xM} {x a : Int32} (H : Rl M M) (q : qX M Mq) (lk : lkT (t0 (upL Mq 79 0 x.toInt64)) K2) (hx : x = a) : tOut (vI (jI 0)) (vI a) K2 ∧ Rl K2 K2 := by
  have hm := Rl_t0 (Rl_mid H (Mc := Mq) (fun a ha => q.1 a (by omega)) x.toInt64)
  refine ⟨tie_yes rfl (by rw [lk.2.1 5 (by omega), t0_5]) (b := x) ?_ hx, Rl_r hm (fun a ha => ?_) (fun k hk => lk.2.1 k (by omega)) lk.2.2.1 (fun a ha => lk.1 a (by omega))⟩
  · rw [lk.2.2.2.2]
    exact upL_79 Mq _
  · rw [lk.1 a (by omega), t0_r _ (by omega)]
    exact q.1 a (by omega)
theorem Rl_q {Mq : xM} (H : Rl M M) (q : qX M Mq) (x : Int64) : Rl M (upL Mq 79 0 x) := Rl_mid H (fun a ha => q.1 a (by omega)) x
/-! a singer -/
theorem si_e {K : xM} (H : Rl M K) (r p v : Int) : siY K r p v = siX M r p v := by
  have e := pl_e H r p
  unfold plX plY at e
  unfold siX siY
  by_cases c : 0 ≤ p ∧ p < szI M 1 r
  · rw [if_neg (c := ¬ (0 ≤ p ∧ p < szI M 1 r)) (fun z => z c)] at e
    rw [if_neg (c := ¬ (0 ≤ p ∧ p < szI M 1 r)) (fun z => z c)]
    split at e
    · omega
    · rename_i d
      rw [if_neg d]
  · rw [if_pos (c := ¬ (0 ≤ p ∧ p < szI M 1 r)) c] at e
    rw [if_pos (c := ¬ (0 ≤ p ∧ p < szI M 1 r)) c]
    split at e
    · rename_i d
      rw [if_pos d]
    · omega
theorem si_0 {r p v : Int} (z : siX M r p v = 0) : vld M 1 r p := by
  unfold siX at z
  split at z
  · omega
  · rename_i a
    exact pl_vld (by unfold plX; rw [if_neg a])
theorem si_c (M : xM) (r p v : Int) : siX M r p v = 0 ∨ siX M r p v = 1 ∨ siX M r p v = 2 := by
  unfold siX
  (repeat' split) <;> omega
theorem tie_singer {r p z : Int} (H : Rl M M)
    (W : (siX M r p z = 0 → r' = vI (jI 0) ∧ ∃ Mc, qX M Mc ∧ M1 = upL Mc 79 0 ((jI (osI M 1 r p z))).toInt64) ∧ (siX M r p z ≠ 0 → r' = vI (jI (if siX M r p z = 1 then 1 else (if siX M r p z = 2 then 2 else 3))) ∧ M1 = M)) :
    Rl M M1 ∧ ∀ r9 M2, ((siY M1 r p z = 0 → r9 = vI (jI (osZ (t0 M1) r p z)) ∧ M2 = t0 M1) ∧ (siY M1 r p z ≠ 0 → r9 = vI (jI 0) ∧ M2 = upI (t0 M1) 68 5 (jI (siY M1 r p z)))) → tOut r' r9 M2 ∧ Rl M2 M2 := by
  by_cases hX : siX M r p z = 0
  · obtain ⟨rfl, Mc, q, rfl⟩ := W.1 hX
    have hv := si_0 hX
    obtain ⟨b1, b2⟩ := vld_b (Rl_hS H) hv
    have hm := Rl_q H q ((jI (osI M 1 r p z))).toInt64
    have h1 := Rl_t0 hm
    refine ⟨hm, fun r9 M2 P => ?_⟩
    obtain ⟨rfl, rfl⟩ := P.1 (by rw [si_e hm]; exact hX)
    exact tie_look H q (lkT_rfl _) (by rw [osZ_v (Rl_Z h1) b1 b2, osI_v (Rl_v h1) (Rl_hS h1) b1 ⟨hv.2.2.1, hv.2.2.2⟩])
  · obtain ⟨rfl, rfl⟩ := W.2 hX
    refine ⟨H, fun r9 M2 P => ?_⟩
    obtain ⟨rfl, rfl⟩ := P.2 (by rw [si_e H]; exact hX)
    have := si_c M1 r p z
    rw [si_e H]
    refine tie_no H (by omega) ?_
    (repeat' split) <;> omega
theorem tie_row {r z : Int} (H : Rl M M)
    (W : (rwX r 0 6 z = 0 → r' = vI (jI 0) ∧ ∃ Mc, qX M Mc ∧ M1 = upL Mc 79 0 ((jI (owI M 1 r z))).toInt64) ∧ (rwX r 0 6 z ≠ 0 → r' = vI (jI (if rwX r 0 6 z = 1 then 1 else (if rwX r 0 6 z = 2 then 2 else 3))) ∧ M1 = M)) :
    Rl M M1 ∧ ∀ r9 M2, ((rwY r 0 6 z = 0 → r9 = vI (jI (orZ (t0 M1) r z)) ∧ qT (t0 M1) M2) ∧ (rwY r 0 6 z ≠ 0 → r9 = vI (jI 0) ∧ M2 = upI (t0 M1) 68 5 (jI (rwY r 0 6 z)))) → tOut r' r9 M2 ∧ Rl M2 M2 := by
  by_cases hX : rwX r 0 6 z = 0
  · obtain ⟨rfl, Mc, q, rfl⟩ := W.1 hX
    obtain ⟨hr, -⟩ := rw_0 hX
    have hm := Rl_q H q ((jI (owI M 1 r z))).toInt64
    have h1 := Rl_t0 hm
    refine ⟨hm, fun r9 M2 P => ?_⟩
    obtain ⟨rfl, hq⟩ := P.1 hX
    exact tie_look H q (lkT_qT hq) (by rw [rwZ_v (Rl_Z h1) hr, owI_v (Rl_v h1) (Rl_hS h1) hr])
  · obtain ⟨rfl, rfl⟩ := W.2 hX
    refine ⟨H, fun r9 M2 P => ?_⟩
    obtain ⟨rfl, rfl⟩ := P.2 hX
    have e : rwY r 0 6 z = rwX r 0 6 z := rfl
    have := rw_c r 0 6 z
    rw [e]
    refine tie_no H (by omega) ?_
    (repeat' split) <;> omega
/-! find -/
theorem fnP_sp (P : Int → Bool) : ∀ (n : Nat) (i : Int), (fnP P i n = -1 ∧ ∀ k : Int, i ≤ k → k < i + n → ¬ P k = true) ∨ (i ≤ fnP P i n ∧ fnP P i n < i + n ∧ P (fnP P i n) = true)
  | 0, i => Or.inl ⟨rfl, fun k h1 h2 => by omega⟩
  | n + 1, i => by
    simp only [fnP]
    by_cases h : P i = true
    · rw [if_pos h]
      exact Or.inr ⟨by omega, by omega, h⟩
    · rw [if_neg h]
      rcases fnP_sp P n (i + 1) with ⟨a, b⟩ | ⟨a, b, c⟩
      · refine Or.inl ⟨a, fun k h1 h2 => ?_⟩
        by_cases hk : k = i
        · rw [hk]; exact h
        · exact b k (by omega) (by omega)
      · exact Or.inr ⟨by omega, by omega, c⟩
theorem fnR_sp {x : Int} : ∀ (n : Nat) (r : Int), (fnR M 1 x r n = -1 ∧ ∀ q p : Int, r ≤ q → q < r + n → 0 ≤ p → p < szI M 1 q → ¬ nuP M 1 x q p = true) ∨ (∃ q p : Int, r ≤ q ∧ q < r + n ∧ 0 ≤ p ∧ p < szI M 1 q ∧ nuP M 1 x q p = true ∧ fnR M 1 x r n = 6 * q + p)
  | 0, r => Or.inl ⟨rfl, fun q p h1 h2 => by omega⟩
  | n + 1, r => by
    simp only [fnR]
    have hs := fnP_sp (nuP M 1 x r) (szI M 1 r).toNat 0
    by_cases h : fnP (nuP M 1 x r) 0 (szI M 1 r).toNat = -1
    · rw [if_pos h]
      have hno : ∀ p : Int, 0 ≤ p → p < szI M 1 r → ¬ nuP M 1 x r p = true := by
        rcases hs with ⟨-, b⟩ | ⟨a, -, -⟩
        · exact fun p h1 h2 => b p h1 (by omega)
        · omega
      rcases fnR_sp n (r + 1) with ⟨a, b⟩ | ⟨q, p, a1, a2, a3, a4, a5, a6⟩
      · refine Or.inl ⟨a, fun q p h1 h2 h3 h4 => ?_⟩
        by_cases hq : q = r
        · subst hq; exact hno p h3 h4
        · exact b q p (by omega) (by omega) h3 h4
      · exact Or.inr ⟨q, p, by omega, by omega, a3, a4, a5, a6⟩
    · rw [if_neg h]
      rcases hs with ⟨a, -⟩ | ⟨a, b, c⟩
      · exact absurd a h
      · exact Or.inr ⟨r, fnP (nuP M 1 x r) 0 (szI M 1 r).toNat, by omega, by omega, a, by omega, c, rfl⟩
theorem foZ_sp {K : xM} {r x : Int} : ∀ (n : Nat) (q : Int), (foZ K r x n q = q ∧ ∀ p : Int, 0 ≤ p → p < n → ¬ zI K (4 + 6 * r + p) = x) ∨ (∃ p : Int, 0 ≤ p ∧ p < n ∧ zI K (4 + 6 * r + p) = x ∧ foZ K r x n q = 6 * r + p)
  | 0, q => Or.inl ⟨rfl, fun p h1 h2 => by omega⟩
  | n + 1, q => by
    simp only [foZ]
    by_cases h : zI K (4 + 6 * r + n) = x
    · rw [if_pos h]
      exact Or.inr ⟨n, by omega, by omega, h, rfl⟩
    · rw [if_neg h]
      rcases foZ_sp (K := K) (r := r) (x := x) n q with ⟨a, b⟩ | ⟨p, a1, a2, a3, a4⟩
      · refine Or.inl ⟨a, fun p h1 h2 => ?_⟩
        by_cases hp : p = n
        · rw [hp]; exact h
        · exact b p h1 (by omega)
      · exact Or.inr ⟨p, a1, by omega, a3, a4⟩
theorem gpZ_sp {K : xM} {x : Int} : ∀ n : Nat, (gpZ K x n = -1 ∧ ∀ q p : Int, 0 ≤ q → q < n → 0 ≤ p → p < zI K q → ¬ zI K (4 + 6 * q + p) = x) ∨ (∃ q p : Int, 0 ≤ q ∧ q < n ∧ 0 ≤ p ∧ p < zI K q ∧ zI K (4 + 6 * q + p) = x ∧ gpZ K x n = 6 * q + p)
  | 0 => Or.inl ⟨rfl, fun q p h1 h2 => by omega⟩
  | n + 1 => by
    simp only [gpZ]
    rcases foZ_sp (K := K) (r := (n : Int)) (x := x) (zI K n).toNat (gpZ K x n) with ⟨a, b⟩ | ⟨p, a1, a2, a3, a4⟩
    · rcases gpZ_sp (K := K) (x := x) n with ⟨c, d⟩ | ⟨q, p, c1, c2, c3, c4, c5, c6⟩
      · refine Or.inl ⟨by rw [a, c], fun q p h1 h2 h3 h4 => ?_⟩
        by_cases hq : q = n
        · subst hq; exact b p h3 (by omega)
        · exact d q p h1 (by omega) h3 h4
      · exact Or.inr ⟨q, p, c1, by omega, c3, c4, c5, by rw [a, c6]⟩
    · exact Or.inr ⟨n, p, by omega, by omega, a1, by omega, a3, a4⟩
theorem fi_tie {K : xM} (h : Rl M K) (x : Int) : fnR M 1 x 0 4 = gpZ K x 4 := by
  have hS := Rl_hS h
  have hnu : ∀ q p : Int, vld M 1 q p → (nuP M 1 x q p = true ↔ atI M 1 2 q p = x) := fun q p hv => by
    obtain ⟨b1, b2⟩ := vld_b hS hv
    unfold nuP
    rw [decide_eq_true_iff, sp_in b1 b2, rdI_at b1 b2]
  have g := h.1.2.1.2.2
  have hF := fnR_sp (M := M) (x := x) 4 0
  have hG := gpZ_sp (K := K) (x := x) 4
  rcases hF with ⟨a, b⟩ | ⟨q, p, a1, a2, a3, a4, a5, a6⟩
  · rcases hG with ⟨c, -⟩ | ⟨q, p, c1, c2, c3, c4, c5, c6⟩
    · rw [a, c]
    · exfalso
      rw [Rl_sz h ⟨c1, by omega⟩] at c4
      have hv : vld M 1 q p := ⟨c1, by omega, c3, c4⟩
      rw [(Rl_at h hv).1] at c5
      exact b q p c1 (by omega) c3 c4 ((hnu q p hv).mpr c5)
  · have hv : vld M 1 q p := ⟨a1, by omega, a3, a4⟩
    have ex := (hnu q p hv).mp a5
    rcases hG with ⟨-, d⟩ | ⟨q2, p2, c1, c2, c3, c4, c5, c6⟩
    · exfalso
      exact d q p a1 (by omega) a3 (by rw [Rl_sz h ⟨a1, by omega⟩]; exact a4) (by rw [(Rl_at h hv).1]; exact ex)
    · rw [Rl_sz h ⟨c1, by omega⟩] at c4
      have hv2 : vld M 1 q2 p2 := ⟨c1, by omega, c3, c4⟩
      rw [(Rl_at h hv2).1] at c5
      have := g q p q2 p2 hv hv2 (ex.trans c5.symm)
      rw [a6, c6, this.1, this.2]
theorem tie_find {x : Int} (H : Rl M M)
    (W : (fiX x = 0 → r' = vI (jI 0) ∧ ∃ Mc, Mc = M ∧ M1 = upL Mc 79 0 ((jI (fnR M 1 x 0 4))).toInt64) ∧ (fiX x ≠ 0 → r' = vI (jI 1) ∧ M1 = M)) :
    Rl M M1 ∧ ∀ r9 M2, ((fiY x = 0 → r9 = vI (jI (gpZ (t0 M1) x 4)) ∧ M2 = t0 M1) ∧ (fiY x ≠ 0 → r9 = vI (jI 0) ∧ M2 = upI (t0 M1) 68 5 (jI (fiY x)))) → tOut r' r9 M2 ∧ Rl M2 M2 := by
  have hc : (fiX x = 0 ∧ fiY x = 0) ∨ (fiX x = 2 ∧ fiY x = 1) := by
    unfold fiX fiY
    split
    · exact Or.inr ⟨rfl, rfl⟩
    · exact Or.inl ⟨rfl, rfl⟩
  by_cases hX : fiX x = 0
  · obtain ⟨rfl, Mc, eC, rfl⟩ := W.1 hX
    have q : qX M Mc := by rw [eC]; exact qX_rfl M
    have hm := Rl_q H q ((jI (fnR M 1 x 0 4))).toInt64
    refine ⟨hm, fun r9 M2 P => ?_⟩
    obtain ⟨rfl, rfl⟩ := P.1 (by omega)
    exact tie_look H q (lkT_rfl _) (congrArg jI (fi_tie (Rl_t0 hm) x))
  · obtain ⟨rfl, rfl⟩ := W.2 hX
    refine ⟨H, fun r9 M2 P => ?_⟩
    obtain ⟨rfl, rfl⟩ := P.2 (by omega)
    exact tie_no H (by omega) (by omega)
theorem bw_c (a b z : Int) : (bwX a b z = 0 ∧ bwY a b z = 0 ∧ a ≤ z ∧ z ≤ b) ∨ (bwX a b z = 2 ∧ bwY a b z = 1) := by
  unfold bwX bwY
  by_cases h : a ≤ z ∧ z ≤ b
  · rw [if_neg (fun q => q h), if_neg (fun q => q h)]
    exact Or.inl ⟨rfl, rfl, h⟩
  · rw [if_pos h, if_pos h]
    exact Or.inr ⟨rfl, rfl⟩
theorem no_tie {K : xM} (h : Rl M K) {z : Int} (hz : 0 ≤ z ∧ z ≤ 8) : ohI M z = noZ K z := by
  have hv := Rl_v h
  have hS := Rl_hS h
  rw [noZ_v (Rl_Z h) hz.1]
  by_cases h8 : z < 8
  · rw [if_pos h8]
    unfold ohI
    rw [oaI_v hv hS, daI_v hv hS, show szI (vW K) 1 = szI M 1 from funext fun r => szI_v hv r, hv.2.2 4 (by decide) (by decide), hv.2.2 5 (by decide) (by decide), hv.2.2 6 (by decide) (by decide), hv.2.2 7 (by decide) (by decide), hv.2.2 8 (by decide) (by decide)]
    (repeat' split) <;> first | rfl | (exfalso; omega)
  · rw [if_neg h8, h.2.1.2.1]
    unfold ohI
    (repeat' split) <;> first | rfl | (exfalso; omega)
theorem tie_count {z : Int} (H : Rl M M)
    (W : (bwX 0 8 z = 0 → r' = vI (jI 0) ∧ ∃ Mc, Mc = M ∧ M1 = upL Mc 79 0 ((jI (ohI M z))).toInt64) ∧ (bwX 0 8 z ≠ 0 → r' = vI (jI 1) ∧ M1 = M)) :
    Rl M M1 ∧ ∀ r9 M2, ((bwY 0 8 z = 0 → r9 = vI (jI (noZ (t0 M1) z)) ∧ M2 = t0 M1) ∧ (bwY 0 8 z ≠ 0 → r9 = vI (jI 0) ∧ M2 = upI (t0 M1) 68 5 (jI (bwY 0 8 z)))) → tOut r' r9 M2 ∧ Rl M2 M2 := by
  have hc := bw_c 0 8 z
  by_cases hX : bwX 0 8 z = 0
  · obtain ⟨rfl, Mc, eC, rfl⟩ := W.1 hX
    have q : qX M Mc := by rw [eC]; exact qX_rfl M
    have hm := Rl_q H q ((jI (ohI M z))).toInt64
    refine ⟨hm, fun r9 M2 P => ?_⟩
    obtain ⟨rfl, rfl⟩ := P.1 (by omega)
    exact tie_look H q (lkT_rfl _) (congrArg jI (no_tie (Rl_t0 hm) (by omega)))
  · obtain ⟨rfl, rfl⟩ := W.2 hX
    refine ⟨H, fun r9 M2 P => ?_⟩
    obtain ⟨rfl, rfl⟩ := P.2 (by omega)
    exact tie_no H (by omega) (by omega)
theorem tie_written {r i : Int} (H : Rl M M)
    (W : (wrX r i = 0 → r' = vI (jI 0) ∧ ∃ Mc, Mc = M ∧ M1 = upL Mc 79 0 ((wcI M 1 r i)).toInt64) ∧ (wrX r i ≠ 0 → r' = vI (jI (if wrX r i = 1 then 1 else (if wrX r i = 2 then 2 else 3))) ∧ M1 = M)) :
    Rl M M1 ∧ ∀ r9 M2, ((wrY r i = 0 → r9 = vI (jI (wvZ (t0 M1) r i)) ∧ M2 = t0 M1) ∧ (wrY r i ≠ 0 → r9 = vI (jI 0) ∧ M2 = upI (t0 M1) 68 5 (jI (wrY r i)))) → tOut r' r9 M2 ∧ Rl M2 M2 := by
  have e : wrY r i = wrX r i := rfl
  have hc : (wrX r i = 0 ∧ (0 ≤ r ∧ r < 4) ∧ 0 ≤ i) ∨ wrX r i = 1 ∨ wrX r i = 2 := by
    unfold wrX
    (repeat' split) <;> omega
  by_cases hX : wrX r i = 0
  · obtain ⟨rfl, Mc, eC, rfl⟩ := W.1 hX
    obtain ⟨hr, hi⟩ : (0 ≤ r ∧ r < 4) ∧ 0 ≤ i := by omega
    have q : qX M Mc := by rw [eC]; exact qX_rfl M
    have hm := Rl_q H q ((wcI M 1 r i)).toInt64
    have h1 := Rl_t0 hm
    refine ⟨hm, fun r9 M2 P => ?_⟩
    obtain ⟨rfl, rfl⟩ := P.1 hX
    exact tie_look H q (lkT_rfl _) (by rw [wvZ_v (Rl_Z h1) hr hi (fun p h0 h2 => Rl_hV h1 r p hr.1 hr.2 h0 h2), wcI_v (Rl_v h1) (Rl_hS h1)])
  · obtain ⟨rfl, rfl⟩ := W.2 hX
    refine ⟨H, fun r9 M2 P => ?_⟩
    obtain ⟨rfl, rfl⟩ := P.2 hX
    rw [e]
    refine tie_no H (by omega) ?_
    (repeat' split) <;> omega
/-! what would be -/
theorem tie_ifSwapped {r p r2 p2 : Int} (H : Rl M M)
    (W : (swX M r p r2 p2 = 0 → r' = vI (jI 0) ∧ ∃ Mc, qX M Mc ∧ M1 = upL Mc 79 0 ((jI (oaI (swP M 1 (spI r p) (spI r2 p2)) 1))).toInt64) ∧ (swX M r p r2 p2 ≠ 0 → r' = vI (jI 1) ∧ M1 = M)) :
    Rl M M1 ∧ ∀ r9 M2, ((swY M1 r p r2 p2 = 0 → r9 = vI (jI (oaZ (exZ (t0 M1) (6 * r + p) (6 * r2 + p2)))) ∧ M2 = t0 M1) ∧ (swY M1 r p r2 p2 ≠ 0 → r9 = vI (jI 0) ∧ M2 = upI (t0 M1) 68 5 (jI (swY M1 r p r2 p2)))) → tOut r' r9 M2 ∧ Rl M2 M2 := by
  by_cases hX : swX M r p r2 p2 = 0
  · obtain ⟨rfl, Mc, q, rfl⟩ := W.1 hX
    obtain ⟨hv, hv2⟩ := sw_0 hX
    have hm := Rl_q H q ((jI (oaI (swP M 1 (spI r p) (spI r2 p2)) 1))).toInt64
    have h2 := Rl_ex (Rl_t0 hm) hv hv2
    refine ⟨hm, fun r9 M2 P => ?_⟩
    obtain ⟨rfl, rfl⟩ := P.1 (by rw [sw_e hm]; exact hX)
    exact tie_look H q (lkT_rfl _) (by rw [oaZ_v (Rl_Z h2), oaI_v (Rl_v h2) (Rl_hS h2)])
  · obtain ⟨rfl, rfl⟩ := W.2 hX
    refine ⟨H, fun r9 M2 P => ?_⟩
    have e := sw_e H r p r2 p2
    obtain ⟨rfl, rfl⟩ := P.2 (by rw [e]; exact hX)
    rw [e]
    have := sw_c M1 r p r2 p2
    exact tie_no H (by omega) (by omega)
theorem tie_bestSwap {r : Int} (H : Rl M M)
    (W : (roX r = 0 → r' = vI (jI 0) ∧ ∃ Mc, qX M Mc ∧ M1 = upL Mc 79 0 ((jI (bpI M r))).toInt64) ∧ (roX r ≠ 0 → r' = vI (jI 1) ∧ M1 = M)) :
    Rl M M1 ∧ ∀ r9 M2, ((roY r = 0 → r9 = vI (jI (bzI (t0 M1) r)) ∧ M2 = t0 M1) ∧ (roY r ≠ 0 → r9 = vI (jI 0) ∧ M2 = upI (t0 M1) 68 5 (jI (roY r)))) → tOut r' r9 M2 ∧ Rl M2 M2 := by
  by_cases hX : roX r = 0
  · obtain ⟨rfl, Mc, q, rfl⟩ := W.1 hX
    have hr := ro_0 hX
    have hm := Rl_q H q ((jI (bpI M r))).toInt64
    have h1 := Rl_t0 hm
    refine ⟨hm, fun r9 M2 P => ?_⟩
    obtain ⟨rfl, rfl⟩ := P.1 hX
    exact tie_look H q (lkT_rfl _) (by rw [bzI_v (Rl_Z h1) hr, bpI_v (Rl_v h1) (Rl_hS h1) hr])
  · obtain ⟨rfl, rfl⟩ := W.2 hX
    refine ⟨H, fun r9 M2 P => ?_⟩
    obtain ⟨rfl, rfl⟩ := P.2 hX
    have e : roY r = 1 := by
      have := ro_cc r
      show roX r = 1
      omega
    exact tie_no H (by omega) (by omega)
theorem tie_bestRow {x : Int} (H : Rl M M)
    (W : (hgX x = 0 → r' = vI (jI 0) ∧ ∃ Mc, qX M Mc ∧ M1 = upL Mc 79 0 ((jI (brF M x 4).2)).toInt64) ∧ (hgX x ≠ 0 → r' = vI (jI 1) ∧ M1 = M)) :
    Rl M M1 ∧ ∀ r9 M2, ((hgY x = 0 → r9 = vI (jI (rzF (t0 M1) x 4).2) ∧ gB (t0 M1) M2) ∧ (hgY x ≠ 0 → r9 = vI (jI 0) ∧ M2 = upI (t0 M1) 68 5 (jI (hgY x)))) → tOut r' r9 M2 ∧ Rl M2 M2 := by
  have hc : (hgX x = 0 ∧ hgY x = 0) ∨ (hgX x = 2 ∧ hgY x = 1) := by
    unfold hgX hgY
    split
    · exact Or.inr ⟨rfl, rfl⟩
    · exact Or.inl ⟨rfl, rfl⟩
  by_cases hX : hgX x = 0
  · obtain ⟨rfl, Mc, q, rfl⟩ := W.1 hX
    have hm := Rl_q H q ((jI (brF M x 4).2)).toInt64
    have h1 := Rl_t0 hm
    refine ⟨hm, fun r9 M2 P => ?_⟩
    obtain ⟨rfl, hg⟩ := P.1 (by omega)
    exact tie_look H q (lkT_gB hg) (by rw [rzF_v (Rl_Z h1) x 4 (Nat.le_refl _), brF_v (Rl_v h1) (Rl_hS h1) x 4 (Nat.le_refl _)])
  · obtain ⟨rfl, rfl⟩ := W.2 hX
    refine ⟨H, fun r9 M2 P => ?_⟩
    obtain ⟨rfl, rfl⟩ := P.2 (by omega)
    exact tie_no H (by omega) (by omega)
theorem tie_ifReach {z : Int} (H : Rl M M)
    (W : (bwX 1 6 z = 0 → r' = vI (jI 0) ∧ ∃ Mc, qX M Mc ∧ M1 = upL Mc 79 0 ((jI (orI M z))).toInt64) ∧ (bwX 1 6 z ≠ 0 → r' = vI (jI 1) ∧ M1 = M)) :
    Rl M M1 ∧ ∀ r9 M2, ((bwY 1 6 z = 0 → r9 = vI (jI (oaZ (rcZ (t0 M1) z))) ∧ M2 = t0 M1) ∧ (bwY 1 6 z ≠ 0 → r9 = vI (jI 0) ∧ M2 = upI (t0 M1) 68 5 (jI (bwY 1 6 z)))) → tOut r' r9 M2 ∧ Rl M2 M2 := by
  have hc := bw_c 1 6 z
  by_cases hX : bwX 1 6 z = 0
  · obtain ⟨rfl, Mc, q, rfl⟩ := W.1 hX
    have hm := Rl_q H q ((jI (orI M z))).toInt64
    have h1 := Rl_t0 hm
    refine ⟨hm, fun r9 M2 P => ?_⟩
    obtain ⟨rfl, rfl⟩ := P.1 (by omega)
    exact tie_look H q (lkT_rfl _) (by rw [orZ_v (Rl_Z h1) (by omega), orI_v (Rl_v h1) (Rl_hS h1)])
  · obtain ⟨rfl, rfl⟩ := W.2 hX
    refine ⟨H, fun r9 M2 P => ?_⟩
    obtain ⟨rfl, rfl⟩ := P.2 (by omega)
    exact tie_no H (by omega) (by omega)
/-! share, digest -/
theorem tie_share {K : xM} (h : Rl M K) : shD (oaI M 1) (sumI (szI M 1) 4) = shD (oaZ K) (siZ K) := by
  rw [oaZ_v (Rl_Z h), oaI_v (Rl_v h) (Rl_hS h), siZ_v, show szI (vW K) 1 = szI M 1 from funext fun r => szI_v (Rl_v h) r]
theorem sumI_le {f g : Int → Int} : ∀ n : Nat, (∀ i : Int, 0 ≤ i → i < n → f i ≤ g i) → sumI f n ≤ sumI g n
  | 0, _ => by simp only [sumI]; omega
  | n + 1, h => by
    simp only [sumI]
    have := sumI_le (f := f) (g := g) n (fun i h0 h1 => h i h0 (by omega))
    have := h n (by omega) (by omega)
    omega
theorem odI_le (hS : hSz M 1) (r : Int) : odI M 1 r ≤ szI M 1 r := by
  have h1 := sumI_b (f := fun p => hhI M 1 r p % 2) (b := 1) (szI M 1 r).toNat (fun i _ _ => by
    show 0 ≤ hhI M 1 r i % 2 ∧ hhI M 1 r i % 2 ≤ 1
    omega)
  have h2 := hS r
  unfold odI
  omega
theorem oa_le (hS : hSz M 1) : oaI M 1 ≤ sumI (szI M 1) 4 := sumI_le 4 (fun i _ _ => odI_le hS i)
theorem mxT_cong {f g : Nat → Int64} {x : Int64} : ∀ n : Nat, (∀ k, k < n → f k = g k) → mxT f n x = mxT g n x
  | 0, _ => rfl
  | n + 1, h => by
    simp only [mxT]
    rw [mxT_cong n (fun k hk => h k (by omega)), h n (by omega)]
theorem msN_v {M' : xM} (h : eqV M M' 1 1) (hS : hSz M 1) {r : Int} (hr : 0 ≤ r ∧ r < 4) (x : Int64) : ∀ n : Nat, (n : Int) ≤ szI M 1 r → msN M' r n x = msN M r n x
  | 0, _ => rfl
  | n + 1, hn => by
    simp only [msN]
    rw [msN_v h hS hr x n (by omega), show (fun z : Nat => jL (osI M' 1 r n z)) = (fun z : Nat => jL (osI M 1 r n z)) from funext fun z => by rw [osI_v h hS hr ⟨by omega, by omega⟩]]
theorem dgR_v {M' : xM} (h : eqV M M' 1 1) (hS : hSz M 1) (x : Int64) : ∀ n : Nat, n ≤ 4 → dgR M' n x = dgR M n x
  | 0, _ => rfl
  | n + 1, hn => by
    have hr : 0 ≤ (n : Int) ∧ (n : Int) < 4 := by omega
    have hs := hS (n : Int)
    simp only [dgR]
    rw [dgR_v h hS x n (by omega), szI_v h, bpI_v h hS hr, msN_v h hS hr _ _ (by omega), show (fun z : Nat => jL (owI M' 1 (n : Int) (z : Nat))) = (fun z : Nat => jL (owI M 1 (n : Int) (z : Nat))) from funext fun z => by rw [owI_v h hS hr], show (fun z : Nat => (wcI M' 1 (n : Int) (z : Nat)).toInt64) = (fun z : Nat => (wcI M 1 (n : Int) (z : Nat)).toInt64) from funext fun z => by rw [wcI_v h hS]]
theorem tie_digest {K : xM} (h : Rl M K) : dgI M = dgZ K := by
  have hv := Rl_v h
  have hS := Rl_hS h
  have hb := h.2.2.2.1.1
  have e11 : ln K = tlI M := congrArg Int32.toInt h.2.2.2.2.1
  unfold dgI dgZ dgC dgB
  rw [e11, shD_bits ⟨(oaI_b hS).1, oa_le hS⟩ (szs_b hS), oaI_v hv hS, show szI (vW K) 1 = szI M 1 from funext fun r => szI_v hv r, brF_v hv hS 160 4 (Nat.le_refl _), dgR_v hv hS _ 4 (Nat.le_refl _), show (fun z : Nat => jL (orI (vW K) ((z : Nat) + 1))) = (fun z : Nat => jL (orI M ((z : Nat) + 1))) from funext fun z => by rw [orI_v hv hS]]
  rw [mxT_cong (f := fun z : Nat => jL (noZ K (z : Nat))) (g := fun z : Nat => jL (ohI M (z : Nat))) 9 (fun k hk => by rw [no_tie h (by omega)])]
  refine mxT_cong _ (fun k hk => ?_)
  show jL (cdI M (k : Int)) = jL (K.1 74 k).toInt
  unfold cdI
  rw [if_pos (by omega), h.2.2.2.2.2 k (by omega), Int.toNat_natCast]
end TIEC
