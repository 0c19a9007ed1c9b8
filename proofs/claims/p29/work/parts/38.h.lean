/-! THE TIE: the changes, on either side -/
theorem Rl_mk {t : Int} {M : xM} {h v d n : aT} (hO : okC M 1) (hG : gdC M 1) (hin : ∀ r p : Int, vld M 1 r p → h (6 * r + p).toNat = M.1 4 (6 * r + p).toNat ∧ d (6 * r + p).toNat = M.1 3 (6 * r + p).toNat ∧ v (6 * r + p).toNat = M.1 5 (6 * r + p).toNat) (hpos : ∀ r p : Int, vld M 1 r p → 0 < hgt h r p) (hout : ∀ r p : Int, 0 ≤ r → r < 4 → szI M 1 r ≤ p → p < 6 → hgt h r p = 0) (hn : ∀ j, j < 5 → n j = M.1 1 (4 + j)) (hs : (n 2).toInt - (n 3).toInt = sumI (szI M 1) 4) (h3 : 0 ≤ (n 3).toInt) (h2 : (n 2).toInt ≤ t) : Rl t M h v d n := by
  have hm : ∀ r : Int, 0 ≤ r → r < 4 → mnI h r = szI M 1 r := fun r g0 g1 => mn_of (hO.1 r) (fun p h0 h1 => hpos r p ⟨g0, g1, h0, h1⟩) (fun p h0 h1 => by rw [hout r p g0 g1 h0 h1]; exact Int.le_refl _)
  refine ⟨⟨hO, hG⟩, ⟨fun r p g0 g1 g2 g3 => ?_, ?_, ?_⟩, ⟨fun j hj => ?_, fun r p g0 g1 g2 g3 => (hin r p ⟨g0, g1, g2, g3⟩).1, fun j hj => ?_⟩, fun r p hv => ⟨(hin r p hv).2.1, (hin r p hv).2.2⟩, ⟨hn 2 (by decide), hn 3 (by decide), hn 4 (by decide)⟩, hs, h3, h2⟩
  · rw [hm r g0 g1]
    refine ⟨fun z => ⟨hpos r p ⟨g0, g1, g2, z⟩, ?_⟩, fun z => hout r p g0 g1 z g3⟩
    have := (hG.2.1 r p ⟨g0, g1, g2, z⟩).2.1.2
    unfold hgt
    rw [(hin r p ⟨g0, g1, g2, z⟩).1]
    exact this
  · rw [hn 0 (by decide)]; exact hO.2.1
  · rw [hn 1 (by decide)]; exact hO.2.2.1
  · show jI (mnI h ((j : Nat) : Int)) = M.1 2 j
    rw [hm _ (by omega) (by omega)]
    unfold szI
    rw [if_pos (by omega)]
    exact jI_of _
  · rw [vC_1]
    rcases hj with rfl | rfl
    · exact hn 0 (by decide)
    · exact hn 1 (by decide)
section ACT
variable {t : Int} {M : xM} {h v d n : aT}
theorem Rl_lo (R : Rl t M h v d n) {B : xM} (e : ∀ a, a < 6 → B.1 a = M.1 a) : Rl t B h v d n := by
  have eC : eqC M B 1 1 := eqC_lo e
  have hS : hSz M 1 := R.1.1.1
  refine ⟨⟨okC_e eC R.1.1, gdC_v R.1.2 (eqV_C eC hS)⟩, R.2.1, eqH_trans (eqH_symm (eqH_of_V (eqV_C eC hS))) R.2.2.1, fun r p hv => ?_, ?_, ?_, R.2.2.2.2.2.2⟩
  · rw [e 3 (by decide), e 5 (by decide)]
    refine R.2.2.2.1 r p ?_
    unfold vld at hv ⊢
    rw [szI_e eC] at hv
    exact hv
  · rw [e 1 (by decide)]; exact R.2.2.2.2.1
  · rw [R.2.2.2.2.2.1]
    exact sumI_cong 4 (fun r _ _ => (szI_e eC r).symm)
theorem Rl_mono (R : Rl t M h v d n) {u : Int} (hu : t ≤ u) : Rl u M h v d n := ⟨R.1, R.2.1, R.2.2.1, R.2.2.2.1, R.2.2.2.2.1, R.2.2.2.2.2.1, R.2.2.2.2.2.2.1, Int.le_trans R.2.2.2.2.2.2.2 hu⟩
theorem Rl_in (R : Rl t M h v d n) {r p : Int} (hv : vld M 1 r p) : h (6 * r + p).toNat = M.1 4 (6 * r + p).toNat ∧ d (6 * r + p).toNat = M.1 3 (6 * r + p).toNat ∧ v (6 * r + p).toNat = M.1 5 (6 * r + p).toNat := ⟨R.2.2.1.2.1 r p hv.1 hv.2.1 hv.2.2.1 hv.2.2.2, (R.2.2.2.1 r p hv).1, (R.2.2.2.1 r p hv).2⟩
theorem Rl_pos (R : Rl t M h v d n) {r p : Int} (hv : vld M 1 r p) : 0 < hgt h r p := by
  have g := (Rl_vld R).mp hv
  have := mnI_b h r
  exact ((R.2.1.1 r p g.1.1 g.1.2 g.2.1 (by omega)).1 g.2.2).1
theorem Rl_out (R : Rl t M h v d n) {r p : Int} (hr : 0 ≤ r ∧ r < 4) (hp : szI M 1 r ≤ p) (hp6 : p < 6) : hgt h r p = 0 := by
  have := R.1.1.1 r
  rw [Rl_sz R hr] at hp
  have hb := mnI_b h r
  exact (R.2.1.1 r p hr.1 hr.2 (by omega) hp6).2 hp
theorem Rl_n (R : Rl t M h v d n) : ∀ j, j < 5 → n j = M.1 1 (4 + j)
  | 0, _ => Rl_0 R
  | 1, _ => Rl_1 R
  | 2, _ => R.2.2.2.2.1.1
  | 3, _ => R.2.2.2.2.1.2.1
  | 4, _ => R.2.2.2.2.1.2.2
  | j + 5, h => by omega
/-- two are swapped -/
theorem Rl_swp (R : Rl t M h v d n) {s u : Int} (hs : vz h s) (hu : vz h u) : Rl t (swP M 1 s u) (exF h s u) (exF v s u) (exF d s u) n := by
  have hS : hSz M 1 := R.1.1.1
  obtain ⟨a1, a2, a3⟩ := vz_mn R.2.1 hs
  obtain ⟨b1, b2, b3⟩ := vz_mn R.2.1 hu
  have hb1 := mnI_b h (s / 6)
  have hb2 := mnI_b h (u / 6)
  have va := (Rl_vld R).mpr ⟨a1, a2⟩
  have vb := (Rl_vld R).mpr ⟨b1, b2⟩
  have hg := gdC_swP hS R.1.2 va vb
  rw [sp_in a1 (by omega), sp_in b1 (by omega), a3, b3] at hg
  obtain ⟨s1, s2, s3⟩ := Rl_hz R hs
  obtain ⟨u1, u2, u3⟩ := Rl_hz R hu
  refine Rl_mk (okC_swP R.1.1 s u) hg (fun r p hv => ?_) (fun r p hv => ?_) (fun r p g0 g1 g2 g3 => ?_) (fun j hj => by rw [swP_row (by omega)]; exact Rl_n R j hj) (by rw [R.2.2.2.2.2.1]; exact sumI_cong 4 (fun r _ _ => (szI_swP M 1 s u r).symm)) R.2.2.2.2.2.2.1 R.2.2.2.2.2.2.2
  · have hv2 : vld M 1 r p := by
      unfold vld at hv ⊢
      rw [szI_swP] at hv
      exact hv
    obtain ⟨e1, e2, e3⟩ := Rl_in R hv2
    unfold exF
    rw [swP_at hs.1 hu.1 (by omega), swP_at hs.1 hu.1 (by omega), swP_at hs.1 hu.1 (by omega), s1, s2, s3, u1, u2, u3, e1, e2, e3]
    exact ⟨rfl, rfl, rfl⟩
  · have hv2 : vld M 1 r p := by
      unfold vld at hv ⊢
      rw [szI_swP] at hv
      exact hv
    exact (ex_pos hs hu (z := 6 * r + p) (by have := hv.1; have := hv.2.2.1; omega)).1 (Rl_pos R hv2)
  · rw [szI_swP] at g2
    have := hS r
    exact (ex_pos hs hu (z := 6 * r + p) (by omega)).2 (Rl_out R ⟨g0, g1⟩ g2 g3)
/-- one of the five counts, but those of who came and left -/
theorem Rl_set (R : Rl t M h v d n) {j : Nat} (hj : j = 0 ∨ j = 1 ∨ j = 4) {x : Int32} (hO : okC (upI M 1 (4 + j) x) 1) : Rl t (upI M 1 (4 + j) x) h v d (upd n j x) := by
  have hsz : ∀ r, szI (upI M 1 (4 + j) x) 1 r = szI M 1 r := fun r => szI_up (by omega) r
  have hvv : ∀ r p, vld (upI M 1 (4 + j) x) 1 r p → vld M 1 r p := fun r p z => by
    unfold vld at z ⊢
    rw [hsz] at z
    exact z
  refine Rl_mk hO (gdC_up R.1.2 (by omega)) (fun r p hv => ?_) (fun r p hv => Rl_pos R (hvv r p hv)) (fun r p g0 g1 g2 g3 => Rl_out R ⟨g0, g1⟩ (by rw [hsz] at g2; exact g2) g3) (fun i hi => ?_) ?_ ?_ ?_
  · rw [upI_row (by omega), upI_row (by omega), upI_row (by omega)]
    exact Rl_in R (hvv r p hv)
  · rw [upI_1]
    unfold upd
    by_cases e : i = j
    · rw [if_pos e, if_pos ⟨rfl, by omega⟩]
    · rw [if_neg e, if_neg (by omega)]
      exact Rl_n R i hi
  · unfold upd
    rw [if_neg (by omega), if_neg (by omega), R.2.2.2.2.2.1]
    exact sumI_cong 4 (fun r _ _ => (hsz r).symm)
  · unfold upd
    rw [if_neg (by omega)]
    exact R.2.2.2.2.2.2.1
  · unfold upd
    rw [if_neg (by omega)]
    exact R.2.2.2.2.2.2.2
theorem Rl_sw (R : Rl t M h v d n) {s u : Int} (hs : vz h s) (hu : vz h u) : Rl t (swM M (s / 6) (s % 6) (u / 6) (u % 6)) (exF h s u) (exF v s u) (exF d s u) (upd n 4 (jI ((n 4).toInt + 1))) := by
  obtain ⟨a1, a2, a3⟩ := vz_mn R.2.1 hs
  obtain ⟨b1, b2, b3⟩ := vz_mn R.2.1 hu
  have hb1 := mnI_b h (s / 6)
  have hb2 := mnI_b h (u / 6)
  have R1 := Rl_swp R hs hu
  unfold swM
  rw [sp_in a1 (by omega), sp_in b1 (by omega), a3, b3]
  have e : (swP M 1 s u).1 1 8 = n 4 := (Rl_n R1 4 (by decide)).symm
  rw [e]
  exact Rl_set R1 (j := 4) (Or.inr (Or.inr rfl)) (okC_tot R1.1.1 (by decide))
/-- somebody comes -/
theorem Rl_join (R : Rl t M h v d n) {r x w : Int} (hr : 0 ≤ r ∧ r < 4) (hm : mnI h r < 6) (hx : 0 < x ∧ x ≤ 1000) (hw : 0 ≤ w ∧ w ≤ 3) (ht : t < 999) : Rl (t + 1) (arM M 1 r x w) (upd h (6 * r + mnI h r).toNat (jI x)) (upd v (6 * r + mnI h r).toNat (jI w)) (upd d (6 * r + mnI h r).toNat (n 2)) (upd n 2 (jI ((n 2).toInt + 1))) := by
  have hS : hSz M 1 := R.1.1.1
  have hb := mnI_b h r
  have hsz := Rl_sz R hr
  have hc := Rl_came R
  have h2 := R.2.2.2.2.2.2.2
  have e6 : (M.1 1 6).toInt = (n 2).toInt := by rw [R.2.2.2.2.1.1]
  obtain ⟨k1, k2, k3, k4⟩ := arM_at2 (N := M) (b := 1) (r := r) (x := x) (v := w) hr (by omega)
  obtain ⟨-, -, a3, a4⟩ := arM_at (M := M) (c := 1) (r := r) (h := x) (v := w)
  have hszs : ∀ q, szI (arM M 1 r x w) 1 q = if q = r then mnI h r + 1 else szI M 1 q := fun q => by rw [szI_arM hr (by omega), hsz]
  have hvv : ∀ q p, vld (arM M 1 r x w) 1 q p → ((0 ≤ q ∧ q < 4) ∧ 0 ≤ p ∧ p < 6) ∧ ((q = r ∧ p = mnI h r) ∨ (¬ (q = r ∧ p = mnI h r) ∧ vld M 1 q p)) := fun q p hv => by
    obtain ⟨g0, g1, g2, g3⟩ := hv
    rw [hszs] at g3
    have := hS q
    by_cases e : q = r
    · subst e
      rw [if_pos rfl] at g3
      refine ⟨⟨⟨g0, g1⟩, g2, by omega⟩, ?_⟩
      by_cases e2 : p = mnI h q
      · exact Or.inl ⟨rfl, e2⟩
      · exact Or.inr ⟨fun z => e2 z.2, g0, g1, g2, by omega⟩
    · rw [if_neg e] at g3
      exact ⟨⟨⟨g0, g1⟩, g2, by omega⟩, Or.inr ⟨fun z => e z.1, g0, g1, g2, g3⟩⟩
  refine Rl_mk (okC_arM R.1.1 hr (by omega) (by omega)) (gdC_arM R.1.2 hS hr (by omega) (by omega) (by omega) hw) (fun q p hv => ?_) (fun q p hv => ?_) (fun q p g0 g1 g2 g3 => ?_) (fun j hj => ?_) ?_ ?_ ?_
  · obtain ⟨⟨b1, b2⟩, hor⟩ := hvv q p hv
    rw [k2, k3, k4, hsz]
    unfold upd
    rcases hor with c | ⟨c, hv2⟩
    · rw [if_pos (by omega), if_pos (by omega), if_pos (by omega), if_pos (by omega), if_pos (by omega), if_pos (by omega), jI_of, R.2.2.2.2.1.1]
      exact ⟨rfl, rfl, rfl⟩
    · rw [if_neg (by omega), if_neg (by omega), if_neg (by omega), if_neg (by omega), if_neg (by omega), if_neg (by omega)]
      exact Rl_in R hv2
  · obtain ⟨⟨b1, b2⟩, hor⟩ := hvv q p hv
    rw [ad_at hr b1 b2 hm (by omega)]
    rcases hor with c | ⟨c, hv2⟩
    · rw [if_pos c]; exact hx.1
    · rw [if_neg c]; exact Rl_pos R hv2
  · rw [hszs] at g2
    have := hS q
    have hp0 : 0 ≤ p := by split at g2 <;> omega
    rw [ad_at hr ⟨g0, g1⟩ ⟨hp0, g3⟩ hm (by omega), if_neg (fun z => by rw [if_pos z.1] at g2; omega)]
    refine Rl_out R ⟨g0, g1⟩ ?_ g3
    split at g2
    · rename_i e; rw [e, hsz]; omega
    · exact g2
  · unfold upd
    by_cases e : j = 2
    · subst e
      rw [if_pos rfl, show 4 + 2 = 6 from rfl, a4, e6]
    · rw [if_neg e, a3 _ (by omega)]
      exact Rl_n R j hj
  · show (if 2 = 2 then jI ((n 2).toInt + 1) else n 2).toInt - (if 3 = 2 then jI ((n 2).toInt + 1) else n 3).toInt = _
    rw [if_pos rfl, if_neg (by decide), jI_toInt (by omega)]
    have hs := R.2.2.2.2.2.1
    rw [sum4] at hs ⊢
    rw [hszs, hszs, hszs, hszs]
    rcases (show r = 0 ∨ r = 1 ∨ r = 2 ∨ r = 3 by omega) with rfl | rfl | rfl | rfl
    · rw [if_pos rfl, if_neg (by decide), if_neg (by decide), if_neg (by decide)]; omega
    · rw [if_neg (by decide), if_pos rfl, if_neg (by decide), if_neg (by decide)]; omega
    · rw [if_neg (by decide), if_neg (by decide), if_pos rfl, if_neg (by decide)]; omega
    · rw [if_neg (by decide), if_neg (by decide), if_neg (by decide), if_pos rfl]; omega
  · show 0 ≤ (if 3 = 2 then _ else n 3).toInt
    rw [if_neg (by decide)]
    exact R.2.2.2.2.2.2.1
  · show (if 2 = 2 then jI ((n 2).toInt + 1) else n 2).toInt ≤ t + 1
    rw [if_pos rfl, jI_toInt (by omega)]
    omega
/-- somebody grows -/
theorem wrI_at {N : xM} {a : Nat} {z x : Int} (hz : 0 ≤ z ∧ z < 24) (j : Nat) : (wrI N a 24 z (jI x)).1 a j = if (j : Int) = z then jI x else N.1 a j := by
  rw [wrI_1]
  by_cases e : (j : Int) = z
  · rw [if_pos e, if_pos ⟨rfl, hz, e⟩]
  · rw [if_neg e, if_neg (fun q => e q.2.2)]
theorem Rl_grow (R : Rl t M h v d n) {z x : Int} (hz : vz h z) (hx : 0 < x ∧ x ≤ 1000) : Rl t (wrI M (1 + 3) 24 z (jI x)) (upd h z.toNat (jI x)) v d n := by
  have hS : hSz M 1 := R.1.1.1
  obtain ⟨a1, a2, a3⟩ := vz_mn R.2.1 hz
  have hb1 := mnI_b h (z / 6)
  have va := (Rl_vld R).mpr ⟨a1, a2⟩
  have hsz : ∀ r, szI (wrI M (1 + 3) 24 z (jI x)) 1 r = szI M 1 r := fun r => szI_wr (by omega) r
  have hat := fun j => wrI_at (N := M) (a := 1 + 3) (x := x) hz.1 j
  have hvv : ∀ r p, vld (wrI M (1 + 3) 24 z (jI x)) 1 r p → vld M 1 r p := fun r p q => by
    unfold vld at q ⊢
    rw [hsz] at q
    exact q
  have hoth : ∀ a, a ≠ 4 → (wrI M (1 + 3) 24 z (jI x)).1 a = M.1 a := fun a ha => wrI_row ha
  have hO : okC (wrI M (1 + 3) 24 z (jI x)) 1 := ⟨fun r => by rw [hsz]; exact R.1.1.1 r, by rw [hoth 1 (by decide)]; exact R.1.1.2.1, by rw [hoth 1 (by decide)]; exact R.1.1.2.2.1, hLo_wr R.1.1.2.2.2 (by omega)⟩
  have hG : gdC (wrI M (1 + 3) 24 z (jI x)) 1 := by
    refine ⟨by rw [hoth 1 (by decide)]; exact R.1.2.1, fun r p hv => ?_, fun r p r2 p2 hv hv2 e => ?_⟩
    · have g := R.1.2.2.1 r p (hvv r p hv)
      rw [hoth 1 (by decide)]
      show (0 ≤ ((wrI M (1 + 3) 24 z (jI x)).1 3 _).toInt ∧ ((wrI M (1 + 3) 24 z (jI x)).1 3 _).toInt < _) ∧ (0 ≤ ((wrI M (1 + 3) 24 z (jI x)).1 (1 + 3) _).toInt ∧ ((wrI M (1 + 3) 24 z (jI x)).1 (1 + 3) _).toInt ≤ 1000) ∧ 0 ≤ ((wrI M (1 + 3) 24 z (jI x)).1 5 _).toInt ∧ ((wrI M (1 + 3) 24 z (jI x)).1 5 _).toInt ≤ 3
      rw [hoth 3 (by decide), hoth 5 (by decide), hat]
      refine ⟨g.1, ?_, g.2.2⟩
      split
      · rw [jI_toInt (by omega)]; omega
      · exact g.2.1
    · have e' : ((wrI M (1 + 3) 24 z (jI x)).1 3 (6 * r + p).toNat).toInt = ((wrI M (1 + 3) 24 z (jI x)).1 3 (6 * r2 + p2).toNat).toInt := e
      rw [hoth 3 (by decide)] at e'
      exact R.1.2.2.2 r p r2 p2 (hvv r p hv) (hvv r2 p2 hv2) e'
  refine Rl_mk hO hG (fun r p hv => ?_) (fun r p hv => ?_) (fun r p g0 g1 g2 g3 => ?_) (fun j hj => by rw [hoth 1 (by decide)]; exact Rl_n R j hj) (by rw [R.2.2.2.2.2.1]; exact sumI_cong 4 (fun r _ _ => (hsz r).symm)) R.2.2.2.2.2.2.1 R.2.2.2.2.2.2.2
  · have e := Rl_in R (hvv r p hv)
    have hv9 := hvv r p hv
    rw [hoth 3 (by decide), hoth 5 (by decide)]
    refine ⟨?_, e.2⟩
    have := hat (6 * r + p).toNat
    rw [show (1 + 3 : Nat) = 4 from rfl] at this ⊢
    rw [this]
    unfold upd
    have h0 := hv9.1
    have h1 := hv9.2.2.1
    have := hz.1
    by_cases c : (6 * r + p).toNat = z.toNat
    · rw [if_pos c, if_pos (by omega)]
    · rw [if_neg c, if_neg (by omega)]; exact e.1
  · have hv9 := hvv r p hv
    unfold hgt upd
    split
    · rw [jI_toInt (by omega)]; exact hx.1
    · exact Rl_pos R hv9
  · rw [hsz] at g2
    have := hS r
    have e := Rl_out R ⟨g0, g1⟩ g2 g3
    unfold hgt upd
    rw [if_neg (fun c => ?_)]
    · exact e
    · have := hz.2
      have e2 : (h (6 * r + p).toNat).toInt = 0 := e
      rw [c] at e2
      omega
/-! somebody leaves: those to the right move -/
def clf (f : aT) (r p : Int) : aT := fun j => if 6 * r + p ≤ (j : Int) ∧ (j : Int) < 6 * r + 5 then f (j + 1) else if (j : Int) = 6 * r + 5 then jI 0 else f j
theorem clF_clf {N : xM} {c : Nat} {r p : Int} (hr : 0 ≤ r ∧ r < 4) (hp : 0 ≤ p ∧ p < 6) {f : aT} (hf : N.1 c = f) : (clF N c r p).1 c = clf f r p := by
  funext j
  unfold clF
  rw [upI_1]
  show (if c = c ∧ j = (6 * r + 5).toNat then jI 0 else if c = c ∧ (6 * r + p).toNat ≤ j ∧ j < (6 * r + p).toNat + (5 - p).toNat then N.1 c (j + 1) else N.1 c j) = _
  unfold clf
  rw [hf]
  by_cases e1 : (j : Int) = 6 * r + 5
  · rw [if_pos ⟨rfl, by omega⟩, if_neg (by omega), if_pos e1]
  · rw [if_neg (by omega)]
    by_cases e2 : 6 * r + p ≤ (j : Int) ∧ (j : Int) < 6 * r + 5
    · rw [if_pos ⟨rfl, by omega, by omega⟩, if_pos e2]
    · rw [if_neg (by omega), if_neg e2, if_neg e1]
theorem clF_row {N : xM} {c a : Nat} {r p : Int} (h : a ≠ c) : (clF N c r p).1 a = N.1 a := by
  unfold clF
  rw [upI_row h]
  funext j
  show (if a = c ∧ _ then _ else _) = _
  rw [if_neg (fun z => h z.1)]
theorem clF_2 (N : xM) (c : Nat) (r p : Int) : (clF N c r p).2 = N.2 := rfl
theorem mv_at {r p : Int} (hr : 0 ≤ r ∧ r < 4) (hp : 0 ≤ p) {k : Nat} (hk : k = 2 ∨ k = 3 ∨ k = 4) : ∀ (m : Nat), p + m ≤ 5 → ∀ j : Nat, (mvM M 1 r p m).1 (1 + k) j = M.1 (1 + k) (if 6 * r + p ≤ (j : Int) ∧ (j : Int) < 6 * r + p + m then j + 1 else if (j : Int) = 6 * r + p + m then (6 * r + p).toNat else j)
  | 0, hm, j => by
    show M.1 (1 + k) j = _
    rw [if_neg (by omega)]
    by_cases e : (j : Int) = 6 * r + p + ((0 : Nat) : Int)
    · rw [if_pos e, show (6 * r + p).toNat = j by omega]
    · rw [if_neg e]
  | m + 1, hm, j => by
    have ih := mv_at hr hp hk m (by omega)
    simp only [mvM]
    rw [sp_in hr (by omega), sp_in hr (by omega), swP_at (by omega) (by omega) (by omega)]
    by_cases e1 : (j : Int) = 6 * r + (p + m + 1)
    · rw [if_pos e1, ih, if_neg (by omega), if_pos (by omega), if_neg (by omega), if_pos (by omega)]
    · rw [if_neg e1]
      by_cases e2 : (j : Int) = 6 * r + (p + m)
      · rw [if_pos e2, ih, if_neg (by omega), if_neg (by omega), if_pos (by omega), show (6 * r + (p + m + 1)).toNat = j + 1 by omega]
      · rw [if_neg e2, ih]
        by_cases e3 : 6 * r + p ≤ (j : Int) ∧ (j : Int) < 6 * r + p + m
        · rw [if_pos e3, if_pos (by omega)]
        · rw [if_neg e3, if_neg (by omega), if_neg (by omega), if_neg (by omega)]
theorem ds_at (hS : hSz M 1) {r p : Int} (hr : 0 ≤ r ∧ r < 4) (hp : 0 ≤ p ∧ p < szI M 1 r) {k : Nat} (hk : k = 2 ∨ k = 3 ∨ k = 4) (j : Nat) : (dsM M 1 r p).1 (1 + k) j = M.1 (1 + k) (if 6 * r + p ≤ (j : Int) ∧ (j : Int) < 6 * r + (szI M 1 r - 1) then j + 1 else if (j : Int) = 6 * r + (szI M 1 r - 1) then (6 * r + p).toNat else j) := by
  have hs := hS r
  unfold dsM
  rw [csM_row (by omega), mv_at hr hp.1 hk _ (by omega)]
  rw [show 6 * r + p + (((szI M 1 r - 1 - p).toNat : Nat) : Int) = 6 * r + (szI M 1 r - 1) by omega]
theorem ds_sz (hS : hSz M 1) {r p : Int} (hr : 0 ≤ r ∧ r < 4) (hp : 0 ≤ p ∧ p < szI M 1 r) (q : Int) : szI (dsM M 1 r p) 1 q = if q = r then szI M 1 r - 1 else szI M 1 q := by
  have hs := hS r
  unfold dsM
  rw [szI_csM hr (by rw [szI_mvM]; omega), szI_mvM, szI_mvM]
  rfl
theorem ds_row {r p : Int} {a : Nat} (h : a < 2 ∨ 5 < a) : (dsM M 1 r p).1 a = M.1 a := by
  unfold dsM
  rw [csM_row (by omega), mvM_row (by omega)]
theorem Rl_leave (R : Rl t M h v d n) {r p : Int} (hr : 0 ≤ r ∧ r < 4) (hp : 0 ≤ p ∧ p < mnI h r) : Rl (t + 1) (leM M r p) (clf h r p) (clf v r p) (clf d r p) (upd n 3 (jI ((n 3).toInt + 1))) := by
  have hS : hSz M 1 := R.1.1.1
  have hb := mnI_b h r
  have hsz := Rl_sz R hr
  have hps : 0 ≤ p ∧ p < szI M 1 r := by rw [hsz]; exact hp
  have hc := Rl_came R
  have hl := R.2.2.2.2.2.2.1
  have hs := R.2.2.2.2.2.1
  have hsb := szs_b hS
  have e7 : ((dsM M 1 r p).1 1 7).toInt = (n 3).toInt := by rw [ds_row (by omega), R.2.2.2.2.1.2.1]
  have hszs : ∀ q, szI (leM M r p) 1 q = if q = r then mnI h r - 1 else szI M 1 q := fun q => by
    unfold leM
    rw [szI_up (by omega), ds_sz hS hr hps, hsz]
  have hat : ∀ k, (k = 2 ∨ k = 3 ∨ k = 4) → ∀ j : Nat, (leM M r p).1 (1 + k) j = M.1 (1 + k) (if 6 * r + p ≤ (j : Int) ∧ (j : Int) < 6 * r + (mnI h r - 1) then j + 1 else if (j : Int) = 6 * r + (mnI h r - 1) then (6 * r + p).toNat else j) := fun k hk j => by
    unfold leM
    rw [upI_row (by omega), ds_at hS hr hps hk, hsz]
  have hcell : ∀ q y, vld (leM M r p) 1 q y → vld M 1 q (if q = r ∧ p ≤ y then y + 1 else y) ∧ (∀ k, (k = 2 ∨ k = 3 ∨ k = 4) → (leM M r p).1 (1 + k) (6 * q + y).toNat = M.1 (1 + k) (6 * q + (if q = r ∧ p ≤ y then y + 1 else y)).toNat) ∧ (∀ f : aT, clf f r p (6 * q + y).toNat = f (6 * q + (if q = r ∧ p ≤ y then y + 1 else y)).toNat) := fun q y hv => by
    obtain ⟨g0, g1, g2, g3⟩ := hv
    rw [hszs] at g3
    have hq := hS q
    by_cases e : q = r ∧ p ≤ y
    · rw [if_pos e]
      obtain ⟨rfl, e2⟩ := e
      rw [if_pos rfl] at g3
      refine ⟨⟨g0, g1, by omega, by omega⟩, fun k hk => ?_, fun f => ?_⟩
      · rw [hat k hk, if_pos (by omega), show (6 * q + (y + 1)).toNat = (6 * q + y).toNat + 1 by omega]
      · unfold clf
        rw [if_pos (by omega), show (6 * q + (y + 1)).toNat = (6 * q + y).toNat + 1 by omega]
    · rw [if_neg e]
      have hy6 : y < 6 := by split at g3 <;> omega
      have hne : ¬ (6 * r + p ≤ 6 * q + y ∧ 6 * q + y ≤ 6 * r + 5) := fun z => e ⟨by omega, by omega⟩
      refine ⟨⟨g0, g1, g2, ?_⟩, fun k hk => ?_, fun f => ?_⟩
      · split at g3
        · rename_i e2; rw [e2, hsz]; omega
        · exact g3
      · rw [hat k hk, if_neg (by omega), if_neg (by omega)]
      · unfold clf
        rw [if_neg (by omega), if_neg (by omega)]
  have hO : okC (leM M r p) 1 := okC_tot (okC_csM (okC_mvM R.1.1 _) hr (by rw [szI_mvM]; omega)) (by decide)
  have hG : gdC (leM M r p) 1 := gdC_up (gdC_cs (gdC_mvM R.1.2 hS hr hp.1 _ (by omega)) hr (by rw [szI_mvM]; omega)) (by decide)
  refine Rl_mk hO hG (fun q y hv => ?_) (fun q y hv => ?_) (fun q y g0 g1 g2 g3 => ?_) (fun j hj => ?_) ?_ ?_ ?_
  · obtain ⟨c1, c2, c3⟩ := hcell q y hv
    have e2 := c2 2 (by omega)
    have e3 := c2 3 (by omega)
    have e4 := c2 4 (by omega)
    rw [show (1 + 2 : Nat) = 3 from rfl] at e2
    rw [show (1 + 3 : Nat) = 4 from rfl] at e3
    rw [show (1 + 4 : Nat) = 5 from rfl] at e4
    rw [c3 h, c3 v, c3 d, e2, e3, e4]
    exact Rl_in R c1
  · obtain ⟨c1, -, c3⟩ := hcell q y hv
    unfold hgt
    rw [c3 h]
    exact Rl_pos R c1
  · rw [hszs] at g2
    have hq := hS q
    have hy0 : 0 ≤ y := by split at g2 <;> omega
    unfold hgt clf
    by_cases e1 : 6 * r + p ≤ (((6 * q + y).toNat : Nat) : Int) ∧ (((6 * q + y).toNat : Nat) : Int) < 6 * r + 5
    · rw [if_pos e1]
      have e : q = r := by omega
      subst e
      rw [if_pos rfl] at g2
      have := Rl_out R (p := y + 1) hr (by omega) (by omega)
      unfold hgt at this
      rw [show (6 * q + (y + 1)).toNat = (6 * q + y).toNat + 1 by omega] at this
      exact this
    · rw [if_neg e1]
      by_cases e2 : (((6 * q + y).toNat : Nat) : Int) = 6 * r + 5
      · rw [if_pos e2]; rfl
      · rw [if_neg e2]
        refine Rl_out R (r := q) (p := y) ⟨g0, g1⟩ ?_ g3
        split at g2
        · rename_i e; exfalso; subst e; omega
        · exact g2
  · unfold leM
    rw [upI_1]
    unfold upd
    by_cases e : j = 3
    · subst e
      rw [if_pos rfl, if_pos ⟨rfl, rfl⟩, e7]
    · rw [if_neg e, if_neg (by omega), ds_row (by omega)]
      exact Rl_n R j hj
  · show (if 2 = 3 then _ else n 2).toInt - (if 3 = 3 then jI ((n 3).toInt + 1) else n 3).toInt = _
    rw [if_neg (by decide), if_pos rfl, jI_toInt (by omega)]
    rw [sum4] at hs ⊢
    rw [hszs, hszs, hszs, hszs]
    rcases (show r = 0 ∨ r = 1 ∨ r = 2 ∨ r = 3 by omega) with rfl | rfl | rfl | rfl
    · rw [if_pos rfl, if_neg (by decide), if_neg (by decide), if_neg (by decide)]; omega
    · rw [if_neg (by decide), if_pos rfl, if_neg (by decide), if_neg (by decide)]; omega
    · rw [if_neg (by decide), if_neg (by decide), if_pos rfl, if_neg (by decide)]; omega
    · rw [if_neg (by decide), if_neg (by decide), if_neg (by decide), if_pos rfl]; omega
  · show 0 ≤ (if 3 = 3 then jI ((n 3).toInt + 1) else n 3).toInt
    rw [if_pos rfl, jI_toInt (by omega)]
    omega
  · show (if 2 = 3 then _ else n 2).toInt ≤ t + 1
    rw [if_neg (by decide)]
    have := R.2.2.2.2.2.2.2
    omega
end ACT
