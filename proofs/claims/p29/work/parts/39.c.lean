/-! THE TIE: into another row, turned, sorted -/
section ACT2
variable {t : Int} {M : xM} {h v d n : aT}
/-- one of the three arrays when somebody has gone from (r, p) to the end of the row u -/
def crf (f : aT) (r p u w : Int) : aT := clf (upd f (6 * u + w).toNat (f (6 * r + p).toNat)) r p
theorem Rl_cross (R : Rl t M h v d n) {r p u : Int} (hr : 0 ≤ r ∧ r < 4) (hp : 0 ≤ p ∧ p < mnI h r) (hu : 0 ≤ u ∧ u < 4) (hne : r ≠ u) (hm : mnI h u < 6) : Rl t (moM M 1 r p u) (crf h r p u (mnI h u)) (crf v r p u (mnI h u)) (crf d r p u (mnI h u)) n := by
  have hS : hSz M 1 := R.1.1.1
  have hs6 := mnI_b h r
  have hu6 := mnI_b h u
  obtain ⟨s, hs⟩ : ∃ s, mnI h r = s := ⟨_, rfl⟩
  obtain ⟨w, hw⟩ : ∃ w, mnI h u = w := ⟨_, rfl⟩
  have hs0 : szI M 1 r = s := (Rl_sz R hr).trans hs
  have hw0 : szI M 1 u = w := (Rl_sz R hu).trans hw
  rw [hs] at hp hs6
  rw [hw] at hm hu6 ⊢
  obtain ⟨m, hmm⟩ : ∃ m : Nat, (szI M 1 r - 1 - p).toNat = m := ⟨_, rfl⟩
  have hpn : p + m = s - 1 := by omega
  have hsm : ∀ q, szI (mvM M 1 r p m) 1 q = szI M 1 q := szI_mvM M 1 r p m
  have hc1 : 0 ≤ szI (mvM M 1 r p m) 1 u + 1 ∧ szI (mvM M 1 r p m) 1 u + 1 ≤ 6 := by rw [hsm]; omega
  have hs2 : ∀ q, szI (csM (mvM M 1 r p m) 1 u 1) 1 q = if q = u then w + 1 else szI M 1 q := fun q => by rw [szI_csM hu hc1, hsm, hsm, hw0]
  have eM : moM M 1 r p u = csM (swP (csM (mvM M 1 r p m) 1 u 1) 1 (6 * r + (s - 1)) (6 * u + w)) 1 r (-1) := by
    unfold moM
    dsimp only
    rw [hmm, hs2, if_neg hne, hs0, hsm, hw0, sp_in hr (by omega), sp_in hu (by omega)]
  have hs3 : ∀ q, szI (swP (csM (mvM M 1 r p m) 1 u 1) 1 (6 * r + (s - 1)) (6 * u + w)) 1 q = if q = u then w + 1 else szI M 1 q := fun q => by rw [szI_swP, hs2]
  have hc2 : 0 ≤ szI (swP (csM (mvM M 1 r p m) 1 u 1) 1 (6 * r + (s - 1)) (6 * u + w)) 1 r + -1 ∧ szI (swP (csM (mvM M 1 r p m) 1 u 1) 1 (6 * r + (s - 1)) (6 * u + w)) 1 r + -1 ≤ 6 := by rw [hs3, if_neg hne]; omega
  have hsz : ∀ q, szI (moM M 1 r p u) 1 q = if q = r then s - 1 else if q = u then w + 1 else szI M 1 q := fun q => by
    rw [eM, szI_csM hr hc2, hs3, hs3, if_neg hne, hs0]
    rfl
  have hat : ∀ k, (k = 2 ∨ k = 3 ∨ k = 4) → ∀ j : Nat, (j : Int) ≠ 6 * r + (s - 1) → (moM M 1 r p u).1 (1 + k) j = M.1 (1 + k) (if (j : Int) = 6 * u + w then (6 * r + p).toNat else if 6 * r + p ≤ (j : Int) ∧ (j : Int) < 6 * r + (s - 1) then j + 1 else j) := by
    intro k hk j hj
    rw [eM, csM_row (by omega), swP_at (by omega) (by omega) (by omega), csM_row (by omega)]
    by_cases e1 : (j : Int) = 6 * u + w
    · rw [if_pos e1, if_pos e1, mv_at hr hp.1 hk m (by omega), if_neg (by omega), if_pos (by omega)]
    · rw [if_neg e1, if_neg hj, if_neg e1, mv_at hr hp.1 hk m (by omega)]
      by_cases e2 : 6 * r + p ≤ (j : Int) ∧ (j : Int) < 6 * r + p + m
      · rw [if_pos e2, if_pos (by omega)]
      · rw [if_neg e2, if_neg (by omega), if_neg (by omega)]
  have hrow : ∀ a, a < 2 ∨ 5 < a → (moM M 1 r p u).1 a = M.1 a := fun a ha => by
    rw [eM, csM_row (by omega), swP_row (by omega), csM_row (by omega), mvM_row (by omega)]
  have hvp : vld M 1 r p := ⟨hr.1, hr.2, hp.1, by omega⟩
  -- where one who stands at (q, y) then stood before
  obtain ⟨T, hT⟩ : ∃ T : Int → Int → Int × Int, T = fun q y => if q = u ∧ y = w then (r, p) else if q = r ∧ p ≤ y then (q, y + 1) else (q, y) := ⟨_, rfl⟩
  have hcell : ∀ q y, vld (moM M 1 r p u) 1 q y → vld M 1 (T q y).1 (T q y).2 ∧ (∀ k, (k = 2 ∨ k = 3 ∨ k = 4) → (moM M 1 r p u).1 (1 + k) (6 * q + y).toNat = M.1 (1 + k) (6 * (T q y).1 + (T q y).2).toNat) ∧ (∀ f : aT, crf f r p u w (6 * q + y).toNat = f (6 * (T q y).1 + (T q y).2).toNat) := fun q y hv => by
    obtain ⟨g0, g1, g2, g3⟩ := hv
    rw [hsz] at g3
    have hq := hS q
    rw [hT]
    dsimp only
    by_cases e1 : q = u ∧ y = w
    · rw [if_pos e1]
      obtain ⟨rfl, rfl⟩ := e1
      refine ⟨hvp, fun k hk => ?_, fun f => ?_⟩
      · rw [hat k hk _ (by omega), if_pos (by omega)]
      · unfold crf clf upd
        rw [if_neg (by omega), if_neg (by omega), if_pos rfl]
    · rw [if_neg e1]
      by_cases e2 : q = r ∧ p ≤ y
      · rw [if_pos e2]
        obtain ⟨rfl, e2⟩ := e2
        rw [if_pos rfl] at g3
        refine ⟨⟨g0, g1, by show 0 ≤ y + 1; omega, by show y + 1 < szI M 1 q; omega⟩, fun k hk => ?_, fun f => ?_⟩
        · rw [hat k hk _ (by omega), if_neg (by omega), if_pos (by omega)]
          show _ = M.1 (1 + k) (6 * q + (y + 1)).toNat
          rw [show (6 * q + (y + 1)).toNat = (6 * q + y).toNat + 1 by omega]
        · show _ = f (6 * q + (y + 1)).toNat
          unfold crf clf upd
          rw [if_pos (by omega), if_neg (by omega), show (6 * q + (y + 1)).toNat = (6 * q + y).toNat + 1 by omega]
      · rw [if_neg e2]
        have hy6 : y < 6 := by (repeat' split at g3) <;> omega
        have hyv : y < szI M 1 q := by
          by_cases c1 : q = r
          · rw [if_pos c1] at g3; rw [c1, hs0]; omega
          · rw [if_neg c1] at g3
            by_cases c2 : q = u
            · rw [if_pos c2] at g3; rw [c2, hw0]
              have : y ≠ w := fun z => e1 ⟨c2, z⟩
              omega
            · rw [if_neg c2] at g3; exact g3
        have hy5 : q = r → y < s - 1 := fun c1 => by rw [if_pos c1] at g3; exact g3
        refine ⟨⟨g0, g1, g2, hyv⟩, fun k hk => ?_, fun f => ?_⟩
        · have n1 : ¬ (((6 * q + y).toNat : Nat) : Int) = 6 * u + w := fun z => e1 ⟨by omega, by omega⟩
          have n2 : ¬ (6 * r + p ≤ (((6 * q + y).toNat : Nat) : Int) ∧ (((6 * q + y).toNat : Nat) : Int) < 6 * r + (s - 1)) := fun z => e2 ⟨by omega, by omega⟩
          rw [hat k hk _ (fun z => by have : q = r := by omega
                                      have := hy5 this
                                      omega), if_neg n1, if_neg n2]
        · have n1 : ¬ ((6 * q + y).toNat = (6 * u + w).toNat) := fun z => e1 ⟨by omega, by omega⟩
          have n2 : ¬ (6 * r + p ≤ (((6 * q + y).toNat : Nat) : Int) ∧ (((6 * q + y).toNat : Nat) : Int) < 6 * r + 5) := fun z => e2 ⟨by omega, by omega⟩
          have n3 : ¬ (((6 * q + y).toNat : Nat) : Int) = 6 * r + 5 := fun z => by
            have c1 : q = r := by omega
            exact e2 ⟨c1, by omega⟩
          unfold crf clf upd
          rw [if_neg n2, if_neg n3, if_neg n1]
  have hO : okC (moM M 1 r p u) 1 := by
    rw [eM]
    exact okC_csM (okC_swP (okC_csM (okC_mvM R.1.1 m) hu hc1) _ _) hr hc2
  have hG : gdC (moM M 1 r p u) 1 := by
    refine gdC_map R.1.2 (by rw [hrow 1 (by omega)]) T (fun q y hv => ?_) (fun q y q2 y2 hv hv2 e => ?_)
    · obtain ⟨c1, c2, -⟩ := hcell q y hv
      exact ⟨c1, congrArg Int32.toInt (c2 2 (by omega)), congrArg Int32.toInt (c2 3 (by omega)), congrArg Int32.toInt (c2 4 (by omega))⟩
    · obtain ⟨-, -, g2, g3⟩ := hv
      obtain ⟨-, -, k2, k3⟩ := hv2
      rw [hsz] at g3 k3
      rw [hT] at e
      dsimp only at e
      have hSu := hw0
      by_cases a1 : q = u ∧ y = w
      · rw [if_pos a1] at e
        by_cases b1 : q2 = u ∧ y2 = w
        · omega
        · rw [if_neg b1] at e
          by_cases b2 : q2 = r ∧ p ≤ y2
          · rw [if_pos b2, Prod.mk.injEq] at e; omega
          · rw [if_neg b2, Prod.mk.injEq] at e; omega
      · rw [if_neg a1] at e
        by_cases b1 : q2 = u ∧ y2 = w
        · rw [if_pos b1] at e
          by_cases a2 : q = r ∧ p ≤ y
          · rw [if_pos a2, Prod.mk.injEq] at e; omega
          · rw [if_neg a2, Prod.mk.injEq] at e; omega
        · rw [if_neg b1] at e
          by_cases a2 : q = r ∧ p ≤ y
          · rw [if_pos a2] at e
            by_cases b2 : q2 = r ∧ p ≤ y2
            · rw [if_pos b2, Prod.mk.injEq] at e; omega
            · rw [if_neg b2, Prod.mk.injEq] at e; omega
          · rw [if_neg a2] at e
            by_cases b2 : q2 = r ∧ p ≤ y2
            · rw [if_pos b2, Prod.mk.injEq] at e; omega
            · rw [if_neg b2, Prod.mk.injEq] at e; omega
  refine Rl_mk hO hG (fun q y hv => ?_) (fun q y hv => ?_) (fun q y g0 g1 g2 g3 => ?_) (fun j hj => by rw [hrow 1 (by omega)]; exact Rl_n R j hj) ?_ R.2.2.2.2.2.2.1 R.2.2.2.2.2.2.2
  · obtain ⟨c1, c2, c3⟩ := hcell q y hv
    have e2 := c2 2 (by omega)
    have e3 := c2 3 (by omega)
    have e4 := c2 4 (by omega)
    rw [show (1 + 2 : Nat) = 3 from rfl] at e2
    rw [show (1 + 3 : Nat) = 4 from rfl] at e3
    rw [show (1 + 4 : Nat) = 5 from rfl] at e4
    rw [c3 h, c3 v, c3 d, e2, e3, e4]
    exact Rl_in R c1
  · obtain ⟨c1, -, c3⟩ := hcell q y hv
    unfold hgt
    rw [c3 h]
    exact Rl_pos R c1
  · rw [hsz] at g2
    have hq := hS q
    have hy0 : 0 ≤ y := by (repeat' split at g2) <;> omega
    unfold hgt crf clf
    by_cases e1 : 6 * r + p ≤ (((6 * q + y).toNat : Nat) : Int) ∧ (((6 * q + y).toNat : Nat) : Int) < 6 * r + 5
    · rw [if_pos e1]
      have e : q = r := by omega
      subst e
      rw [if_pos rfl] at g2
      have := Rl_out R (p := y + 1) hr (by omega) (by omega)
      unfold hgt at this
      unfold upd
      rw [if_neg (by omega)]
      rw [show (6 * q + (y + 1)).toNat = (6 * q + y).toNat + 1 by omega] at this
      exact this
    · rw [if_neg e1]
      by_cases e2 : (((6 * q + y).toNat : Nat) : Int) = 6 * r + 5
      · rw [if_pos e2]; rfl
      · rw [if_neg e2]
        have hqr : q ≠ r := fun z => by rw [if_pos z] at g2; omega
        rw [if_neg hqr] at g2
        unfold upd
        rw [if_neg (fun z => by have : q = u := by omega
                                rw [if_pos this] at g2
                                omega)]
        refine Rl_out R (r := q) (p := y) ⟨g0, g1⟩ ?_ g3
        by_cases c2 : q = u
        · rw [if_pos c2] at g2; rw [c2, hw0]; omega
        · rw [if_neg c2] at g2; exact g2
  · rw [R.2.2.2.2.2.1, sum4, sum4, hsz, hsz, hsz, hsz]
    rcases (show r = 0 ∨ r = 1 ∨ r = 2 ∨ r = 3 by omega) with rfl | rfl | rfl | rfl <;> rcases (show u = 0 ∨ u = 1 ∨ u = 2 ∨ u = 3 by omega) with rfl | rfl | rfl | rfl <;> first | exact absurd rfl hne | (simp <;> omega)
/-! turned -/
def trA (f : aT) (r S : Int) : Nat → aT
  | 0 => f
  | m + 1 => exF (trA f r S m) (6 * r + m) (6 * r + (S - 1 - m))
theorem Rl_turn (R : Rl t M h v d n) {r : Int} (hr : 0 ≤ r ∧ r < 4) : ∀ m : Nat, 2 * (m : Int) ≤ mnI h r → Rl t (trM M 1 r m) (trA h r (mnI h r) m) (trA v r (mnI h r) m) (trA d r (mnI h r) m) n
  | 0, _ => R
  | m + 1, hm => by
    have hb := mnI_b h r
    have ih := Rl_turn R hr m (by omega)
    have e : mnI (trA h r (mnI h r) m) r = mnI h r := by
      rw [← Rl_sz ih hr, ← Rl_sz R hr]
      exact szI_of (trM_row (by omega) m) r
    simp only [trM, trA]
    rw [Rl_sz R hr, sp_in hr (by omega), sp_in hr (by omega)]
    exact Rl_swp ih (vz_of ih.2.1 hr (by omega)) (vz_of ih.2.1 hr (by omega))
/-! sorted -/
def fL (h v d : aT) : fT := fun k j => if k = 2 then d j else if k = 3 then h j else v j
theorem sgd_cong {κ κ' : Nat → Int} {m : Nat} {σ : Nat → Nat} (e : ∀ i, i < m → κ i = κ' i) (g : sgd κ m σ) : sgd κ' m σ :=
  ⟨g.1, g.2.1, g.2.2.1, fun p q h1 h2 h3 => g.2.2.2 p q h1 h2 (by rw [e _ (g.1 p (by omega)), e _ (g.1 q h2)]; exact h3)⟩
theorem Rl_sort (R : Rl t M h v d n) {r z : Int} (hr : 0 ≤ r ∧ r < 4) (hz : 0 ≤ z ∧ z ≤ 2) {h' v' d' : aT} {σ : Nat → Nat} (hP : PF (fL h v d) (fL h' v' d') (6 * r).toNat (mnI h r).toNat σ) (hg : sgd (keyF (fL h v d) (6 * r).toNat z) (mnI h r).toNat σ) (hs : srt (keyF (fL h v d) (6 * r).toNat z) (mnI h r).toNat σ) : Rl t (srM M 1 r z (szI M 1 r - 1).toNat) h' v' d' n := by
  have hS : hSz M 1 := R.1.1.1
  have hb := mnI_b h r
  have hsz0 := Rl_sz R hr
  have hszs : ∀ q, szI (srM M 1 r z (szI M 1 r - 1).toNat) 1 q = szI M 1 q := fun q => szI_of (srM_row (by omega) _) q
  have hkey : ∀ i, i < (mnI h r).toNat → keyF (fC M) (6 * r).toNat z i = keyF (fL h v d) (6 * r).toNat z i := fun i hi => by
    have e := Rl_in R (r := r) (p := (i : Int)) ⟨hr.1, hr.2, by omega, by omega⟩
    rw [show (6 * r + (i : Int)).toNat = (6 * r).toNat + i by omega] at e
    show (if z = 0 then (M.1 4 ((6 * r).toNat + i)).toInt else if z = 1 then -(M.1 4 ((6 * r).toNat + i)).toInt else (M.1 5 ((6 * r).toNat + i)).toInt) = (if z = 0 then (h ((6 * r).toNat + i)).toInt else if z = 1 then -(h ((6 * r).toNat + i)).toInt else (v ((6 * r).toNat + i)).toInt)
    rw [e.1, e.2.2]
  obtain ⟨τ, hP2, heq⟩ : ∃ τ, PF (fC M) (fC (srM M 1 r z (szI M 1 r - 1).toNat)) (6 * r).toNat (mnI h r).toNat τ ∧ ∀ i, i < (mnI h r).toNat → τ i = σ i := by
    by_cases c : mnI h r = 0
    · rw [show (szI M 1 r - 1).toNat = 0 by omega]
      exact ⟨fun p => p, PF_id _ _ _, fun i hi => by omega⟩
    · obtain ⟨τ, a1, a2, a3⟩ := sr_srt (M := M) (z := z) (s := (mnI h r).toNat) hr (by omega) (szI M 1 r - 1).toNat (by omega)
      refine ⟨τ, a1, sgd_uniq a2 (sgd_cong (fun i hi => (hkey i hi).symm) hg) (fun i j h1 h2 => a3 i j h1 (by omega)) (fun i j h1 h2 => ?_)⟩
      have := hs i j h1 h2
      rw [hkey _ (hg.1 i (by omega)), hkey _ (hg.1 j h2)]
      exact this
  have hcell : ∀ q y, vld M 1 q y → vld M 1 q (if q = r then (σ y.toNat : Int) else y) ∧ (∀ k, (k = 2 ∨ k = 3 ∨ k = 4) → (srM M 1 r z (szI M 1 r - 1).toNat).1 (1 + k) (6 * q + y).toNat = M.1 (1 + k) (6 * q + (if q = r then (σ y.toNat : Int) else y)).toNat) ∧ (∀ k, (k = 2 ∨ k = 3 ∨ k = 4) → fL h' v' d' k (6 * q + y).toNat = fL h v d k (6 * q + (if q = r then (σ y.toNat : Int) else y)).toNat) := fun q y hv => by
    obtain ⟨g0, g1, g2, g3⟩ := hv
    have hq := hS q
    by_cases e : q = r
    · subst e
      have hy : y.toNat < (mnI h q).toNat := by omega
      have hσ := hg.1 _ hy
      rw [if_pos rfl]
      refine ⟨⟨g0, g1, by omega, by omega⟩, fun k hk => ?_, fun k hk => ?_⟩
      · have := hP2 k hk (6 * q + y).toNat (by omega)
        rw [if_pos (by omega), show (6 * q + y).toNat - (6 * q).toNat = y.toNat by omega, heq _ hy, show (6 * q).toNat + σ y.toNat = (6 * q + (σ y.toNat : Int)).toNat by omega] at this
        exact this
      · have := hP k hk (6 * q + y).toNat (by omega)
        rw [if_pos (by omega), show (6 * q + y).toNat - (6 * q).toNat = y.toNat by omega, show (6 * q).toNat + σ y.toNat = (6 * q + (σ y.toNat : Int)).toNat by omega] at this
        exact this
    · rw [if_neg e]
      refine ⟨⟨g0, g1, g2, g3⟩, fun k hk => ?_, fun k hk => ?_⟩
      · have := hP2 k hk (6 * q + y).toNat (by omega)
        rw [if_neg (by omega)] at this
        exact this
      · have := hP k hk (6 * q + y).toNat (by omega)
        rw [if_neg (by omega)] at this
        exact this
  have hvv : ∀ q y, vld (srM M 1 r z (szI M 1 r - 1).toNat) 1 q y → vld M 1 q y := fun q y hv => by
    unfold vld at hv ⊢
    rw [hszs] at hv
    exact hv
  have hG : gdC (srM M 1 r z (szI M 1 r - 1).toNat) 1 := by
    by_cases c : mnI h r = 0
    · rw [show (szI M 1 r - 1).toNat = 0 by omega]; exact R.1.2
    · exact gdC_srM hr R.1.2 hS _ (by omega)
  refine Rl_mk (okC_srM R.1.1 _) hG (fun q y hv => ?_) (fun q y hv => ?_) (fun q y g0 g1 g2 g3 => ?_) (fun j hj => by rw [srM_row (by omega)]; exact Rl_n R j hj) (by rw [R.2.2.2.2.2.1]; exact sumI_cong 4 (fun r _ _ => (hszs r).symm)) R.2.2.2.2.2.2.1 R.2.2.2.2.2.2.2
  · obtain ⟨c1, c2, c3⟩ := hcell q y (hvv q y hv)
    have e2 := c2 2 (by omega)
    have e3 := c2 3 (by omega)
    have e4 := c2 4 (by omega)
    have f2 : d' _ = d _ := c3 2 (by omega)
    have f3 : h' _ = h _ := c3 3 (by omega)
    have f4 : v' _ = v _ := c3 4 (by omega)
    rw [show (1 + 2 : Nat) = 3 from rfl] at e2
    rw [show (1 + 3 : Nat) = 4 from rfl] at e3
    rw [show (1 + 4 : Nat) = 5 from rfl] at e4
    rw [f2, f3, f4, e2, e3, e4]
    exact Rl_in R c1
  · obtain ⟨c1, -, c3⟩ := hcell q y (hvv q y hv)
    have f3 : h' _ = h _ := c3 3 (by omega)
    unfold hgt
    rw [f3]
    exact Rl_pos R c1
  · rw [hszs] at g2
    have hq := hS q
    have f3 := hP 3 (by omega) (6 * q + y).toNat (by omega)
    rw [if_neg (fun z => by have : q = r := by omega
                            subst this
                            omega)] at f3
    have f4 : h' (6 * q + y).toNat = h (6 * q + y).toNat := f3
    unfold hgt
    rw [f4]
    exact Rl_out R ⟨g0, g1⟩ g2 g3
/-- one step of the law's sorting: who is wanted moves one place to the left -/
def SP (f f' : fT) (Q S : Nat) (z : Int) (a : Nat) (σ : Nat → Nat) : Prop := PF f f' Q S σ ∧ sgd (keyF f Q z) S σ ∧ ∀ i j, i < a → i < j → j < S → keyF f Q z (σ i) ≤ keyF f Q z (σ j)
theorem swN_at (i : Nat) (σ : Nat → Nat) : swN i σ i = σ (i + 1) ∧ swN i σ (i + 1) = σ i ∧ ∀ x, x ≠ i → x ≠ i + 1 → swN i σ x = σ x :=
  ⟨if_pos rfl, by unfold swN; rw [if_neg (by omega), if_pos rfl], fun x a b => by unfold swN; rw [if_neg a, if_neg b]⟩
theorem SP_sw {f f' f'' : fT} {Q S a i : Nat} {z : Int} {σ : Nat → Nat} (h : SP f f' Q S z a σ) (hR : Q + S ≤ 24) (ha : a ≤ i) (hi : i + 1 < S) (hk : keyF f Q z (σ (i + 1)) < keyF f Q z (σ i)) (hs : ∀ k, (k = 2 ∨ k = 3 ∨ k = 4) → ∀ j, j < 24 → f'' k j = if j = Q + i + 1 then f' k (Q + i) else if j = Q + i then f' k (Q + i + 1) else f' k j) : SP f f'' Q S z a (swN i σ) := by
  obtain ⟨h1, h2, h3⟩ := h
  obtain ⟨w1, w2, w3⟩ := swN_at i σ
  refine ⟨PF_sw h1 hR hi hs, sgd_sw h2 hi hk, fun x y hx hxy hy => ?_⟩
  rw [w3 x (by omega) (by omega)]
  by_cases e1 : y = i
  · subst e1; rw [w1]; exact h3 x (y + 1) hx (by omega) hi
  · by_cases e2 : y = i + 1
    · subst e2; rw [w2]; exact h3 x i hx (by omega) (by omega)
    · rw [w3 y e1 e2]; exact h3 x y hx hxy hy
theorem fL_ex {h v d : aT} {Q i : Nat} (hi : Q + i + 1 < 24) : ∀ k, (k = 2 ∨ k = 3 ∨ k = 4) → ∀ j, j < 24 → fL (exF h ((Q + i + 1 : Nat) : Int) ((Q + i : Nat) : Int)) (exF v ((Q + i + 1 : Nat) : Int) ((Q + i : Nat) : Int)) (exF d ((Q + i + 1 : Nat) : Int) ((Q + i : Nat) : Int)) k j = if j = Q + i + 1 then fL h v d k (Q + i) else if j = Q + i then fL h v d k (Q + i + 1) else fL h v d k j := by
  have key : ∀ f : aT, ∀ j : Nat, exF f ((Q + i + 1 : Nat) : Int) ((Q + i : Nat) : Int) j = if j = Q + i + 1 then f (Q + i) else if j = Q + i then f (Q + i + 1) else f j := fun f j => by
    unfold exF
    by_cases e1 : j = Q + i
    · rw [if_pos (by omega), if_neg (by omega), if_pos e1]; rfl
    · rw [if_neg (by omega)]
      by_cases e2 : j = Q + i + 1
      · rw [if_pos (by omega), if_pos e2]; rfl
      · rw [if_neg (by omega), if_neg e2, if_neg e1]
  intro k hk j _
  unfold fL
  rcases hk with rfl | rfl | rfl
  · exact key d j
  · exact key h j
  · exact key v j
end ACT2
