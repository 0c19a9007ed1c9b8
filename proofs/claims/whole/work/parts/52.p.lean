/-! ALL ORDERS: an order's odd ones, in the class's bits and in the model's rows -/
def cnB (b : Nat → Bool) : Nat → Int
  | 0 => 0
  | k + 1 => cnB b k + (if b k = true then 1 else 0)
theorem pop_usd {X n : Nat} (hX : X < 64) {L : List Nat} (hn : n ≤ 6) (hg : ∀ i, i < n → gt L i < n) (hd : ∀ i j, i < n → j < i → gt L i ≠ gt L j) : ∀ k : Nat, k ≤ n → ((pop (X &&& usd L k) : Nat) : Int) = cnB (fun i => X.testBit (gt L i)) k
  | 0, _ => by simp only [usd, cnB, Nat.and_zero]; rfl
  | k + 1, hk => by
    have ih := pop_usd hX hn hg hd k (by omega)
    have hlt : ∀ i, i < k → gt L i < 6 := fun i hi => by have := hg i (by omega); omega
    have hw := hg k (by omega)
    have hf : (usd L k).testBit (gt L k) = false := by
      rw [Bool.eq_false_iff]
      intro z
      obtain ⟨i, hi, e⟩ := (usd_tb k hlt _ (by omega)).mp z
      exact hd k i (by omega) hi e.symm
    simp only [usd, cnB]
    rw [pop_set X hX _ (usd_lt k hlt) _ (by omega) hf, ← ih]
    split <;> omega
theorem hrd_tb {pre : Nat → Nat} {u : Nat} (hu : u < 64) : ∀ (t : Nat), (∀ i, i < t → pre i < 6) → ∀ v, v < 6 → ((hrd pre u t).testBit v = true ↔ (u.testBit v = true ∧ ∀ i, i < t → pre i ≠ v))
  | 0, _, v, _ => ⟨fun h => ⟨h, fun i hi => by omega⟩, fun h => h.1⟩
  | t + 1, h, v, hv => by
    simp only [hrd]
    rw [tb_clr _ (hrd_lt hu t) _ (h t (by omega)) v hv, Bool.and_eq_true, decide_eq_true_eq, hrd_tb hu t (fun i hi => h i (by omega)) v hv]
    constructor
    · rintro ⟨⟨a, b⟩, c⟩
      refine ⟨a, fun i hi => ?_⟩
      by_cases e : i = t
      · subst e; exact fun z => c z.symm
      · exact b i (by omega)
    · rintro ⟨a, b⟩
      exact ⟨⟨a, fun i hi => b i (by omega)⟩, fun z => b t (by omega) z.symm⟩
theorem pop_hrd {X n : Nat} (hX : X < 64) {L : List Nat} (hn : n ≤ 6) (hg : ∀ i, i < n → gt L i < n) (hd : ∀ i j, i < n → j < i → gt L i ≠ gt L j) {k : Nat} (hk : k ≤ n) : ∀ t : Nat, t ≤ k → ((pop (X &&& hrd (gt L) (usd L k) t) : Nat) : Int) + cnB (fun i => X.testBit (gt L i)) t = cnB (fun i => X.testBit (gt L i)) k
  | 0, _ => by
    have := pop_usd hX hn hg hd k hk
    simp only [hrd, cnB]
    omega
  | t + 1, ht => by
    have ih := pop_hrd hX hn hg hd hk t (by omega)
    have hlt : ∀ i, i < k → gt L i < 6 := fun i hi => by have := hg i (by omega); omega
    have hu := usd_lt k hlt
    have hw := hlt t (by omega)
    have hb : (hrd (gt L) (usd L k) t).testBit (gt L t) = true := by
      rw [hrd_tb hu t (fun i hi => hlt i (by omega)) _ hw]
      exact ⟨(usd_tb k hlt _ hw).mpr ⟨t, by omega, rfl⟩, fun i hi z => hd t i (by omega) hi z.symm⟩
    rw [pop_clr X hX _ (hrd_lt hu t) _ hw hb] at ih
    simp only [hrd, cnB]
    split at ih <;> rename_i h1
    · rw [if_pos h1]; omega
    · rw [if_neg h1]; omega
theorem cnt_cnB {P : Int → Bool} {b : Nat → Bool} {t : Nat} : ∀ m : Nat, (∀ i : Nat, t ≤ i → i < t + m → P (i : Int) = b i) → cntI P (t : Int) m = cnB b (t + m) - cnB b t
  | 0, _ => by simp only [cntI]; show 0 = cnB b t - cnB b t; omega
  | m + 1, h => by
    have ih := cnt_cnB (P := P) (b := b) (t := t) m (fun i h0 h1 => h i h0 (by omega))
    have e : cnB b (t + (m + 1)) = cnB b (t + m) + (if b (t + m) = true then 1 else 0) := rfl
    simp only [cntI]
    rw [ih, e, show (t : Int) + (m : Int) = ((t + m : Nat) : Int) by omega, h (t + m) (by omega) (by omega)]
    omega
theorem cnB_cong {b b' : Nat → Bool} : ∀ k : Nat, (∀ i, i < k → b i = b' i) → cnB b k = cnB b' k
  | 0, _ => rfl
  | k + 1, h => by
    simp only [cnB]
    rw [cnB_cong k (fun i hi => h i (by omega)), h k (by omega)]
theorem pm_lo {M : xM} {r : Int} {L : List Nat} {k : Int} (hr : 0 ≤ r ∧ r < 4) (hl : L.length ≤ 6) (hk : (0 ≤ k ∧ k < 4) ∨ 76 ≤ k) : zI (pmM M r L) k = zI M k := by
  unfold zI pmM
  dsimp only
  rw [if_neg (by omega)]
theorem okZ_pm {M : xM} {r : Int} {L : List Nat} (hZ : okZ M) (hr : 0 ≤ r ∧ r < 4) (hl : L.length ≤ 6) : okZ (pmM M r L) := by
  unfold okZ
  rw [pm_lo hr hl (Or.inr (by decide)), pm_lo hr hl (Or.inr (by decide))]
  exact ⟨fun q h0 h1 => by rw [pm_lo hr hl (Or.inl ⟨h0, h1⟩)]; exact hZ.1 q h0 h1, hZ.2⟩
theorem pm_own {M : xM} {r : Int} {L : List Nat} (hr : 0 ≤ r ∧ r < 4) {i : Nat} (hi : i < L.length) : zI (pmM M r L) (28 + 6 * r + (i : Int)) = zI M (28 + 6 * r + (gt L i : Int)) := by
  unfold zI pmM
  dsimp only
  rw [if_pos ⟨rfl, by omega, by omega⟩, show (28 + 6 * r + (i : Int)).toNat - (28 + 6 * r.toNat) = i by omega, show (28 + 6 * r + (gt L i : Int)).toNat = 28 + 6 * r.toNat + gt L i by omega]
theorem pm_other {M : xM} {r r2 p : Int} {L : List Nat} (hr : 0 ≤ r ∧ r < 4) (hr2 : 0 ≤ r2 ∧ r2 < 4) (hne : r2 ≠ r) (hp : 0 ≤ p ∧ p < 6) (hl : L.length ≤ 6) : zI (pmM M r L) (28 + 6 * r2 + p) = zI M (28 + 6 * r2 + p) := by
  unfold zI pmM
  dsimp only
  rw [if_neg (by omega)]
theorem hb_out {M : xM} {r f t x : Int} (hr : ¬ (0 ≤ r ∧ r < 4)) : hbI M 1 r f t x = 0 := by
  unfold hbI
  rw [szI_out hr, show (min t (0 - 1) + 1 - max f 0).toNat = 0 by omega]
  rfl
theorem pm_behind {M : xM} {r f t x : Int} {L : List Nat} (hZ : okZ M) (hr : 0 ≤ r ∧ r < 4) (hl : L.length ≤ 6) : hbI (vW (pmM M r L)) 1 (rbI (vW (pmM M r L)) 1 r) f t x = hbI (vW M) 1 (rbI (vW M) 1 r) f t x := by
  have hne : rbI (vW M) 1 r ≠ r := by rw [vW_rb]; split <;> omega
  have e : rbI (vW (pmM M r L)) 1 r = rbI (vW M) 1 r := by rw [vW_rb, vW_rb, pm_lo hr hl (Or.inr (by decide))]
  rw [e]
  generalize rbI (vW M) 1 r = s at hne
  by_cases hs : 0 ≤ s ∧ s < 4
  · have hz := hZ.1 s hs.1 hs.2
    rw [vW_hb (okZ_pm hZ hr hl) hs, vW_hb hZ hs, pm_lo hr hl (Or.inl hs)]
    exact cntI_cong _ (fun i h0 h1 => by rw [pm_other hr hs hne (by omega) hl])
  · rw [hb_out hs, hb_out hs]
/-- one place of an order -/
theorem prF_pm {M : xM} {r : Int} (hZ : okZ M) (hr : 0 ≤ r ∧ r < 4) {L : List Nat} (hL : L ∈ prm (zI M r).toNat) {k : Nat} (hk : k < (zI M r).toNat) :
    prF (fun w => mkB (hoB (vW M) 1 r w) (zI M r).toNat) (fun w => mkB (obB (vW M) 1 r w) (zI M r).toNat) (gt L k) k (hrd (gt L) (usd L k) ((k : Int) - zI M 76).toNat) = hhI (vW (pmM M r L)) 1 r (k : Int) % 2 := by
  have hz := hZ.1 r hr.1 hr.2
  have hre := hZ.2.1
  obtain ⟨hl, hg, hd, -⟩ := prm_in (n := (zI M r).toNat) (by omega) hL
  have hgk := hg k hk
  have hS := vW_hS hZ
  have hlt := mkB_lt (hoB (vW M) 1 r (gt L k)) (zI M r).toNat (by omega)
  have hlb := mkB_lt (obB (vW M) 1 r (gt L k)) (zI M r).toNat (by omega)
  have heq : ∀ i, i < (zI M r).toNat → heI (vW M) 1 r (gt L i : Int) = zI (pmM M r L) (28 + 6 * r + (i : Int)) := fun i hi => by
    have := hg i hi
    rw [vW_he M hr (by omega), pm_own hr (by omega)]
  have ht : ((k : Int) - zI M 76).toNat ≤ k := by omega
  have hpop := pop_hrd hlt (by omega) hg hd (k := k) (by omega) ((k : Int) - zI M 76).toNat ht
  have hbit : ∀ i, i < k → (fun i => (mkB (hoB (vW M) 1 r (gt L k)) (zI M r).toNat).testBit (gt L i)) i = (fun i : Nat => decide (zI (pmM M r L) (28 + 6 * r + (k : Int)) < zI (pmM M r L) (28 + 6 * r + (i : Int)))) i := fun i hi => by
    have := hg i (by omega)
    show (mkB (hoB (vW M) 1 r (gt L k)) (zI M r).toNat).testBit (gt L i) = _
    rw [mkB_tb _ _ (by omega) _ (by omega), decide_eq_true this, Bool.true_and]
    unfold hoB
    rw [heq k hk, heq i (by omega)]
  have hcnt := cnt_cnB (P := fun q => decide (zI (pmM M r L) (28 + 6 * r + (k : Int)) < zI (pmM M r L) (28 + 6 * r + q))) (b := fun i : Nat => decide (zI (pmM M r L) (28 + 6 * r + (k : Int)) < zI (pmM M r L) (28 + 6 * r + (i : Int)))) (t := ((k : Int) - zI M 76).toNat) (k - ((k : Int) - zI M 76).toNat) (fun i _ _ => rfl)
  rw [show ((k : Int) - zI M 76).toNat + (k - ((k : Int) - zI M 76).toNat) = k by omega, ← cnB_cong k hbit, ← cnB_cong ((k : Int) - zI M 76).toNat (fun i hi => hbit i (by omega))] at hcnt
  have hown : hbI (vW (pmM M r L)) 1 r ((k : Int) - zI M 76) ((k : Int) - 1) (zI (pmM M r L) (28 + 6 * r + (k : Int))) = ((pop (mkB (hoB (vW M) 1 r (gt L k)) (zI M r).toNat &&& hrd (gt L) (usd L k) ((k : Int) - zI M 76).toNat) : Nat) : Int) := by
    rw [vW_hb (okZ_pm hZ hr (by omega)) hr, pm_lo hr (by omega) (Or.inl hr), show max ((k : Int) - zI M 76) 0 = ((((k : Int) - zI M 76).toNat : Nat) : Int) by omega, show (min ((k : Int) - 1) (zI M r - 1) + 1 - ((((k : Int) - zI M 76).toNat : Nat) : Int)).toNat = k - ((k : Int) - zI M 76).toNat by omega, hcnt]
    omega
  have hpar := shr_par _ hlb k (by omega)
  rw [mkB_tb _ _ (by omega) k (by omega), decide_eq_true hk, Bool.true_and] at hpar
  have hobe : obB (vW M) 1 r (gt L k) k = decide (hbI (vW M) 1 (rbI (vW M) 1 r) ((k : Int) - zI M 76) (k : Int) (zI (pmM M r L) (28 + 6 * r + (k : Int))) % 2 = 1) := by
    unfold obB
    rw [heq k hk, vW_4]
  have hbb := hbI_b hS (rbI (vW M) 1 r) ((k : Int) - zI M 76) (k : Int) (zI (pmM M r L) (28 + 6 * r + (k : Int)))
  unfold prF hhI
  dsimp only
  rw [vW_4, vW_he _ hr (by omega), pm_lo hr (by omega) (Or.inr (by decide)), hown, pm_behind hZ hr (by omega)]
  rw [hobe] at hpar
  generalize mkB (obB (vW M) 1 r (gt L k)) (zI M r).toNat >>> k = sb at hpar ⊢
  by_cases hx : hbI (vW M) 1 (rbI (vW M) 1 r) ((k : Int) - zI M 76) (k : Int) (zI (pmM M r L) (28 + 6 * r + (k : Int))) % 2 = 1
  · rw [decide_eq_true hx, if_pos rfl] at hpar
    omega
  · rw [decide_eq_false hx, if_neg (by decide)] at hpar
    omega
theorem oS_sum {H B : Nat → Nat} {rc : Int} {L : List Nat} {f : Int → Int} : ∀ n : Nat, (∀ k : Nat, k < n → prF H B (gt L k) k (hrd (gt L) (usd L k) ((k : Int) - rc).toNat) = f (k : Int)) → oS H B rc L n = sumI f n
  | 0, _ => rfl
  | n + 1, h => by
    simp only [oS, sumI]
    rw [oS_sum n (fun k hk => h k (by omega)), h n (by omega)]
theorem lf_ow {M : xM} {r : Int} (hZ : okZ M) (hr : 0 ≤ r ∧ r < 4) {L : List Nat} (hL : L ∈ prm (zI M r).toNat) :
    lfQ (fun w => mkB (hoB (vW M) 1 r w) (zI M r).toNat) (fun w => mkB (obB (vW M) 1 r w) (zI M r).toNat) (zI M 76) L = owQ M r L := by
  have hz := hZ.1 r hr.1 hr.2
  obtain ⟨hl, hg, hd, hi⟩ := prm_in (n := (zI M r).toNat) (by omega) hL
  unfold lfQ owQ
  rw [hl, hi, odZ_v (okZ_pm hZ hr (by omega)) hr]
  congr 1
  unfold odI
  rw [vW_sz _ hr, pm_lo hr (by omega) (Or.inl hr)]
  exact oS_sum _ (fun k hk => prF_pm hZ hr hL hk)
theorem fldQ_cong {f g : List Nat → Int × Int} : ∀ (l : List (List Nat)) (q : Int × Int), (∀ L ∈ l, f L = g L) → fldQ f l q = fldQ g l q
  | [], _, _ => rfl
  | L :: l, q, h => by
    simp only [fldQ]
    rw [h L List.mem_cons_self]
    exact fldQ_cong l _ (fun K hK => h K (List.mem_cons_of_mem _ hK))
/-- the most and the way are the same -/
theorem toQ_v {M : xM} {r : Int} (hZ : okZ M) (hr : 0 ≤ r ∧ r < 4) : toQ M r = goA (vW M) 1 r := by
  have hz := hZ.1 r hr.1 hr.2
  have hsz := vW_sz M hr
  rw [goA_fold (by rw [hsz]; exact hz) (by rw [vW_4]; have := hZ.2.1; omega), hsz, vW_4]
  unfold toQ
  rw [fldQ_cong (prm (zI M r).toNat) (-1, 0) (fun L hL => lf_ow hZ hr hL)]
  obtain ⟨rest, e, -⟩ := prm_ex (n := (zI M r).toNat) (by omega)
  rw [e]
  simp only [fldQ]
  have hmem : List.range (zI M r).toNat ∈ prm (zI M r).toNat := by rw [e]; exact List.mem_cons_self
  have h0 : 0 ≤ (owQ M r (List.range (zI M r).toNat)).1 := by
    unfold owQ
    exact (odZ_b (okZ_pm hZ hr (by rw [List.length_range]; omega)) hr).1
  have hu : ∀ w : Int, upQ (-1, w) (owQ M r (List.range (zI M r).toNat)) = owQ M r (List.range (zI M r).toNat) := fun w => by
    unfold upQ
    dsimp only
    rw [if_pos (by omega), if_pos (Or.inl (by omega))]
  rw [hu, hu]
theorem rwZ_v {M : xM} {r : Int} (hZ : okZ M) (hr : 0 ≤ r ∧ r < 4) (z : Int) : orZ M r z = owI (vW M) 1 r z := by
  unfold orZ owI
  rw [vW_sz M hr, odZ_v hZ hr, dcZ_v hZ hr, toQ_v hZ hr, hgZ_v hZ hr]
