/-! THE MODEL'S ROWS AS A CHOIR: vW M holds in the cells 1 to 5 what z holds; the model's looks are the class's looks at it. -/
def vW (M : xM) : xM := (fun a k => if a = 1 then M.1 69 (72 + k) else if a = 2 then M.1 69 k else if a = 3 then M.1 69 (4 + k) else if a = 4 then M.1 69 (28 + k) else if a = 5 then M.1 69 (52 + k) else M.1 a k, M.2)
theorem vW_sz (M : xM) {r : Int} (hr : 0 ≤ r ∧ r < 4) : szI (vW M) 1 r = zI M r := if_pos hr
theorem vW_hS {M : xM} (hZ : okZ M) : hSz (vW M) 1 := fun r => by
  by_cases hr : 0 ≤ r ∧ r < 4
  · rw [vW_sz M hr]; exact hZ.1 r hr.1 hr.2
  · rw [szI_out hr]; decide
theorem vW_he (M : xM) {r p : Int} (hr : 0 ≤ r ∧ r < 4) (hp : 0 ≤ p ∧ p < 6) : heI (vW M) 1 r p = zI M (28 + 6 * r + p) := by
  rw [heI_at hr hp]
  show (M.1 69 (28 + (6 * r + p).toNat)).toInt = (M.1 69 (28 + 6 * r + p).toNat).toInt
  rw [show 28 + (6 * r + p).toNat = (28 + 6 * r + p).toNat by omega]
theorem vW_nu (M : xM) {r p : Int} (hr : 0 ≤ r ∧ r < 4) (hp : 0 ≤ p ∧ p < 6) : rdI ((vW M).1 (1 + 2)) 24 (spI r p) = zI M (4 + 6 * r + p) := by
  rw [sp_in hr hp, rdI_at hr hp]
  show (M.1 69 (4 + (6 * r + p).toNat)).toInt = (M.1 69 (4 + 6 * r + p).toNat).toInt
  rw [show 4 + (6 * r + p).toNat = (4 + 6 * r + p).toNat by omega]
theorem vW_vo (M : xM) {r p : Int} (hr : 0 ≤ r ∧ r < 4) (hp : 0 ≤ p ∧ p < 6) : rdI ((vW M).1 (1 + 4)) 24 (spI r p) = zI M (52 + 6 * r + p) := by
  rw [sp_in hr hp, rdI_at hr hp]
  show (M.1 69 (52 + (6 * r + p).toNat)).toInt = (M.1 69 (52 + 6 * r + p).toNat).toInt
  rw [show 52 + (6 * r + p).toNat = (52 + 6 * r + p).toNat by omega]
theorem vW_4 (M : xM) : ((vW M).1 1 4).toInt = zI M 76 := rfl
theorem vW_5 (M : xM) : ((vW M).1 1 5).toInt = zI M 77 := rfl
theorem vW_rd (M : xM) {r p : Int} (hr : 0 ≤ r ∧ r < 4) (hp : 0 ≤ p ∧ p < 6) : rdI ((vW M).1 (1 + 3)) 24 (6 * r + p) = zI M (28 + 6 * r + p) := by
  rw [← vW_he M hr hp, heI_at hr hp, rdI_at hr hp]
/-- a sum of ones over an interval -/
theorem sum_iv (lo hi : Int) (P : Int → Bool) : ∀ n : Nat, sumI (fun q => b01 (decide (lo ≤ q ∧ q ≤ hi) && P q)) n = cntI P (max lo 0) (min hi ((n : Int) - 1) + 1 - max lo 0).toNat
  | 0 => by
    simp only [sumI]
    rw [show (min hi (((0 : Nat) : Int) - 1) + 1 - max lo 0).toNat = 0 by omega]
    rfl
  | n + 1 => by
    have ih := sum_iv lo hi P n
    simp only [sumI]
    rw [ih]
    by_cases h1 : lo ≤ (n : Int) ∧ (n : Int) ≤ hi
    · have e : (min hi (((n + 1 : Nat) : Int) - 1) + 1 - max lo 0).toNat = (min hi ((n : Int) - 1) + 1 - max lo 0).toNat + 1 := by omega
      rw [e]
      simp only [cntI]
      rw [show max lo 0 + (((min hi ((n : Int) - 1) + 1 - max lo 0).toNat : Nat) : Int) = (n : Int) by omega, decide_eq_true h1, Bool.true_and]
      unfold b01
      rfl
    · rw [show (min hi (((n + 1 : Nat) : Int) - 1) + 1 - max lo 0).toNat = (min hi ((n : Int) - 1) + 1 - max lo 0).toNat by omega, decide_eq_false h1, Bool.false_and]
      show _ + 0 = _
      omega
theorem sumI_z {f : Int → Int} : ∀ n : Nat, (∀ i : Int, 0 ≤ i → i < n → f i = 0) → sumI f n = 0
  | 0, _ => rfl
  | n + 1, h => by
    simp only [sumI]
    rw [sumI_z n (fun i h0 h1 => h i h0 (by omega)), h n (by omega) (by omega)]
    rfl
theorem cnt_all (lo : Int) : ∀ n : Nat, cntI (fun _ => true) lo n = n
  | 0 => rfl
  | n + 1 => by
    simp only [cntI]
    rw [cnt_all lo n, if_pos trivial]
    omega
theorem sum4 (f : Int → Int) : sumI f 4 = f 0 + f 1 + f 2 + f 3 := by
  show ((0 + f ((0 : Nat) : Int)) + f ((1 : Nat) : Int)) + f ((2 : Nat) : Int) + f ((3 : Nat) : Int) = _
  rw [Int.zero_add]
  rfl
/-- a sum over rows of which two alone count -/
theorem sum_two {f : Int → Int} {r s x y : Int} (hr : 0 ≤ r ∧ r < 4) (hx : f r = x) (hy : (0 ≤ s ∧ s < 4 → f s = y) ∧ (¬ (0 ≤ s ∧ s < 4) → y = 0)) (hrs : r ≠ s) (hz : ∀ i, 0 ≤ i → i < 4 → i ≠ r → i ≠ s → f i = 0) : sumI f 4 = x + y := by
  rw [sum4]
  by_cases hs : 0 ≤ s ∧ s < 4
  · have h1 := hy.1 hs
    have c : ∀ i : Int, 0 ≤ i → i < 4 → f i = if i = r then x else if i = s then y else 0 := fun i h0 h4 => by
      by_cases e1 : i = r
      · rw [if_pos e1, e1]; exact hx
      · rw [if_neg e1]
        by_cases e2 : i = s
        · rw [if_pos e2, e2]; exact h1
        · rw [if_neg e2]; exact hz i h0 h4 e1 e2
    rw [c 0 (by decide) (by decide), c 1 (by decide) (by decide), c 2 (by decide) (by decide), c 3 (by decide) (by decide)]
    have q1 : r = 0 ∨ r = 1 ∨ r = 2 ∨ r = 3 := by omega
    have q2 : s = 0 ∨ s = 1 ∨ s = 2 ∨ s = 3 := by omega
    rcases q1 with rfl | rfl | rfl | rfl <;> rcases q2 with rfl | rfl | rfl | rfl <;> first | exact absurd rfl hrs | (simp; done) | (simp; omega)
  · have h1 := hy.2 hs
    have c : ∀ i : Int, 0 ≤ i → i < 4 → f i = if i = r then x else 0 := fun i h0 h4 => by
      by_cases e1 : i = r
      · rw [if_pos e1, e1]; exact hx
      · rw [if_neg e1]; exact hz i h0 h4 e1 (fun z => hs (by omega))
    rw [c 0 (by decide) (by decide), c 1 (by decide) (by decide), c 2 (by decide) (by decide), c 3 (by decide) (by decide), h1]
    have q1 : r = 0 ∨ r = 1 ∨ r = 2 ∨ r = 3 := by omega
    rcases q1 with rfl | rfl | rfl | rfl <;> simp
theorem b01_eq {a b : Bool} (h : a = true ↔ b = true) : b01 a = b01 b := by rw [Bool.eq_iff_iff.mpr h]
theorem vW_rb (M : xM) (r : Int) : rbI (vW M) 1 r = if zI M 77 = 1 then r + 1 else -1 := rfl
theorem vW_rf (M : xM) (r : Int) : rfI (vW M) 1 r = if zI M 77 = 1 then r - 1 else -1 := rfl
theorem hrB_iff {M : xM} {r p rr pp : Int} : hrB M r p rr pp = true ↔ (p - zI M 76 ≤ pp ∧ ((rr = r ∧ pp < p) ∨ ((zI M 77 = 1 ∧ r < 3) ∧ rr = r + 1 ∧ pp ≤ p))) := decide_eq_true_iff
/-- what a singer hears, own row and the one behind: with any test P -/
theorem hear_sum {M : xM} (hZ : okZ M) {r p : Int} (hr : 0 ≤ r ∧ r < 4) (P : Int → Int → Bool) (hm : zI M 77 = 1 ∨ zI M 77 = 0) :
    sumI (fun rr => sumI (fun pp => b01 (hrB M r p rr pp && P rr pp)) (zI M rr).toNat) 4 = cntI (P r) (max (p - zI M 76) 0) (min (p - 1) (zI M r - 1) + 1 - max (p - zI M 76) 0).toNat + (if zI M 77 = 1 ∧ r < 3 then cntI (P (r + 1)) (max (p - zI M 76) 0) (min p (zI M (r + 1) - 1) + 1 - max (p - zI M 76) 0).toNat else 0) := by
  have hz := hZ.1 r hr.1 hr.2
  refine sum_two (r := r) (s := if zI M 77 = 1 then r + 1 else -1) hr ?_ ⟨fun hs => ?_, fun hs => ?_⟩ ?_ (fun i h0 h4 h1 h2 => ?_)
  · have := sum_iv (p - zI M 76) (p - 1) (P r) (zI M r).toNat
    rw [show (((zI M r).toNat : Nat) : Int) = zI M r by omega] at this
    rw [← this]
    refine sumI_cong _ (fun q _ _ => b01_eq ?_)
    rw [Bool.and_eq_true, Bool.and_eq_true, hrB_iff, decide_eq_true_eq]
    constructor
    · rintro ⟨h1, h2⟩; exact ⟨by omega, h2⟩
    · rintro ⟨h1, h2⟩; exact ⟨⟨by omega, Or.inl ⟨rfl, by omega⟩⟩, h2⟩
  · rcases hm with hm | hm
    · rw [if_pos hm] at hs ⊢
      rw [if_pos ⟨hm, by omega⟩]
      have hz1 := hZ.1 (r + 1) (by omega) (by omega)
      have := sum_iv (p - zI M 76) p (P (r + 1)) (zI M (r + 1)).toNat
      rw [show (((zI M (r + 1)).toNat : Nat) : Int) = zI M (r + 1) by omega] at this
      rw [← this]
      refine sumI_cong _ (fun q _ _ => b01_eq ?_)
      rw [Bool.and_eq_true, Bool.and_eq_true, hrB_iff, decide_eq_true_eq]
      constructor
      · rintro ⟨h1, h2⟩; exact ⟨by omega, h2⟩
      · rintro ⟨h1, h2⟩; exact ⟨⟨by omega, Or.inr ⟨⟨hm, by omega⟩, rfl, by omega⟩⟩, h2⟩
    · rw [if_neg (by omega)] at hs; omega
  · rcases hm with hm | hm
    · rw [if_pos hm] at hs; exact if_neg (by omega)
    · exact if_neg (by omega)
  · split <;> omega
  · refine sumI_z _ (fun q _ _ => b01_f (fun z => ?_))
    rw [Bool.and_eq_true, hrB_iff] at z
    obtain ⟨⟨z1, z2⟩, z3⟩ := z
    rcases z2 with z2 | z2
    · exact h1 z2.1
    · rw [if_pos z2.1.1] at h2; exact h2 z2.2.1
theorem vW_hb {M : xM} (hZ : okZ M) {r f t x : Int} (hr : 0 ≤ r ∧ r < 4) : hbI (vW M) 1 r f t x = cntI (fun q => decide (x < zI M (28 + 6 * r + q))) (max f 0) (min t (zI M r - 1) + 1 - max f 0).toNat := by
  have hz := hZ.1 r hr.1 hr.2
  unfold hbI
  rw [vW_sz M hr]
  refine cntI_cong _ (fun i h0 h1 => ?_)
  unfold hbP
  rw [vW_rd M hr (by omega)]
theorem mB {M : xM} (hZ : okZ M) : zI M 77 = 1 ∨ zI M 77 = 0 := by have := hZ.2.2; omega
/-- higher ones -/
theorem hhZ_v {M : xM} (hZ : okZ M) {r p : Int} (hr : 0 ≤ r ∧ r < 4) (hp : 0 ≤ p ∧ p < 6) : hhZ M r p = hhI (vW M) 1 r p := by
  have hm := mB hZ
  unfold hhZ
  rw [show (fun rr => sumI (fun pp => b01 (hiB M r p rr pp)) (zI M rr).toNat) = (fun rr => sumI (fun pp => b01 (hrB M r p rr pp && (fun a b => decide (zI M (28 + 6 * r + p) < zI M (28 + 6 * a + b))) rr pp)) (zI M rr).toNat) from rfl, hear_sum hZ hr _ hm]
  unfold hhI
  rw [vW_4, vW_he M hr hp, vW_hb hZ hr, vW_rb]
  congr 1
  by_cases h1 : zI M 77 = 1
  · rw [if_pos h1]
    by_cases h3 : r < 3
    · rw [if_pos ⟨h1, h3⟩, vW_hb hZ (by omega)]
    · rw [if_neg (fun z => h3 z.2)]
      unfold hbI
      rw [szI_out (by omega), show (min p (0 - 1) + 1 - max (p - zI M 76) 0).toNat = 0 by omega]
      rfl
  · rw [if_neg h1, if_neg (fun z => h1 z.1)]
    unfold hbI
    rw [szI_out (by omega), show (min p (0 - 1) + 1 - max (p - zI M 76) 0).toNat = 0 by omega]
    rfl
theorem odZ_v {M : xM} (hZ : okZ M) {r : Int} (hr : 0 ≤ r ∧ r < 4) : odZ M r = odI (vW M) 1 r := by
  have hz := hZ.1 r hr.1 hr.2
  unfold odZ odI
  rw [vW_sz M hr]
  exact sumI_cong _ (fun i h0 h1 => by rw [hhZ_v hZ hr (by omega)])
theorem oaZ_v {M : xM} (hZ : okZ M) : oaZ M = oaI (vW M) 1 := by
  unfold oaZ oaI
  rw [sum4, odZ_v hZ (by decide), odZ_v hZ (by decide), odZ_v hZ (by decide), odZ_v hZ (by decide)]
theorem dcZ_v {M : xM} (hZ : okZ M) {r : Int} (hr : 0 ≤ r ∧ r < 4) : dcZ M r = dcI (vW M) 1 r := by
  have hz := hZ.1 r hr.1 hr.2
  unfold dcZ dcI
  rw [vW_sz M hr]
  refine sumI_cong _ (fun i h0 h1 => ?_)
  rw [vW_he M hr (by omega), vW_hb hZ hr]
  have := sum_iv 0 (i - 1) (fun q => decide (zI M (28 + 6 * r + i) < zI M (28 + 6 * r + q))) i.toNat
  rw [show (((i.toNat : Nat)) : Int) = i by omega] at this
  rw [show (min (i - 1) (zI M r - 1) + 1 - max 0 0).toNat = (min (i - 1) (i - 1) + 1 - max 0 0).toNat by omega, ← this]
  refine sumI_cong _ (fun q h2 h3 => b01_eq ?_)
  rw [Bool.and_eq_true, decide_eq_true_eq, decide_eq_true_eq]
  constructor
  · intro z; exact ⟨by omega, z⟩
  · intro z; exact z.2
theorem hgZ_v {M : xM} (hZ : okZ M) {r : Int} (hr : 0 ≤ r ∧ r < 4) : hgZ M r = hiI (vW M) 1 r := by
  have hz := hZ.1 r hr.1 hr.2
  unfold hgZ hiI
  rw [vW_sz M hr]
  exact mxI_cong _ (fun i h0 h1 => (vW_he M hr (by omega)).symm)
theorem siZ_v (M : xM) : siZ M = sumI (szI (vW M) 1) 4 := by
  rw [sum4, vW_sz M (by decide), vW_sz M (by decide), vW_sz M (by decide), vW_sz M (by decide)]
  rfl
theorem sbI_v0 (M : xM) {r f t : Int} (hr : ¬ (0 ≤ r ∧ r < 4)) : sbI M 1 r f t = max 0 (min t (-1) - max f 0 + 1) := by unfold sbI; rw [szI_out hr]; rfl
theorem hdZ_v {M : xM} (hZ : okZ M) {r p : Int} (hr : 0 ≤ r ∧ r < 4) (hp : 0 ≤ p ∧ p < 6) : hdZ M r p = sbI (vW M) 1 r (p - zI M 76) (p - 1) + sbI (vW M) 1 (rbI (vW M) 1 r) (p - zI M 76) p := by
  have hm := mB hZ
  have hz := hZ.1 r hr.1 hr.2
  unfold hdZ
  rw [show (fun rr => sumI (fun pp => b01 (hrB M r p rr pp)) (zI M rr).toNat) = (fun rr => sumI (fun pp => b01 (hrB M r p rr pp && (fun _ _ => true) rr pp)) (zI M rr).toNat) from funext fun rr => by simp only [Bool.and_true], hear_sum hZ hr (fun _ _ => true) hm, cnt_all, cnt_all, vW_rb]
  unfold sbI
  rw [vW_sz M hr]
  by_cases h1 : zI M 77 = 1
  · rw [if_pos h1]
    by_cases h3 : r < 3
    · have hz1 := hZ.1 (r + 1) (by omega) (by omega)
      rw [if_pos ⟨h1, h3⟩, vW_sz M (r := r + 1) (by omega)]; omega
    · rw [if_neg (fun z => h3 z.2), szI_out (r := r + 1) (by omega)]; omega
  · rw [if_neg h1, if_neg (fun z => h1 z.1), szI_out (r := -1) (by omega)]; omega
theorem hsZ_v {M : xM} (hZ : okZ M) {r p : Int} (hr : 0 ≤ r ∧ r < 4) (hp : 0 ≤ p ∧ p < 6) : hsZ M r p = sbI (vW M) 1 r (p + 1) (p + zI M 76) + sbI (vW M) 1 (rfI (vW M) 1 r) p (p + zI M 76) := by
  have hm := mB hZ
  have hz := hZ.1 r hr.1 hr.2
  have hre := hZ.2.1
  unfold hsZ
  refine sum_two (r := r) (s := if zI M 77 = 1 then r - 1 else -1) hr ?_ ⟨fun hs => ?_, fun hs => ?_⟩ ?_ (fun i h0 h4 h1 h2 => ?_)
  · have := sum_iv (p + 1) (p + zI M 76) (fun _ => true) (zI M r).toNat
    rw [cnt_all, show (((zI M r).toNat : Nat) : Int) = zI M r by omega] at this
    unfold sbI
    rw [vW_sz M hr, show max 0 (min (p + zI M 76) (zI M r - 1) - max (p + 1) 0 + 1) = (((min (p + zI M 76) (zI M r - 1) + 1 - max (p + 1) 0).toNat : Nat) : Int) by omega, ← this]
    refine sumI_cong _ (fun q _ _ => b01_eq ?_)
    rw [Bool.and_eq_true, hrB_iff, decide_eq_true_eq]
    constructor
    · intro z; exact ⟨by omega, rfl⟩
    · intro z; exact ⟨by omega, Or.inl ⟨rfl, by omega⟩⟩
  · rw [vW_rf]
    rcases hm with hm | hm
    · rw [if_pos hm] at hs ⊢
      have hz1 := hZ.1 (r - 1) (by omega) (by omega)
      have := sum_iv p (p + zI M 76) (fun _ => true) (zI M (r - 1)).toNat
      rw [cnt_all, show (((zI M (r - 1)).toNat : Nat) : Int) = zI M (r - 1) by omega] at this
      unfold sbI
      rw [vW_sz M (r := r - 1) (by omega), show max 0 (min (p + zI M 76) (zI M (r - 1) - 1) - max p 0 + 1) = (((min (p + zI M 76) (zI M (r - 1) - 1) + 1 - max p 0).toNat : Nat) : Int) by omega, ← this]
      refine sumI_cong _ (fun q _ _ => b01_eq ?_)
      rw [Bool.and_eq_true, hrB_iff, decide_eq_true_eq]
      constructor
      · intro z; exact ⟨by omega, rfl⟩
      · intro z; exact ⟨by omega, Or.inr ⟨⟨hm, by omega⟩, by omega, by omega⟩⟩
    · rw [if_neg (by omega)] at hs; omega
  · rw [vW_rf]
    rcases hm with hm | hm
    · rw [if_pos hm] at hs ⊢
      rw [sbI_v0 (vW M) (r := r - 1) (by omega)]
      omega
    · rw [if_neg (by omega), sbI_v0 (vW M) (r := -1) (by omega)]
      omega
  · split <;> omega
  · refine sumI_z _ (fun q _ _ => b01_f (fun z => ?_))
    rw [hrB_iff] at z
    rcases z.2 with z2 | z2
    · exact h1 z2.1.symm
    · rw [if_pos z2.1.1] at h2; exact h2 (by omega)
theorem osZ_v {M : xM} (hZ : okZ M) {r p : Int} (hr : 0 ≤ r ∧ r < 4) (hp : 0 ≤ p ∧ p < 6) (z : Int) : osZ M r p z = osI (vW M) 1 r p z := by
  unfold osZ osI
  rw [vW_nu M hr hp, vW_vo M hr hp, vW_he M hr hp, hdZ_v hZ hr hp, hsZ_v hZ hr hp, hhZ_v hZ hr hp, vW_4]
theorem noZ_v {M : xM} (hZ : okZ M) {z : Int} (hz0 : 0 ≤ z) : noZ M z = if z < 8 then ohI (vW M) z else (M.1 68 2).toInt := by
  have e6 : ((vW M).1 1 6).toInt = zI M 78 := rfl
  have e7 : ((vW M).1 1 7).toInt = zI M 79 := rfl
  have e8 : ((vW M).1 1 8).toInt = zI M 80 := rfl
  have es := siZ_v M
  unfold siZ at es
  have ed : dcZ M 0 + dcZ M 1 + dcZ M 2 + dcZ M 3 = daI (vW M) 1 := by
    unfold daI
    rw [sum4, dcZ_v hZ (by decide), dcZ_v hZ (by decide), dcZ_v hZ (by decide), dcZ_v hZ (by decide)]
  unfold noZ ohI
  rw [e6, e7, e8, vW_4, vW_5, ← es, ed, oaZ_v hZ]
  by_cases h : z < 8
  · rw [if_pos h]
    (repeat' split) <;> first | rfl | (exfalso; omega)
  · rw [if_neg h]
    (repeat' split) <;> first | rfl | (exfalso; omega)
