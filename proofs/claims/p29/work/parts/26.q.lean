/-! THE LAW'S OWN ARRAYS: heights h and counts n as a virtual choir; what the law counts in them is what the class counts there. (The rows on eqH come from the proof of whole.) -/
/-- only sizes, heights and how far one hears -/
def eqH (M M' : xM) (c c' : Nat) : Prop := (∀ j, j < 4 → M'.1 (c' + 1) j = M.1 (c + 1) j) ∧ (∀ r p : Int, 0 ≤ r → r < 4 → 0 ≤ p → p < szI M c r → M'.1 (c' + 3) (6 * r + p).toNat = M.1 (c + 3) (6 * r + p).toNat) ∧ (∀ j, j = 4 ∨ j = 5 → M'.1 c' j = M.1 c j)
section EQH
variable {M M' : xM} {c c' : Nat}
theorem szI_h (h : eqH M M' c c') (r : Int) : szI M' c' r = szI M c r := by
  unfold szI
  split
  · rw [h.1 _ (by omega)]
  · rfl
theorem heI_h (h : eqH M M' c c') (hS : hSz M c) {r p : Int} (hr : 0 ≤ r ∧ r < 4) (hp : 0 ≤ p ∧ p < szI M c r) : heI M' c' r p = heI M c r p := by
  have := hS r
  rw [heI_at hr (by omega), heI_at hr (by omega), h.2.1 r p hr.1 hr.2 hp.1 hp.2]
theorem hbI_h (h : eqH M M' c c') (hS : hSz M c) (r f t x : Int) : hbI M' c' r f t x = hbI M c r f t x := by
  have hs := hS r
  unfold hbI
  rw [szI_h h]
  by_cases hr : 0 ≤ r ∧ r < 4
  · refine cntI_cong _ (fun i h0 h1 => ?_)
    unfold hbP
    rw [rdI_at hr (by omega), rdI_at hr (by omega), h.2.1 r i hr.1 hr.2 (by omega) (by omega)]
  · rw [szI_out hr, show (min t (0 - 1) + 1 - max f 0).toNat = 0 by omega]
    simp only [cntI]
theorem hhI_h (h : eqH M M' c c') (hS : hSz M c) {r p : Int} (hr : 0 ≤ r ∧ r < 4) (hp : 0 ≤ p ∧ p < szI M c r) : hhI M' c' r p = hhI M c r p := by
  unfold hhI
  rw [heI_h h hS hr hp, show rbI M' c' r = rbI M c r by unfold rbI; rw [h.2.2 5 (Or.inr rfl)], h.2.2 4 (Or.inl rfl), hbI_h h hS, hbI_h h hS]
theorem odI_h (h : eqH M M' c c') (hS : hSz M c) (r : Int) : odI M' c' r = odI M c r := by
  have hs := hS r
  unfold odI
  rw [szI_h h]
  by_cases hr : 0 ≤ r ∧ r < 4
  · exact sumI_cong _ (fun i h0 h1 => by rw [hhI_h h hS hr (by omega)])
  · rw [szI_out hr, show (0 : Int).toNat = 0 from rfl]; simp only [sumI]
theorem oaI_h (h : eqH M M' c c') (hS : hSz M c) : oaI M' c' = oaI M c := by
  unfold oaI
  rw [show odI M' c' = odI M c from funext fun r => odI_h h hS r]
theorem rbI_h (h : eqH M M' c c') (r : Int) : rbI M' c' r = rbI M c r := by unfold rbI; rw [h.2.2 5 (Or.inr rfl)]
theorem rfI_h (h : eqH M M' c c') (r : Int) : rfI M' c' r = rfI M c r := by unfold rfI; rw [h.2.2 5 (Or.inr rfl)]
theorem sbI_h (h : eqH M M' c c') (r f t : Int) : sbI M' c' r f t = sbI M c r f t := by unfold sbI; rw [szI_h h]
theorem dcI_h (h : eqH M M' c c') (hS : hSz M c) (r : Int) : dcI M' c' r = dcI M c r := by
  have hs := hS r
  unfold dcI
  rw [szI_h h]
  by_cases hr : 0 ≤ r ∧ r < 4
  · exact sumI_cong _ (fun i h0 h1 => by rw [heI_h h hS hr (by omega), hbI_h h hS])
  · rw [szI_out hr, show (0 : Int).toNat = 0 from rfl]; simp only [sumI]
theorem daI_h (h : eqH M M' c c') (hS : hSz M c) : daI M' c' = daI M c := by
  unfold daI
  rw [show dcI M' c' = dcI M c from funext fun r => dcI_h h hS r]
theorem hiI_h (h : eqH M M' c c') (hS : hSz M c) (r : Int) : hiI M' c' r = hiI M c r := by
  have hs := hS r
  unfold hiI
  rw [szI_h h]
  by_cases hr : 0 ≤ r ∧ r < 4
  · exact mxI_cong _ (fun i h0 h1 => heI_h h hS hr (by omega))
  · rw [szI_out hr, show (0 : Int).toNat = 0 from rfl]; simp only [mxI]
theorem goA_h (h : eqH M M' c c') (hS : hSz M c) {r : Int} (hr : 0 ≤ r ∧ r < 4) : goA M' c' r = goA M c r := by
  have hs := hS r
  unfold goA
  rw [szI_h h, h.2.2 4 (Or.inl rfl)]
  refine chA_cong (fun w hw => mkB_cong _ (fun i hi => ?_)) (fun w hw => mkB_cong _ (fun i hi => ?_)) _ _ _ _ _ _ _
  · unfold hoB
    rw [heI_h h hS hr (by omega), heI_h h hS hr (by omega)]
  · unfold obB
    rw [heI_h h hS hr (by omega), rbI_h h, hbI_h h hS, h.2.2 4 (Or.inl rfl)]
end EQH
theorem eqH_of_V {M M' : xM} {c c' : Nat} (h : eqV M M' c c') : eqH M M' c c' := ⟨h.1, fun r p h0 h1 h2 h3 => (h.2.1 r p h0 h1 h2 h3).2.1, fun j hj => h.2.2 j (by omega) (by omega)⟩
theorem eqH_trans {M M' M2 : xM} {c c' c2 : Nat} (h : eqH M M' c c') (g : eqH M' M2 c' c2) : eqH M M2 c c2 :=
  ⟨fun j hj => (g.1 j hj).trans (h.1 j hj), fun r p h0 h1 h2 h3 => (g.2.1 r p h0 h1 h2 (by rw [szI_h h]; exact h3)).trans (h.2.1 r p h0 h1 h2 h3), fun j hj => (g.2.2 j hj).trans (h.2.2 j hj)⟩
theorem eqH_symm {M M' : xM} {c c' : Nat} (h : eqH M M' c c') : eqH M' M c' c :=
  ⟨fun j hj => (h.1 j hj).symm, fun r p h0 h1 h2 h3 => (h.2.1 r p h0 h1 h2 (by rw [← szI_h h]; exact h3)).symm, fun j hj => (h.2.2 j hj).symm⟩
abbrev aT : Type := Nat → Int32
abbrev hgt (h : aT) (r p : Int) : Int := (h (6 * r + p).toNat).toInt
def posB (h : aT) (r : Int) : Int → Bool := fun p => decide (0 < hgt h r p)
def mnI (h : aT) (r : Int) : Int := cntI (posB h r) 0 6
theorem mnI_b (h : aT) (r : Int) : 0 ≤ mnI h r ∧ mnI h r ≤ 6 := cntI_b (posB h r) 0 6
def vC (h n : aT) : xM := (fun b k => if b = 1 then n (k - 4) else if b = 2 then jI (mnI h (k : Int)) else if b = 4 then h k else 0, (fun _ _ => none, fun _ _ => 0))
def okA (h n : aT) : Prop := (∀ r p : Int, 0 ≤ r → r < 4 → 0 ≤ p → p < 6 → (p < mnI h r → 0 < hgt h r p ∧ hgt h r p ≤ 1000) ∧ (mnI h r ≤ p → hgt h r p = 0)) ∧ (1 ≤ (n 0).toInt ∧ (n 0).toInt ≤ 6) ∧ ((n 1).toInt = 0 ∨ (n 1).toInt = 1)
theorem vC_sz (h n : aT) {r : Int} (hr : 0 ≤ r ∧ r < 4) : szI (vC h n) 1 r = mnI h r := by
  have hb := mnI_b h r
  unfold szI
  rw [if_pos hr]
  show (jI (mnI h ((r.toNat : Nat) : Int))).toInt = _
  rw [show ((r.toNat : Nat) : Int) = r by omega, jI_toInt (by omega)]
theorem vC_hS (h n : aT) : hSz (vC h n) 1 := fun r => by
  by_cases hr : 0 ≤ r ∧ r < 4
  · rw [vC_sz h n hr]; exact mnI_b h r
  · rw [szI_out hr]; decide
theorem vC_he (h n : aT) {r p : Int} (hr : 0 ≤ r ∧ r < 4) (hp : 0 ≤ p ∧ p < 6) : heI (vC h n) 1 r p = hgt h r p := by
  rw [heI_at hr hp]
  rfl
theorem vC_rd (h n : aT) {r p : Int} (hr : 0 ≤ r ∧ r < 4) (hp : 0 ≤ p ∧ p < 6) : rdI ((vC h n).1 (1 + 3)) 24 (6 * r + p) = hgt h r p := by
  rw [rdI_at hr hp]
  rfl
theorem vC_4 (h n : aT) : ((vC h n).1 1 4).toInt = (n 0).toInt := rfl
theorem vC_5 (h n : aT) : ((vC h n).1 1 5).toInt = (n 1).toInt := rfl
theorem vC_rb (h n : aT) (r : Int) : rbI (vC h n) 1 r = if (n 1).toInt = 1 then r + 1 else -1 := rfl
theorem vC_rf (h n : aT) (r : Int) : rfI (vC h n) 1 r = if (n 1).toInt = 1 then r - 1 else -1 := rfl
theorem okA_k {h n : aT} (hA : okA h n) {k : Nat} (hk : k < 24) : 0 ≤ (h k).toInt ∧ (h k).toInt ≤ 1000 := by
  have a := hA.1 ((k : Int) / 6) ((k : Int) % 6) (by omega) (by omega) (by omega) (by omega)
  have e : (6 * ((k : Int) / 6) + (k : Int) % 6).toNat = k := by omega
  unfold hgt at a
  rw [e] at a
  by_cases h1 : (k : Int) % 6 < mnI h ((k : Int) / 6)
  · have := a.1 h1; omega
  · have := a.2 (by omega); omega
theorem vC_ok {h n : aT} (hA : okA h n) : okC (vC h n) 1 := by
  refine ⟨vC_hS h n, hA.2.1, hA.2.2, fun k hk => ?_⟩
  have := okA_k hA hk
  show -1 ≤ (h k).toInt ∧ (h k).toInt ≤ 1000
  omega
/-! sums over an interval -/
def smF (f : Int → Int) (lo : Int) : Nat → Int
  | 0 => 0
  | n + 1 => smF f lo n + f (lo + n)
theorem smF_step (f : Int → Int) {lo i : Int} (h : lo ≤ i) : smF f lo (i + 1 - lo).toNat = smF f lo (i - lo).toNat + f i := by
  rw [show (i + 1 - lo).toNat = (i - lo).toNat + 1 by omega]
  show smF f lo (i - lo).toNat + f (lo + (((i - lo).toNat : Nat) : Int)) = _
  rw [show lo + (((i - lo).toNat : Nat) : Int) = i by omega]
theorem smF_b {f : Int → Int} {lo b : Int} : ∀ m : Nat, (∀ x : Int, lo ≤ x → x < lo + m → 0 ≤ f x ∧ f x ≤ b) → 0 ≤ smF f lo m ∧ smF f lo m ≤ b * m
  | 0, _ => by simp [smF]
  | m + 1, h => by
    have h1 := smF_b m (fun x h0 h1 => h x h0 (by omega))
    have h2 := h (lo + m) (by omega) (by omega)
    simp only [smF]
    rw [show b * ((m + 1 : Nat) : Int) = b * (m : Int) + b by rw [Int.natCast_add, Int.mul_add]; simp]
    omega
theorem smF_4 {a b c d : Int → Prop} [DecidablePred a] [DecidablePred b] [DecidablePred c] [DecidablePred d] (lo : Int) : ∀ m : Nat, smF (fun x => (if a x then 1 else 0) + (if b x then 1 else 0) + (if c x then 100 else 0) + (if d x then 100 else 0)) lo m = cntI (fun x => decide (a x)) lo m + cntI (fun x => decide (b x)) lo m + 100 * (cntI (fun x => decide (c x)) lo m + cntI (fun x => decide (d x)) lo m)
  | 0 => rfl
  | m + 1 => by
    simp only [smF, cntI, decide_eq_true_eq]
    rw [smF_4 lo m]
    generalize cntI (fun x => decide (a x)) lo m = w1
    generalize cntI (fun x => decide (b x)) lo m = w2
    generalize cntI (fun x => decide (c x)) lo m = w3
    generalize cntI (fun x => decide (d x)) lo m = w4
    have e1 : (if c (lo + (m : Int)) then (100 : Int) else 0) = 100 * (if c (lo + (m : Int)) then (1 : Int) else 0) := by split <;> rfl
    have e2 : (if d (lo + (m : Int)) then (100 : Int) else 0) = 100 * (if d (lo + (m : Int)) then (1 : Int) else 0) := by split <;> rfl
    rw [e1, e2]
    omega
theorem smF_2 {a b : Int → Prop} [DecidablePred a] [DecidablePred b] (lo : Int) : ∀ m : Nat, smF (fun x => (if a x then 1 else 0) + (if b x then 1 else 0)) lo m = cntI (fun x => decide (a x)) lo m + cntI (fun x => decide (b x)) lo m
  | 0 => rfl
  | m + 1 => by
    simp only [smF, cntI, decide_eq_true_eq]
    rw [smF_2 lo m]
    omega
/-- nothing behind the end counts -/
theorem cnt_tr {P : Int → Bool} {lo : Int} {m' : Nat} : ∀ m : Nat, m' ≤ m → (∀ x : Int, lo + m' ≤ x → x < lo + m → P x = false) → cntI P lo m = cntI P lo m'
  | 0, h, _ => by rw [show m' = 0 by omega]
  | m + 1, h, hP => by
    by_cases e : m' = m + 1
    · rw [e]
    · simp only [cntI]
      rw [cnt_tr m (by omega) (fun x h0 h1 => hP x h0 (by omega)), if_neg (by rw [hP (lo + m) (by omega) (by omega)]; decide)]
      omega
theorem cnt_le (t lo : Int) : ∀ m : Nat, cntI (fun x => decide (x ≤ t)) lo m = max 0 (min t (lo + m - 1) - lo + 1)
  | 0 => by simp only [cntI]; omega
  | m + 1 => by
    simp only [cntI, decide_eq_true_eq]
    rw [cnt_le t lo m]
    split <;> omega
theorem cnt_iv (s t lo : Int) : ∀ m : Nat, cntI (fun x => decide (s ≤ x ∧ x ≤ t)) lo m = max 0 (min t (lo + m - 1) - max s lo + 1)
  | 0 => by simp only [cntI]; omega
  | m + 1 => by
    simp only [cntI, decide_eq_true_eq]
    rw [cnt_iv s t lo m]
    split <;> omega
theorem cnt_no (lo : Int) : ∀ m : Nat, cntI (fun _ => false) lo m = 0
  | 0 => rfl
  | m + 1 => by simp only [cntI]; rw [cnt_no lo m]; rfl
/-! who is heard -/
def hlf (h : aT) (r p x : Int) : Int := if x < p then hgt h r x else 0
def hbe (h n : aT) (r x : Int) : Int := if r < 3 ∧ (n 1).toInt = 1 then (h (6 * r + 6 + x).toNat).toInt else 0
def heT (h n : aT) (r p : Int) : Int → Int := fun x => (if 0 < hlf h r p x then 1 else 0) + (if 0 < hbe h n r x then 1 else 0) + (if hgt h r p < hlf h r p x then 100 else 0) + (if hgt h r p < hbe h n r x then 100 else 0)
def heV (h n : aT) (r p : Int) : Int := smF (heT h n r p) (max (p - (n 0).toInt) 0) (p + 1 - max (p - (n 0).toInt) 0).toNat
def hdV (h n : aT) (r p : Int) : Int := sbI (vC h n) 1 r (p - (n 0).toInt) (p - 1) + sbI (vC h n) 1 (rbI (vC h n) 1 r) (p - (n 0).toInt) p
theorem six_r (r x : Int) : 6 * r + 6 + x = 6 * (r + 1) + x := by omega
theorem heV_eq {h n : aT} (hA : okA h n) {r p : Int} (hr : 0 ≤ r ∧ r < 4) (hp : 0 ≤ p ∧ p < mnI h r) : heV h n r p = hdV h n r p + 100 * hhI (vC h n) 1 r p := by
  have hb := mnI_b h r
  have hn := hA.2.1
  have hm := hA.2.2
  have own := ((hA.1 r p hr.1 hr.2 hp.1 (by omega)).1 hp.2).1
  unfold heV heT
  rw [smF_4]
  obtain ⟨lo, hlo⟩ : ∃ lo, lo = max (p - (n 0).toInt) 0 := ⟨_, rfl⟩
  rw [← hlo]
  have hl0 : 0 ≤ lo ∧ lo ≤ p := by omega
  have c1 : cntI (fun x => decide (0 < hlf h r p x)) lo (p + 1 - lo).toNat = sbI (vC h n) 1 r (p - (n 0).toInt) (p - 1) := by
    rw [cntI_cong (Q := fun x => decide (x ≤ p - 1)) _ (fun x h0 h1 => ?_), cnt_le]
    · unfold sbI
      rw [vC_sz h n hr, ← hlo]
      omega
    · unfold hlf
      by_cases hx : x < p
      · have := ((hA.1 r x hr.1 hr.2 (by omega) (by omega)).1 (by omega)).1
        rw [if_pos hx, decide_eq_true this, decide_eq_true (by omega)]
      · rw [if_neg hx, decide_eq_false (by omega), decide_eq_false (by omega)]
  have c3 : cntI (fun x => decide (hgt h r p < hlf h r p x)) lo (p + 1 - lo).toNat = hbI (vC h n) 1 r (p - (n 0).toInt) (p - 1) (hgt h r p) := by
    unfold hbI
    rw [vC_sz h n hr, ← hlo, show (min (p - 1) (mnI h r - 1) + 1 - lo).toNat = (p - lo).toNat by omega]
    rw [cnt_tr (m' := (p - lo).toNat) _ (by omega) (fun x h0 h1 => ?_)]
    · refine cntI_cong _ (fun x h0 h1 => ?_)
      unfold hlf hbP
      rw [if_pos (by omega), vC_rd h n hr (by omega)]
    · unfold hlf
      rw [if_neg (by omega)]
      exact decide_eq_false (by omega)
  have c2 : cntI (fun x => decide (0 < hbe h n r x)) lo (p + 1 - lo).toNat = sbI (vC h n) 1 (rbI (vC h n) 1 r) (p - (n 0).toInt) p := by
    rw [vC_rb]
    by_cases hz : r < 3 ∧ (n 1).toInt = 1
    · have hb1 := mnI_b h (r + 1)
      rw [if_pos hz.2]
      rw [cntI_cong (Q := fun x => decide (x ≤ mnI h (r + 1) - 1)) _ (fun x h0 h1 => ?_), cnt_le]
      · unfold sbI
        rw [vC_sz h n (by omega), ← hlo]
        omega
      · unfold hbe
        rw [if_pos hz, six_r]
        have a := hA.1 (r + 1) x (by omega) (by omega) (by omega) (by omega)
        by_cases hx : x < mnI h (r + 1)
        · rw [decide_eq_true (a.1 hx).1, decide_eq_true (by omega)]
        · have : (h (6 * (r + 1) + x).toNat).toInt = 0 := a.2 (by omega)
          rw [decide_eq_false (by omega), decide_eq_false (by omega)]
    · rw [cntI_cong (Q := fun _ => false) _ (fun x h0 h1 => by unfold hbe; rw [if_neg hz]; rfl), cnt_no]
      unfold sbI
      rw [szI_out (by split <;> omega)]
      omega
  have c4 : cntI (fun x => decide (hgt h r p < hbe h n r x)) lo (p + 1 - lo).toNat = hbI (vC h n) 1 (rbI (vC h n) 1 r) (p - (n 0).toInt) p (hgt h r p) := by
    rw [vC_rb]
    unfold hbI
    by_cases hz : r < 3 ∧ (n 1).toInt = 1
    · have hb1 := mnI_b h (r + 1)
      rw [if_pos hz.2, vC_sz h n (by omega), ← hlo]
      rw [cnt_tr (m' := (min p (mnI h (r + 1) - 1) + 1 - lo).toNat) _ (by omega) (fun x h0 h1 => ?_)]
      · refine cntI_cong _ (fun x h0 h1 => ?_)
        unfold hbe hbP
        rw [if_pos hz, six_r, vC_rd h n (by omega) (by omega)]
      · unfold hbe
        rw [if_pos hz, six_r]
        have a := hA.1 (r + 1) x (by omega) (by omega) (by omega) (by omega)
        have : (h (6 * (r + 1) + x).toNat).toInt = 0 := a.2 (by omega)
        exact decide_eq_false (by omega)
    · rw [cntI_cong (Q := fun _ => false) _ (fun x h0 h1 => by unfold hbe; rw [if_neg hz]; exact decide_eq_false (by omega)), cnt_no]
      rw [szI_out (by split <;> omega), show (min p (0 - 1) + 1 - max (p - (n 0).toInt) 0).toNat = 0 by omega]
      rfl
  rw [c1, c2, c3, c4]
  unfold hdV hhI
  rw [vC_4, vC_he h n hr (by omega)]
theorem hdV_b (h n : aT) (r p : Int) : 0 ≤ hdV h n r p ∧ hdV h n r p ≤ 12 := by
  have h1 := sbI_b (vC_hS h n) r (p - (n 0).toInt) (p - 1)
  have h2 := sbI_b (vC_hS h n) (rbI (vC h n) 1 r) (p - (n 0).toInt) p
  unfold hdV
  omega
/-! who hears -/
def hrT (h n : aT) (r p : Int) : Int → Int := fun x => (if p < x ∧ 0 < hgt h r x then 1 else 0) + (if 0 < r ∧ (n 1).toInt = 1 ∧ 0 < (h (6 * r - 6 + x).toNat).toInt then 1 else 0)
def hrV (h n : aT) (r p : Int) : Int := smF (hrT h n r p) p (min 6 (p + (n 0).toInt + 1) - p).toNat
theorem hrV_eq {h n : aT} (hA : okA h n) {r p : Int} (hr : 0 ≤ r ∧ r < 4) (hp : 0 ≤ p ∧ p < mnI h r) : hrV h n r p = sbI (vC h n) 1 r (p + 1) (p + (n 0).toInt) + sbI (vC h n) 1 (rfI (vC h n) 1 r) p (p + (n 0).toInt) := by
  have hb := mnI_b h r
  have hn := hA.2.1
  have hm := hA.2.2
  unfold hrV hrT
  rw [smF_2]
  have c1 : cntI (fun x => decide (p < x ∧ 0 < hgt h r x)) p (min 6 (p + (n 0).toInt + 1) - p).toNat = sbI (vC h n) 1 r (p + 1) (p + (n 0).toInt) := by
    rw [cntI_cong (Q := fun x => decide (p + 1 ≤ x ∧ x ≤ mnI h r - 1)) _ (fun x h0 h1 => ?_), cnt_iv]
    · unfold sbI
      rw [vC_sz h n hr]
      omega
    · have a := hA.1 r x hr.1 hr.2 (by omega) (by omega)
      by_cases hx : x < mnI h r
      · have := (a.1 hx).1
        by_cases h9 : p < x
        · rw [decide_eq_true ⟨h9, this⟩, decide_eq_true (by omega)]
        · rw [decide_eq_false (fun z => h9 z.1), decide_eq_false (by omega)]
      · have := a.2 (by omega)
        rw [decide_eq_false (fun z => by omega), decide_eq_false (by omega)]
  have c2 : cntI (fun x => decide (0 < r ∧ (n 1).toInt = 1 ∧ 0 < (h (6 * r - 6 + x).toNat).toInt)) p (min 6 (p + (n 0).toInt + 1) - p).toNat = sbI (vC h n) 1 (rfI (vC h n) 1 r) p (p + (n 0).toInt) := by
    rw [vC_rf]
    by_cases hz : 0 < r ∧ (n 1).toInt = 1
    · have hb1 := mnI_b h (r - 1)
      rw [if_pos hz.2]
      rw [cntI_cong (Q := fun x => decide (x ≤ mnI h (r - 1) - 1)) _ (fun x h0 h1 => ?_), cnt_le]
      · unfold sbI
        rw [vC_sz h n (by omega)]
        omega
      · have a := hA.1 (r - 1) x (by omega) (by omega) (by omega) (by omega)
        unfold hgt at a
        rw [show 6 * (r - 1) + x = 6 * r - 6 + x by omega] at a
        by_cases hx : x < mnI h (r - 1)
        · rw [decide_eq_true ⟨hz.1, hz.2, (a.1 hx).1⟩, decide_eq_true (by omega)]
        · have := a.2 (by omega)
          rw [decide_eq_false (fun z => by omega), decide_eq_false (by omega)]
    · rw [cntI_cong (Q := fun _ => false) _ (fun x h0 h1 => decide_eq_false (fun z => hz ⟨z.1, z.2.1⟩)), cnt_no]
      unfold sbI
      rw [szI_out (by split <;> omega)]
      omega
  rw [c1, c2]
/-! discord: each pair once, from either side -/
theorem pairs (T : Int → Int → Bool) : ∀ m : Nat, smF (fun a => cntI (T a) (a + 1) ((m : Int) - a - 1).toNat) 0 m = sumI (fun b => cntI (fun a => T a b) 0 b.toNat) m
  | 0 => rfl
  | m + 1 => by
    have ih := pairs T m
    have key : ∀ j : Nat, j ≤ m → smF (fun a => cntI (T a) (a + 1) (((m + 1 : Nat) : Int) - a - 1).toNat) 0 j = smF (fun a => cntI (T a) (a + 1) ((m : Int) - a - 1).toNat) 0 j + cntI (fun a => T a (m : Int)) 0 j := by
      intro j
      induction j with
      | zero => intro _; rfl
      | succ j ih2 =>
        intro hj
        simp only [smF, cntI]
        rw [ih2 (by omega)]
        have e : (((m + 1 : Nat) : Int) - (0 + (j : Int)) - 1).toNat = ((m : Int) - (0 + (j : Int)) - 1).toNat + 1 := by omega
        rw [e]
        simp only [cntI]
        rw [show 0 + (j : Int) + 1 + ((((m : Int) - (0 + (j : Int)) - 1).toNat : Nat) : Int) = (m : Int) by omega]
        omega
    simp only [smF, sumI]
    rw [key m (Nat.le_refl _), ih, show (((m + 1 : Nat) : Int) - (0 + (m : Int)) - 1).toNat = 0 by omega, show ((m : Int)).toNat = m by omega]
    simp only [cntI]
    omega
def dcT (h : aT) (r : Int) : Int → Int → Bool := fun a b => decide (hgt h r b < hgt h r a)
def dcV (h : aT) (r : Int) : Int := smF (fun a => cntI (dcT h r a) (a + 1) (mnI h r - a - 1).toNat) 0 (mnI h r).toNat
theorem dcV_eq {h n : aT} {r : Int} (hr : 0 ≤ r ∧ r < 4) : dcV h r = dcI (vC h n) 1 r := by
  have hb := mnI_b h r
  unfold dcV dcI
  rw [vC_sz h n hr]
  have := pairs (dcT h r) (mnI h r).toNat
  rw [show (((mnI h r).toNat : Nat) : Int) = mnI h r by omega] at this
  rw [this]
  refine sumI_cong _ (fun b h0 h1 => ?_)
  unfold hbI
  rw [vC_sz h n hr, show (min (b - 1) (mnI h r - 1) + 1 - max 0 0).toNat = b.toNat by omega]
  refine cntI_cong _ (fun a h2 h3 => ?_)
  unfold dcT hbP
  rw [vC_rd h n hr (by omega), vC_he h n hr (by omega)]
