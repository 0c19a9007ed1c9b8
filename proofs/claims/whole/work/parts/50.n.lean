/-! FIND, WRITTEN, WHAT WOULD BE: the model's are the class's at vW M -/
theorem zI_nat (M : xM) (j : Nat) : zI M (j : Int) = (M.1 69 j).toInt := rfl
theorem i32_of {x y : Int32} (h : x.toInt = y.toInt) : x = y := by rw [← jI_of x, h, jI_of]
theorem vW_ex {M : xM} {a b : Int} (ha : 0 ≤ a ∧ a < 24) (hb : 0 ≤ b ∧ b < 24) : eqC (swP (vW M) 1 a b) (vW (exZ M a b)) 1 1 := by
  have e : ∀ j, (exZ M a b).1 69 j = if (j : Int) = 52 + b then M.1 69 (52 + a).toNat else if (j : Int) = 52 + a then M.1 69 (52 + b).toNat else if (j : Int) = 28 + b then M.1 69 (28 + a).toNat else if (j : Int) = 28 + a then M.1 69 (28 + b).toNat else if (j : Int) = 4 + b then M.1 69 (4 + a).toNat else if (j : Int) = 4 + a then M.1 69 (4 + b).toNat else M.1 69 j := fun j => by
    rw [exZ_at ha hb]; simp only [true_and]
  refine ⟨fun j hj => ?_, fun j hj => ⟨?_, ?_, ?_⟩, fun j h4 h8 => ?_⟩
  · rw [swP_row (by decide)]
    show (exZ M a b).1 69 j = M.1 69 j
    rw [e, if_neg (by omega), if_neg (by omega), if_neg (by omega), if_neg (by omega), if_neg (by omega), if_neg (by omega)]
  · rw [swP_at ha hb (by decide)]
    show (exZ M a b).1 69 (4 + j) = if (j : Int) = b then M.1 69 (4 + a.toNat) else if (j : Int) = a then M.1 69 (4 + b.toNat) else M.1 69 (4 + j)
    rw [e, if_neg (by omega), if_neg (by omega), if_neg (by omega), if_neg (by omega), show (4 + a).toNat = 4 + a.toNat by omega, show (4 + b).toNat = 4 + b.toNat by omega]
    by_cases h1 : (j : Int) = b
    · rw [if_pos h1, if_pos (by omega)]
    · rw [if_neg h1, if_neg (by omega)]
      by_cases h2 : (j : Int) = a
      · rw [if_pos h2, if_pos (by omega)]
      · rw [if_neg h2, if_neg (by omega)]
  · rw [swP_at ha hb (by decide)]
    show (exZ M a b).1 69 (28 + j) = if (j : Int) = b then M.1 69 (28 + a.toNat) else if (j : Int) = a then M.1 69 (28 + b.toNat) else M.1 69 (28 + j)
    rw [e, if_neg (by omega), if_neg (by omega), show (28 + a).toNat = 28 + a.toNat by omega, show (28 + b).toNat = 28 + b.toNat by omega]
    by_cases h1 : (j : Int) = b
    · rw [if_pos h1, if_pos (by omega)]
    · rw [if_neg h1, if_neg (by omega)]
      by_cases h2 : (j : Int) = a
      · rw [if_pos h2, if_pos (by omega)]
      · rw [if_neg h2, if_neg (by omega), if_neg (by omega), if_neg (by omega)]
  · rw [swP_at ha hb (by decide)]
    show (exZ M a b).1 69 (52 + j) = if (j : Int) = b then M.1 69 (52 + a.toNat) else if (j : Int) = a then M.1 69 (52 + b.toNat) else M.1 69 (52 + j)
    rw [e, show (52 + a).toNat = 52 + a.toNat by omega, show (52 + b).toNat = 52 + b.toNat by omega]
    by_cases h1 : (j : Int) = b
    · rw [if_pos h1, if_pos (by omega)]
    · rw [if_neg h1, if_neg (by omega)]
      by_cases h2 : (j : Int) = a
      · rw [if_pos h2, if_pos (by omega)]
      · rw [if_neg h2, if_neg (by omega), if_neg (by omega), if_neg (by omega), if_neg (by omega), if_neg (by omega)]
  · rw [swP_row (by decide)]
    show (exZ M a b).1 69 (72 + j) = M.1 69 (72 + j)
    rw [e, if_neg (by omega), if_neg (by omega), if_neg (by omega), if_neg (by omega), if_neg (by omega), if_neg (by omega)]
theorem oaZ_ex {M : xM} (hZ : okZ M) {a b : Int} (ha : 0 ≤ a ∧ a < 24) (hb : 0 ≤ b ∧ b < 24) : oaZ (exZ M a b) = oaI (swP (vW M) 1 a b) 1 := by
  rw [oaZ_v (okZ_ex hZ ha hb), oaI_e (vW_ex ha hb)]
theorem bzF_v {M : xM} (hZ : okZ M) {r : Int} (hr : 0 ≤ r ∧ r < 4) (a : Nat) : ∀ (n : Nat) (q : Int × Int), (a : Int) + n < zI M r → bzF M r a n q = bpF (vW M) r a n q
  | 0, _, _ => rfl
  | n + 1, q, hn => by
    have hz := hZ.1 r hr.1 hr.2
    simp only [bzF, bpF]
    rw [bzF_v hZ hr a n q (by omega), oaZ_ex hZ (by omega) (by omega), sp_in hr (by omega), sp_in hr (by omega)]
theorem bzG_v {M : xM} (hZ : okZ M) {r : Int} (hr : 0 ≤ r ∧ r < 4) : ∀ n : Nat, (n : Int) ≤ zI M r → bzG M r n = bpG (vW M) r n
  | 0, _ => by simp only [bzG, bpG]; rw [oaZ_v hZ]
  | n + 1, hn => by
    simp only [bzG, bpG]
    rw [bzG_v hZ hr n (by omega), vW_sz M hr, bzF_v hZ hr n _ _ (by omega)]
theorem bzI_v {M : xM} (hZ : okZ M) {r : Int} (hr : 0 ≤ r ∧ r < 4) : bzI M r = bpI (vW M) r := by
  have hz := hZ.1 r hr.1 hr.2
  unfold bzI bpI
  rw [vW_sz M hr, bzG_v hZ hr _ (by omega)]
theorem vW_rc (M : xM) (z : Int) : eqC (upI (vW M) 1 4 (jI z)) (vW (rcZ M z)) 1 1 := by
  refine ⟨fun j hj => ?_, fun j hj => ⟨?_, ?_, ?_⟩, fun j h4 h8 => ?_⟩
  · show (rcZ M z).1 69 j = M.1 69 j
    unfold rcZ; rw [upI_1, if_neg (fun h => by have h2 : j = 76 := h.2; omega)]
  · show (rcZ M z).1 69 (4 + j) = M.1 69 (4 + j)
    unfold rcZ; rw [upI_1, if_neg (fun h => by have h2 : 4 + j = 76 := h.2; omega)]
  · show (rcZ M z).1 69 (28 + j) = M.1 69 (28 + j)
    unfold rcZ; rw [upI_1, if_neg (fun h => by have h2 : 28 + j = 76 := h.2; omega)]
  · show (rcZ M z).1 69 (52 + j) = M.1 69 (52 + j)
    unfold rcZ; rw [upI_1, if_neg (fun h => by have h2 : 52 + j = 76 := h.2; omega)]
  · show (rcZ M z).1 69 (72 + j) = (upI (vW M) 1 4 (jI z)).1 1 j
    unfold rcZ
    rw [upI_1, upI_1]
    by_cases h : j = 4
    · subst h; rfl
    · rw [if_neg (fun h2 => by have h3 : 72 + j = 76 := h2.2; omega), if_neg (fun h2 => h h2.2)]; rfl
theorem orZ_v {M : xM} (hZ : okZ M) {z : Int} (hz : 1 ≤ z ∧ z ≤ 6) : oaZ (rcZ M z) = orI (vW M) z := by
  rw [oaZ_v (okZ_rc hZ hz), oaI_e (vW_rc M z)]
  rfl
/-- only sizes, heights and how far one hears -/
def eqH (M M' : xM) (c c' : Nat) : Prop := (∀ j, j < 4 → M'.1 (c' + 1) j = M.1 (c + 1) j) ∧ (∀ r p : Int, 0 ≤ r → r < 4 → 0 ≤ p → p < szI M c r → M'.1 (c' + 3) (6 * r + p).toNat = M.1 (c + 3) (6 * r + p).toNat) ∧ (∀ j, j = 4 ∨ j = 5 → M'.1 c' j = M.1 c j)
section EQH
variable {M M' : xM} {c c' : Nat}
theorem szI_h (h : eqH M M' c c') (r : Int) : szI M' c' r = szI M c r := by
  unfold szI
  split
  · rw [h.1 _ (by omega)]
  · rfl
theorem heI_h (h : eqH M M' c c') (hS : hSz M c) {r p : Int} (hr : 0 ≤ r ∧ r < 4) (hp : 0 ≤ p ∧ p < szI M c r) : heI M' c' r p = heI M c r p := by
  have := hS r
  rw [heI_at hr (by omega), heI_at hr (by omega), h.2.1 r p hr.1 hr.2 hp.1 hp.2]
theorem hbI_h (h : eqH M M' c c') (hS : hSz M c) (r f t x : Int) : hbI M' c' r f t x = hbI M c r f t x := by
  have hs := hS r
  unfold hbI
  rw [szI_h h]
  by_cases hr : 0 ≤ r ∧ r < 4
  · refine cntI_cong _ (fun i h0 h1 => ?_)
    unfold hbP
    rw [rdI_at hr (by omega), rdI_at hr (by omega), h.2.1 r i hr.1 hr.2 (by omega) (by omega)]
  · rw [szI_out hr, show (min t (0 - 1) + 1 - max f 0).toNat = 0 by omega]
    simp only [cntI]
theorem hhI_h (h : eqH M M' c c') (hS : hSz M c) {r p : Int} (hr : 0 ≤ r ∧ r < 4) (hp : 0 ≤ p ∧ p < szI M c r) : hhI M' c' r p = hhI M c r p := by
  unfold hhI
  rw [heI_h h hS hr hp, show rbI M' c' r = rbI M c r by unfold rbI; rw [h.2.2 5 (Or.inr rfl)], h.2.2 4 (Or.inl rfl), hbI_h h hS, hbI_h h hS]
theorem odI_h (h : eqH M M' c c') (hS : hSz M c) (r : Int) : odI M' c' r = odI M c r := by
  have hs := hS r
  unfold odI
  rw [szI_h h]
  by_cases hr : 0 ≤ r ∧ r < 4
  · exact sumI_cong _ (fun i h0 h1 => by rw [hhI_h h hS hr (by omega)])
  · rw [szI_out hr, show (0 : Int).toNat = 0 from rfl]; simp only [sumI]
theorem oaI_h (h : eqH M M' c c') (hS : hSz M c) : oaI M' c' = oaI M c := by
  unfold oaI
  rw [show odI M' c' = odI M c from funext fun r => odI_h h hS r]
end EQH
/-- what one more singer is -/
theorem arM_at2 {N : xM} {b : Nat} {r x v : Int} (hr : 0 ≤ r ∧ r < 4) (hs : 0 ≤ szI N b r ∧ szI N b r < 6) :
    (∀ j, (arM N b r x v).1 (b + 1) j = if j = r.toNat then jI (szI N b r + 1) else N.1 (b + 1) j) ∧ (∀ j, (arM N b r x v).1 (b + 2) j = if (j : Int) = 6 * r + szI N b r then jI (N.1 b 6).toInt else N.1 (b + 2) j) ∧ (∀ j, (arM N b r x v).1 (b + 3) j = if (j : Int) = 6 * r + szI N b r then jI x else N.1 (b + 3) j) ∧ (∀ j, (arM N b r x v).1 (b + 4) j = if (j : Int) = 6 * r + szI N b r then jI v else N.1 (b + 4) j) := by
  have hsp : spI r (szI N b r) = 6 * r + szI N b r := sp_in hr (by omega)
  have hc1 : csM (upI N b 6 (jI ((N.1 b 6).toInt + 1))) b r 1 = upI (upI N b 6 (jI ((N.1 b 6).toInt + 1))) (b + 1) r.toNat (jI (szI N b r + 1)) := by
    unfold csM
    rw [szI_up (by omega), if_pos (by omega)]
  refine ⟨fun j => ?_, fun j => ?_, fun j => ?_, fun j => ?_⟩
  all_goals unfold arM; rw [hsp, hc1]
  · rw [wrI_row (by omega), wrI_row (by omega), wrI_row (by omega), upI_1]
    by_cases hj : j = r.toNat
    · rw [if_pos ⟨rfl, hj⟩, if_pos hj]
    · rw [if_neg (fun z => hj z.2), if_neg hj, upI_row (by omega)]
  · rw [wrI_row (by omega), wrI_row (by omega), wrI_1]
    by_cases hj : (j : Int) = 6 * r + szI N b r
    · rw [if_pos (by omega), if_pos hj]
    · rw [if_neg (by omega), if_neg hj, upI_row (by omega), upI_row (by omega)]
  · rw [wrI_row (by omega), wrI_1]
    by_cases hj : (j : Int) = 6 * r + szI N b r
    · rw [if_pos (by omega), if_pos hj]
    · rw [if_neg (by omega), if_neg hj, wrI_row (by omega), upI_row (by omega), upI_row (by omega)]
  · rw [wrI_1]
    by_cases hj : (j : Int) = 6 * r + szI N b r
    · rw [if_pos (by omega), if_pos hj]
    · rw [if_neg (by omega), if_neg hj, wrI_row (by omega), wrI_row (by omega), upI_row (by omega), upI_row (by omega)]
theorem owZ_69 {M : xM} {r h : Int} (hr : 0 ≤ r ∧ r < 4) (hs : 0 ≤ zI M r ∧ zI M r < 6) (j : Nat) : (owZ M r h).1 69 j = if j = r.toNat then jI (zI M r + 1) else if (j : Int) = 28 + 6 * r + zI M r then jI h else M.1 69 j := by
  unfold owZ
  dsimp only
  rw [zI_lo (by omega) hr, upI_1, upI_1]
  by_cases h1 : j = r.toNat
  · rw [if_pos ⟨rfl, h1⟩, if_pos h1]
  · rw [if_neg (fun z => h1 z.2), if_neg h1]
    by_cases h2 : (j : Int) = 28 + 6 * r + zI M r
    · rw [if_pos ⟨rfl, by omega⟩, if_pos h2]
    · rw [if_neg (fun z => by have h3 : j = (28 + 6 * r + zI M r).toNat := z.2; omega), if_neg h2]
theorem vW_ow {M : xM} {r h : Int} (hZ : okZ M) (hr : 0 ≤ r ∧ r < 4) (hs : zI M r < 6) : eqH (arM (vW M) 1 r h 0) (vW (owZ M r h)) 1 1 := by
  have hz := hZ.1 r hr.1 hr.2
  have hsz : szI (vW M) 1 r = zI M r := vW_sz M hr
  obtain ⟨k1, -, k3, -⟩ := arM_at2 (N := vW M) (b := 1) (r := r) (x := h) (v := 0) hr (by omega)
  obtain ⟨-, -, a3, -⟩ := arM_at (M := vW M) (c := 1) (r := r) (h := h) (v := 0)
  have o := owZ_69 (M := M) (h := h) hr (by omega)
  rw [hsz] at k1 k3
  refine ⟨fun j hj => ?_, fun r9 p9 h0 h1 h2 h3 => ?_, fun j hj => ?_⟩
  · rw [k1]
    show (owZ M r h).1 69 j = _
    rw [o]
    by_cases h1 : j = r.toNat
    · rw [if_pos h1, if_pos h1]
    · rw [if_neg h1, if_neg h1, if_neg (by omega)]; rfl
  · rw [k3]
    show (owZ M r h).1 69 (28 + (6 * r9 + p9).toNat) = _
    rw [o, if_neg (by omega)]
    by_cases h4 : (((6 * r9 + p9).toNat : Nat) : Int) = 6 * r + zI M r
    · rw [if_pos h4, if_pos (by omega)]
    · rw [if_neg h4, if_neg (by omega)]; rfl
  · rw [a3 j (by omega)]
    show (owZ M r h).1 69 (72 + j) = M.1 69 (72 + j)
    rw [o, if_neg (by omega), if_neg (by omega)]
theorem oaZ_ow {M : xM} {r h : Int} (hZ : okZ M) (hr : 0 ≤ r ∧ r < 4) (hs : zI M r < 6) : oaZ (owZ M r h) = oaI (arM (vW M) 1 r h 0) 1 := by
  have hS := vW_hS hZ
  rw [oaZ_v (okZ_ow hZ hr hs), oaI_h (vW_ow hZ hr hs) (hS_arM hS hr (by rw [vW_sz M hr]; exact hs) _ _)]
def rzF (M : xM) (h : Int) : Nat → Int × Int
  | 0 => (-1, -1)
  | n + 1 => if zI M n < 6 ∧ (rzF M h n).1 < oaZ (owZ M n h) then (oaZ (owZ M n h), (n : Int)) else rzF M h n
theorem rzF_v {M : xM} (hZ : okZ M) (h : Int) : ∀ n : Nat, n ≤ 4 → rzF M h n = brF (vW M) h n
  | 0, _ => rfl
  | n + 1, hn => by
    simp only [rzF, brF]
    rw [rzF_v hZ h n (by omega), vW_sz M (r := (n : Int)) (by omega)]
    by_cases hs : zI M (n : Int) < 6
    · rw [oaZ_ow hZ (by omega) hs]
    · rw [if_neg (fun z => hs z.1), if_neg (fun z => hs z.1)]
/-- the writing -/
theorem wr0 : ∀ h, h < 1001 → jI 48 + jI ((h : Nat) : Int) / jI 100 = jI (48 + ((h : Nat) : Int) / 100) := by decide +kernel
theorem wr1 : ∀ h, h < 1001 → jI 48 + (jI ((h : Nat) : Int) / jI 10 - jI ((h : Nat) : Int) / jI 10 / jI 10 * jI 10) = jI (48 + ((h : Nat) : Int) / 10 % 10) := by decide +kernel
theorem wr2 : ∀ h, h < 1001 → jI 48 + (jI ((h : Nat) : Int) - jI ((h : Nat) : Int) / jI 10 * jI 10) = jI (48 + ((h : Nat) : Int) % 10) := by decide +kernel
theorem wr3 : ∀ v, v < 4 → ltI ((v : Nat) : Int) = wvL ((v : Nat) : Int) := by decide +kernel
theorem wvZ_v {M : xM} (hZ : okZ M) {r i : Int} (hr : 0 ≤ r ∧ r < 4) (hi : 0 ≤ i) (hH : ∀ p : Int, 0 ≤ p → p < zI M r → (0 ≤ zI M (28 + 6 * r + p) ∧ zI M (28 + 6 * r + p) ≤ 1000) ∧ 0 ≤ zI M (52 + 6 * r + p) ∧ zI M (52 + 6 * r + p) ≤ 3) : jI (wvZ M r i) = wcI (vW M) 1 r i := by
  have hz := hZ.1 r hr.1 hr.2
  unfold wvZ wcI
  rw [vW_sz M hr]
  by_cases h1 : zI M r ≤ i / 5 ∨ i = 5 * zI M r - 1
  · rw [if_pos h1, if_pos (by omega)]
  · have hn : ¬ (i < 0 ∨ max 0 (5 * zI M r - 1) ≤ i) := by omega
    rw [if_neg h1, if_neg hn, vW_he M hr (by omega), vW_vo M hr (by omega)]
    obtain ⟨g1, g2⟩ := hH (i / 5) (by omega) (by omega)
    have e : zI M (28 + 6 * r + i / 5) = (((zI M (28 + 6 * r + i / 5)).toNat : Nat) : Int) := by omega
    have e2 : zI M (52 + 6 * r + i / 5) = (((zI M (52 + 6 * r + i / 5)).toNat : Nat) : Int) := by omega
    unfold wrC
    rw [e, e2]
    split
    · rw [wr0 _ (by omega)]
    · split
      · rw [wr1 _ (by omega)]
      · split
        · rw [wr2 _ (by omega)]
        · split
          · rw [wr3 _ (by omega)]
          · rfl
