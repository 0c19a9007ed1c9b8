/-! VALID PLACES: two choirs that hold the same singers at the places that are taken. All answers are the same then. -/
theorem sumI_cong {f g : Int → Int} : ∀ (n : Nat), (∀ i : Int, 0 ≤ i → i < n → f i = g i) → sumI f n = sumI g n
  | 0, _ => rfl
  | n + 1, h => by
    simp only [sumI]
    rw [sumI_cong n (fun i h0 h1 => h i h0 (by omega)), h n (by omega) (by omega)]
def eqV (M M' : xM) (c c' : Nat) : Prop := (∀ j, j < 4 → M'.1 (c' + 1) j = M.1 (c + 1) j) ∧ (∀ r p : Int, 0 ≤ r → r < 4 → 0 ≤ p → p < szI M c r → M'.1 (c' + 2) (6 * r + p).toNat = M.1 (c + 2) (6 * r + p).toNat ∧ M'.1 (c' + 3) (6 * r + p).toNat = M.1 (c + 3) (6 * r + p).toNat ∧ M'.1 (c' + 4) (6 * r + p).toNat = M.1 (c + 4) (6 * r + p).toNat) ∧ (∀ j, 4 ≤ j → j ≤ 8 → M'.1 c' j = M.1 c j)
abbrev hSz (M : xM) (c : Nat) : Prop := ∀ r : Int, 0 ≤ szI M c r ∧ szI M c r ≤ 6
theorem eqV_C {M M' : xM} {c c' : Nat} (h : eqC M M' c c') (hS : hSz M c) : eqV M M' c c' :=
  ⟨h.1, fun r p h0 h1 h2 h3 => by have := hS r; exact h.2.1 _ (by omega), h.2.2⟩
section EQV
variable {M M' : xM} {c c' : Nat}
theorem szI_v (h : eqV M M' c c') (r : Int) : szI M' c' r = szI M c r := by
  unfold szI
  split
  · rw [h.1 _ (by omega)]
  · rfl
theorem hS_v (h : eqV M M' c c') (hS : hSz M c) : hSz M' c' := fun r => by rw [szI_v h]; exact hS r
theorem eqV_symm (h : eqV M M' c c') : eqV M' M c' c :=
  ⟨fun j hj => (h.1 j hj).symm, fun r p h0 h1 h2 h3 => by
    have := h.2.1 r p h0 h1 h2 (by rw [← szI_v h]; exact h3)
    exact ⟨this.1.symm, this.2.1.symm, this.2.2.symm⟩, fun j a b => (h.2.2 j a b).symm⟩
theorem eqV_trans {M2 : xM} {c2 : Nat} (h : eqV M M' c c') (g : eqV M' M2 c' c2) : eqV M M2 c c2 :=
  ⟨fun j hj => (g.1 j hj).trans (h.1 j hj), fun r p h0 h1 h2 h3 => by
    have a := h.2.1 r p h0 h1 h2 h3
    have b := g.2.1 r p h0 h1 h2 (by rw [szI_v h]; exact h3)
    exact ⟨b.1.trans a.1, b.2.1.trans a.2.1, b.2.2.trans a.2.2⟩, fun j a b => (g.2.2 j a b).trans (h.2.2 j a b)⟩
theorem sp_in {r p : Int} (hr : 0 ≤ r ∧ r < 4) (hp : 0 ≤ p ∧ p < 6) : spI r p = 6 * r + p := if_pos (by omega)
theorem rdI_at {f : Nat → Int32} {r p : Int} (hr : 0 ≤ r ∧ r < 4) (hp : 0 ≤ p ∧ p < 6) : rdI f 24 (6 * r + p) = (f (6 * r + p).toNat).toInt := if_pos (by omega)
theorem heI_at {r p : Int} (hr : 0 ≤ r ∧ r < 4) (hp : 0 ≤ p ∧ p < 6) : heI M c r p = (M.1 (c + 3) (6 * r + p).toNat).toInt := by
  show rdI (M.1 (c + 3)) 24 (spI r p) = _
  rw [sp_in hr hp, rdI_at hr hp]
theorem rd2_v (h : eqV M M' c c') (hS : hSz M c) {r p : Int} (hr : 0 ≤ r ∧ r < 4) (hp : 0 ≤ p ∧ p < szI M c r) : rdI (M'.1 (c' + 2)) 24 (spI r p) = rdI (M.1 (c + 2)) 24 (spI r p) := by
  have := hS r
  rw [sp_in hr (by omega), rdI_at hr (by omega), rdI_at hr (by omega), (h.2.1 r p hr.1 hr.2 hp.1 hp.2).1]
theorem rd4_v (h : eqV M M' c c') (hS : hSz M c) {r p : Int} (hr : 0 ≤ r ∧ r < 4) (hp : 0 ≤ p ∧ p < szI M c r) : rdI (M'.1 (c' + 4)) 24 (spI r p) = rdI (M.1 (c + 4)) 24 (spI r p) := by
  have := hS r
  rw [sp_in hr (by omega), rdI_at hr (by omega), rdI_at hr (by omega), (h.2.1 r p hr.1 hr.2 hp.1 hp.2).2.2]
theorem heI_v (h : eqV M M' c c') (hS : hSz M c) {r p : Int} (hr : 0 ≤ r ∧ r < 4) (hp : 0 ≤ p ∧ p < szI M c r) : heI M' c' r p = heI M c r p := by
  have := hS r
  rw [heI_at hr (by omega), heI_at hr (by omega), (h.2.1 r p hr.1 hr.2 hp.1 hp.2).2.1]
theorem cntI_cong {P Q : Int → Bool} {lo : Int} : ∀ n : Nat, (∀ i : Int, lo ≤ i → i < lo + n → P i = Q i) → cntI P lo n = cntI Q lo n
  | 0, _ => rfl
  | n + 1, h => by
    simp only [cntI]
    rw [cntI_cong n (fun i h0 h1 => h i h0 (by omega)), h (lo + n) (by omega) (by omega)]
theorem hbI_v (h : eqV M M' c c') (hS : hSz M c) (r f t x : Int) : hbI M' c' r f t x = hbI M c r f t x := by
  have hs := hS r
  unfold hbI
  rw [szI_v h]
  by_cases hr : 0 ≤ r ∧ r < 4
  · refine cntI_cong _ (fun i h0 h1 => ?_)
    unfold hbP
    rw [rdI_at hr (by omega), rdI_at hr (by omega), (h.2.1 r i hr.1 hr.2 (by omega) (by omega)).2.1]
  · rw [szI_out hr, show (min t (0 - 1) + 1 - max f 0).toNat = 0 by omega]
    simp only [cntI]
theorem rbI_v (h : eqV M M' c c') (r : Int) : rbI M' c' r = rbI M c r := by unfold rbI; rw [h.2.2 5 (by omega) (by omega)]
theorem rfI_v (h : eqV M M' c c') (r : Int) : rfI M' c' r = rfI M c r := by unfold rfI; rw [h.2.2 5 (by omega) (by omega)]
theorem sbI_v (h : eqV M M' c c') (r f t : Int) : sbI M' c' r f t = sbI M c r f t := by unfold sbI; rw [szI_v h]
theorem hhI_v (h : eqV M M' c c') (hS : hSz M c) {r p : Int} (hr : 0 ≤ r ∧ r < 4) (hp : 0 ≤ p ∧ p < szI M c r) : hhI M' c' r p = hhI M c r p := by
  unfold hhI
  rw [heI_v h hS hr hp, rbI_v h, h.2.2 4 (by omega) (by omega), hbI_v h hS, hbI_v h hS]
theorem odI_v (h : eqV M M' c c') (hS : hSz M c) (r : Int) : odI M' c' r = odI M c r := by
  have hs := hS r
  unfold odI
  rw [szI_v h]
  by_cases hr : 0 ≤ r ∧ r < 4
  · exact sumI_cong _ (fun i h0 h1 => by rw [hhI_v h hS hr (by omega)])
  · rw [szI_out hr, show (0 : Int).toNat = 0 from rfl]; simp only [sumI]
theorem oaI_v (h : eqV M M' c c') (hS : hSz M c) : oaI M' c' = oaI M c := by
  unfold oaI
  rw [show odI M' c' = odI M c from funext fun r => odI_v h hS r]
theorem dcI_v (h : eqV M M' c c') (hS : hSz M c) (r : Int) : dcI M' c' r = dcI M c r := by
  have hs := hS r
  unfold dcI
  rw [szI_v h]
  by_cases hr : 0 ≤ r ∧ r < 4
  · exact sumI_cong _ (fun i h0 h1 => by rw [heI_v h hS hr (by omega), hbI_v h hS])
  · rw [szI_out hr, show (0 : Int).toNat = 0 from rfl]; simp only [sumI]
theorem daI_v (h : eqV M M' c c') (hS : hSz M c) : daI M' c' = daI M c := by
  unfold daI
  rw [show dcI M' c' = dcI M c from funext fun r => dcI_v h hS r]
theorem mxI_cong {f g : Int → Int} : ∀ n : Nat, (∀ i : Int, 0 ≤ i → i < n → f i = g i) → mxI f n = mxI g n
  | 0, _ => rfl
  | n + 1, h => by
    simp only [mxI]
    rw [mxI_cong n (fun i h0 h1 => h i h0 (by omega)), h n (by omega) (by omega)]
theorem hiI_v (h : eqV M M' c c') (hS : hSz M c) (r : Int) : hiI M' c' r = hiI M c r := by
  have hs := hS r
  unfold hiI
  rw [szI_v h]
  by_cases hr : 0 ≤ r ∧ r < 4
  · exact mxI_cong _ (fun i h0 h1 => heI_v h hS hr (by omega))
  · rw [szI_out hr, show (0 : Int).toNat = 0 from rfl]; simp only [mxI]
theorem itN_cong {α : Type} {f g : Nat → α → α} : ∀ (n : Nat) (q : α), (∀ i, i < n → ∀ q, f i q = g i q) → itN f n q = itN g n q
  | 0, _, _ => rfl
  | n + 1, q, h => by
    simp only [itN]
    rw [itN_cong n q (fun i hi => h i (by omega)), h n (by omega)]
theorem chA_cong {H H' B B' : Nat → Nat} {sz : Nat} {rc : Int} (hH : ∀ w, w < sz → H w = H' w) (hB : ∀ w, w < sz → B w = B' w) : ∀ (d p used : Nat) (odd sw : Int) (pre : Nat → Nat) (q : Int × Int), chA H B sz rc d p used odd sw pre q = chA H' B' sz rc d p used odd sw pre q
  | 0, _, _, _, _, _, _ => rfl
  | d + 1, p, used, odd, sw, pre, q => by
    rw [chA_s, chA_s, itN_cong (g := chF H' B' sz rc d p used odd sw pre) sz q (fun w hw q => by
      unfold chF prF
      rw [hH w hw, hB w hw]
      split
      · rfl
      · exact chA_cong hH hB d _ _ _ _ _ _)]
theorem mkB_cong {P Q : Nat → Bool} : ∀ n : Nat, (∀ i, i < n → P i = Q i) → mkB P n = mkB Q n
  | 0, _ => rfl
  | n + 1, h => by
    simp only [mkB]
    rw [mkB_cong n (fun i hi => h i (by omega)), h n (by omega)]
theorem goA_v (h : eqV M M' c c') (hS : hSz M c) {r : Int} (hr : 0 ≤ r ∧ r < 4) : goA M' c' r = goA M c r := by
  have hs := hS r
  unfold goA
  rw [szI_v h, h.2.2 4 (by omega) (by omega)]
  refine chA_cong (fun w hw => mkB_cong _ (fun i hi => ?_)) (fun w hw => mkB_cong _ (fun i hi => ?_)) _ _ _ _ _ _ _
  · unfold hoB
    rw [heI_v h hS hr (by omega), heI_v h hS hr (by omega)]
  · unfold obB
    rw [heI_v h hS hr (by omega), rbI_v h, hbI_v h hS, h.2.2 4 (by omega) (by omega)]
theorem wcI_v (h : eqV M M' c c') (hS : hSz M c) (r i : Int) : wcI M' c' r i = wcI M c r i := by
  have hs := hS r
  unfold wcI
  rw [szI_v h]
  by_cases hi : i < 0 ∨ max 0 (5 * szI M c r - 1) ≤ i
  · rw [if_pos hi, if_pos hi]
  · rw [if_neg hi, if_neg hi]
    by_cases hr : 0 ≤ r ∧ r < 4
    · rw [heI_v h hS hr (by omega), rd4_v h hS hr (by omega)]
    · exact absurd (szI_out (M := M) (c := c) hr) (by omega)
theorem osI_v (h : eqV M M' c c') (hS : hSz M c) {r p : Int} (hr : 0 ≤ r ∧ r < 4) (hp : 0 ≤ p ∧ p < szI M c r) (z : Int) : osI M' c' r p z = osI M c r p z := by
  unfold osI
  rw [rd2_v h hS hr hp, heI_v h hS hr hp, rd4_v h hS hr hp, sbI_v h, sbI_v h, sbI_v h, sbI_v h, rbI_v h, rfI_v h, hhI_v h hS hr hp, h.2.2 4 (by omega) (by omega)]
theorem owI_v (h : eqV M M' c c') (hS : hSz M c) {r : Int} (hr : 0 ≤ r ∧ r < 4) (z : Int) : owI M' c' r z = owI M c r z := by
  unfold owI
  rw [szI_v h, odI_v h hS, dcI_v h hS, goA_v h hS hr, hiI_v h hS]
theorem fnP_cong {P Q : Int → Bool} : ∀ (n : Nat) (i : Int), (∀ k : Int, i ≤ k → k < i + n → P k = Q k) → fnP P i n = fnP Q i n
  | 0, _, _ => rfl
  | n + 1, i, h => by
    simp only [fnP]
    rw [h i (by omega) (by omega), fnP_cong n (i + 1) (fun k h0 h1 => h k (by omega) (by omega))]
theorem fnR_v (h : eqV M M' c c') (hS : hSz M c) (x : Int) : ∀ (n : Nat) (r : Int), 0 ≤ r → r + n ≤ 4 → fnR M' c' x r n = fnR M c x r n
  | 0, _, _, _ => rfl
  | n + 1, r, h0, h1 => by
    have hs := hS r
    simp only [fnR]
    rw [szI_v h, fnP_cong _ 0 (fun k k0 k1 => show nuP M' c' x r k = nuP M c x r k by unfold nuP; rw [rd2_v h hS ⟨h0, by omega⟩ (by omega)]), fnR_v h hS x n (r + 1) (by omega) (by omega)]
theorem eqV_up (h : eqV M M' c c') {k : Nat} (hk : 4 ≤ k) (x : Int32) : eqV (upI M c k x) (upI M' c' k x) c c' := by
  refine ⟨fun j hj => ?_, fun r p h0 h1 h2 h3 => ?_, fun j a b => ?_⟩
  · rw [upI_row (by omega), upI_row (by omega)]; exact h.1 j hj
  · rw [upI_row (by omega), upI_row (by omega), upI_row (by omega), upI_row (by omega), upI_row (by omega), upI_row (by omega)]
    exact h.2.1 r p h0 h1 h2 (by rw [← szI_up (show c ≠ c + 1 by omega)]; exact h3)
  · rw [upI_1, upI_1]
    by_cases hj : j = k
    · rw [if_pos ⟨rfl, hj⟩, if_pos ⟨rfl, hj⟩]
    · rw [if_neg (fun z => hj z.2), if_neg (fun z => hj z.2)]; exact h.2.2 j a b
theorem six_ne {r p r2 p2 : Int} (hr : 0 ≤ r) (hp : 0 ≤ p ∧ p < 6) (hr2 : 0 ≤ r2) (hp2 : 0 ≤ p2 ∧ p2 < 6) (h : (6 * r + p).toNat = (6 * r2 + p2).toNat) : r = r2 ∧ p = p2 := by omega
/-- a swap of two who are there -/
theorem swP_at {N : xM} {b : Nat} {s t : Int} (hs : 0 ≤ s ∧ s < 24) (ht : 0 ≤ t ∧ t < 24) {a : Nat} (ha : a = b + 2 ∨ a = b + 3 ∨ a = b + 4) (j : Nat) : (swP N b s t).1 a j = if (j : Int) = t then N.1 a s.toNat else if (j : Int) = s then N.1 a t.toNat else N.1 a j := by
  have key : ∀ K : xM, K.1 a = N.1 a → (swC K a s t).1 a j = if (j : Int) = t then N.1 a s.toNat else if (j : Int) = s then N.1 a t.toNat else N.1 a j := fun K hK => by
    rw [swC_at K hs ht, hK]; simp only [true_and]
  rcases ha with rfl | rfl | rfl
  · rw [swP_r2]; exact key N rfl
  · rw [swP_r3]; exact key _ rfl
  · rw [swP_r4]; exact key _ rfl
theorem swP_v (h : eqV M M' c c') (hS : hSz M c) {r p r2 p2 : Int} (hr : 0 ≤ r ∧ r < 4) (hp : 0 ≤ p ∧ p < szI M c r) (hr2 : 0 ≤ r2 ∧ r2 < 4) (hp2 : 0 ≤ p2 ∧ p2 < szI M c r2) : eqV (swP M c (6 * r + p) (6 * r2 + p2)) (swP M' c' (6 * r + p) (6 * r2 + p2)) c c' := by
  have q1 := hS r
  have q2 := hS r2
  refine ⟨fun j hj => ?_, fun r9 p9 h0 h1 h2 h3 => ?_, fun j a b => ?_⟩
  · rw [swP_row (by omega), swP_row (by omega)]; exact h.1 j hj
  · rw [szI_swP] at h3
    have e1 := h.2.1 r p hr.1 hr.2 hp.1 hp.2
    have e2 := h.2.1 r2 p2 hr2.1 hr2.2 hp2.1 hp2.2
    have e9 := h.2.1 r9 p9 h0 h1 h2 h3
    refine ⟨?_, ?_, ?_⟩
    all_goals rw [swP_at (by omega) (by omega) (by omega), swP_at (by omega) (by omega) (by omega)]
    · rw [e1.1, e2.1, e9.1]
    · rw [e1.2.1, e2.2.1, e9.2.1]
    · rw [e1.2.2, e2.2.2, e9.2.2]
  · rw [swP_row (by omega), swP_row (by omega)]; exact h.2.2 j a b
theorem swP_vs (h : eqV M M' c c') (hS : hSz M c) {r p r2 p2 : Int} (hr : 0 ≤ r ∧ r < 4) (hp : 0 ≤ p ∧ p < szI M c r) (hr2 : 0 ≤ r2 ∧ r2 < 4) (hp2 : 0 ≤ p2 ∧ p2 < szI M c r2) : eqV (swP M c (spI r p) (spI r2 p2)) (swP M' c' (spI r p) (spI r2 p2)) c c' := by
  have q1 := hS r
  have q2 := hS r2
  rw [sp_in hr (by omega), sp_in hr2 (by omega)]
  exact swP_v h hS hr hp hr2 hp2
theorem hS_swP (hS : hSz M c) (s t : Int) : hSz (swP M c s t) c := fun r => by rw [szI_swP]; exact hS r
theorem csM_v (h : eqV M M' c c') (r b : Int) (hb : b ≤ 0) (hs : 0 ≤ szI M c r + b) (hS : hSz M c) : eqV (csM M c r b) (csM M' c' r b) c c' := by
  have hr9 := hS r
  by_cases hr : 0 ≤ r ∧ r < 4
  · refine ⟨fun j hj => ?_, fun r9 p9 h0 h1 h2 h3 => ?_, fun j a b9 => ?_⟩
    · unfold csM
      rw [szI_v h, if_pos (by omega), if_pos (by omega), upI_1, upI_1]
      by_cases hj2 : j = r.toNat
      · rw [if_pos ⟨rfl, hj2⟩, if_pos ⟨rfl, hj2⟩]
      · rw [if_neg (fun z => hj2 z.2), if_neg (fun z => hj2 z.2)]; exact h.1 j hj
    · rw [csM_row (by omega), csM_row (by omega), csM_row (by omega), csM_row (by omega), csM_row (by omega), csM_row (by omega)]
      rw [szI_csM hr (by omega)] at h3
      refine h.2.1 r9 p9 h0 h1 h2 ?_
      split at h3
      · rename_i e; rw [e]; omega
      · exact h3
    · rw [csM_row (by omega), csM_row (by omega)]; exact h.2.2 j a b9
  · unfold csM
    rw [if_neg (by omega), if_neg (by omega)]
    exact h
/-- somebody comes -/
theorem arM_v (h : eqV M M' c c') (hS : hSz M c) {r : Int} (hr : 0 ≤ r ∧ r < 4) (hs : szI M c r < 6) (x v : Int) : eqV (arM M c r x v) (arM M' c' r x v) c c' := by
  have hs0 := hS r
  have e6 : M'.1 c' 6 = M.1 c 6 := h.2.2 6 (by omega) (by omega)
  have key : ∀ (N : xM) (b : Nat), szI N b r = szI M c r → (∀ j, (arM N b r x v).1 (b + 1) j = if j = r.toNat then jI (szI M c r + 1) else N.1 (b + 1) j) ∧ (∀ j, (arM N b r x v).1 (b + 2) j = if (j : Int) = 6 * r + szI M c r then jI (N.1 b 6).toInt else N.1 (b + 2) j) ∧ (∀ j, (arM N b r x v).1 (b + 3) j = if (j : Int) = 6 * r + szI M c r then jI x else N.1 (b + 3) j) ∧ (∀ j, (arM N b r x v).1 (b + 4) j = if (j : Int) = 6 * r + szI M c r then jI v else N.1 (b + 4) j) := by
    intro N b hN
    have hsp : spI r (szI N b r) = 6 * r + szI M c r := by rw [hN]; exact sp_in hr (by omega)
    have hc1 : csM (upI N b 6 (jI ((N.1 b 6).toInt + 1))) b r 1 = upI (upI N b 6 (jI ((N.1 b 6).toInt + 1))) (b + 1) r.toNat (jI (szI M c r + 1)) := by
      unfold csM
      rw [szI_up (by omega), hN, if_pos (by omega)]
    refine ⟨fun j => ?_, fun j => ?_, fun j => ?_, fun j => ?_⟩
    all_goals unfold arM; rw [hsp, hc1]
    · rw [wrI_row (by omega), wrI_row (by omega), wrI_row (by omega), upI_1]
      by_cases hj : j = r.toNat
      · rw [if_pos ⟨rfl, hj⟩, if_pos hj]
      · rw [if_neg (fun z => hj z.2), if_neg hj, upI_row (by omega)]
    · rw [wrI_row (by omega), wrI_row (by omega), wrI_1]
      by_cases hj : (j : Int) = 6 * r + szI M c r
      · rw [if_pos (by omega), if_pos hj]
      · rw [if_neg (by omega), if_neg hj, upI_row (by omega), upI_row (by omega)]
    · rw [wrI_row (by omega), wrI_1]
      by_cases hj : (j : Int) = 6 * r + szI M c r
      · rw [if_pos (by omega), if_pos hj]
      · rw [if_neg (by omega), if_neg hj, wrI_row (by omega), upI_row (by omega), upI_row (by omega)]
    · rw [wrI_1]
      by_cases hj : (j : Int) = 6 * r + szI M c r
      · rw [if_pos (by omega), if_pos hj]
      · rw [if_neg (by omega), if_neg hj, wrI_row (by omega), wrI_row (by omega), upI_row (by omega), upI_row (by omega)]
  obtain ⟨k1, k2, k3, k4⟩ := key M c rfl
  obtain ⟨g1, g2, g3, g4⟩ := key M' c' (szI_v h r)
  obtain ⟨-, -, a3, a4⟩ := arM_at (M := M) (c := c) (r := r) (h := x) (v := v)
  obtain ⟨-, -, b3, b4⟩ := arM_at (M := M') (c := c') (r := r) (h := x) (v := v)
  refine ⟨fun j hj => ?_, fun r9 p9 h0 h1 h2 h3 => ?_, fun j a b => ?_⟩
  · rw [k1, g1, h.1 j hj]
  · rw [szI_arM hr ⟨hs0.1, hs⟩] at h3
    rw [k2, k3, k4, g2, g3, g4, e6]
    by_cases hj : (((6 * r9 + p9).toNat : Nat) : Int) = 6 * r + szI M c r
    · rw [if_pos hj, if_pos hj, if_pos hj, if_pos hj, if_pos hj, if_pos hj]; exact ⟨rfl, rfl, rfl⟩
    · rw [if_neg hj, if_neg hj, if_neg hj, if_neg hj, if_neg hj, if_neg hj]
      have hs9 := hS r9
      refine h.2.1 r9 p9 h0 h1 h2 ?_
      split at h3
      · rename_i e; subst e; omega
      · exact h3
  · by_cases hj : j = 6
    · subst hj; rw [a4, b4, e6]
    · rw [a3 j hj, b3 j hj]; exact h.2.2 j a b
theorem hS_arM (hS : hSz M c) {r : Int} (hr : 0 ≤ r ∧ r < 4) (hs : szI M c r < 6) (x v : Int) : hSz (arM M c r x v) c := fun q => by
  have h0 := hS r
  have h1 := hS q
  rw [szI_arM hr ⟨h0.1, hs⟩]
  split <;> omega
theorem bpF_v (h : eqV M M' 1 1) (hS : hSz M 1) {r : Int} (hr : 0 ≤ r ∧ r < 4) (a : Nat) : ∀ (n : Nat) (q : Int × Int), (a : Int) + n < szI M 1 r → bpF M' r a n q = bpF M r a n q
  | 0, _, _ => rfl
  | n + 1, q, hn => by
    have hs := hS r
    simp only [bpF]
    rw [bpF_v h hS hr a n q (by omega), oaI_v (swP_vs h hS hr (p := (a : Int)) (by omega) hr (p2 := (a : Int) + 1 + n) (by omega)) (hS_swP hS _ _)]
theorem bpG_v (h : eqV M M' 1 1) (hS : hSz M 1) {r : Int} (hr : 0 ≤ r ∧ r < 4) : ∀ n : Nat, (n : Int) ≤ szI M 1 r → bpG M' r n = bpG M r n
  | 0, _ => by simp only [bpG]; rw [oaI_v h hS]
  | n + 1, hn => by
    simp only [bpG]
    rw [bpG_v h hS hr n (by omega), szI_v h, bpF_v h hS hr n _ _ (by omega)]
theorem bpI_v (h : eqV M M' 1 1) (hS : hSz M 1) {r : Int} (hr : 0 ≤ r ∧ r < 4) : bpI M' r = bpI M r := by
  have := hS r
  unfold bpI
  rw [szI_v h, bpG_v h hS hr _ (by omega)]
theorem brF_v (h : eqV M M' 1 1) (hS : hSz M 1) (x : Int) : ∀ n : Nat, n ≤ 4 → brF M' x n = brF M x n
  | 0, _ => rfl
  | n + 1, hn => by
    simp only [brF]
    rw [brF_v h hS x n (by omega), szI_v h]
    by_cases hs : szI M 1 (n : Int) < 6
    · rw [oaI_v (arM_v h hS (r := (n : Int)) (by omega) hs x 0) (hS_arM hS (by omega) hs _ _)]
    · rw [if_neg (fun z => hs z.1), if_neg (fun z => hs z.1)]
theorem orI_v (h : eqV M M' 1 1) (hS : hSz M 1) (z : Int) : orI M' z = orI M z := by
  unfold orI
  exact oaI_v (eqV_up h (by decide) _) (fun r => by rw [szI_up (by decide)]; exact hS r)
end EQV
