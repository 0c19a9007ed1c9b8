/-! WHAT THE CHANGES LEAVE AND MAKE: rows of cells behind them, and that a choir stays in order (okC) -/
theorem isCh_apart {c b : Nat} (hc : isCh c) (hb : isCh b) (h : c ≠ b) : c + 5 ≤ b ∨ b + 5 ≤ c := by
  have h1 : c < 72 := xk_lt hc.1 (by decide)
  have h2 : b < 72 := xk_lt hb.1 (by decide)
  have t : ∀ c : Nat, c < 72 → xk c = (1, 9) → c = 1 ∨ c = 6 ∨ c = 11 ∨ c = 18 ∨ c = 23 ∨ c = 28 ∨ c = 33 ∨ c = 38 ∨ c = 43 := by decide +kernel
  have a1 := t c h1 hc.1
  have a2 := t b h2 hb.1
  omega
theorem cpM_1 (M : xM) (a b n e j : Nat) : (cpM M a b n).1 e j = if e = b ∧ j < n then M.1 a j else M.1 e j := rfl
theorem cpM_2 (M : xM) (a b n : Nat) : (cpM M a b n).2 = M.2 := rfl
/-- behind a copy of a choir -/
theorem bcM_at {M : xM} {c b : Nat} (hC : isCh c) (hB : isCh b) (h : c ≠ b) :
    (∀ j, (bcM M c b).1 (c + 1) j = if j < 4 then M.1 (b + 1) j else M.1 (c + 1) j) ∧ (∀ j, (bcM M c b).1 (c + 2) j = if j < 24 then M.1 (b + 2) j else M.1 (c + 2) j) ∧ (∀ j, (bcM M c b).1 (c + 3) j = if j < 24 then M.1 (b + 3) j else M.1 (c + 3) j) ∧ (∀ j, (bcM M c b).1 (c + 4) j = if j < 24 then M.1 (b + 4) j else M.1 (c + 4) j) ∧
    (∀ j, 4 ≤ j → j ≤ 8 → (bcM M c b).1 c j = M.1 b j) ∧ (∀ a, a < c ∨ c + 4 < a → (bcM M c b).1 a = M.1 a) ∧ (bcM M c b).2 = M.2 := by
  have hap := isCh_apart hC hB h
  have e4 : ∀ a j, (cpM (cpM (cpM (cpM M (b + 1) (c + 1) 4) (b + 2) (c + 2) 24) (b + 3) (c + 3) 24) (b + 4) (c + 4) 24).1 a j = if a = c + 4 ∧ j < 24 then M.1 (b + 4) j else if a = c + 3 ∧ j < 24 then M.1 (b + 3) j else if a = c + 2 ∧ j < 24 then M.1 (b + 2) j else if a = c + 1 ∧ j < 4 then M.1 (b + 1) j else M.1 a j := by
    intro a j
    simp only [cpM_1]
    by_cases h4 : a = c + 4 ∧ j < 24
    · rw [if_pos h4, if_pos h4, if_neg (by omega), if_neg (by omega), if_neg (by omega)]
    · rw [if_neg h4, if_neg h4]
      by_cases h3 : a = c + 3 ∧ j < 24
      · rw [if_pos h3, if_pos h3, if_neg (by omega), if_neg (by omega)]
      · rw [if_neg h3, if_neg h3]
        by_cases h2 : a = c + 2 ∧ j < 24
        · rw [if_pos h2, if_pos h2, if_neg (by omega)]
        · rw [if_neg h2, if_neg h2]
  have e5 : ∀ a j, (bcM M c b).1 a j = if a = c ∧ 4 ≤ j ∧ j ≤ 8 then M.1 b j else if a = c + 4 ∧ j < 24 then M.1 (b + 4) j else if a = c + 3 ∧ j < 24 then M.1 (b + 3) j else if a = c + 2 ∧ j < 24 then M.1 (b + 2) j else if a = c + 1 ∧ j < 4 then M.1 (b + 1) j else M.1 a j := by
    intro a j
    unfold bcM
    have f : ∀ k, (cpM (cpM (cpM (cpM M (b + 1) (c + 1) 4) (b + 2) (c + 2) 24) (b + 3) (c + 3) 24) (b + 4) (c + 4) 24).1 b k = M.1 b k := fun k => by rw [e4, if_neg (by omega), if_neg (by omega), if_neg (by omega), if_neg (by omega)]
    have nb : b ≠ c := fun z => h z.symm
    simp only [upI_1, jI_of, nb, false_and, if_false, f]
    by_cases ha : a = c
    · subst ha
      by_cases h8 : j = 8
      · subst h8; rw [if_pos ⟨rfl, rfl⟩, if_pos ⟨rfl, by omega, by omega⟩]
      rw [if_neg (fun z => h8 z.2)]
      by_cases h7 : j = 7
      · subst h7; rw [if_pos ⟨rfl, rfl⟩, if_pos ⟨rfl, by omega, by omega⟩]
      rw [if_neg (fun z => h7 z.2)]
      by_cases h6 : j = 6
      · subst h6; rw [if_pos ⟨rfl, rfl⟩, if_pos ⟨rfl, by omega, by omega⟩]
      rw [if_neg (fun z => h6 z.2)]
      by_cases h5 : j = 5
      · subst h5; rw [if_pos ⟨rfl, rfl⟩, if_pos ⟨rfl, by omega, by omega⟩]
      rw [if_neg (fun z => h5 z.2)]
      by_cases h4 : j = 4
      · subst h4; rw [if_pos ⟨rfl, rfl⟩, if_pos ⟨rfl, by omega, by omega⟩]
      rw [if_neg (fun z => h4 z.2), if_neg (by omega), e4]
    · rw [if_neg (fun z => ha z.1), if_neg (fun z => ha z.1), if_neg (fun z => ha z.1), if_neg (fun z => ha z.1), if_neg (fun z => ha z.1), if_neg (fun z => ha z.1), e4]
  refine ⟨fun j => ?_, fun j => ?_, fun j => ?_, fun j => ?_, fun j h4 h8 => ?_, fun a ha => ?_, rfl⟩
  · rw [e5, if_neg (by omega), if_neg (by omega), if_neg (by omega), if_neg (by omega)]
    by_cases hj : j < 4
    · rw [if_pos ⟨rfl, hj⟩, if_pos hj]
    · rw [if_neg (fun z => hj z.2), if_neg hj]
  · rw [e5, if_neg (by omega), if_neg (by omega), if_neg (by omega)]
    by_cases hj : j < 24
    · rw [if_pos ⟨rfl, hj⟩, if_pos hj]
    · rw [if_neg (fun z => hj z.2), if_neg (by omega), if_neg hj]
  · rw [e5, if_neg (by omega), if_neg (by omega)]
    by_cases hj : j < 24
    · rw [if_pos ⟨rfl, hj⟩, if_pos hj]
    · rw [if_neg (fun z => hj z.2), if_neg (by omega), if_neg (by omega), if_neg hj]
  · rw [e5, if_neg (by omega)]
    by_cases hj : j < 24
    · rw [if_pos ⟨rfl, hj⟩, if_pos hj]
    · rw [if_neg (fun z => hj z.2), if_neg (by omega), if_neg (by omega), if_neg (by omega), if_neg hj]
  · rw [e5, if_pos ⟨rfl, h4, h8⟩]
  · funext j
    rw [e5, if_neg (by omega), if_neg (by omega), if_neg (by omega), if_neg (by omega), if_neg (by omega)]
/-- what a choir is, as far as counts go: equal cells in reach -/
def eqC (M M' : xM) (c c' : Nat) : Prop := (∀ j, j < 4 → M'.1 (c' + 1) j = M.1 (c + 1) j) ∧ (∀ j, j < 24 → M'.1 (c' + 2) j = M.1 (c + 2) j ∧ M'.1 (c' + 3) j = M.1 (c + 3) j ∧ M'.1 (c' + 4) j = M.1 (c + 4) j) ∧ (∀ j, 4 ≤ j → j ≤ 8 → M'.1 c' j = M.1 c j)
theorem bcM_eq {M : xM} {c b : Nat} (hC : isCh c) (hB : isCh b) (h : c ≠ b) : eqC M (bcM M c b) b c := by
  obtain ⟨h1, h2, h3, h4, h5, -, -⟩ := bcM_at (M := M) hC hB h
  exact ⟨fun j hj => by rw [h1, if_pos hj], fun j hj => ⟨by rw [h2, if_pos hj], by rw [h3, if_pos hj], by rw [h4, if_pos hj]⟩, h5⟩
theorem eqC_of {M M' : xM} {c : Nat} (h : ∀ a, c ≤ a → a ≤ c + 4 → M'.1 a = M.1 a) : eqC M M' c c :=
  ⟨fun j _ => by rw [h (c + 1) (by omega) (by omega)], fun j _ => by rw [h (c + 2) (by omega) (by omega), h (c + 3) (by omega) (by omega), h (c + 4) (by omega) (by omega)]; exact ⟨rfl, rfl, rfl⟩, fun j _ _ => by rw [h c (by omega) (by omega)]⟩
theorem eqC_trans {M M1 M2 : xM} {c c1 c2 : Nat} (h1 : eqC M M1 c c1) (h2 : eqC M1 M2 c1 c2) : eqC M M2 c c2 :=
  ⟨fun j hj => (h2.1 j hj).trans (h1.1 j hj), fun j hj => ⟨(h2.2.1 j hj).1.trans (h1.2.1 j hj).1, (h2.2.1 j hj).2.1.trans (h1.2.1 j hj).2.1, (h2.2.1 j hj).2.2.trans (h1.2.1 j hj).2.2⟩, fun j a b => (h2.2.2 j a b).trans (h1.2.2 j a b)⟩
section EQC
variable {M M' : xM} {c c' : Nat} (h : eqC M M' c c')
theorem szI_e (h : eqC M M' c c') (r : Int) : szI M' c' r = szI M c r := by
  unfold szI
  split
  · rw [h.1 _ (by omega)]
  · rfl
theorem rd2_e (h : eqC M M' c c') (z : Int) : rdI (M'.1 (c' + 2)) 24 z = rdI (M.1 (c + 2)) 24 z := by
  unfold rdI
  split
  · rw [(h.2.1 _ (by omega)).1]
  · rfl
theorem rd3_e (h : eqC M M' c c') (z : Int) : rdI (M'.1 (c' + 3)) 24 z = rdI (M.1 (c + 3)) 24 z := by
  unfold rdI
  split
  · rw [(h.2.1 _ (by omega)).2.1]
  · rfl
theorem rd4_e (h : eqC M M' c c') (z : Int) : rdI (M'.1 (c' + 4)) 24 z = rdI (M.1 (c + 4)) 24 z := by
  unfold rdI
  split
  · rw [(h.2.1 _ (by omega)).2.2]
  · rfl
theorem heI_e (h : eqC M M' c c') (r p : Int) : heI M' c' r p = heI M c r p := by unfold heI; rw [rd3_e h]
theorem rbI_e (h : eqC M M' c c') (r : Int) : rbI M' c' r = rbI M c r := by unfold rbI; rw [h.2.2 5 (by omega) (by omega)]
theorem rfI_e (h : eqC M M' c c') (r : Int) : rfI M' c' r = rfI M c r := by unfold rfI; rw [h.2.2 5 (by omega) (by omega)]
theorem sbI_e (h : eqC M M' c c') (r f t : Int) : sbI M' c' r f t = sbI M c r f t := by unfold sbI; rw [szI_e h]
theorem hbI_e (h : eqC M M' c c') (r f t x : Int) : hbI M' c' r f t x = hbI M c r f t x := by
  unfold hbI
  rw [szI_e h, show hbP M' c' r x = hbP M c r x from funext fun p => by unfold hbP; rw [rd3_e h]]
theorem hhI_e (h : eqC M M' c c') (r p : Int) : hhI M' c' r p = hhI M c r p := by unfold hhI; rw [heI_e h, rbI_e h, h.2.2 4 (by omega) (by omega), hbI_e h, hbI_e h]
theorem odI_e (h : eqC M M' c c') (r : Int) : odI M' c' r = odI M c r := by
  unfold odI
  rw [szI_e h, show (fun p => hhI M' c' r p % 2) = (fun p => hhI M c r p % 2) from funext fun p => by rw [hhI_e h]]
theorem oaI_e (h : eqC M M' c c') : oaI M' c' = oaI M c := by
  unfold oaI
  rw [show odI M' c' = odI M c from funext fun r => odI_e h r]
theorem dcI_e (h : eqC M M' c c') (r : Int) : dcI M' c' r = dcI M c r := by
  unfold dcI
  rw [szI_e h, show (fun p => hbI M' c' r 0 (p - 1) (heI M' c' r p)) = (fun p => hbI M c r 0 (p - 1) (heI M c r p)) from funext fun p => by rw [heI_e h, hbI_e h]]
theorem daI_e (h : eqC M M' c c') : daI M' c' = daI M c := by
  unfold daI
  rw [show dcI M' c' = dcI M c from funext fun r => dcI_e h r]
theorem hiI_e (h : eqC M M' c c') (r : Int) : hiI M' c' r = hiI M c r := by
  unfold hiI
  rw [szI_e h, show heI M' c' r = heI M c r from funext fun p => heI_e h r p]
theorem goA_e (h : eqC M M' c c') (r : Int) : goA M' c' r = goA M c r := by
  unfold goA
  rw [szI_e h, h.2.2 4 (by omega) (by omega)]
  rw [show hoB M' c' r = hoB M c r from funext fun w => funext fun p => by unfold hoB; rw [heI_e h, heI_e h]]
  rw [show obB M' c' r = obB M c r from funext fun w => funext fun p => by unfold obB; rw [heI_e h, rbI_e h, hbI_e h, h.2.2 4 (by omega) (by omega)]]
theorem wcI_e (h : eqC M M' c c') (r i : Int) : wcI M' c' r i = wcI M c r i := by unfold wcI; rw [szI_e h, heI_e h, rd4_e h]
theorem hLo_e (h : eqC M M' c c') (hL : hLo M c) : hLo M' c' := fun k hk => by rw [(h.2.1 k hk).2.1]; exact hL k hk
theorem okC_e (h : eqC M M' c c') (hO : okC M c) : okC M' c' :=
  ⟨fun r => by rw [szI_e h]; exact hO.1 r, by rw [h.2.2 4 (by omega) (by omega)]; exact hO.2.1, by rw [h.2.2 5 (by omega) (by omega)]; exact hO.2.2.1, hLo_e h hO.2.2.2⟩
end EQC
/-- swaps keep a choir in order -/
theorem okC_swP {M : xM} {c : Nat} (hO : okC M c) (s t : Int) : okC (swP M c s t) c :=
  ⟨fun r => by rw [szI_swP]; exact hO.1 r, by rw [swP_row (by omega)]; exact hO.2.1, by rw [swP_row (by omega)]; exact hO.2.2.1, hLo_swP hO.2.2.2 s t⟩
theorem szI_up {M : xM} {c a k : Nat} {x : Int32} (h : a ≠ c + 1) (r : Int) : szI (upI M a k x) c r = szI M c r := szI_of (upI_row (by omega)) r
theorem szI_wr {M : xM} {c a N : Nat} {z : Int} {x : Int32} (h : a ≠ c + 1) (r : Int) : szI (wrI M a N z x) c r = szI M c r := szI_of (wrI_row (by omega)) r
theorem szI_csM {M : xM} {c : Nat} {t b : Int} (ht : 0 ≤ t ∧ t < 4) (hb : 0 ≤ szI M c t + b ∧ szI M c t + b ≤ 6) (r : Int) : szI (csM M c t b) c r = if r = t then szI M c t + b else szI M c r := by
  unfold csM
  rw [if_pos ⟨ht.1, ht.2, hb.1, hb.2⟩]
  by_cases h : r = t
  · subst h
    rw [if_pos rfl]
    show (if 0 ≤ r ∧ r < 4 then _ else _) = _
    rw [if_pos ht, upI_1, if_pos ⟨rfl, rfl⟩, jI_toInt (by omega)]
  · rw [if_neg h]
    unfold szI
    split
    · rw [upI_1, if_neg (by omega)]
    · rfl
theorem csM_row {M : xM} {c : Nat} {t b : Int} {a : Nat} (h : a ≠ c + 1) : (csM M c t b).1 a = M.1 a := by
  unfold csM
  split
  · exact upI_row h
  · rfl
theorem csM_2 (M : xM) (c : Nat) (t b : Int) : (csM M c t b).2 = M.2 := by unfold csM; split <;> rfl
theorem arM_at {M : xM} {c : Nat} {r h v : Int} : (∀ a, a < c ∨ c + 4 < a → (arM M c r h v).1 a = M.1 a) ∧ (arM M c r h v).2 = M.2 ∧ (∀ k, k ≠ 6 → (arM M c r h v).1 c k = M.1 c k) ∧ ((arM M c r h v).1 c 6 = jI ((M.1 c 6).toInt + 1)) := by
  unfold arM
  refine ⟨fun a ha => ?_, ?_, fun k hk => ?_, ?_⟩
  · rw [wrI_row (by omega), wrI_row (by omega), wrI_row (by omega), csM_row (by omega), upI_row (by omega)]
  · rw [wrI_2, wrI_2, wrI_2, csM_2]; rfl
  · rw [wrI_row (by omega), wrI_row (by omega), wrI_row (by omega), csM_row (by omega), upI_1, if_neg (fun z => hk z.2)]
  · rw [wrI_row (by omega), wrI_row (by omega), wrI_row (by omega), csM_row (by omega), upI_1, if_pos ⟨rfl, rfl⟩]
theorem szI_arM {M : xM} {c : Nat} {r h v : Int} (hr : 0 ≤ r ∧ r < 4) (hs : 0 ≤ szI M c r ∧ szI M c r < 6) (q : Int) : szI (arM M c r h v) c q = if q = r then szI M c r + 1 else szI M c q := by
  unfold arM
  rw [szI_wr (by omega), szI_wr (by omega), szI_wr (by omega), szI_csM hr (by rw [szI_up (by omega)]; omega), szI_up (by omega), szI_up (by omega)]
theorem hLo_arM {M : xM} {c : Nat} {r h v : Int} (hL : hLo M c) (hh : -1 ≤ h ∧ h ≤ 1000) : hLo (arM M c r h v) c := by
  unfold arM
  exact hLo_of (wrI_row (by omega)) (hLo_wr (hLo_of (wrI_row (by omega)) (hLo_of (csM_row (by omega)) (hLo_of (upI_row (by omega)) hL))) hh)
theorem okC_arM {M : xM} {c : Nat} {r h v : Int} (hO : okC M c) (hr : 0 ≤ r ∧ r < 4) (hs : szI M c r < 6) (hh : -1 ≤ h ∧ h ≤ 1000) : okC (arM M c r h v) c := by
  obtain ⟨-, -, h3, -⟩ := arM_at (M := M) (c := c) (r := r) (h := h) (v := v)
  refine ⟨fun q => ?_, by rw [h3 4 (by omega)]; exact hO.2.1, by rw [h3 5 (by omega)]; exact hO.2.2.1, hLo_arM hO.2.2.2 hh⟩
  rw [szI_arM hr ⟨(hO.1 r).1, hs⟩]
  have := hO.1 q
  have := hO.1 r
  split <;> omega
/-- behind a swap of two places -/
theorem swC_at (M : xM) {a : Nat} {s t : Int} (hs : 0 ≤ s ∧ s < 24) (ht : 0 ≤ t ∧ t < 24) (b j : Nat) : (swC M a s t).1 b j = if b = a ∧ (j : Int) = t then M.1 a s.toNat else if b = a ∧ (j : Int) = s then M.1 a t.toNat else M.1 b j := by
  unfold swC
  rw [wrI_1, wrI_1]
  unfold rdI
  rw [if_pos (show 0 ≤ s ∧ s < ((24 : Nat) : Int) from hs), if_pos (show 0 ≤ t ∧ t < ((24 : Nat) : Int) from ht), jI_of, jI_of]
  by_cases h1 : b = a ∧ (j : Int) = t
  · rw [if_pos h1, if_pos (by omega)]
  · rw [if_neg h1, if_neg (by omega)]
    by_cases h2 : b = a ∧ (j : Int) = s
    · rw [if_pos h2, if_pos (by omega)]
    · rw [if_neg h2, if_neg (by omega)]
theorem swC_cong {N N' : xM} {a : Nat} {s t : Int} (hs : 0 ≤ s ∧ s < 24) (ht : 0 ≤ t ∧ t < 24) (h : N.1 a = N'.1 a) : (swC N a s t).1 a = (swC N' a s t).1 a := by
  funext j
  rw [swC_at N hs ht, swC_at N' hs ht, h]
/-- two swaps undo each other -/
theorem swC_swC {M : xM} {a : Nat} {s t : Int} (hs : 0 ≤ s ∧ s < 24) (ht : 0 ≤ t ∧ t < 24) : swC (swC M a s t) a s t = M := by
  refine Prod.ext (funext fun b => funext fun j => ?_) (by rw [swC_2, swC_2])
  have es : ((s.toNat : Nat) : Int) = s := by omega
  have et : ((t.toNat : Nat) : Int) = t := by omega
  rw [swC_at _ hs ht, swC_at M hs ht, swC_at M hs ht, swC_at M hs ht, es, et]
  by_cases h1 : b = a ∧ (j : Int) = t
  · rw [if_pos h1]
    by_cases hst : s = t
    · rw [if_pos ⟨rfl, hst⟩, h1.1, show s.toNat = j by omega]
    · rw [if_neg (fun z => hst z.2), if_pos ⟨rfl, rfl⟩, h1.1, show t.toNat = j by omega]
  · rw [if_neg h1]
    by_cases h2 : b = a ∧ (j : Int) = s
    · rw [if_pos h2, if_pos ⟨rfl, rfl⟩, h2.1, show s.toNat = j by omega]
    · rw [if_neg h2, if_neg h1, if_neg h2]
theorem swP_swP {M : xM} {c : Nat} {s t : Int} (hs : 0 ≤ s ∧ s < 24) (ht : 0 ≤ t ∧ t < 24) : swP (swP M c s t) c s t = M := by
  refine Prod.ext (funext fun b => ?_) (by rw [swP_2, swP_2])
  have key : ∀ (a : Nat) (N : xM), N.1 a = (swC M a s t).1 a → (swC N a s t).1 a = M.1 a := by
    intro a N hN
    rw [swC_cong hs ht hN]
    exact congrArg (fun Z : xM => Z.1 a) (swC_swC (M := M) (a := a) hs ht)
  by_cases h2 : b = c + 2
  · subst h2; rw [swP_r2]; exact key (c + 2) _ (swP_r2 M c s t)
  by_cases h3 : b = c + 3
  · subst h3; rw [swP_r3]; exact key (c + 3) _ (swP_r3 M c s t)
  by_cases h4 : b = c + 4
  · subst h4; rw [swP_r4]; exact key (c + 4) _ (swP_r4 M c s t)
  rw [swP_row (by omega), swP_row (by omega)]
/-- only what is tried out, the tree and the search change -/
def qX (M M' : xM) : Prop := (∀ a, (a < 6 ∨ (11 ≤ a ∧ a < 50) ∨ 68 ≤ a) → M'.1 a = M.1 a) ∧ (okT M → okT M') ∧ M'.2.2 = M.2.2
theorem qX_rfl (M : xM) : qX M M := ⟨fun _ _ => rfl, fun h => h, rfl⟩
theorem qX_trans {M M1 M2 : xM} (h1 : qX M M1) (h2 : qX M1 M2) : qX M M2 := ⟨fun a h => (h2.1 a h).trans (h1.1 a h), fun h => h2.2.1 (h1.2.1 h), h2.2.2.trans h1.2.2⟩
theorem qX_same {M M' : xM} (h : sameX M M') : qX M M' := ⟨fun a z => h.1 a (by omega), h.2.1, h.2.2⟩
theorem qX_of6 {M M' : xM} (h1 : ∀ a, a < 6 ∨ 10 < a → M'.1 a = M.1 a) (h2 : M'.2 = M.2) : qX M M' := ⟨fun a z => h1 a (by omega), fun h => by intro a k b; rw [h2]; exact h a k b, by rw [h2]⟩
theorem qX_e {M M' : xM} (h : qX M M') : eqC M M' 1 1 := eqC_of fun a h1 h2 => h.1 a (by omega)
theorem ch1 : isCh 1 := ⟨rfl, rfl, rfl, rfl, rfl⟩
theorem ch6 : isCh 6 := ⟨rfl, rfl, rfl, rfl, rfl⟩
theorem ch11 : isCh 11 := ⟨rfl, rfl, rfl, rfl, rfl⟩
/-- the tree's methods leave the cells behind it -/
theorem fnM_hi (M : xM) (x : Int) (hu : 0 ≤ (M.1 50 2).toInt ∧ (M.1 50 2).toInt < 12) {b : Nat} (hb : 64 ≤ b) : (fnM M x).1 b = M.1 b := by
  unfold fnM
  show (upI (upI (upI M 50 2 _) _ 0 _) _ 1 _).1 b = _
  rw [upI_row (by omega), upI_row (by omega), upI_row (by omega)]
theorem ptM_hi {M : xM} (h : okT M) (x : Int) (hu : 0 ≤ (M.1 50 2).toInt ∧ (M.1 50 2).toInt < 12) {b : Nat} (hb : 64 ≤ b) : ∀ (n : Nat) (ab r : Option Nat), (∀ b, r = some b → 52 ≤ b ∧ b < 64) → (ptM x M n ab r).1 b = M.1 b ∧ (ptM x M n ab r).2.2 = M.2.2 := by
  have hl : ∀ ab, (lkM M x ab).1 b = M.1 b ∧ (lkM M x ab).2.2 = M.2.2 := by
    intro ab
    cases ab with
    | none => exact ⟨fnM_hi M x hu hb, rfl⟩
    | some a => simp only [lkM]; split <;> exact ⟨fnM_hi M x hu hb, rfl⟩
  intro n
  induction n with
  | zero => intro ab r _; exact hl ab
  | succ n ih =>
    intro ab r hr
    cases r with
    | none => exact hl ab
    | some a =>
      have ha := hr a rfl
      simp only [ptM]
      split
      · exact ⟨upI_row (by omega), rfl⟩
      · exact ih _ _ (fun b q => by split at q <;> exact h _ _ _ q)
theorem pbM_hi {c : Nat} {r lo : Int} {M : xM} (h : okT M) (hu : 0 ≤ (M.1 50 2).toInt) {b : Nat} (hb : 64 ≤ b) : ∀ n : Nat, (M.1 50 2).toInt + n ≤ 12 → (pbM c r lo M n).1 b = M.1 b ∧ (pbM c r lo M n).2.2 = M.2.2 := by
  intro n
  induction n with
  | zero => intro _; exact ⟨rfl, rfl⟩
  | succ n ih =>
    intro hn
    obtain ⟨h1, h2, -⟩ := pbM_ok (c := c) (r := r) (lo := lo) h hu n (by omega)
    obtain ⟨a1, a2⟩ := ih (by omega)
    have := ptM_hi h1 (heI (pbM c r lo M n) c r (lo + n)) (by omega) hb 12 none ((pbM c r lo M n).2.1 50 1) (fun b q => h1 50 1 b q)
    simp only [pbM]
    exact ⟨this.1.trans a1, this.2.trans a2⟩
theorem hyM_same {c : Nat} {r p : Int} {M : xM} (hC : isCh c) (hO : okC M c) (hr : 0 ≤ r ∧ r < 4) (hp : 0 ≤ p ∧ p < 6) (hT : okT M) : sameX M (hyM c r p M) := by
  obtain ⟨⟨f1, f2, f3, f4⟩, g1, g2, g3, g4, g5⟩ := hy_half hC hO hr hp hT
  have hre := hO.2.1
  have hs := hO.1 r
  have hsb := hO.1 (rbI (puM c r (p - ((flM M).1 c 4).toInt) (p - 1) (flM M)) c r)
  have hu2 : 0 ≤ ((puM c r (p - ((flM M).1 c 4).toInt) (p - 1) (flM M)).1 50 2).toInt ∧ ((puM c r (p - ((flM M).1 c 4).toInt) (p - 1) (flM M)).1 50 2).toInt + (min p (szI (puM c r (p - ((flM M).1 c 4).toInt) (p - 1) (flM M)) c (rbI (puM c r (p - ((flM M).1 c 4).toInt) (p - 1) (flM M)) c r) - 1) + 1 - max (p - ((puM c r (p - ((flM M).1 c 4).toInt) (p - 1) (flM M)).1 c 4).toInt) 0).toNat ≤ 12 := by
    rw [g4]; omega
  obtain ⟨k1, -, k3⟩ := puM_ok (c := c) g1 hu2
  refine ⟨fun a ha => ?_, fun _ => k1, ?_⟩
  · rcases ha with ha | ha
    · exact (k3 a ha).trans (g5 a ha)
    · unfold hyM
      refine ((pbM_hi (c := c) g1 g2.1 (by omega) _ hu2.2).1).trans ?_
      refine ((pbM_hi (c := c) f1 (by rw [f2]; omega) (by omega) _ (by rw [f2, f4]; omega)).1).trans ?_
      unfold flM
      rw [upI_row (by omega)]
      rfl
  · unfold hyM
    refine ((pbM_hi (b := 64) (c := c) g1 g2.1 (by omega) _ hu2.2).2).trans ?_
    refine ((pbM_hi (b := 64) (c := c) f1 (by rw [f2]; omega) (by omega) _ (by rw [f2, f4]; omega)).2).trans ?_
    rfl
