/-! CHANGES OF A CHOIR: what keeps the numbers apart; the sorting maps. (All rows come from the proof of whole.) -/
theorem nat6 {r p r2 p2 : Int} (hr : 0 ≤ r) (hp : 0 ≤ p ∧ p < 6) (hr2 : 0 ≤ r2) (hp2 : 0 ≤ p2 ∧ p2 < 6) : ((((6 * r + p).toNat : Nat) : Int) = 6 * r2 + p2) ↔ (r = r2 ∧ p = p2) := by omega
theorem vld_b {M : xM} {c : Nat} (hS : hSz M c) {r p : Int} (h : vld M c r p) : (0 ≤ r ∧ r < 4) ∧ 0 ≤ p ∧ p < 6 := by
  have := hS r
  obtain ⟨a, b, c, d⟩ := h
  omega
/-- swapping two places keeps the numbers apart -/
theorem gdC_swP {M : xM} {c : Nat} {r p r2 p2 : Int} (hS : hSz M c) (h : gdC M c) (hv : vld M c r p) (hv2 : vld M c r2 p2) : gdC (swP M c (spI r p) (spI r2 p2)) c := by
  obtain ⟨a1, a2⟩ := vld_b hS hv
  obtain ⟨b1, b2⟩ := vld_b hS hv2
  rw [sp_in a1 a2, sp_in b1 b2]
  have hat : ∀ (k : Nat), (k = 2 ∨ k = 3 ∨ k = 4) → ∀ q x : Int, vld M c q x → atI (swP M c (6 * r + p) (6 * r2 + p2)) c k q x = if q = r2 ∧ x = p2 then atI M c k r p else if q = r ∧ x = p then atI M c k r2 p2 else atI M c k q x := by
    intro k hk q x hq
    obtain ⟨q1, q2⟩ := vld_b hS hq
    show ((swP M c (6 * r + p) (6 * r2 + p2)).1 (c + k) (6 * q + x).toNat).toInt = _
    rw [swP_at (by omega) (by omega) (by omega)]
    by_cases e2 : q = r2 ∧ x = p2
    · rw [if_pos ((nat6 q1.1 q2 b1.1 b2).mpr e2), if_pos e2]
    · rw [if_neg (fun z => e2 ((nat6 q1.1 q2 b1.1 b2).mp z)), if_neg e2]
      by_cases e1 : q = r ∧ x = p
      · rw [if_pos ((nat6 q1.1 q2 a1.1 a2).mpr e1), if_pos e1]
      · rw [if_neg (fun z => e1 ((nat6 q1.1 q2 a1.1 a2).mp z)), if_neg e1]
  have hvv : ∀ q x, vld (swP M c (6 * r + p) (6 * r2 + p2)) c q x → vld M c q x := fun q x z => by
    unfold vld at z ⊢
    rw [szI_swP] at z
    exact z
  refine gdC_map h (by rw [swP_row (by omega)]) (fun q x => if q = r2 ∧ x = p2 then (r, p) else if q = r ∧ x = p then (r2, p2) else (q, x)) (fun q x hq => ?_) (fun q x q2 x2 hq hq2 e => ?_)
  · have hq' := hvv q x hq
    rw [hat 2 (by omega) q x hq', hat 3 (by omega) q x hq', hat 4 (by omega) q x hq']
    by_cases e2 : q = r2 ∧ x = p2
    · simp only [if_pos e2, and_true]
      exact hv
    · simp only [if_neg e2]
      by_cases e1 : q = r ∧ x = p
      · simp only [if_pos e1, and_true]
        exact hv2
      · simp only [if_neg e1, and_true]
        exact hq'
  · have e9 : (if q = r2 ∧ x = p2 then (r, p) else if q = r ∧ x = p then (r2, p2) else (q, x)) = (if q2 = r2 ∧ x2 = p2 then (r, p) else if q2 = r ∧ x2 = p then (r2, p2) else (q2, x2)) := e
    clear e
    (repeat' split at e9) <;> rw [Prod.mk.injEq] at e9 <;> omega
theorem gdC_up {M : xM} {c k : Nat} {x : Int32} (h : gdC M c) (hk : k ≠ 6) : gdC (upI M c k x) c := by
  have hs : ∀ r, szI (upI M c k x) c r = szI M c r := fun r => szI_up (by omega) r
  refine gdC_map h (by rw [upI_1, if_neg (by omega)]) (fun r p => (r, p)) (fun r p hv => ⟨?_, ?_, ?_, ?_⟩) (fun r p r2 p2 _ _ z => ⟨congrArg Prod.fst z, congrArg Prod.snd z⟩)
  · unfold vld at hv ⊢
    rw [hs] at hv
    exact hv
  · show ((upI M c k x).1 (c + 2) _).toInt = _
    rw [upI_row (by omega)]
  · show ((upI M c k x).1 (c + 3) _).toInt = _
    rw [upI_row (by omega)]
  · show ((upI M c k x).1 (c + 4) _).toInt = _
    rw [upI_row (by omega)]
theorem gdC_arM {M : xM} {r x v : Int} (h : gdC M 1) (hS : hSz M 1) (hr : 0 ≤ r ∧ r < 4) (hs : szI M 1 r < 6) (hc : (M.1 1 6).toInt < 999) (hx : 0 ≤ x ∧ x ≤ 1000) (hv : 0 ≤ v ∧ v ≤ 3) : gdC (arM M 1 r x v) 1 := by
  have hz := hS r
  have hat := arM_at2 (N := M) (b := 1) (x := x) (v := v) hr ⟨hz.1, hs⟩
  have hA := arM_at (M := M) (c := 1) (r := r) (h := x) (v := v)
  obtain ⟨g0, g1, g2⟩ := h
  have e6 : ((arM M 1 r x v).1 1 6).toInt = (M.1 1 6).toInt + 1 := by rw [hA.2.2.2, jI_toInt (by omega)]
  have hb : ∀ q y, vld (arM M 1 r x v) 1 q y → ((0 ≤ q ∧ q < 4) ∧ 0 ≤ y ∧ y < 6) ∧ ((q = r ∧ y = szI M 1 r) ∨ (¬ (q = r ∧ y = szI M 1 r) ∧ vld M 1 q y)) := by
    rintro q y ⟨h0, h1, h2, h3⟩
    rw [szI_arM hr ⟨hz.1, hs⟩] at h3
    have hq := hS q
    split at h3
    · rename_i c
      subst c
      refine ⟨⟨⟨h0, h1⟩, h2, by omega⟩, ?_⟩
      by_cases c2 : y = szI M 1 q
      · exact Or.inl ⟨rfl, c2⟩
      · exact Or.inr ⟨fun z => c2 z.2, h0, h1, h2, by omega⟩
    · rename_i c
      exact ⟨⟨⟨h0, h1⟩, h2, by omega⟩, Or.inr ⟨fun z => c z.1, h0, h1, h2, h3⟩⟩
  have hi : ∀ q y : Int, 0 ≤ q → 0 ≤ y ∧ y < 6 → (((((6 * q + y).toNat : Nat) : Int) = 6 * r + szI M 1 r) ↔ (q = r ∧ y = szI M 1 r)) := fun q y a b => nat6 a b hr.1 ⟨hz.1, hs⟩
  have a2 : ∀ q y : Int, 0 ≤ q → 0 ≤ y ∧ y < 6 → atI (arM M 1 r x v) 1 2 q y = if q = r ∧ y = szI M 1 r then (M.1 1 6).toInt else atI M 1 2 q y := fun q y a b => by
    show ((arM M 1 r x v).1 3 (6 * q + y).toNat).toInt = _
    rw [hat.2.1]
    by_cases c : q = r ∧ y = szI M 1 r
    · rw [if_pos ((hi q y a b).mpr c), if_pos c, jI_of]
    · rw [if_neg (fun z => c ((hi q y a b).mp z)), if_neg c]
  refine ⟨by rw [e6]; omega, fun q y hq => ?_, fun q y q2 y2 hq hq2 e => ?_⟩
  · obtain ⟨⟨b1, b2⟩, hor⟩ := hb q y hq
    rw [a2 q y b1.1 b2, e6]
    show _ ∧ (0 ≤ ((arM M 1 r x v).1 4 (6 * q + y).toNat).toInt ∧ ((arM M 1 r x v).1 4 (6 * q + y).toNat).toInt ≤ 1000) ∧ 0 ≤ ((arM M 1 r x v).1 5 (6 * q + y).toNat).toInt ∧ ((arM M 1 r x v).1 5 (6 * q + y).toNat).toInt ≤ 3
    rw [hat.2.2.1, hat.2.2.2]
    rcases hor with c | ⟨c, hv2⟩
    · rw [if_pos c, if_pos ((hi q y b1.1 b2).mpr c), if_pos ((hi q y b1.1 b2).mpr c), jI_toInt (by omega), jI_toInt (by omega)]
      exact ⟨by omega, hx, hv⟩
    · rw [if_neg c, if_neg (fun z => c ((hi q y b1.1 b2).mp z)), if_neg (fun z => c ((hi q y b1.1 b2).mp z))]
      have g := g1 q y hv2
      exact ⟨by omega, g.2.1, g.2.2⟩
  · obtain ⟨⟨b1, b2⟩, hor⟩ := hb q y hq
    obtain ⟨⟨d1, d2⟩, hor2⟩ := hb q2 y2 hq2
    rw [a2 q y b1.1 b2, a2 q2 y2 d1.1 d2] at e
    rcases hor with c | ⟨c, hv2⟩ <;> rcases hor2 with c' | ⟨c', hv2'⟩
    · omega
    · rw [if_pos c, if_neg c'] at e
      have := g1 q2 y2 hv2'
      omega
    · rw [if_neg c, if_pos c'] at e
      have := g1 q y hv2
      omega
    · rw [if_neg c, if_neg c'] at e
      exact g2 q y q2 y2 hv2 hv2' e
theorem gdC_mvM {M : xM} {r p : Int} (h : gdC M 1) (hS : hSz M 1) (hr : 0 ≤ r ∧ r < 4) (hp : 0 ≤ p) : ∀ n : Nat, p + n < szI M 1 r → gdC (mvM M 1 r p n) 1
  | 0, _ => h
  | n + 1, hn => by
    have ih := gdC_mvM h hS hr hp n (by omega)
    have e := szI_mvM M 1 r p n
    simp only [mvM]
    exact gdC_swP (fun q => by rw [e]; exact hS q) ih ⟨hr.1, hr.2, by omega, by rw [e]; omega⟩ ⟨hr.1, hr.2, by omega, by rw [e]; omega⟩
theorem okC_mvM {M : xM} {r p : Int} (h : okC M 1) : ∀ n : Nat, okC (mvM M 1 r p n) 1
  | 0 => h
  | n + 1 => by simp only [mvM]; exact okC_swP (okC_mvM h n) _ _
theorem csM_at {M : xM} {c : Nat} {t b : Int} (ht : 0 ≤ t ∧ t < 4) (hb : 0 ≤ szI M c t + b ∧ szI M c t + b ≤ 6) (j : Nat) : (csM M c t b).1 (c + 1) j = if j = t.toNat then jI (szI M c t + b) else M.1 (c + 1) j := by
  unfold csM
  rw [if_pos ⟨ht.1, ht.2, hb⟩, upI_1]
  simp only [true_and]
theorem okC_csM {M : xM} {c : Nat} {t b : Int} (h : okC M c) (ht : 0 ≤ t ∧ t < 4) (hb : 0 ≤ szI M c t + b ∧ szI M c t + b ≤ 6) : okC (csM M c t b) c := by
  refine ⟨fun q => ?_, by rw [csM_row (by omega)]; exact h.2.1, by rw [csM_row (by omega)]; exact h.2.2.1, fun k hk => by rw [csM_row (by omega)]; exact h.2.2.2 k hk⟩
  rw [szI_csM ht hb]
  split
  · omega
  · exact h.1 q
/-- fewer places -/
theorem gdC_cs {M : xM} {r : Int} (h : gdC M 1) (hr : 0 ≤ r ∧ r < 4) (hs : 0 < szI M 1 r ∧ szI M 1 r ≤ 6) : gdC (csM M 1 r (-1)) 1 := by
  refine gdC_map h (by rw [csM_row (by decide)]) (fun q y => (q, y)) (fun q y hv => ⟨?_, ?_, ?_, ?_⟩) (fun q y q2 y2 _ _ z => ⟨congrArg Prod.fst z, congrArg Prod.snd z⟩)
  · obtain ⟨h0, h1, h2, h3⟩ := hv
    rw [szI_csM hr (by omega)] at h3
    refine ⟨h0, h1, h2, ?_⟩
    split at h3
    · rename_i c
      subst c
      show y < szI M 1 q
      omega
    · exact h3
  · show ((csM M 1 r (-1)).1 3 _).toInt = _
    rw [csM_row (by decide)]
  · show ((csM M 1 r (-1)).1 4 _).toInt = _
    rw [csM_row (by decide)]
  · show ((csM M 1 r (-1)).1 5 _).toInt = _
    rw [csM_row (by decide)]
def sgd (κ : Nat → Int) (n : Nat) (σ : Nat → Nat) : Prop := (∀ p, p < n → σ p < n) ∧ (∀ p q, p < n → q < n → σ p = σ q → p = q) ∧ (∀ a, a < n → ∃ p, p < n ∧ σ p = a) ∧ (∀ p q, p < q → q < n → κ (σ p) = κ (σ q) → σ p < σ q)
def swN (i : Nat) (σ : Nat → Nat) (p : Nat) : Nat := if p = i then σ (i + 1) else if p = i + 1 then σ i else σ p
def tau (i p : Nat) : Nat := if p = i then i + 1 else if p = i + 1 then i else p
theorem swN_tau (i : Nat) (σ : Nat → Nat) (p : Nat) : swN i σ p = σ (tau i p) := by
  unfold swN tau
  split
  · rfl
  · split <;> rfl
theorem tau_lt {i p n : Nat} (hi : i + 1 < n) (hp : p < n) : tau i p < n := by
  unfold tau
  split
  · exact hi
  · split <;> omega
theorem tau_tau (i p : Nat) : tau i (tau i p) = p := by
  unfold tau
  (repeat' split) <;> omega
theorem sgd_id (κ : Nat → Int) (n : Nat) : sgd κ n (fun p => p) := ⟨fun _ h => h, fun _ _ _ _ h => h, fun a h => ⟨a, h, rfl⟩, fun _ _ h _ _ => h⟩
theorem sgd_sw {κ : Nat → Int} {n i : Nat} {σ : Nat → Nat} (h : sgd κ n σ) (hi : i + 1 < n) (hk : κ (σ (i + 1)) < κ (σ i)) : sgd κ n (swN i σ) := by
  obtain ⟨h1, h2, h3, h4⟩ := h
  refine ⟨fun p hp => by rw [swN_tau]; exact h1 _ (tau_lt hi hp), fun p q hp hq e => ?_, fun a ha => ?_, fun p q hpq hq e => ?_⟩
  · rw [swN_tau, swN_tau] at e
    have := h2 _ _ (tau_lt hi hp) (tau_lt hi hq) e
    rw [← tau_tau i p, this, tau_tau]
  · obtain ⟨p, hp, e⟩ := h3 a ha
    exact ⟨tau i p, tau_lt hi hp, by rw [swN_tau, tau_tau]; exact e⟩
  · by_cases c : p = i ∧ q = i + 1
    · obtain ⟨rfl, rfl⟩ := c
      have e1 : swN p σ p = σ (p + 1) := if_pos rfl
      have e2 : swN p σ (p + 1) = σ p := by
        unfold swN
        rw [if_neg (by omega), if_pos rfl]
      rw [e1, e2] at e
      omega
    · rw [swN_tau, swN_tau] at e ⊢
      refine h4 _ _ ?_ (tau_lt hi hq) e
      unfold tau
      (repeat' split) <;> omega
def srt (κ : Nat → Int) (n : Nat) (σ : Nat → Nat) : Prop := ∀ p q, p < q → q < n → κ (σ p) ≤ κ (σ q)
theorem sgd_uniq {κ : Nat → Int} {n : Nat} {σ σ' : Nat → Nat} (h : sgd κ n σ) (h' : sgd κ n σ') (s : srt κ n σ) (s' : srt κ n σ') : ∀ p, p < n → σ p = σ' p := by
  intro p
  induction p using Nat.strongRecOn with
  | _ p ih =>
    intro hp
    -- the element that the other has here stands behind in both
    have key : ∀ (α β : Nat → Nat), sgd κ n α → sgd κ n β → srt κ n α → srt κ n β → (∀ q, q < p → α q = β q) → κ (α p) < κ (β p) ∨ (κ (α p) = κ (β p) ∧ α p < β p) → False := by
      intro α β ha hb sa sb hq hlt
      obtain ⟨q, hqn, e⟩ := hb.2.2.1 (α p) (ha.1 p hp)
      rcases Nat.lt_trichotomy q p with c | c | c
      · have := ha.2.1 q p (by omega) hp (by rw [hq q c]; exact e)
        omega
      · subst c
        rw [e] at hlt
        omega
      · have h1 := sb p q c hqn
        rw [e] at h1
        rcases hlt with h2 | ⟨h2, h3⟩
        · omega
        · have := hb.2.2.2 p q c hqn (by rw [e]; omega)
          rw [e] at this
          omega
    by_cases e : σ p = σ' p
    · exact e
    · exfalso
      have hl : (κ (σ p) < κ (σ' p) ∨ (κ (σ p) = κ (σ' p) ∧ σ p < σ' p)) ∨ (κ (σ' p) < κ (σ p) ∨ (κ (σ' p) = κ (σ p) ∧ σ' p < σ p)) := by omega
      rcases hl with c | c
      · exact key σ σ' h h' s s' (fun q hq => ih q hq (by omega)) c
      · exact key σ' σ h' h s' s (fun q hq => (ih q hq (by omega)).symm) c
/-- the cells of a row, on either side -/
abbrev fT : Type := Nat → Nat → Int32
def fC (M : xM) : fT := fun k j => M.1 (1 + k) j
def keyF (f : fT) (R : Nat) (z : Int) (i : Nat) : Int := if z = 0 then (f 3 (R + i)).toInt else if z = 1 then -(f 3 (R + i)).toInt else (f 4 (R + i)).toInt
def PF (f f' : fT) (R n : Nat) (σ : Nat → Nat) : Prop := ∀ k, (k = 2 ∨ k = 3 ∨ k = 4) → ∀ j, j < 24 → f' k j = f k (if R ≤ j ∧ j < R + n then R + σ (j - R) else j)
theorem PF_id (f : fT) (R n : Nat) : PF f f R n (fun p => p) := by
  intro k _ j _
  split
  · rw [show R + (j - R) = j by omega]
  · rfl
theorem PF_key {f f' : fT} {R n : Nat} {σ : Nat → Nat} (h : PF f f' R n σ) (hR : R + n ≤ 24) (z : Int) {i : Nat} (hi : i < n) : keyF f' R z i = keyF f R z (σ i) := by
  unfold keyF
  have c : R ≤ R + i ∧ R + i < R + n := by omega
  rw [h 3 (by omega) _ (by omega), h 4 (by omega) _ (by omega), if_pos c, show R + i - R = i by omega]
theorem PF_sw {f f' f'' : fT} {R n i : Nat} {σ : Nat → Nat} (h : PF f f' R n σ) (hR : R + n ≤ 24) (hi : i + 1 < n) (hs : ∀ k, (k = 2 ∨ k = 3 ∨ k = 4) → ∀ j, j < 24 → f'' k j = if j = R + i + 1 then f' k (R + i) else if j = R + i then f' k (R + i + 1) else f' k j) : PF f f'' R n (swN i σ) := by
  intro k hk j hj
  rw [hs k hk j hj]
  by_cases c1 : j = R + i + 1
  · subst c1
    rw [if_pos rfl, h k hk _ (by omega), if_pos (by omega), if_pos (by omega), show R + i - R = i by omega, show R + i + 1 - R = i + 1 by omega]
    unfold swN
    rw [if_neg (by omega), if_pos rfl]
  rw [if_neg c1]
  by_cases c2 : j = R + i
  · subst c2
    rw [if_pos rfl, h k hk _ (by omega), if_pos (by omega), if_pos (by omega), show R + i - R = i by omega, show R + i + 1 - R = i + 1 by omega]
    unfold swN
    rw [if_pos rfl]
  rw [if_neg c2, h k hk _ hj]
  by_cases c3 : R ≤ j ∧ j < R + n
  · rw [if_pos c3, if_pos c3]
    unfold swN
    rw [if_neg (by omega), if_neg (by omega)]
  · rw [if_neg c3, if_neg c3]
/-- the class's side -/
theorem fC_key {M : xM} {r : Int} (hr : 0 ≤ r ∧ r < 4) (z : Int) {i : Nat} (hi : i < 6) : rkI M 1 r (i : Int) z = keyF (fC M) (6 * r).toNat z i := by
  unfold rkI keyF fC
  rw [heI_at hr (by omega), sp_in hr (by omega), rdI_at hr (by omega), show (6 * r + (i : Int)).toNat = (6 * r).toNat + i by omega]
theorem fC_sw {M : xM} {r : Int} (hr : 0 ≤ r ∧ r < 4) {i : Nat} (hi : i + 1 < 6) : ∀ k, (k = 2 ∨ k = 3 ∨ k = 4) → ∀ j, j < 24 → fC (swP M 1 (spI r i) (spI r ((i : Int) + 1))) k j = if j = (6 * r).toNat + i + 1 then fC M k ((6 * r).toNat + i) else if j = (6 * r).toNat + i then fC M k ((6 * r).toNat + i + 1) else fC M k j := by
  intro k hk j hj
  unfold fC
  rw [sp_in hr (by omega), sp_in hr (by omega), swP_at (by omega) (by omega) (by omega)]
  by_cases c1 : j = (6 * r).toNat + i + 1
  · rw [if_pos (by omega), if_pos c1, show (6 * r + (i : Int)).toNat = (6 * r).toNat + i by omega]
  · rw [if_neg (by omega), if_neg c1]
    by_cases c2 : j = (6 * r).toNat + i
    · rw [if_pos (by omega), if_pos c2, show (6 * r + ((i : Int) + 1)).toNat = (6 * r).toNat + i + 1 by omega]
    · rw [if_neg (by omega), if_neg c2]
section SRT
variable {r z : Int} {s : Nat}
theorem in_srt {M : xM} (hr : 0 ≤ r ∧ r < 4) (hs : s ≤ 6) : ∀ (m N : Nat) (W : xM) (σ : Nat → Nat), m ≤ N → N < s → PF (fC M) (fC W) (6 * r).toNat s σ → sgd (keyF (fC M) (6 * r).toNat z) s σ →
    (∀ i j, i < j → j ≤ N → j ≠ m → keyF (fC M) (6 * r).toNat z (σ i) ≤ keyF (fC M) (6 * r).toNat z (σ j)) →
    ∃ σ', PF (fC M) (fC (inM 1 r z m W)) (6 * r).toNat s σ' ∧ sgd (keyF (fC M) (6 * r).toNat z) s σ' ∧ ∀ i j, i < j → j ≤ N → keyF (fC M) (6 * r).toNat z (σ' i) ≤ keyF (fC M) (6 * r).toNat z (σ' j)
  | 0, N, W, σ, hm, hN, hP, hg, ho => ⟨σ, hP, hg, fun i j h1 h2 => ho i j h1 h2 (by omega)⟩
  | m + 1, N, W, σ, hm, hN, hP, hg, ho => by
    have k1 : rkI W 1 r ((m : Int) + 1) z = keyF (fC M) (6 * r).toNat z (σ (m + 1)) := by
      have := fC_key (M := W) hr z (i := m + 1) (by omega)
      rw [show ((m + 1 : Nat) : Int) = (m : Int) + 1 by omega] at this
      rw [this, PF_key hP (by omega) z (by omega)]
    have k0 : rkI W 1 r (m : Int) z = keyF (fC M) (6 * r).toNat z (σ m) := by
      rw [fC_key hr z (by omega), PF_key hP (by omega) z (by omega)]
    simp only [inM]
    by_cases c : rkI W 1 r ((m : Int) + 1) z < rkI W 1 r m z
    · rw [if_pos c]
      rw [k1, k0] at c
      refine in_srt hr hs m N (swP W 1 (spI r m) (spI r ((m : Int) + 1))) (swN m σ) (by omega) hN (PF_sw hP (by omega) (by omega) (fC_sw hr (by omega))) (sgd_sw hg (by omega) c) (fun i j h1 h2 h3 => ?_)
      have e0 : swN m σ m = σ (m + 1) := if_pos rfl
      have e1 : swN m σ (m + 1) = σ m := by unfold swN; rw [if_neg (by omega), if_pos rfl]
      have e2 : ∀ x, x ≠ m → x ≠ m + 1 → swN m σ x = σ x := fun x a b => by unfold swN; rw [if_neg a, if_neg b]
      by_cases cj : j = m + 1
      · subst cj
        rw [e1]
        by_cases ci : i = m
        · subst ci
          rw [e0]
          omega
        · rw [e2 i ci (by omega)]
          exact ho i m (by omega) (by omega) (by omega)
      · rw [e2 j h3 cj]
        by_cases ci : i = m
        · subst ci
          rw [e0]
          exact ho (i + 1) j (by omega) h2 cj
        · by_cases ci2 : i = m + 1
          · subst ci2
            rw [e1]
            exact ho m j (by omega) h2 cj
          · rw [e2 i ci ci2]
            exact ho i j h1 h2 cj
    · rw [if_neg c]
      rw [k1, k0] at c
      refine ⟨σ, hP, hg, fun i j h1 h2 => ?_⟩
      by_cases cj : j = m + 1
      · subst cj
        by_cases ci : i = m
        · subst ci
          omega
        · have := ho i m (by omega) (by omega) (by omega)
          omega
      · exact ho i j h1 h2 cj
theorem sr_srt {M : xM} (hr : 0 ≤ r ∧ r < 4) (hs : s ≤ 6) : ∀ (m : Nat), m < s → ∃ σ, PF (fC M) (fC (srM M 1 r z m)) (6 * r).toNat s σ ∧ sgd (keyF (fC M) (6 * r).toNat z) s σ ∧ ∀ i j, i < j → j ≤ m → keyF (fC M) (6 * r).toNat z (σ i) ≤ keyF (fC M) (6 * r).toNat z (σ j)
  | 0, _ => ⟨fun p => p, PF_id _ _ _, sgd_id _ _, fun i j h1 h2 => by omega⟩
  | m + 1, hm => by
    obtain ⟨σ, h1, h2, h3⟩ := sr_srt hr hs m (by omega)
    simp only [srM]
    exact in_srt hr hs (m + 1) (m + 1) _ σ (Nat.le_refl _) hm h1 h2 (fun i j a b c => h3 i j a (by omega))
end SRT
theorem gdC_inM {r z : Int} (hr : 0 ≤ r ∧ r < 4) : ∀ (n : Nat) (M : xM), gdC M 1 → hSz M 1 → (n : Int) < szI M 1 r → gdC (inM 1 r z n M) 1
  | 0, _, h, _, _ => h
  | n + 1, M, h, hS, hn => by
    simp only [inM]
    split
    · refine gdC_inM hr n _ (gdC_swP hS h ⟨hr.1, hr.2, by omega, by omega⟩ ⟨hr.1, hr.2, by omega, by omega⟩) (hS_swP hS _ _) ?_
      rw [szI_swP]
      omega
    · exact h
theorem gdC_srM {M : xM} {r z : Int} (hr : 0 ≤ r ∧ r < 4) (h : gdC M 1) (hS : hSz M 1) : ∀ n : Nat, (n : Int) < szI M 1 r → gdC (srM M 1 r z n) 1
  | 0, _ => h
  | n + 1, hn => by
    have e : ∀ q, szI (srM M 1 r z n) 1 q = szI M 1 q := fun q => szI_of (srM_row (by decide) n) q
    simp only [srM]
    exact gdC_inM hr (n + 1) _ (gdC_srM hr h hS n (by omega)) (fun q => by rw [e]; exact hS q) (by rw [e]; omega)
