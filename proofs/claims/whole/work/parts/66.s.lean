/-! THE TIE: sort. Both only swap neighbours that stand the wrong way round, and both end sorted: there is one such order. -/
def sgd (κ : Nat → Int) (n : Nat) (σ : Nat → Nat) : Prop := (∀ p, p < n → σ p < n) ∧ (∀ p q, p < n → q < n → σ p = σ q → p = q) ∧ (∀ a, a < n → ∃ p, p < n ∧ σ p = a) ∧ (∀ p q, p < q → q < n → κ (σ p) = κ (σ q) → σ p < σ q)
def swN (i : Nat) (σ : Nat → Nat) (p : Nat) : Nat := if p = i then σ (i + 1) else if p = i + 1 then σ i else σ p
def tau (i p : Nat) : Nat := if p = i then i + 1 else if p = i + 1 then i else p
theorem swN_tau (i : Nat) (σ : Nat → Nat) (p : Nat) : swN i σ p = σ (tau i p) := by
  unfold swN tau
  split
  · rfl
  · split <;> rfl
theorem tau_lt {i p n : Nat} (hi : i + 1 < n) (hp : p < n) : tau i p < n := by
  unfold tau
  split
  · exact hi
  · split <;> omega
theorem tau_tau (i p : Nat) : tau i (tau i p) = p := by
  unfold tau
  (repeat' split) <;> omega
theorem sgd_id (κ : Nat → Int) (n : Nat) : sgd κ n (fun p => p) := ⟨fun _ h => h, fun _ _ _ _ h => h, fun a h => ⟨a, h, rfl⟩, fun _ _ h _ _ => h⟩
theorem sgd_sw {κ : Nat → Int} {n i : Nat} {σ : Nat → Nat} (h : sgd κ n σ) (hi : i + 1 < n) (hk : κ (σ (i + 1)) < κ (σ i)) : sgd κ n (swN i σ) := by
  obtain ⟨h1, h2, h3, h4⟩ := h
  refine ⟨fun p hp => by rw [swN_tau]; exact h1 _ (tau_lt hi hp), fun p q hp hq e => ?_, fun a ha => ?_, fun p q hpq hq e => ?_⟩
  · rw [swN_tau, swN_tau] at e
    have := h2 _ _ (tau_lt hi hp) (tau_lt hi hq) e
    rw [← tau_tau i p, this, tau_tau]
  · obtain ⟨p, hp, e⟩ := h3 a ha
    exact ⟨tau i p, tau_lt hi hp, by rw [swN_tau, tau_tau]; exact e⟩
  · by_cases c : p = i ∧ q = i + 1
    · obtain ⟨rfl, rfl⟩ := c
      have e1 : swN p σ p = σ (p + 1) := if_pos rfl
      have e2 : swN p σ (p + 1) = σ p := by
        unfold swN
        rw [if_neg (by omega), if_pos rfl]
      rw [e1, e2] at e
      omega
    · rw [swN_tau, swN_tau] at e ⊢
      refine h4 _ _ ?_ (tau_lt hi hq) e
      unfold tau
      (repeat' split) <;> omega
def srt (κ : Nat → Int) (n : Nat) (σ : Nat → Nat) : Prop := ∀ p q, p < q → q < n → κ (σ p) ≤ κ (σ q)
theorem sgd_uniq {κ : Nat → Int} {n : Nat} {σ σ' : Nat → Nat} (h : sgd κ n σ) (h' : sgd κ n σ') (s : srt κ n σ) (s' : srt κ n σ') : ∀ p, p < n → σ p = σ' p := by
  intro p
  induction p using Nat.strongRecOn with
  | _ p ih =>
    intro hp
    -- the element that the other has here stands behind in both
    have key : ∀ (α β : Nat → Nat), sgd κ n α → sgd κ n β → srt κ n α → srt κ n β → (∀ q, q < p → α q = β q) → κ (α p) < κ (β p) ∨ (κ (α p) = κ (β p) ∧ α p < β p) → False := by
      intro α β ha hb sa sb hq hlt
      obtain ⟨q, hqn, e⟩ := hb.2.2.1 (α p) (ha.1 p hp)
      rcases Nat.lt_trichotomy q p with c | c | c
      · have := ha.2.1 q p (by omega) hp (by rw [hq q c]; exact e)
        omega
      · subst c
        rw [e] at hlt
        omega
      · have h1 := sb p q c hqn
        rw [e] at h1
        rcases hlt with h2 | ⟨h2, h3⟩
        · omega
        · have := hb.2.2.2 p q c hqn (by rw [e]; omega)
          rw [e] at this
          omega
    by_cases e : σ p = σ' p
    · exact e
    · exfalso
      have hl : (κ (σ p) < κ (σ' p) ∨ (κ (σ p) = κ (σ' p) ∧ σ p < σ' p)) ∨ (κ (σ' p) < κ (σ p) ∨ (κ (σ' p) = κ (σ p) ∧ σ' p < σ p)) := by omega
      rcases hl with c | c
      · exact key σ σ' h h' s s' (fun q hq => ih q hq (by omega)) c
      · exact key σ' σ h' h s' s (fun q hq => (ih q hq (by omega)).symm) c
/-- the cells of a row, on either side -/
abbrev fT : Type := Nat → Nat → Int32
def fC (M : xM) : fT := fun k j => M.1 (1 + k) j
def fK (K : xM) : fT := fun k j => K.1 69 (oK k + j)
def keyF (f : fT) (R : Nat) (z : Int) (i : Nat) : Int := if z = 0 then (f 3 (R + i)).toInt else if z = 1 then -(f 3 (R + i)).toInt else (f 4 (R + i)).toInt
def PF (f f' : fT) (R n : Nat) (σ : Nat → Nat) : Prop := ∀ k, (k = 2 ∨ k = 3 ∨ k = 4) → ∀ j, j < 24 → f' k j = f k (if R ≤ j ∧ j < R + n then R + σ (j - R) else j)
theorem PF_id (f : fT) (R n : Nat) : PF f f R n (fun p => p) := by
  intro k _ j _
  split
  · rw [show R + (j - R) = j by omega]
  · rfl
theorem PF_key {f f' : fT} {R n : Nat} {σ : Nat → Nat} (h : PF f f' R n σ) (hR : R + n ≤ 24) (z : Int) {i : Nat} (hi : i < n) : keyF f' R z i = keyF f R z (σ i) := by
  unfold keyF
  have c : R ≤ R + i ∧ R + i < R + n := by omega
  rw [h 3 (by omega) _ (by omega), h 4 (by omega) _ (by omega), if_pos c, show R + i - R = i by omega]
theorem PF_sw {f f' f'' : fT} {R n i : Nat} {σ : Nat → Nat} (h : PF f f' R n σ) (hR : R + n ≤ 24) (hi : i + 1 < n) (hs : ∀ k, (k = 2 ∨ k = 3 ∨ k = 4) → ∀ j, j < 24 → f'' k j = if j = R + i + 1 then f' k (R + i) else if j = R + i then f' k (R + i + 1) else f' k j) : PF f f'' R n (swN i σ) := by
  intro k hk j hj
  rw [hs k hk j hj]
  by_cases c1 : j = R + i + 1
  · subst c1
    rw [if_pos rfl, h k hk _ (by omega), if_pos (by omega), if_pos (by omega), show R + i - R = i by omega, show R + i + 1 - R = i + 1 by omega]
    unfold swN
    rw [if_neg (by omega), if_pos rfl]
  rw [if_neg c1]
  by_cases c2 : j = R + i
  · subst c2
    rw [if_pos rfl, h k hk _ (by omega), if_pos (by omega), if_pos (by omega), show R + i - R = i by omega, show R + i + 1 - R = i + 1 by omega]
    unfold swN
    rw [if_pos rfl]
  rw [if_neg c2, h k hk _ hj]
  by_cases c3 : R ≤ j ∧ j < R + n
  · rw [if_pos c3, if_pos c3]
    unfold swN
    rw [if_neg (by omega), if_neg (by omega)]
  · rw [if_neg c3, if_neg c3]
/-- the class's side -/
theorem fC_key {M : xM} {r : Int} (hr : 0 ≤ r ∧ r < 4) (z : Int) {i : Nat} (hi : i < 6) : rkI M 1 r (i : Int) z = keyF (fC M) (6 * r).toNat z i := by
  unfold rkI keyF fC
  rw [heI_at hr (by omega), sp_in hr (by omega), rdI_at hr (by omega), show (6 * r + (i : Int)).toNat = (6 * r).toNat + i by omega]
theorem fC_sw {M : xM} {r : Int} (hr : 0 ≤ r ∧ r < 4) {i : Nat} (hi : i + 1 < 6) : ∀ k, (k = 2 ∨ k = 3 ∨ k = 4) → ∀ j, j < 24 → fC (swP M 1 (spI r i) (spI r ((i : Int) + 1))) k j = if j = (6 * r).toNat + i + 1 then fC M k ((6 * r).toNat + i) else if j = (6 * r).toNat + i then fC M k ((6 * r).toNat + i + 1) else fC M k j := by
  intro k hk j hj
  unfold fC
  rw [sp_in hr (by omega), sp_in hr (by omega), swP_at (by omega) (by omega) (by omega)]
  by_cases c1 : j = (6 * r).toNat + i + 1
  · rw [if_pos (by omega), if_pos c1, show (6 * r + (i : Int)).toNat = (6 * r).toNat + i by omega]
  · rw [if_neg (by omega), if_neg c1]
    by_cases c2 : j = (6 * r).toNat + i
    · rw [if_pos (by omega), if_pos c2, show (6 * r + ((i : Int) + 1)).toNat = (6 * r).toNat + i + 1 by omega]
    · rw [if_neg (by omega), if_neg c2]
section SRT
variable {r z : Int} {s : Nat}
theorem in_srt {M : xM} (hr : 0 ≤ r ∧ r < 4) (hs : s ≤ 6) : ∀ (m N : Nat) (W : xM) (σ : Nat → Nat), m ≤ N → N < s → PF (fC M) (fC W) (6 * r).toNat s σ → sgd (keyF (fC M) (6 * r).toNat z) s σ →
    (∀ i j, i < j → j ≤ N → j ≠ m → keyF (fC M) (6 * r).toNat z (σ i) ≤ keyF (fC M) (6 * r).toNat z (σ j)) →
    ∃ σ', PF (fC M) (fC (inM 1 r z m W)) (6 * r).toNat s σ' ∧ sgd (keyF (fC M) (6 * r).toNat z) s σ' ∧ ∀ i j, i < j → j ≤ N → keyF (fC M) (6 * r).toNat z (σ' i) ≤ keyF (fC M) (6 * r).toNat z (σ' j)
  | 0, N, W, σ, hm, hN, hP, hg, ho => ⟨σ, hP, hg, fun i j h1 h2 => ho i j h1 h2 (by omega)⟩
  | m + 1, N, W, σ, hm, hN, hP, hg, ho => by
    have k1 : rkI W 1 r ((m : Int) + 1) z = keyF (fC M) (6 * r).toNat z (σ (m + 1)) := by
      have := fC_key (M := W) hr z (i := m + 1) (by omega)
      rw [show ((m + 1 : Nat) : Int) = (m : Int) + 1 by omega] at this
      rw [this, PF_key hP (by omega) z (by omega)]
    have k0 : rkI W 1 r (m : Int) z = keyF (fC M) (6 * r).toNat z (σ m) := by
      rw [fC_key hr z (by omega), PF_key hP (by omega) z (by omega)]
    simp only [inM]
    by_cases c : rkI W 1 r ((m : Int) + 1) z < rkI W 1 r m z
    · rw [if_pos c]
      rw [k1, k0] at c
      refine in_srt hr hs m N (swP W 1 (spI r m) (spI r ((m : Int) + 1))) (swN m σ) (by omega) hN (PF_sw hP (by omega) (by omega) (fC_sw hr (by omega))) (sgd_sw hg (by omega) c) (fun i j h1 h2 h3 => ?_)
      have e0 : swN m σ m = σ (m + 1) := if_pos rfl
      have e1 : swN m σ (m + 1) = σ m := by unfold swN; rw [if_neg (by omega), if_pos rfl]
      have e2 : ∀ x, x ≠ m → x ≠ m + 1 → swN m σ x = σ x := fun x a b => by unfold swN; rw [if_neg a, if_neg b]
      by_cases cj : j = m + 1
      · subst cj
        rw [e1]
        by_cases ci : i = m
        · subst ci
          rw [e0]
          omega
        · rw [e2 i ci (by omega)]
          exact ho i m (by omega) (by omega) (by omega)
      · rw [e2 j h3 cj]
        by_cases ci : i = m
        · subst ci
          rw [e0]
          exact ho (i + 1) j (by omega) h2 cj
        · by_cases ci2 : i = m + 1
          · subst ci2
            rw [e1]
            exact ho m j (by omega) h2 cj
          · rw [e2 i ci ci2]
            exact ho i j h1 h2 cj
    · rw [if_neg c]
      rw [k1, k0] at c
      refine ⟨σ, hP, hg, fun i j h1 h2 => ?_⟩
      by_cases cj : j = m + 1
      · subst cj
        by_cases ci : i = m
        · subst ci
          omega
        · have := ho i m (by omega) (by omega) (by omega)
          omega
      · exact ho i j h1 h2 cj
theorem sr_srt {M : xM} (hr : 0 ≤ r ∧ r < 4) (hs : s ≤ 6) : ∀ (m : Nat), m < s → ∃ σ, PF (fC M) (fC (srM M 1 r z m)) (6 * r).toNat s σ ∧ sgd (keyF (fC M) (6 * r).toNat z) s σ ∧ ∀ i j, i < j → j ≤ m → keyF (fC M) (6 * r).toNat z (σ i) ≤ keyF (fC M) (6 * r).toNat z (σ j)
  | 0, _ => ⟨fun p => p, PF_id _ _ _, sgd_id _ _, fun i j h1 h2 => by omega⟩
  | m + 1, hm => by
    obtain ⟨σ, h1, h2, h3⟩ := sr_srt hr hs m (by omega)
    simp only [srM]
    exact in_srt hr hs (m + 1) (m + 1) _ σ (Nat.le_refl _) hm h1 h2 (fun i j a b c => h3 i j a (by omega))
/-- the model's side -/
theorem fK_key {K : xM} (hr : 0 ≤ r ∧ r < 4) (hz : 0 ≤ z ∧ z ≤ 2) {i : Nat} (hi : i + 1 < 6) : (ibB K (6 * r + i) (6 * r + i + 1) z = true) ↔ keyF (fK K) (6 * r).toNat z (i + 1) < keyF (fK K) (6 * r).toNat z i := by
  have e : ∀ (o : Nat) (x : Nat), (x < 6) → zI K ((o : Int) + (6 * r + (x : Int))) = (K.1 69 (o + ((6 * r).toNat + x))).toInt := fun o x hx => by
    show (K.1 69 ((o : Int) + (6 * r + (x : Int))).toNat).toInt = _
    rw [show ((o : Int) + (6 * r + (x : Int))).toNat = o + ((6 * r).toNat + x) by omega]
  unfold ibB keyF fK
  have a3 := e 28 i (by omega)
  have b3 := e 28 (i + 1) (by omega)
  have a4 := e 52 i (by omega)
  have b4 := e 52 (i + 1) (by omega)
  rw [show (((i + 1 : Nat) : Int)) = (i : Int) + 1 by omega, show 6 * r + ((i : Int) + 1) = 6 * r + (i : Int) + 1 by omega] at b3 b4
  have o3 : oK 3 = 28 := rfl
  have o4 : oK 4 = 52 := rfl
  rw [o3, o4, ← a3, ← a4, ← b3, ← b4]
  rcases (show z = 0 ∨ z = 1 ∨ z = 2 by omega) with rfl | rfl | rfl
  · rw [if_neg (by decide), if_pos rfl, if_pos rfl, if_pos rfl]
    exact decide_eq_true_iff
  · rw [if_neg (by decide), if_neg (by decide), if_neg (by decide), if_pos rfl, if_neg (by decide), if_pos rfl, decide_eq_true_iff]
    show _ ↔ -(zI K (28 + (6 * r + (i : Int) + 1))) < -(zI K (28 + (6 * r + (i : Int))))
    show zI K (28 + (6 * r + (i : Int))) < zI K (28 + (6 * r + (i : Int) + 1)) ↔ _
    omega
  · rw [if_pos rfl, if_neg (by decide), if_neg (by decide), if_neg (by decide), if_neg (by decide)]
    exact decide_eq_true_iff
theorem exZ_69 {K : xM} {a b : Int} (ha : 0 ≤ a ∧ a < 24) (hb : 0 ≤ b ∧ b < 24) {k : Nat} (hk : k = 2 ∨ k = 3 ∨ k = 4) {j : Nat} (hj : j < 24) : (exZ K a b).1 69 (oK k + j) = if (j : Int) = b then K.1 69 (oK k + a.toNat) else if (j : Int) = a then K.1 69 (oK k + b.toNat) else K.1 69 (oK k + j) := by
  have h := (vW_ex (M := K) ha hb).2.1 j hj
  rw [← vW_k _ hk]
  have h2 : (vW (exZ K a b)).1 (1 + k) j = (swP (vW K) 1 a b).1 (1 + k) j := by
    rcases hk with rfl | rfl | rfl
    · exact h.1
    · exact h.2.1
    · exact h.2.2
  rw [h2, swP_at ha hb (by omega), vW_k K hk, vW_k K hk, vW_k K hk]
theorem fK_sw {K : xM} (hr : 0 ≤ r ∧ r < 4) {i : Nat} (hi : i + 1 < 6) : ∀ k, (k = 2 ∨ k = 3 ∨ k = 4) → ∀ j, j < 24 → fK (exZ K (6 * r + i) (6 * r + i + 1)) k j = if j = (6 * r).toNat + i + 1 then fK K k ((6 * r).toNat + i) else if j = (6 * r).toNat + i then fK K k ((6 * r).toNat + i + 1) else fK K k j := by
  intro k hk j hj
  unfold fK
  rw [exZ_69 (by omega) (by omega) hk hj]
  by_cases c1 : j = (6 * r).toNat + i + 1
  · rw [if_pos (by omega), if_pos c1, show (6 * r + (i : Int)).toNat = (6 * r).toNat + i by omega]
  · rw [if_neg (by omega), if_neg c1]
    by_cases c2 : j = (6 * r).toNat + i
    · rw [if_pos (by omega), if_pos c2, show (6 * r + (i : Int) + 1).toNat = (6 * r).toNat + i + 1 by omega]
    · rw [if_neg (by omega), if_neg c2]
theorem bb_srt {K : xM} (hr : 0 ≤ r ∧ r < 4) (hz : 0 ≤ z ∧ z ≤ 2) (hs : s ≤ 6) {W : xM} {σ : Nat → Nat} (hP : PF (fK K) (fK W) (6 * r).toNat s σ) (hg : sgd (keyF (fK K) (6 * r).toNat z) s σ) {t : Nat}
    (ho : ∀ i j, i < j → j < s → t ≤ j → keyF (fK K) (6 * r).toNat z (σ i) ≤ keyF (fK K) (6 * r).toNat z (σ j)) : ∀ m : Nat, m < s →
    ∃ σ', PF (fK K) (fK (bbZ r z m W)) (6 * r).toNat s σ' ∧ sgd (keyF (fK K) (6 * r).toNat z) s σ' ∧ (∀ i j, i < j → j < s → t ≤ j → keyF (fK K) (6 * r).toNat z (σ' i) ≤ keyF (fK K) (6 * r).toNat z (σ' j)) ∧ ∀ i, i < m → keyF (fK K) (6 * r).toNat z (σ' i) ≤ keyF (fK K) (6 * r).toNat z (σ' m)
  | 0, _ => ⟨σ, hP, hg, ho, fun i hi => by omega⟩
  | m + 1, hm => by
    obtain ⟨σ', h1, h2, h3, h4⟩ := bb_srt hr hz hs hP hg ho m (by omega)
    have hk := fK_key (K := bbZ r z m W) hr hz (i := m) (by omega)
    rw [PF_key h1 (by omega) z (by omega), PF_key h1 (by omega) z (by omega)] at hk
    simp only [bbZ]
    by_cases c : ibB (bbZ r z m W) (6 * r + m) (6 * r + m + 1) z = true
    · rw [if_pos c]
      have c' := hk.mp c
      have e0 : swN m σ' m = σ' (m + 1) := if_pos rfl
      have e1 : swN m σ' (m + 1) = σ' m := by unfold swN; rw [if_neg (by omega), if_pos rfl]
      have e2 : ∀ x, x ≠ m → x ≠ m + 1 → swN m σ' x = σ' x := fun x a b => by unfold swN; rw [if_neg a, if_neg b]
      have hlt : m + 1 < t := by
        rcases Nat.lt_or_ge (m + 1) t with q | q
        · exact q
        · have := h3 m (m + 1) (by omega) hm q
          omega
      refine ⟨swN m σ', PF_sw h1 (by omega) (by omega) (fK_sw hr (by omega)), sgd_sw h2 (by omega) c', fun i j a b d => ?_, fun i hi => ?_⟩
      · rw [e2 j (by omega) (by omega)]
        by_cases ci : i = m
        · subst ci
          rw [e0]
          exact h3 (i + 1) j (by omega) b d
        · by_cases ci2 : i = m + 1
          · subst ci2
            rw [e1]
            exact h3 m j (by omega) b d
          · rw [e2 i ci ci2]
            exact h3 i j a b d
      · rw [e1]
        by_cases ci : i = m
        · subst ci
          rw [e0]
          omega
        · rw [e2 i ci (by omega)]
          exact h4 i (by omega)
    · rw [if_neg c]
      have c' : ¬ keyF (fK K) (6 * r).toNat z (σ' (m + 1)) < keyF (fK K) (6 * r).toNat z (σ' m) := fun q => c (hk.mpr q)
      refine ⟨σ', h1, h2, h3, fun i hi => ?_⟩
      by_cases ci : i = m
      · subst ci
        omega
      · have := h4 i (by omega)
        omega
theorem so_srt {K : xM} (hr : 0 ≤ r ∧ r < 4) (hz : 0 ≤ z ∧ z ≤ 2) (hs : s ≤ 6) (hS : (zI K r - 1).toNat = s - 1) (h0 : 0 < s) : ∀ m : Nat, m ≤ s → ∃ σ, PF (fK K) (fK (soZ K r z m)) (6 * r).toNat s σ ∧ sgd (keyF (fK K) (6 * r).toNat z) s σ ∧ ∀ i j, i < j → j < s → s - m ≤ j → keyF (fK K) (6 * r).toNat z (σ i) ≤ keyF (fK K) (6 * r).toNat z (σ j)
  | 0, _ => ⟨fun p => p, PF_id _ _ _, sgd_id _ _, fun i j h1 h2 h3 => by omega⟩
  | m + 1, hm => by
    obtain ⟨σ, h1, h2, h3⟩ := so_srt hr hz hs hS h0 m (by omega)
    simp only [soZ]
    rw [hS]
    -- a pass: first up to the place that is next, then what stands sorted stays
    have pass : ∀ q, s - 1 - m ≤ q → q < s → ∃ σ', PF (fK K) (fK (bbZ r z q (soZ K r z m))) (6 * r).toNat s σ' ∧ sgd (keyF (fK K) (6 * r).toNat z) s σ' ∧ ∀ i j, i < j → j < s → s - (m + 1) ≤ j → keyF (fK K) (6 * r).toNat z (σ' i) ≤ keyF (fK K) (6 * r).toNat z (σ' j) := by
      intro q hq1
      induction q with
      | zero =>
        intro hq2
        obtain ⟨σ', a1, a2, a3, a4⟩ := bb_srt hr hz hs h1 h2 h3 0 (by omega)
        exact ⟨σ', a1, a2, fun i j b1 b2 b3 => a3 i j b1 b2 (by omega)⟩
      | succ q ih =>
        intro hq2
        by_cases cq : s - 1 - m = q + 1
        · obtain ⟨σ', a1, a2, a3, a4⟩ := bb_srt hr hz hs h1 h2 h3 (q + 1) (by omega)
          refine ⟨σ', a1, a2, fun i j b1 b2 b3 => ?_⟩
          by_cases cj : j = q + 1
          · subst cj
            exact a4 i b1
          · exact a3 i j b1 b2 (by omega)
        · obtain ⟨σ', a1, a2, a3⟩ := ih (by omega) (by omega)
          obtain ⟨σ2, b1, b2, b3, b4⟩ := bb_srt hr hz hs h1 h2 h3 q (by omega)
          have hk := fK_key (K := bbZ r z q (soZ K r z m)) hr hz (i := q) (by omega)
          rw [PF_key a1 (by omega) z (by omega), PF_key a1 (by omega) z (by omega)] at hk
          have c : ¬ ibB (bbZ r z q (soZ K r z m)) (6 * r + q) (6 * r + q + 1) z = true := fun z9 => by
            have := hk.mp z9
            have := a3 q (q + 1) (by omega) hq2 (by omega)
            omega
          simp only [bbZ]
          rw [if_neg c]
          exact ⟨σ', a1, a2, a3⟩
    exact pass (s - 1) (by omega) (by omega)
end SRT
/-- sorted -/
theorem gdC_inM {r z : Int} (hr : 0 ≤ r ∧ r < 4) : ∀ (n : Nat) (M : xM), gdC M 1 → hSz M 1 → (n : Int) < szI M 1 r → gdC (inM 1 r z n M) 1
  | 0, _, h, _, _ => h
  | n + 1, M, h, hS, hn => by
    simp only [inM]
    split
    · refine gdC_inM hr n _ (gdC_swP hS h ⟨hr.1, hr.2, by omega, by omega⟩ ⟨hr.1, hr.2, by omega, by omega⟩) (hS_swP hS _ _) ?_
      rw [szI_swP]
      omega
    · exact h
theorem gdC_srM {M : xM} {r z : Int} (hr : 0 ≤ r ∧ r < 4) (h : gdC M 1) (hS : hSz M 1) : ∀ n : Nat, (n : Int) < szI M 1 r → gdC (srM M 1 r z n) 1
  | 0, _ => h
  | n + 1, hn => by
    have e : ∀ q, szI (srM M 1 r z n) 1 q = szI M 1 q := fun q => szI_of (srM_row (by decide) n) q
    simp only [srM]
    exact gdC_inM hr (n + 1) _ (gdC_srM hr h hS n (by omega)) (fun q => by rw [e]; exact hS q) (by rw [e]; omega)
theorem soZ_zero {K : xM} {r z : Int} (h : zI K r ≤ 0) : soZ K r z (zI K r).toNat = K := by
  rw [show (zI K r).toNat = 0 by omega]
  rfl
theorem bbZ_out {K : xM} {r z : Int} (hr : 0 ≤ r ∧ r < 4) {j : Nat} (hj : j < 4 ∨ 76 ≤ j) : ∀ (n : Nat), n < 6 → (bbZ r z n K).1 69 j = K.1 69 j
  | 0, _ => rfl
  | n + 1, hn => by
    simp only [bbZ]
    split
    · rw [exZ_at (by omega) (by omega)]
      simp only [true_and]
      rw [if_neg (by omega), if_neg (by omega), if_neg (by omega), if_neg (by omega), if_neg (by omega), if_neg (by omega)]
      exact bbZ_out hr hj n (by omega)
    · exact bbZ_out hr hj n (by omega)
theorem soZ_out {K : xM} {r z : Int} (hr : 0 ≤ r ∧ r < 4) (hs : zI K r ≤ 6) {j : Nat} (hj : j < 4 ∨ 76 ≤ j) : ∀ (n : Nat), (soZ K r z n).1 69 j = K.1 69 j
  | 0 => rfl
  | n + 1 => by
    simp only [soZ]
    rw [bbZ_out hr hj _ (by omega), soZ_out hr hs hj n]
theorem Rl_so {M K : xM} (h : Rl M K) {r z : Int} (hr : 0 ≤ r ∧ r < 4) (hz : 0 ≤ z ∧ z ≤ 2) : Rl (srM M 1 r z (szI M 1 r - 1).toNat) (soZ K r z (zI K r).toNat) := by
  have hS := Rl_hS h
  have hs6 := hS r
  have hzs := Rl_sz h hr
  by_cases h0 : szI M 1 r = 0
  · rw [soZ_zero (by omega), show (szI M 1 r - 1).toNat = 0 by omega]
    exact h
  obtain ⟨s, hs⟩ : ∃ s : Nat, (szI M 1 r).toNat = s := ⟨_, rfl⟩
  have hsi : szI M 1 r = (s : Int) := by omega
  rw [hzs, hsi]
  rw [show ((s : Int) - 1).toNat = s - 1 by omega, show ((s : Int)).toNat = s by omega]
  obtain ⟨σ, a1, a2, a3⟩ := sr_srt (M := M) (r := r) (z := z) (s := s) hr (by omega) (s - 1) (by omega)
  obtain ⟨τ, b1, b2, b3⟩ := so_srt (K := K) (r := r) (z := z) (s := s) hr hz (by omega) (by rw [hzs, hsi]; omega) (by omega) s (Nat.le_refl _)
  -- the same keys
  have hat : ∀ k, (k = 2 ∨ k = 3 ∨ k = 4) → ∀ q y : Int, vld M 1 q y → fK K k (6 * q + y).toNat = fC M k (6 * q + y).toNat := fun k hk q y hv => by
    have a := k234.mp ((Rl_v h).2.1 q y hv.1 hv.2.1 hv.2.2.1 hv.2.2.2) k hk
    unfold fK fC
    rw [← vW_k K hk]
    exact a
  have hkey : ∀ i, i < s → keyF (fK K) (6 * r).toNat z i = keyF (fC M) (6 * r).toNat z i := fun i hi => by
    have e3 := hat 3 (by omega) r (i : Int) ⟨hr.1, hr.2, by omega, by omega⟩
    have e4 := hat 4 (by omega) r (i : Int) ⟨hr.1, hr.2, by omega, by omega⟩
    rw [show (6 * r + (i : Int)).toNat = (6 * r).toNat + i by omega] at e3 e4
    unfold keyF
    rw [e3, e4]
  have b2' : sgd (keyF (fC M) (6 * r).toNat z) s τ := ⟨b2.1, b2.2.1, b2.2.2.1, fun p q x1 x2 x3 => b2.2.2.2 p q x1 x2 (by rw [hkey _ (b2.1 p (by omega)), hkey _ (b2.1 q x2)]; exact x3)⟩
  have hu : ∀ p, p < s → σ p = τ p := sgd_uniq a2 b2' (fun p q x1 x2 => a3 p q x1 (by omega)) (fun p q x1 x2 => by
    have := b3 p q x1 x2 (by omega)
    rw [hkey _ (b2.1 p (by omega)), hkey _ (b2.1 q x2)] at this
    exact this)
  have hrow : ∀ a, a < 3 ∨ 5 < a → (srM M 1 r z (s - 1)).1 a = M.1 a := fun a ha => srM_row (by omega) _
  have hsz : ∀ q, szI (srM M 1 r z (s - 1)) 1 q = szI M 1 q := fun q => szI_of (srM_row (by decide) _) q
  refine Rl_c h (fun a ha => hrow a (by omega)) (fun a ha => soZ_row ha _) ⟨okC_srM h.1.1 _, gdC_srM hr h.1.2.1 hS _ (by omega), eB_of ?_⟩
  refine ⟨fun j hj => ?_, fun q y h0 h1 h2 h3 => ?_, fun j a b => ?_⟩
  · show (soZ K r z s).1 69 j = _
    rw [soZ_out hr (by omega) (by omega), hrow 2 (by omega)]
    exact (Rl_v h).1 j hj
  · rw [hsz] at h3
    have hq := hS q
    refine k234.mpr fun k hk => ?_
    rw [vW_k _ hk]
    have e1 := b1 k hk (6 * q + y).toNat (by omega)
    have e2 := a1 k hk (6 * q + y).toNat (by omega)
    have e1' : (soZ K r z s).1 69 (oK k + (6 * q + y).toNat) = _ := e1
    have e2' : (srM M 1 r z (s - 1)).1 (1 + k) (6 * q + y).toNat = _ := e2
    rw [e1', e2']
    by_cases c : (6 * r).toNat ≤ (6 * q + y).toNat ∧ (6 * q + y).toNat < (6 * r).toNat + s
    · rw [if_pos c, if_pos c, hu _ (by omega)]
      have hb := b2.1 ((6 * q + y).toNat - (6 * r).toNat) (by omega)
      have := hat k hk r (τ ((6 * q + y).toNat - (6 * r).toNat) : Int) ⟨hr.1, hr.2, by omega, by omega⟩
      rw [show (6 * r + (τ ((6 * q + y).toNat - (6 * r).toNat) : Int)).toNat = (6 * r).toNat + τ ((6 * q + y).toNat - (6 * r).toNat) by omega] at this
      exact this
    · rw [if_neg c, if_neg c]
      exact hat k hk q y ⟨h0, h1, h2, h3⟩
  · show (soZ K r z s).1 69 (72 + j) = _
    rw [soZ_out hr (by omega) (by omega), hrow 1 (by omega)]
    exact (Rl_v h).2.2 j a b
