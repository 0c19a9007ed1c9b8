/-! THE TREE COUNTS AS GOING ALONG DOES. wfT: a subtree of depth n at most, its heights between lo and hi, ordered; cvI: how many came with a height above h -/
def wfT (M : xM) (u : Nat) (B : Int) : Nat → Option Nat → Int → Int → Prop
  | 0, r, _, _ => r = none
  | n + 1, r, lo, hi => ∀ a, r = some a → (52 ≤ a ∧ a < 52 + u) ∧ (lo < (M.1 a 0).toInt ∧ (M.1 a 0).toInt < hi) ∧ (0 ≤ (M.1 a 1).toInt ∧ (M.1 a 1).toInt ≤ B) ∧ wfT M u B n (M.2.1 a 2) lo (M.1 a 0).toInt ∧ wfT M u B n (M.2.1 a 3) (M.1 a 0).toInt hi
def cvI (M : xM) (h : Int) : Nat → Option Nat → Int
  | 0, _ => 0
  | _ + 1, none => 0
  | n + 1, some a => (if h < (M.1 a 0).toInt then (M.1 a 1).toInt else 0) + cvI M h n (M.2.1 a 2) + cvI M h n (M.2.1 a 3)
theorem wfT_none (M : xM) (u : Nat) (B : Int) (lo hi : Int) : ∀ n, wfT M u B n none lo hi
  | 0 => rfl
  | _ + 1 => fun _ h => by cases h
theorem cvI_none (M : xM) (h : Int) : ∀ n, cvI M h n none = 0
  | 0 => rfl
  | _ + 1 => rfl
theorem wfT_up {M : xM} {u : Nat} {B : Int} : ∀ (n : Nat) (r : Option Nat) (lo hi : Int), wfT M u B n r lo hi → wfT M u B (n + 1) r lo hi ∧ (∀ h, cvI M h (n + 1) r = cvI M h n r) ∧ alI M (n + 1) r = alI M n r := by
  intro n
  induction n with
  | zero =>
    intro r lo hi h
    have h : r = none := h
    subst h
    exact ⟨wfT_none _ _ _ _ _ _, fun _ => rfl, rfl⟩
  | succ n ih =>
    intro r lo hi h
    cases r with
    | none => exact ⟨wfT_none _ _ _ _ _ _, fun _ => rfl, rfl⟩
    | some a =>
      obtain ⟨h1, h2, h3, h4, h5⟩ := h a rfl
      obtain ⟨l1, l2, l3⟩ := ih _ _ _ h4
      obtain ⟨g1, g2, g3⟩ := ih _ _ _ h5
      refine ⟨fun a' q => ?_, fun x => ?_, ?_⟩
      · cases q
        exact ⟨h1, h2, h3, l1, g1⟩
      · show _ + cvI M x (n + 1) (M.2.1 a 2) + cvI M x (n + 1) (M.2.1 a 3) = _ + cvI M x n (M.2.1 a 2) + cvI M x n (M.2.1 a 3)
        rw [l2, g2]
      · show _ + alI M (n + 1) (M.2.1 a 2) + alI M (n + 1) (M.2.1 a 3) = _ + alI M n (M.2.1 a 2) + alI M n (M.2.1 a 3)
        rw [l3, g3]
theorem wfT_ups {M : xM} {u : Nat} {B : Int} {r : Option Nat} {lo hi : Int} {n : Nat} (h : wfT M u B n r lo hi) : ∀ k, wfT M u B (n + k) r lo hi ∧ (∀ x, cvI M x (n + k) r = cvI M x n r) ∧ alI M (n + k) r = alI M n r := by
  intro k
  induction k with
  | zero => exact ⟨h, fun _ => rfl, rfl⟩
  | succ k ih =>
    obtain ⟨a1, a2, a3⟩ := wfT_up _ _ _ _ ih.1
    exact ⟨a1, fun x => (a2 x).trans (ih.2.1 x), a3.trans ih.2.2⟩
theorem cv_hi {M : xM} {u : Nat} {B x : Int} : ∀ (n : Nat) (r : Option Nat) (lo hi : Int), wfT M u B n r lo hi → hi ≤ x → cvI M x n r = 0 := by
  intro n
  induction n with
  | zero => intro r lo hi _ _; rfl
  | succ n ih =>
    intro r lo hi h hx
    cases r with
    | none => rfl
    | some a =>
      obtain ⟨h1, h2, h3, h4, h5⟩ := h a rfl
      simp only [cvI]
      rw [if_neg (by omega), ih _ _ _ h4 (by omega), ih _ _ _ h5 hx]
      rfl
theorem cv_lo {M : xM} {u : Nat} {B x : Int} : ∀ (n : Nat) (r : Option Nat) (lo hi : Int), wfT M u B n r lo hi → x ≤ lo → cvI M x n r = alI M n r := by
  intro n
  induction n with
  | zero => intro r lo hi _ _; rfl
  | succ n ih =>
    intro r lo hi h hx
    cases r with
    | none => rfl
    | some a =>
      obtain ⟨h1, h2, h3, h4, h5⟩ := h a rfl
      simp only [cvI, alI]
      rw [if_pos (by omega), ih _ _ _ h4 hx, ih _ _ _ h5 (by omega)]
theorem ht_cv {M : xM} {u : Nat} {B x : Int} : ∀ (n m : Nat) (r : Option Nat) (lo hi s : Int), n ≤ m → n ≤ 12 → wfT M u B n r lo hi → htI M x m r s = s + cvI M x n r := by
  intro n
  induction n with
  | zero =>
    intro m r lo hi s _ _ h
    have h : r = none := h
    subst h
    cases m <;> simp [htI, cvI]
  | succ n ih =>
    intro m r lo hi s hm h12 h
    obtain ⟨m, rfl⟩ : ∃ q, m = q + 1 := ⟨m - 1, by omega⟩
    cases r with
    | none => simp [htI, cvI]
    | some a =>
      obtain ⟨h1, h2, h3, h4, h5⟩ := h a rfl
      simp only [htI, cvI]
      by_cases hx : x < (M.1 a 0).toInt
      · rw [if_pos hx, if_pos hx, ih m _ _ _ _ (by omega) (by omega) h4]
        have e1 := (wfT_ups h5 (12 - n)).2.2
        rw [show n + (12 - n) = 12 by omega] at e1
        rw [e1, ← cv_lo (x := x) n (M.2.1 a 3) (M.1 a 0).toInt hi h5 (by omega)]
        omega
      · rw [if_neg hx, if_neg hx, ih m _ _ _ _ (by omega) (by omega) h5, cv_hi n _ _ _ h4 (by omega)]
        omega
theorem wf_agree {M M' : xM} {u u' : Nat} {B B' : Int} (hu : u ≤ u') (hB : B ≤ B') : ∀ (n : Nat) (r : Option Nat) (lo hi : Int), (∀ a, 52 ≤ a → a < 52 + u → lo < (M.1 a 0).toInt → (M.1 a 0).toInt < hi → M'.1 a 0 = M.1 a 0 ∧ M'.1 a 1 = M.1 a 1 ∧ M'.2.1 a 2 = M.2.1 a 2 ∧ M'.2.1 a 3 = M.2.1 a 3) → wfT M u B n r lo hi → wfT M' u' B' n r lo hi ∧ ∀ x, cvI M' x n r = cvI M x n r := by
  intro n
  induction n with
  | zero => intro r lo hi _ h; exact ⟨h, fun _ => rfl⟩
  | succ n ih =>
    intro r lo hi hag h
    cases r with
    | none => exact ⟨wfT_none _ _ _ _ _ _, fun _ => rfl⟩
    | some a =>
      obtain ⟨h1, h2, h3, h4, h5⟩ := h a rfl
      obtain ⟨e0, e1, e2, e3⟩ := hag a h1.1 h1.2 h2.1 h2.2
      obtain ⟨l1, l2⟩ := ih (M.2.1 a 2) lo (M.1 a 0).toInt (fun b b1 b2 b3 b4 => hag b b1 b2 b3 (by omega)) h4
      obtain ⟨g1, g2⟩ := ih (M.2.1 a 3) (M.1 a 0).toInt hi (fun b b1 b2 b3 b4 => hag b b1 b2 (by omega) b4) h5
      refine ⟨fun a' q => ?_, fun x => ?_⟩
      · cases q
        rw [e0, e1, e2, e3]
        exact ⟨by omega, h2, by omega, l1, g1⟩
      · simp only [cvI]
        rw [e0, e1, e2, e3, l2, g2]
/-- the fields behind freshNode -/
theorem fnM_at {M : xM} {u : Nat} (hu : (M.1 50 2).toInt = u) (hu12 : u < 12) {h : Int} (hh : rg h) :
    ((fnM M h).1 50 2).toInt = u + 1 ∧ ((fnM M h).1 (52 + u) 0).toInt = h ∧ ((fnM M h).1 (52 + u) 1).toInt = 1 ∧ (fnM M h).2.1 (52 + u) 2 = none ∧ (fnM M h).2.1 (52 + u) 3 = none ∧
    (∀ a k, a ≠ 52 + u → a ≠ 50 → (fnM M h).1 a k = M.1 a k) ∧ (∀ a k, a ≠ 52 + u → (fnM M h).2.1 a k = M.2.1 a k) := by
  have e : fnM M h = upR (upR (upI (upI (upI M 50 2 (jI (u + 1))) (52 + u) 0 (jI h)) (52 + u) 1 (jI 1)) (52 + u) 2 none) (52 + u) 3 none := by
    unfold fnM; rw [hu]; rfl
  rw [e]
  refine ⟨?_, ?_, ?_, ?_, ?_, fun a k h1 h2 => ?_, fun a k h1 => ?_⟩
  · show ((upI (upI (upI M 50 2 _) _ 0 _) _ 1 _).1 50 2).toInt = _
    rw [upI_1, if_neg (by omega), upI_1, if_neg (by omega), upI_1, if_pos ⟨rfl, rfl⟩, jI_toInt (by omega)]
  · show ((upI (upI (upI M 50 2 _) _ 0 _) _ 1 _).1 _ 0).toInt = _
    rw [upI_1, if_neg (by omega), upI_1, if_pos ⟨rfl, rfl⟩, jI_toInt hh]
  · show ((upI (upI (upI M 50 2 _) _ 0 _) _ 1 _).1 _ 1).toInt = _
    rw [upI_1, if_pos ⟨rfl, rfl⟩]; rfl
  · rw [upR_2, if_neg (by omega), upR_2, if_pos ⟨rfl, rfl⟩]
  · rw [upR_2, if_pos ⟨rfl, rfl⟩]
  · show (upI (upI (upI M 50 2 _) _ 0 _) _ 1 _).1 a k = _
    rw [upI_1, if_neg (by omega), upI_1, if_neg (by omega), upI_1, if_neg (by omega)]
  · rw [upR_2, if_neg (by omega), upR_2, if_neg (by omega)]; rfl
/-- where a subtree hangs -/
def loT (M : xM) (u : Nat) (h : Int) (ab : Option Nat) (b j : Nat) (lo hi : Int) : Prop :=
  (ab = none ∧ b = 50 ∧ j = 1) ∨ (ab = some b ∧ (52 ≤ b ∧ b < 52 + u) ∧ (((M.1 b 0).toInt < h ∧ j = 3) ∨ (¬ (M.1 b 0).toInt < h ∧ j = 2)) ∧ ¬ (lo < (M.1 b 0).toInt ∧ (M.1 b 0).toInt < hi))
theorem lkM_eq {M : xM} {u : Nat} (hu : (M.1 50 2).toInt = u) (hu12 : u < 12) {h : Int} (hh : rg h) {ab : Option Nat} {b j : Nat} {lo hi : Int} (hl : loT M u h ab b j lo hi) : lkM M h ab = upR (fnM M h) b j (some (52 + u)) := by
  obtain ⟨-, -, -, -, -, k6, -⟩ := fnM_at hu hu12 hh
  rcases hl with ⟨rfl, rfl, rfl⟩ | ⟨rfl, hb, hj, -⟩
  · simp only [lkM, hu, Int.toNat_natCast]
  · simp only [lkM, hu, Int.toNat_natCast]
    rw [k6 b 0 (by omega) (by omega)]
    rcases hj with ⟨h1, rfl⟩ | ⟨h1, rfl⟩
    · rw [if_pos h1]
    · rw [if_neg h1]
theorem ins_T {M : xM} {u : Nat} (hu : (M.1 50 2).toInt = u) (hu12 : u < 12) {h : Int} (hh : rg h) {B : Int} (hB : 0 ≤ B ∧ B ≤ 1000) : ∀ (n m : Nat) (r : Option Nat) (lo hi : Int) (ab : Option Nat) (b j : Nat), n ≤ m → wfT M u B n r lo hi → lo < h → h < hi → M.2.1 b j = r → loT M u h ab b j lo hi →
    ∃ u' : Nat, ((ptM h M m ab r).1 50 2).toInt = u' ∧ (u ≤ u' ∧ u' ≤ u + 1) ∧ wfT (ptM h M m ab r) u' (B + 1) (n + 1) ((ptM h M m ab r).2.1 b j) lo hi ∧ (∀ x, cvI (ptM h M m ab r) x (n + 1) ((ptM h M m ab r).2.1 b j) = cvI M x n r + if x < h then 1 else 0) ∧
      (∀ a, 52 ≤ a → a < 52 + u → (ptM h M m ab r).1 a 0 = M.1 a 0 ∧ (¬ (lo < (M.1 a 0).toInt ∧ (M.1 a 0).toInt < hi) → (ptM h M m ab r).1 a 1 = M.1 a 1 ∧ ∀ k, ¬ (a = b ∧ k = j) → (ptM h M m ab r).2.1 a k = M.2.1 a k)) ∧
      (b ≠ 50 → (ptM h M m ab r).2.1 50 1 = M.2.1 50 1) := by
  intro n
  have base : ∀ (n m : Nat) (lo hi : Int) (ab : Option Nat) (b j : Nat), lo < h → h < hi → M.2.1 b j = none → loT M u h ab b j lo hi → ptM h M m ab none = lkM M h ab →
    ∃ u' : Nat, ((ptM h M m ab none).1 50 2).toInt = u' ∧ (u ≤ u' ∧ u' ≤ u + 1) ∧ wfT (ptM h M m ab none) u' (B + 1) (n + 1) ((ptM h M m ab none).2.1 b j) lo hi ∧ (∀ x, cvI (ptM h M m ab none) x (n + 1) ((ptM h M m ab none).2.1 b j) = cvI M x n none + if x < h then 1 else 0) ∧
      (∀ a, 52 ≤ a → a < 52 + u → (ptM h M m ab none).1 a 0 = M.1 a 0 ∧ (¬ (lo < (M.1 a 0).toInt ∧ (M.1 a 0).toInt < hi) → (ptM h M m ab none).1 a 1 = M.1 a 1 ∧ ∀ k, ¬ (a = b ∧ k = j) → (ptM h M m ab none).2.1 a k = M.2.1 a k)) ∧
      (b ≠ 50 → (ptM h M m ab none).2.1 50 1 = M.2.1 50 1) := by
    intro n m lo hi ab b j h1 h2 hr hl hpt
    rw [hpt, lkM_eq hu hu12 hh hl]
    obtain ⟨k1, k2, k3, k4, k5, k6, k7⟩ := fnM_at hu hu12 hh
    have hb : b ≠ 52 + u := by
      rcases hl with ⟨-, rfl, -⟩ | ⟨-, q, -⟩ <;> omega
    have er : (upR (fnM M h) b j (some (52 + u))).2.1 b j = some (52 + u) := by rw [upR_2, if_pos ⟨rfl, rfl⟩]
    have e2 : (upR (fnM M h) b j (some (52 + u))).2.1 (52 + u) 2 = none := by rw [upR_2, if_neg (by omega)]; exact k4
    have e3 : (upR (fnM M h) b j (some (52 + u))).2.1 (52 + u) 3 = none := by rw [upR_2, if_neg (by omega)]; exact k5
    refine ⟨u + 1, by rw [upR_1]; rw [k1]; rfl, by omega, ?_, fun x => ?_, fun a a1 a2 => ⟨k6 a 0 (by omega) (by omega), fun _ => ⟨k6 a 1 (by omega) (by omega), fun k hk => ?_⟩⟩, fun hb5 => ?_⟩
    · rw [er]
      intro a q
      cases q
      rw [e2, e3, upR_1, k2, k3]
      exact ⟨by omega, ⟨h1, h2⟩, by omega, wfT_none _ _ _ _ _ _, wfT_none _ _ _ _ _ _⟩
    · rw [er]
      simp only [cvI]
      rw [e2, e3, upR_1, k2, k3]
      simp only [cvI_none]
      omega
    · rw [upR_2, if_neg hk]
      exact k7 a k (by omega)
    · rw [upR_2, if_neg (fun q => hb5 q.1.symm)]
      exact k7 50 1 (by omega)
  induction n with
  | zero =>
    intro m r lo hi ab b j _ hw h1 h2 hr hl
    have hw : r = none := hw
    subst hw
    exact base 0 m lo hi ab b j h1 h2 hr hl (by cases m <;> rfl)
  | succ n ih =>
    intro m r lo hi ab b j hm hw h1 h2 hr hl
    cases r with
    | none => exact base (n + 1) m lo hi ab b j h1 h2 hr hl (by cases m <;> rfl)
    | some a =>
      obtain ⟨m, rfl⟩ : ∃ q, m = q + 1 := ⟨m - 1, by omega⟩
      obtain ⟨w1, w2, w3, w4, w5⟩ := hw a rfl
      have hba : b ≠ a := by
        rcases hl with ⟨-, rfl, -⟩ | ⟨-, q, -, q2⟩
        · omega
        · intro z; subst z; exact q2 w2
      by_cases heq : (M.1 a 0).toInt = h
      · have hpt : ptM h M (m + 1) ab (some a) = upI M a 1 (jI ((M.1 a 1).toInt + 1)) := by simp only [ptM]; rw [if_pos heq]
        rw [hpt]
        have q0 : ∀ b' k, (b' ≠ a ∨ k ≠ 1) → (upI M a 1 (jI ((M.1 a 1).toInt + 1))).1 b' k = M.1 b' k := fun b' k z => by rw [upI_1, if_neg (by omega)]
        have q1 : ((upI M a 1 (jI ((M.1 a 1).toInt + 1))).1 a 1).toInt = (M.1 a 1).toInt + 1 := by rw [upI_1, if_pos ⟨rfl, rfl⟩, jI_toInt (by omega)]
        have hr' : (upI M a 1 (jI ((M.1 a 1).toInt + 1))).2.1 b j = some a := hr
        obtain ⟨l1, l2⟩ := wf_agree (M := M) (M' := upI M a 1 (jI ((M.1 a 1).toInt + 1))) (Nat.le_refl u) (show B ≤ B + 1 by omega) n (M.2.1 a 2) lo (M.1 a 0).toInt (fun e _ _ _ e4 => by
          have : e ≠ a := fun z => by subst z; omega
          exact ⟨q0 e 0 (Or.inl this), q0 e 1 (Or.inl this), rfl, rfl⟩) w4
        obtain ⟨g1, g2⟩ := wf_agree (M := M) (M' := upI M a 1 (jI ((M.1 a 1).toInt + 1))) (Nat.le_refl u) (show B ≤ B + 1 by omega) n (M.2.1 a 3) (M.1 a 0).toInt hi (fun e _ _ e3 _ => by
          have : e ≠ a := fun z => by subst z; omega
          exact ⟨q0 e 0 (Or.inl this), q0 e 1 (Or.inl this), rfl, rfl⟩) w5
        have hwf : wfT (upI M a 1 (jI ((M.1 a 1).toInt + 1))) u (B + 1) (n + 1) (some a) lo hi := fun a' z => by
          cases z
          rw [q0 a 0 (Or.inr (by omega)), q1]
          exact ⟨w1, w2, by omega, l1, g1⟩
        obtain ⟨c1, c2, -⟩ := wfT_up _ _ _ _ hwf
        rw [hr']
        refine ⟨u, by rw [q0 50 2 (Or.inl (by omega))]; exact hu, by omega, c1, fun x => ?_, fun e e1 e2 => ⟨q0 e 0 (Or.inr (by omega)), fun hz => ⟨q0 e 1 (Or.inl (fun z => by subst z; exact hz w2)), fun _ _ => rfl⟩⟩, fun _ => rfl⟩
        rw [c2]
        simp only [cvI]
        rw [q0 a 0 (Or.inr (by omega)), q1]
        show (if x < (M.1 a 0).toInt then (M.1 a 1).toInt + 1 else 0) + cvI _ x n (M.2.1 a 2) + cvI _ x n (M.2.1 a 3) = _
        rw [l2, g2, heq]
        by_cases hx : x < h
        · rw [if_pos hx, if_pos hx, if_pos hx]; omega
        · rw [if_neg hx, if_neg hx, if_neg hx]; omega
      · by_cases hlt : (M.1 a 0).toInt < h
        · have hpt : ptM h M (m + 1) ab (some a) = ptM h M m (some a) (M.2.1 a 3) := by simp only [ptM]; rw [if_neg heq, if_pos hlt]
          rw [hpt]
          obtain ⟨u', i1, i2, i3, i4, i5, i6⟩ := ih m (M.2.1 a 3) (M.1 a 0).toInt hi (some a) a 3 (by omega) w5 hlt h2 rfl (Or.inr ⟨rfl, w1, Or.inl ⟨hlt, rfl⟩, by omega⟩)
          generalize ptM h M m (some a) (M.2.1 a 3) = M' at i1 i3 i4 i5 i6 ⊢
          have hself := i5 a w1.1 w1.2
          have hself2 := hself.2 (by omega)
          have hbj : M'.2.1 b j = some a := by
            rw [← hr]
            rcases hl with ⟨-, rfl, rfl⟩ | ⟨-, q1, -, q2⟩
            · exact i6 (by omega)
            · exact ((i5 b q1.1 q1.2).2 (by omega)).2 j (fun z => hba z.1)
          have hl2 : M'.2.1 a 2 = M.2.1 a 2 := hself2.2 2 (by omega)
          obtain ⟨l1, l2⟩ := wf_agree (M := M) (M' := M') i2.1 (show B ≤ B + 1 by omega) n (M.2.1 a 2) lo (M.1 a 0).toInt (fun e e1 e2 _ e4 => by
            have hne : e ≠ a := fun z => by subst z; omega
            have := i5 e e1 e2
            have h9 := this.2 (by omega)
            exact ⟨this.1, h9.1, h9.2 2 (by omega), h9.2 3 (by omega)⟩) w4
          obtain ⟨l3, l4, -⟩ := wfT_up _ _ _ _ l1
          rw [hbj]
          refine ⟨u', i1, i2, fun a' z => ?_, fun x => ?_, fun e e1 e2 => ⟨(i5 e e1 e2).1, fun hz => ?_⟩, fun hb5 => i6 (by omega)⟩
          · cases z
            rw [hself.1, hself2.1, hl2]
            exact ⟨by omega, w2, by omega, l3, i3⟩
          · simp only [cvI]
            rw [hself.1, hself2.1, hl2]
            have e3 := i4 x
            have e4 := (l4 x).trans (l2 x)
            omega
          · have := (i5 e e1 e2).2 (by omega)
            refine ⟨this.1, fun k hk => this.2 k (fun q => ?_)⟩
            have : e = a := q.1
            subst this
            exact hz w2
        · have hpt : ptM h M (m + 1) ab (some a) = ptM h M m (some a) (M.2.1 a 2) := by simp only [ptM]; rw [if_neg heq, if_neg hlt]
          rw [hpt]
          obtain ⟨u', i1, i2, i3, i4, i5, i6⟩ := ih m (M.2.1 a 2) lo (M.1 a 0).toInt (some a) a 2 (by omega) w4 h1 (by omega) rfl (Or.inr ⟨rfl, w1, Or.inr ⟨hlt, rfl⟩, by omega⟩)
          generalize ptM h M m (some a) (M.2.1 a 2) = M' at i1 i3 i4 i5 i6 ⊢
          have hself := i5 a w1.1 w1.2
          have hself2 := hself.2 (by omega)
          have hbj : M'.2.1 b j = some a := by
            rw [← hr]
            rcases hl with ⟨-, rfl, rfl⟩ | ⟨-, q1, -, q2⟩
            · exact i6 (by omega)
            · exact ((i5 b q1.1 q1.2).2 (by omega)).2 j (fun z => hba z.1)
          have hl2 : M'.2.1 a 3 = M.2.1 a 3 := hself2.2 3 (by omega)
          obtain ⟨l1, l2⟩ := wf_agree (M := M) (M' := M') i2.1 (show B ≤ B + 1 by omega) n (M.2.1 a 3) (M.1 a 0).toInt hi (fun e e1 e2 e3 _ => by
            have hne : e ≠ a := fun z => by subst z; omega
            have := i5 e e1 e2
            have h9 := this.2 (by omega)
            exact ⟨this.1, h9.1, h9.2 2 (by omega), h9.2 3 (by omega)⟩) w5
          obtain ⟨l3, l4, -⟩ := wfT_up _ _ _ _ l1
          rw [hbj]
          refine ⟨u', i1, i2, fun a' z => ?_, fun x => ?_, fun e e1 e2 => ⟨(i5 e e1 e2).1, fun hz => ?_⟩, fun hb5 => i6 (by omega)⟩
          · cases z
            rw [hself.1, hself2.1, hl2]
            exact ⟨by omega, w2, by omega, i3, l3⟩
          · simp only [cvI]
            rw [hself.1, hself2.1, hl2]
            have e3 := i4 x
            have e4 := (l4 x).trans (l2 x)
            omega
          · have := (i5 e e1 e2).2 (by omega)
            refine ⟨this.1, fun k hk => this.2 k (fun q => ?_)⟩
            have : e = a := q.1
            subst this
            exact hz w2
/-- after the puts of a stretch of a row -/
theorem pb_cv {c : Nat} {r lo : Int} {M0 : xM} (hC : isCh c) (hL : hLo M0 c) {M : xM} (hrow : ∀ b, b < 50 → M.1 b = M0.1 b) {u n : Nat} {B : Int} (hT : okT M) (hu : (M.1 50 2).toInt = u) (hB : 0 ≤ B) (hw : wfT M u B n (M.2.1 50 1) (-5000) 5000) : ∀ k : Nat, u + k ≤ 12 → B + k ≤ 1000 → n + k ≤ 12 →
    ∃ u' : Nat, ((pbM c r lo M k).1 50 2).toInt = u' ∧ u' ≤ u + k ∧ wfT (pbM c r lo M k) u' (B + k) (n + k) ((pbM c r lo M k).2.1 50 1) (-5000) 5000 ∧ ∀ x, cvI (pbM c r lo M k) x (n + k) ((pbM c r lo M k).2.1 50 1) = cvI M x n (M.2.1 50 1) + cntI (fun p => decide (x < heI M0 c r p)) lo k := by
  intro k
  induction k with
  | zero => intro _ _ _; exact ⟨u, hu, Nat.le_refl _, by simpa [pbM] using hw, fun x => by simp [pbM, cntI]⟩
  | succ k ih =>
    intro h1 h2 h3
    obtain ⟨u', i1, i2, i3, i4⟩ := ih (by omega) (by omega) (by omega)
    obtain ⟨p1, p2, p3⟩ := pbM_ok (c := c) (r := r) (lo := lo) hT (by omega) k (by omega)
    have ehe : heI (pbM c r lo M k) c r (lo + k) = heI M0 c r (lo + k) := heI_row (fun b hb => (p3 b hb).trans (hrow b hb)) hC r _
    have hb := heI_lo hL r (lo + k)
    obtain ⟨u2, j1, j2, j3, j4, -, -⟩ := ins_T (M := pbM c r lo M k) i1 (by omega) (h := heI M0 c r (lo + k)) (by omega) (B := B + k) (by omega) (n + k) 12 ((pbM c r lo M k).2.1 50 1) (-5000) 5000 none 50 1 (by omega) i3 (by omega) (by omega) rfl (Or.inl ⟨rfl, rfl, rfl⟩)
    have epb : pbM c r lo M (k + 1) = ptM (heI M0 c r (lo + k)) (pbM c r lo M k) 12 none ((pbM c r lo M k).2.1 50 1) := by
      simp only [pbM]; rw [ehe]; rfl
    rw [epb]
    refine ⟨u2, j1, by omega, ?_, fun x => ?_⟩
    · have : B + ((k + 1 : Nat) : Int) = B + k + 1 := by omega
      rw [this]
      exact j3
    · have := j4 x
      rw [i4] at this
      rw [show n + (k + 1) = n + k + 1 by omega, this]
      simp only [cntI]
      by_cases hx : x < heI M0 c r (lo + k)
      · rw [if_pos hx, if_pos (decide_eq_true hx)]; omega
      · rw [if_neg hx, if_neg (by simpa using hx)]; omega
theorem cntI_congr {P Q : Int → Bool} {lo : Int} : ∀ n : Nat, (∀ i : Int, lo ≤ i → i < lo + n → P i = Q i) → cntI P lo n = cntI Q lo n := by
  intro n
  induction n with
  | zero => intro _; rfl
  | succ n ih =>
    intro h
    simp only [cntI]
    rw [ih (fun i h1 h2 => h i h1 (by omega)), h (lo + n) (by omega) (by omega)]
theorem szI_out {M : xM} {c : Nat} {r : Int} (h : ¬ (0 ≤ r ∧ r < 4)) : szI M c r = 0 := if_neg h
theorem cnt_hb {M : xM} {c : Nat} (hS : ∀ q : Int, 0 ≤ szI M c q ∧ szI M c q ≤ 6) (r f t x : Int) : cntI (fun p => decide (x < heI M c r p)) (max f 0) (min t (szI M c r - 1) + 1 - max f 0).toNat = hbI M c r f t x := by
  unfold hbI
  refine cntI_congr _ (fun i h1 h2 => ?_)
  have hs := hS r
  have hr : 0 ≤ r ∧ r < 4 := by
    by_cases h : 0 ≤ r ∧ r < 4
    · exact h
    · have := szI_out (M := M) (c := c) h; omega
  unfold hbP heI
  rw [if_pos (by omega)]
/-- the two ways to count agree -/
theorem hyI_eq {c : Nat} {r p : Int} {M : xM} (hC : isCh c) (hO : okC M c) (hr : 0 ≤ r ∧ r < 4) (hp : 0 ≤ p ∧ p < 6) (hT : okT M) : hyI c r p M = hhI M c r p := by
  obtain ⟨⟨f1, f2, f3, f4⟩, g1, g2, g3, g4, g5⟩ := hy_half hC hO hr hp hT
  have hre := hO.2.1
  have hs := hO.1 r
  have hL : hLo M c := hO.2.2.2
  have f5 := (flM_ok M hT).2.2
  obtain ⟨u1, a1, a2, a3, a4⟩ := pb_cv (r := r) (lo := max (p - ((flM M).1 c 4).toInt) 0) hC hL f5 (u := 0) (n := 0) (B := 0) f1 f2 (by omega) (by show (flM M).2.1 50 1 = none; rfl) (min (p - 1) (szI (flM M) c r - 1) + 1 - max (p - ((flM M).1 c 4).toInt) 0).toNat (by rw [f4]; omega) (by rw [f4]; omega) (by rw [f4]; omega)
  have hsb := hO.1 (rbI M c r)
  have erb : rbI (puM c r (p - ((flM M).1 c 4).toInt) (p - 1) (flM M)) c r = rbI M c r := by unfold rbI; rw [g3]
  have hk2 : (min p (szI M c (rbI M c r) - 1) + 1 - max (p - (M.1 c 4).toInt) 0).toNat ≤ 6 := by omega
  have hk1 : (min (p - 1) (szI M c r - 1) + 1 - max (p - (M.1 c 4).toInt) 0).toNat ≤ 5 := by omega
  rw [f3, f4] at a2
  obtain ⟨u2, b1, b2, b3, b4⟩ := pb_cv (M := puM c r (p - ((flM M).1 c 4).toInt) (p - 1) (flM M)) (r := rbI M c r) (lo := max (p - (M.1 c 4).toInt) 0) hC hL g5 (u := u1) g1 a1 (by omega) a3 (min p (szI M c (rbI M c r) - 1) + 1 - max (p - (M.1 c 4).toInt) 0).toNat (by omega) (by rw [f3, f4]; omega) (by rw [f3, f4]; omega)
  have ehy : hyM c r p M = pbM c (rbI M c r) (max (p - (M.1 c 4).toInt) 0) (puM c r (p - ((flM M).1 c 4).toInt) (p - 1) (flM M)) (min p (szI M c (rbI M c r) - 1) + 1 - max (p - (M.1 c 4).toInt) 0).toNat := by
    unfold hyM
    show puM c (rbI _ c r) _ p _ = _
    rw [erb, g3]
    unfold puM
    congr 1
    rw [show pbM c r (max (p - ((flM M).1 c 4).toInt) 0) (flM M) (min (p - 1) (szI (flM M) c r - 1) + 1 - max (p - ((flM M).1 c 4).toInt) 0).toNat = puM c r (p - ((flM M).1 c 4).toInt) (p - 1) (flM M) from rfl, g4]
  have hrow3 : ∀ b, b < 50 → (hyM c r p M).1 b = M.1 b := fun b hb => by
    rw [ehy, (pbM_ok (c := c) g1 g2.1 _ (by have := g2.2; omega)).2.2 b hb, g5 b hb]
  have ehe : heI (hyM c r p M) c r p = heI M c r p := heI_row hrow3 hC r p
  unfold hyI
  rw [ehe, ehy, ht_cv _ 12 _ _ _ _ (by rw [f3, f4]; omega) (by rw [f3, f4]; omega) b3, b4]
  rw [show pbM c r (max (p - ((flM M).1 c 4).toInt) 0) (flM M) (min (p - 1) (szI (flM M) c r - 1) + 1 - max (p - ((flM M).1 c 4).toInt) 0).toNat = puM c r (p - ((flM M).1 c 4).toInt) (p - 1) (flM M) from rfl] at a4
  rw [a4, show (flM M).2.1 50 1 = none from rfl, cvI_none, f3, f4, cnt_hb hO.1, cnt_hb hO.1]
  unfold hhI
  omega
