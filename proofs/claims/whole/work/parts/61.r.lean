/-! THE TIE: the class's choirs and the model's blocks of 81 numbers -/
/-- a block as a virtual choir in the cells 1 to 5 -/
def vF (g : Nat → Int32) : xM := (fun a k => if a = 1 then g (72 + k) else if a = 2 then g k else if a = 3 then g (4 + k) else if a = 4 then g (28 + k) else if a = 5 then g (52 + k) else 0, (fun _ _ => none, fun _ _ => 0))
abbrev eB (M : xM) (c : Nat) (g : Nat → Int32) : Prop := eqV M (vF g) c 1
theorem eB_W {M K : xM} {c : Nat} (h : eB M c (K.1 69)) : eqV M (vW K) c 1 := h
theorem eB_of {M K : xM} {c : Nat} (h : eqV M (vW K) c 1) : eB M c (K.1 69) := h
theorem eB_g {M : xM} {c : Nat} {g g' : Nat → Int32} (h : eB M c g) (e : ∀ k, k < 81 → g' k = g k) (hS : hSz M c) : eB M c g' := by
  refine ⟨fun j hj => (e _ (by omega)).trans (h.1 j hj), fun r p h0 h1 h2 h3 => ?_, fun j a b => (e _ (by omega)).trans (h.2.2 j a b)⟩
  have a := h.2.1 r p h0 h1 h2 h3
  have s := hS r
  exact ⟨(e _ (by omega)).trans a.1, (e _ (by omega)).trans a.2.1, (e _ (by omega)).trans a.2.2⟩
abbrev vld (M : xM) (c : Nat) (r p : Int) : Prop := 0 ≤ r ∧ r < 4 ∧ 0 ≤ p ∧ p < szI M c r
abbrev atI (M : xM) (c k : Nat) (r p : Int) : Int := (M.1 (c + k) (6 * r + p).toNat).toInt
/-- numbers differ, all in their bounds -/
def gdC (M : xM) (c : Nat) : Prop := (0 ≤ (M.1 c 6).toInt ∧ (M.1 c 6).toInt ≤ 999) ∧
  (∀ r p : Int, vld M c r p → (0 ≤ atI M c 2 r p ∧ atI M c 2 r p < (M.1 c 6).toInt) ∧ (0 ≤ atI M c 3 r p ∧ atI M c 3 r p ≤ 1000) ∧ (0 ≤ atI M c 4 r p ∧ atI M c 4 r p ≤ 3)) ∧
  (∀ r p r2 p2 : Int, vld M c r p → vld M c r2 p2 → atI M c 2 r p = atI M c 2 r2 p2 → r = r2 ∧ p = p2)
/-- places of one come from places of the other -/
theorem gdC_map {M M' : xM} {c c' : Nat} (h : gdC M c) (h6 : (M'.1 c' 6).toInt = (M.1 c 6).toInt) (t : Int → Int → Int × Int)
    (ht : ∀ r p, vld M' c' r p → vld M c (t r p).1 (t r p).2 ∧ atI M' c' 2 r p = atI M c 2 (t r p).1 (t r p).2 ∧ atI M' c' 3 r p = atI M c 3 (t r p).1 (t r p).2 ∧ atI M' c' 4 r p = atI M c 4 (t r p).1 (t r p).2)
    (hi : ∀ r p r2 p2, vld M' c' r p → vld M' c' r2 p2 → t r p = t r2 p2 → r = r2 ∧ p = p2) : gdC M' c' := by
  refine ⟨by rw [h6]; exact h.1, fun r p hv => ?_, fun r p r2 p2 hv hv2 e => ?_⟩
  · obtain ⟨v, e2, e3, e4⟩ := ht r p hv
    rw [e2, e3, e4, h6]
    exact h.2.1 _ _ v
  · obtain ⟨v, e2, -, -⟩ := ht r p hv
    obtain ⟨v', e2', -, -⟩ := ht r2 p2 hv2
    rw [e2, e2'] at e
    have := h.2.2 _ _ _ _ v v' e
    exact hi r p r2 p2 hv hv2 (Prod.ext this.1 this.2)
theorem gdC_v {M M' : xM} {c c' : Nat} (h : gdC M c) (e : eqV M M' c c') : gdC M' c' := by
  refine gdC_map h (by rw [e.2.2 6 (by omega) (by omega)]) (fun r p => (r, p)) (fun r p hv => ?_) (fun r p r2 p2 _ _ z => ⟨congrArg Prod.fst z, congrArg Prod.snd z⟩)
  have hv' : vld M c r p := ⟨hv.1, hv.2.1, hv.2.2.1, by rw [← szI_v e]; exact hv.2.2.2⟩
  have := e.2.1 r p hv'.1 hv'.2.1 hv'.2.2.1 hv'.2.2.2
  exact ⟨hv', congrArg Int32.toInt this.1, congrArg Int32.toInt this.2.1, congrArg Int32.toInt this.2.2⟩
/-- a choir goes with a block -/
def cg (M : xM) (c : Nat) (g : Nat → Int32) : Prop := okC M c ∧ gdC M c ∧ eB M c g
theorem cg_e {M M' : xM} {c c' : Nat} {g : Nat → Int32} (e : eqC M M' c c') (h : cg M c g) : cg M' c' g :=
  ⟨okC_e e h.1, gdC_v h.2.1 (eqV_C e h.1.1), eqV_trans (eqV_symm (eqV_C e h.1.1)) h.2.2⟩
theorem cg_g {M : xM} {c : Nat} {g g' : Nat → Int32} (e : ∀ k, k < 81 → g' k = g k) (h : cg M c g) : cg M c g' := ⟨h.1, h.2.1, eB_g h.2.2 e h.1.1⟩
theorem cg_r {M M' : xM} {c : Nat} {g : Nat → Int32} (h : cg M c g) (e : ∀ a, c ≤ a → a ≤ c + 4 → M'.1 a = M.1 a) : cg M' c g := cg_e (eqC_of e) h
/-- history, snapshot, text -/
def Rh (M K : xM) : Prop := okH M ∧ K.1 68 2 = M.1 16 2 ∧ ∀ i : Nat, (i : Int) < (M.1 16 2).toInt → cg M (slN M (i : Int)) (fun k => K.1 70 (81 * i + k))
def Rs (M K : xM) : Prop := ((M.1 0 3).toInt = 0 ∨ (M.1 0 3).toInt = 1) ∧ K.1 68 4 = M.1 0 3 ∧ okC M 11 ∧ ((M.1 0 3).toInt = 1 → cg M 11 (K.1 71))
def Rt (M K : xM) : Prop := okB M ∧ K.1 68 11 = M.1 48 1 ∧ ∀ i, i < 60 → K.1 74 i = M.1 49 i
def Rl (M K : xM) : Prop := cg M 1 (K.1 69) ∧ Rh M K ∧ Rs M K ∧ Rt M K
theorem slN_r {M M' : xM} (e : M'.1 16 = M.1 16) (g : Int) : slN M' g = slN M g := by unfold slN; rw [e]
theorem slN_bb (M : xM) (g : Int) : 18 ≤ slN M g ∧ slN M g ≤ 43 := by
  unfold slN
  omega
theorem Rh_r {M K M' K' : xM} (h : Rh M K) (e : ∀ a, 16 ≤ a → a < 48 → M'.1 a = M.1 a) (e2 : K'.1 68 2 = K.1 68 2) (e3 : K'.1 70 = K.1 70) : Rh M' K' := by
  have e16 := e 16 (by omega) (by omega)
  refine ⟨⟨by rw [e16]; exact h.1.1, by rw [e16]; exact h.1.2⟩, by rw [e2, e16]; exact h.2.1, fun i hi => ?_⟩
  rw [e16] at hi
  rw [slN_r e16, e3]
  have hb := slN_bb M (i : Int)
  exact cg_r (h.2.2 i hi) (fun a h1 h2 => e a (by omega) (by omega))
theorem Rs_r {M K M' K' : xM} (h : Rs M K) (e : ∀ a, 11 ≤ a → a < 16 → M'.1 a = M.1 a) (e0 : M'.1 0 3 = M.1 0 3) (e2 : K'.1 68 4 = K.1 68 4) (e3 : K'.1 71 = K.1 71) : Rs M' K' := by
  refine ⟨by rw [e0]; exact h.1, by rw [e2, e0]; exact h.2.1, okC_e (eqC_of fun a h1 h2 => e a (by omega) (by omega)) h.2.2.1, fun z => ?_⟩
  rw [e0] at z
  rw [e3]
  exact cg_r (h.2.2.2 z) (fun a h1 h2 => e a (by omega) (by omega))
theorem Rt_r {M K M' K' : xM} (h : Rt M K) (e : M'.1 48 1 = M.1 48 1) (e9 : M'.1 49 = M.1 49) (e2 : K'.1 68 11 = K.1 68 11) (e3 : K'.1 74 = K.1 74) : Rt M' K' := by
  refine ⟨?_, by rw [e2, e]; exact h.2.1, fun i hi => by rw [e3, e9]; exact h.2.2 i hi⟩
  unfold okB tlI
  rw [e, e9]
  exact h.1
/-- the same state: other cells differ -/
theorem Rl_r {M K M' K' : xM} (h : Rl M K) (e : ∀ a, (a < 6 ∨ (11 ≤ a ∧ a < 50)) → M'.1 a = M.1 a) (e2 : ∀ k, k = 2 ∨ k = 4 ∨ k = 11 → K'.1 68 k = K.1 68 k) (e9 : eqV (vW K) (vW K') 1 1) (e3 : ∀ a, a = 70 ∨ a = 71 ∨ a = 74 → K'.1 a = K.1 a) : Rl M' K' := by
  refine ⟨?_, Rh_r h.2.1 (fun a h1 h2 => e a (by omega)) (e2 2 (by omega)) (e3 70 (by omega)), Rs_r h.2.2.1 (fun a h1 h2 => e a (by omega)) (by rw [e 0 (by omega)]) (e2 4 (by omega)) (e3 71 (by omega)), Rt_r h.2.2.2 (by rw [e 48 (by omega)]) (e 49 (by omega)) (e2 11 (by omega)) (e3 74 (by omega))⟩
  have h1 := cg_r (M' := M') h.1 (fun a h1 h2 => e a (by omega))
  exact ⟨h1.1, h1.2.1, eB_of (eqV_trans (eB_W h1.2.2) e9)⟩
/-- only the choir changes -/
theorem Rl_c {M K M' K' : xM} (h : Rl M K) (e : ∀ a, a = 0 ∨ 11 ≤ a → M'.1 a = M.1 a) (e3 : ∀ a, a ≠ 69 → K'.1 a = K.1 a) (hc : cg M' 1 (K'.1 69)) : Rl M' K' :=
  ⟨hc, Rh_r h.2.1 (fun a h1 h2 => e a (by omega)) (by rw [e3 68 (by omega)]) (e3 70 (by omega)), Rs_r h.2.2.1 (fun a h1 h2 => e a (by omega)) (by rw [e 0 (by omega)]) (by rw [e3 68 (by omega)]) (e3 71 (by omega)), Rt_r h.2.2.2 (by rw [e 48 (by omega)]) (e 49 (by omega)) (by rw [e3 68 (by omega)]) (e3 74 (by omega))⟩
section RL1
variable {M K : xM}
theorem Rl_v (h : Rl M K) : eqV M (vW K) 1 1 := eB_W h.1.2.2
theorem Rl_hS (h : Rl M K) : hSz M 1 := h.1.1.1
theorem Rl_sz (h : Rl M K) {r : Int} (hr : 0 ≤ r ∧ r < 4) : zI K r = szI M 1 r := by rw [← vW_sz K hr, szI_v (Rl_v h)]
theorem Rl_f (h : Rl M K) {j : Nat} (h1 : 4 ≤ j) (h2 : j ≤ 8) : K.1 69 (72 + j) = M.1 1 j := (Rl_v h).2.2 j h1 h2
theorem Rl_Z (h : Rl M K) : okZ K := by
  have h4 := Rl_f h (j := 4) (by omega) (by omega)
  have h5 := Rl_f h (j := 5) (by omega) (by omega)
  have o := h.1.1
  refine ⟨fun r h0 h1 => by rw [Rl_sz h ⟨h0, h1⟩]; exact o.1 r, ?_, ?_⟩
  · show 1 ≤ (K.1 69 76).toInt ∧ (K.1 69 76).toInt ≤ 6
    rw [h4]
    exact o.2.1
  · show 0 ≤ (K.1 69 77).toInt ∧ (K.1 69 77).toInt ≤ 1
    rw [h5]
    have := o.2.2.1
    omega
theorem Rl_at (h : Rl M K) {r p : Int} (hv : vld M 1 r p) : zI K (4 + 6 * r + p) = atI M 1 2 r p ∧ zI K (28 + 6 * r + p) = atI M 1 3 r p ∧ zI K (52 + 6 * r + p) = atI M 1 4 r p := by
  obtain ⟨h0, h1, h2, h3⟩ := hv
  have a := (Rl_v h).2.1 r p h0 h1 h2 h3
  refine ⟨?_, ?_, ?_⟩
  · show _ = (M.1 (1 + 2) (6 * r + p).toNat).toInt
    rw [← a.1]
    show (K.1 69 (4 + 6 * r + p).toNat).toInt = (K.1 69 (4 + (6 * r + p).toNat)).toInt
    rw [show (4 + 6 * r + p).toNat = 4 + (6 * r + p).toNat by omega]
  · show _ = (M.1 (1 + 3) (6 * r + p).toNat).toInt
    rw [← a.2.1]
    show (K.1 69 (28 + 6 * r + p).toNat).toInt = (K.1 69 (28 + (6 * r + p).toNat)).toInt
    rw [show (28 + 6 * r + p).toNat = 28 + (6 * r + p).toNat by omega]
  · show _ = (M.1 (1 + 4) (6 * r + p).toNat).toInt
    rw [← a.2.2]
    show (K.1 69 (52 + 6 * r + p).toNat).toInt = (K.1 69 (52 + (6 * r + p).toNat)).toInt
    rw [show (52 + 6 * r + p).toNat = 52 + (6 * r + p).toNat by omega]
theorem Rl_hV (h : Rl M K) : hV K := by
  intro r p h0 h1 h2 h3
  rw [Rl_sz h ⟨h0, h1⟩] at h3
  have a := Rl_at h ⟨h0, h1, h2, h3⟩
  have g := h.1.2.1.2.1 r p ⟨h0, h1, h2, h3⟩
  rw [a.2.1, a.2.2]
  exact ⟨g.2.1, g.2.2⟩
theorem Rl_W (h : Rl M K) : okW K := by
  obtain ⟨hB, e, e9⟩ := h.2.2.2
  refine ⟨?_, fun i hi => ?_⟩
  · show 0 ≤ (K.1 68 11).toInt ∧ (K.1 68 11).toInt ≤ 60
    rw [e]
    exact hB.1
  · rw [e9 i hi]
    exact hB.2 i hi
theorem Rl_s (h : Rl M K) : 0 ≤ (K.1 68 2).toInt ∧ (K.1 68 2).toInt ≤ 6 := by rw [h.2.1.2.1]; exact h.2.1.1.2
/-- t0 -/
theorem Rl_t0 (h : Rl M K) : Rl M (t0 K) := Rl_r h (fun _ _ => rfl) (fun k hk => by show (upI K 68 5 _).1 68 k = _; rw [upI_1, if_neg (by omega)]) (eqV_69 (upI_row (by decide))) (fun a ha => upI_row (by omega))
end RL1
