/-! WHAT WOULD BE: swaps, one more singer, another ear, on either side; the best of several. (arM_at2 comes from the proof of whole.) -/
/-- what one more singer is -/
theorem arM_at2 {N : xM} {b : Nat} {r x v : Int} (hr : 0 ≤ r ∧ r < 4) (hs : 0 ≤ szI N b r ∧ szI N b r < 6) :
    (∀ j, (arM N b r x v).1 (b + 1) j = if j = r.toNat then jI (szI N b r + 1) else N.1 (b + 1) j) ∧ (∀ j, (arM N b r x v).1 (b + 2) j = if (j : Int) = 6 * r + szI N b r then jI (N.1 b 6).toInt else N.1 (b + 2) j) ∧ (∀ j, (arM N b r x v).1 (b + 3) j = if (j : Int) = 6 * r + szI N b r then jI x else N.1 (b + 3) j) ∧ (∀ j, (arM N b r x v).1 (b + 4) j = if (j : Int) = 6 * r + szI N b r then jI v else N.1 (b + 4) j) := by
  have hsp : spI r (szI N b r) = 6 * r + szI N b r := sp_in hr (by omega)
  have hc1 : csM (upI N b 6 (jI ((N.1 b 6).toInt + 1))) b r 1 = upI (upI N b 6 (jI ((N.1 b 6).toInt + 1))) (b + 1) r.toNat (jI (szI N b r + 1)) := by
    unfold csM
    rw [szI_up (by omega), if_pos (by omega)]
  refine ⟨fun j => ?_, fun j => ?_, fun j => ?_, fun j => ?_⟩
  all_goals unfold arM; rw [hsp, hc1]
  · rw [wrI_row (by omega), wrI_row (by omega), wrI_row (by omega), upI_1]
    by_cases hj : j = r.toNat
    · rw [if_pos ⟨rfl, hj⟩, if_pos hj]
    · rw [if_neg (fun z => hj z.2), if_neg hj, upI_row (by omega)]
  · rw [wrI_row (by omega), wrI_row (by omega), wrI_1]
    by_cases hj : (j : Int) = 6 * r + szI N b r
    · rw [if_pos (by omega), if_pos hj]
    · rw [if_neg (by omega), if_neg hj, upI_row (by omega), upI_row (by omega)]
  · rw [wrI_row (by omega), wrI_1]
    by_cases hj : (j : Int) = 6 * r + szI N b r
    · rw [if_pos (by omega), if_pos hj]
    · rw [if_neg (by omega), if_neg hj, wrI_row (by omega), upI_row (by omega), upI_row (by omega)]
  · rw [wrI_1]
    by_cases hj : (j : Int) = 6 * r + szI N b r
    · rw [if_pos (by omega), if_pos hj]
    · rw [if_neg (by omega), if_neg hj, wrI_row (by omega), wrI_row (by omega), upI_row (by omega), upI_row (by omega)]
def exF (f : aT) (s t : Int) : aT := fun j => if (j : Int) = t then f s.toNat else if (j : Int) = s then f t.toNat else f j
theorem swC_ex {M : xM} {c : Nat} {s t : Int} (hs : 0 ≤ s ∧ s < 24) (ht : 0 ≤ t ∧ t < 24) {f : aT} (hf : M.1 c = f) : (swC M c s t).1 c = exF f s t := by
  funext j
  rw [swC_at M hs ht, hf]
  unfold exF
  simp only [true_and]
theorem qX_2 {M0 M N0 N : xM} (h : qX M0 M) (e0 : N0.2 = M0.2) (e : N.2 = M.2) (hr : ∀ a, (a < 6 ∨ (11 ≤ a ∧ a < 50) ∨ 68 ≤ a) → N.1 a = N0.1 a) : qX N0 N := by
  refine ⟨hr, fun z => ?_, ?_⟩
  · have h1 : okT M0 := fun a k b q => z a k b (by rw [e0]; exact q)
    have h2 := h.2.1 h1
    exact fun a k b q => h2 a k b (by rw [← e]; exact q)
  · rw [e, e0]; exact h.2.2
theorem swC_rw {M N : xM} {c a : Nat} {s t : Int} (hs : 0 ≤ s ∧ s < 24) (ht : 0 ≤ t ∧ t < 24) (hc : N.1 c = M.1 c) (ha : N.1 a = M.1 a) : (swC N c s t).1 a = (swC M c s t).1 a := by
  funext j
  rw [swC_at N hs ht, swC_at M hs ht, hc, ha]
theorem qX_sw {M0 M : xM} (h : qX M0 M) {c : Nat} (hc : 68 ≤ c) {s t : Int} (hs : 0 ≤ s ∧ s < 24) (ht : 0 ≤ t ∧ t < 24) : qX (swC M0 c s t) (swC M c s t) :=
  qX_2 h (swC_2 _ _ _ _) (swC_2 _ _ _ _) (fun a ha => swC_rw hs ht (h.1 c (by omega)) (h.1 a ha))
theorem qX_up {M0 M : xM} (h : qX M0 M) {c : Nat} (hc : 68 ≤ c) (k : Nat) (x : Int32) : qX (upI M0 c k x) (upI M c k x) :=
  qX_2 h rfl rfl (fun a ha => by funext j; rw [upI_1, upI_1, h.1 a ha])
theorem eqC_lo {M N : xM} (h : ∀ a, a < 6 → N.1 a = M.1 a) : eqC M N 1 1 := eqC_of fun a _ h2 => h a (by omega)
theorem eqC_sw {M : xM} {c : Nat} (hc : 68 ≤ c) (s t : Int) : eqC M (swC M c s t) 1 1 := eqC_lo fun a ha => swC_row (by omega)
theorem eqC_u {M : xM} {c : Nat} (hc : 68 ≤ c) (k : Nat) (x : Int32) : eqC M (upI M c k x) 1 1 := eqC_lo fun a ha => upI_row (by omega)
theorem okT_sw {M : xM} (h : okT M) (c : Nat) (s t : Int) : okT (swC M c s t) := fun a k b q => h a k b (by rw [swC_2] at q; exact q)
/-- somebody stands at z -/
def vz (h : aT) (z : Int) : Prop := (0 ≤ z ∧ z < 24) ∧ 0 < (h z.toNat).toInt
theorem vz_mn {h n : aT} (hA : okA h n) {z : Int} (hz : vz h z) : (0 ≤ z / 6 ∧ z / 6 < 4) ∧ (0 ≤ z % 6 ∧ z % 6 < mnI h (z / 6)) ∧ 6 * (z / 6) + z % 6 = z := by
  have e : 6 * (z / 6) + z % 6 = z := by omega
  obtain ⟨hz1, hz2⟩ := hz
  refine ⟨by omega, ⟨by omega, ?_⟩, e⟩
  rcases Int.lt_or_le (z % 6) (mnI h (z / 6)) with g | g
  · exact g
  · have := (hA.1 (z / 6) (z % 6) (by omega) (by omega) (by omega) (by omega)).2 g
    unfold hgt at this
    rw [e] at this
    omega
theorem vz_of {h n : aT} (hA : okA h n) {r p : Int} (hr : 0 ≤ r ∧ r < 4) (hp : 0 ≤ p ∧ p < mnI h r) : vz h (6 * r + p) := by
  have hb := mnI_b h r
  exact ⟨by omega, ((hA.1 r p hr.1 hr.2 hp.1 (by omega)).1 hp.2).1⟩
section WB
variable {t : Int} {M : xM} {h v d n : aT}
theorem ex_pos {s u : Int} (hs : vz h s) (hu : vz h u) {z : Int} (hz : 0 ≤ z) : (0 < (h z.toNat).toInt → 0 < (exF h s u z.toNat).toInt) ∧ ((h z.toNat).toInt = 0 → (exF h s u z.toNat).toInt = 0) := by
  unfold exF
  rw [show ((z.toNat : Nat) : Int) = z by omega]
  by_cases e1 : z = u
  · rw [if_pos e1]
    refine ⟨fun _ => hs.2, fun q => ?_⟩
    have := hu.2
    rw [e1] at q
    omega
  · rw [if_neg e1]
    by_cases e2 : z = s
    · rw [if_pos e2]
      refine ⟨fun _ => hu.2, fun q => ?_⟩
      have := hs.2
      rw [e2] at q
      omega
    · rw [if_neg e2]
      exact ⟨fun q => q, fun q => q⟩
theorem ex_mn (hA : okA h n) {s u : Int} (hs : vz h s) (hu : vz h u) {r : Int} (hr : 0 ≤ r ∧ r < 4) : mnI (exF h s u) r = mnI h r := by
  have hb := mnI_b h r
  refine mn_of hb (fun p h0 h1 => ?_) (fun p h0 h1 => ?_)
  · exact (ex_pos hs hu (z := 6 * r + p) (by omega)).1 ((hA.1 r p hr.1 hr.2 h0 (by omega)).1 h1).1
  · have := (ex_pos hs hu (z := 6 * r + p) (by omega)).2 ((hA.1 r p hr.1 hr.2 (by omega) h1).2 h0)
    show (exF h s u (6 * r + p).toNat).toInt ≤ 0
    omega
theorem ex_k {s u : Int} (hA : okA h n) (hs : vz h s) (hu : vz h u) {k : Nat} (hk : k < 24) : (exF h s u k).toInt ≤ 1000 := by
  have h1 := okA_k hA (k := s.toNat) (by have := hs.1; omega)
  have h2 := okA_k hA (k := u.toNat) (by have := hu.1; omega)
  have h3 := okA_k hA hk
  unfold exF
  split
  · exact h1.2
  · split
    · exact h2.2
    · exact h3.2
theorem ex_ok (hA : okA h n) {s u : Int} (hs : vz h s) (hu : vz h u) : okA (exF h s u) n := by
  refine ⟨fun r p h0 h1 h2 h3 => ?_, hA.2⟩
  rw [ex_mn hA hs hu ⟨h0, h1⟩]
  have a := hA.1 r p h0 h1 h2 h3
  exact ⟨fun z => ⟨(ex_pos hs hu (z := 6 * r + p) (by omega)).1 (a.1 z).1, ex_k hA hs hu (by omega)⟩, fun z => (ex_pos hs hu (z := 6 * r + p) (by omega)).2 (a.2 z)⟩
theorem Rl_hz (R : Rl t M h v d n) {z : Int} (hz : vz h z) : M.1 4 z.toNat = h z.toNat ∧ M.1 3 z.toNat = d z.toNat ∧ M.1 5 z.toNat = v z.toNat := by
  obtain ⟨h1, h2, e⟩ := vz_mn R.2.1 hz
  have hv := (Rl_vld R).mpr ⟨h1, h2⟩
  have a := R.2.2.1.2.1 (z / 6) (z % 6) hv.1 hv.2.1 hv.2.2.1 hv.2.2.2
  have b := R.2.2.2.1 (z / 6) (z % 6) hv
  rw [e] at a b
  exact ⟨a.symm, b.1.symm, b.2.symm⟩
theorem Rl_s2 (R : Rl t M h v d n) {j : Nat} (hj : j < 4) : jI (mnI h (j : Int)) = M.1 2 j := R.2.2.1.1 j hj
theorem ex_eqH (R : Rl t M h v d n) {s u : Int} (hs : vz h s) (hu : vz h u) : eqH (swP M 1 s u) (vC (exF h s u) n) 1 1 := by
  refine ⟨fun j hj => ?_, fun r p h0 h1 h2 h3 => ?_, fun j hj => ?_⟩
  · rw [swP_row (by omega)]
    show jI (mnI (exF h s u) ((j : Nat) : Int)) = M.1 2 j
    rw [ex_mn R.2.1 hs hu (by omega)]
    exact Rl_s2 R hj
  · rw [szI_swP] at h3
    have hv := R.2.2.1.2.1 r p h0 h1 h2 h3
    rw [swP_at hs.1 hu.1 (by omega)]
    show exF h s u (6 * r + p).toNat = _
    unfold exF
    rw [(Rl_hz R hs).1, (Rl_hz R hu).1]
    split
    · rfl
    · split
      · rfl
      · exact hv
  · rw [swP_row (by omega)]
    rw [vC_1, ← R.2.2.1.2.2 j hj, vC_1]
theorem ex_oa (R : Rl t M h v d n) {s u : Int} (hs : vz h s) (hu : vz h u) : oaI (vC (exF h s u) n) 1 = oaI (swP M 1 s u) 1 :=
  oaI_h (ex_eqH R hs hu) (hS_swP R.1.1.1 s u)
/-! one more singer -/
theorem ad_at {r q p x : Int} (hr : 0 ≤ r ∧ r < 4) (hq : 0 ≤ q ∧ q < 4) (hp : 0 ≤ p ∧ p < 6) (hm : mnI h r < 6) (hx : rg x) : hgt (upd h (6 * r + mnI h r).toNat (jI x)) q p = if q = r ∧ p = mnI h r then x else hgt h q p := by
  have hb := mnI_b h r
  unfold hgt upd
  by_cases e : q = r ∧ p = mnI h r
  · rw [if_pos e, if_pos (by omega), jI_toInt hx]
  · rw [if_neg e, if_neg (by omega)]
theorem ad_mn (hA : okA h n) {r x : Int} (hr : 0 ≤ r ∧ r < 4) (hm : mnI h r < 6) (hx : 0 < x ∧ x ≤ 1000) {q : Int} (hq : 0 ≤ q ∧ q < 4) : mnI (upd h (6 * r + mnI h r).toNat (jI x)) q = if q = r then mnI h r + 1 else mnI h q := by
  have hb := mnI_b h q
  have hb2 := mnI_b h r
  refine mn_of (by split <;> omega) (fun p h0 h1 => ?_) (fun p h0 h1 => ?_)
  · rw [ad_at hr hq (by split at h1 <;> omega) hm (by omega)]
    by_cases e : q = r ∧ p = mnI h r
    · rw [if_pos e]; omega
    · rw [if_neg e]
      refine ((hA.1 q p hq.1 hq.2 h0 (by split at h1 <;> omega)).1 ?_).1
      split at h1
      · rename_i e2; rw [e2] at e ⊢; have := fun z => e ⟨rfl, z⟩; omega
      · exact h1
  · have hp0 : 0 ≤ p := by split at h0 <;> omega
    rw [ad_at hr hq ⟨hp0, h1⟩ hm (by omega)]
    by_cases e : q = r ∧ p = mnI h r
    · exfalso; rw [if_pos e.1] at h0; omega
    · rw [if_neg e]
      have := (hA.1 q p hq.1 hq.2 hp0 h1).2 (by split at h0; (rename_i e2; rw [e2]; omega); exact h0)
      omega
theorem ad_ok (hA : okA h n) {r x : Int} (hr : 0 ≤ r ∧ r < 4) (hm : mnI h r < 6) (hx : 0 < x ∧ x ≤ 1000) : okA (upd h (6 * r + mnI h r).toNat (jI x)) n := by
  refine ⟨fun q p h0 h1 h2 h3 => ?_, hA.2⟩
  rw [ad_mn hA hr hm hx ⟨h0, h1⟩, ad_at hr ⟨h0, h1⟩ ⟨h2, h3⟩ hm (by omega)]
  have a := hA.1 q p h0 h1 h2 h3
  by_cases e : q = r ∧ p = mnI h r
  · rw [if_pos e, if_pos e.1]
    exact ⟨fun _ => hx, fun z => by omega⟩
  · rw [if_neg e]
    by_cases e2 : q = r
    · subst e2
      rw [if_pos rfl]
      have e3 : p ≠ mnI h q := fun z => e ⟨rfl, z⟩
      exact ⟨fun z => a.1 (by omega), fun z => a.2 (by omega)⟩
    · rw [if_neg e2]
      exact a
theorem ad_eqH (R : Rl t M h v d n) {r x v9 : Int} (hr : 0 ≤ r ∧ r < 4) (hm : mnI h r < 6) (hx : 0 < x ∧ x ≤ 1000) : eqH (arM M 1 r x v9) (vC (upd h (6 * r + mnI h r).toNat (jI x)) n) 1 1 := by
  have hb := mnI_b h r
  have hsz := Rl_sz R hr
  obtain ⟨k1, -, k3, -⟩ := arM_at2 (N := M) (b := 1) (r := r) (x := x) (v := v9) hr (by omega)
  obtain ⟨-, -, a3, -⟩ := arM_at (M := M) (c := 1) (r := r) (h := x) (v := v9)
  refine ⟨fun j hj => ?_, fun q p h0 h1 h2 h3 => ?_, fun j hj => ?_⟩
  · rw [k1, hsz]
    show jI (mnI (upd h (6 * r + mnI h r).toNat (jI x)) ((j : Nat) : Int)) = _
    rw [ad_mn R.2.1 hr hm hx (by omega)]
    by_cases e : j = r.toNat
    · rw [if_pos (by omega), if_pos e]
    · rw [if_neg (by omega), if_neg e]
      exact Rl_s2 R hj
  · rw [szI_arM hr (by omega)] at h3
    rw [k3, hsz]
    show upd h (6 * r + mnI h r).toNat (jI x) (6 * q + p).toNat = _
    unfold upd
    have hq := R.1.1.1 q
    have hp6 : p < 6 := by split at h3 <;> omega
    by_cases e : q = r ∧ p = mnI h r
    · rw [if_pos (by omega), if_pos (by omega)]
    · rw [if_neg (by omega), if_neg (by omega)]
      refine R.2.2.1.2.1 q p h0 h1 h2 ?_
      split at h3
      · rename_i e2; subst e2; have := fun z => e ⟨rfl, z⟩; omega
      · exact h3
  · rw [a3 j (by omega), vC_1, ← R.2.2.1.2.2 j hj, vC_1]
theorem ad_oa (R : Rl t M h v d n) {r x v9 : Int} (hr : 0 ≤ r ∧ r < 4) (hm : mnI h r < 6) (hx : 0 < x ∧ x ≤ 1000) : oaI (vC (upd h (6 * r + mnI h r).toNat (jI x)) n) 1 = oaI (arM M 1 r x v9) 1 :=
  oaI_h (ad_eqH R hr hm hx) (hS_arM R.1.1.1 hr (by rw [Rl_sz R hr]; exact hm) x v9)
/-! another ear -/
theorem rc_ok (hA : okA h n) {z : Int} (hz : 1 ≤ z ∧ z ≤ 6) : okA h (upd n 0 (jI z)) := by
  refine ⟨hA.1, ?_, ?_⟩
  · show 1 ≤ (if 0 = 0 then jI z else n 0).toInt ∧ (if 0 = 0 then jI z else n 0).toInt ≤ 6
    rw [if_pos rfl, jI_toInt (by omega)]
    exact hz
  · show (if 1 = 0 then jI z else n 1).toInt = 0 ∨ (if 1 = 0 then jI z else n 1).toInt = 1
    rw [if_neg (by decide)]
    exact hA.2.2
theorem rc_eqH (R : Rl t M h v d n) (z : Int) : eqH (upI M 1 4 (jI z)) (vC h (upd n 0 (jI z))) 1 1 := by
  refine ⟨fun j hj => ?_, fun r p h0 h1 h2 h3 => ?_, fun j hj => ?_⟩
  · rw [upI_row (by omega)]; exact R.2.2.1.1 j hj
  · rw [szI_up (by omega)] at h3
    rw [upI_row (by omega)]; exact R.2.2.1.2.1 r p h0 h1 h2 h3
  · rw [upI_1, vC_1]
    rcases hj with rfl | rfl
    · rw [if_pos ⟨rfl, rfl⟩]; rfl
    · rw [if_neg (by omega)]
      show (if 1 = 0 then jI z else n 1) = M.1 1 5
      rw [if_neg (by decide)]
      exact Rl_1 R
theorem rc_oa (R : Rl t M h v d n) (z : Int) : oaI (vC h (upd n 0 (jI z))) 1 = orI M z := oaI_h (rc_eqH R z) (fun r => by rw [szI_up (by omega)]; exact R.1.1.1 r)
end WB
/-! the best of several, by going up or by going down -/
def BSf (F : Int → Int) (V : Int → Prop) (A b : Int) : Prop := (b = -1 ∧ ∀ k, V k → F k ≤ A) ∨ (V b ∧ A < F b ∧ ∀ k, V k → F k ≤ F b ∧ (k < b → F k < F b))
theorem BS_uniq {F : Int → Int} {V : Int → Prop} {A b c : Int} (h : BSf F V A b) (g : BSf F V A c) : b = c := by
  rcases h with ⟨h1, h2⟩ | ⟨h1, h2, h3⟩ <;> rcases g with ⟨g1, g2⟩ | ⟨g1, g2, g3⟩
  · omega
  · have := h2 c g1; omega
  · have := g2 b h1; omega
  · have a := h3 c g1
    have e := g3 b h1
    rcases Int.lt_trichotomy b c with z | z | z
    · have := e.2 z; omega
    · exact z
    · have := a.2 z; omega
def upS (F : Int → Int) (V : Int → Prop) (A K : Int) (q : Int × Int) : Prop := (q = (A, -1) ∧ ∀ k, k < K → V k → F k ≤ A) ∨ (V q.2 ∧ q.1 = F q.2 ∧ (A < F q.2 ∧ q.2 < K) ∧ ∀ k, k < K → V k → F k ≤ F q.2 ∧ (k < q.2 → F k < F q.2))
theorem upS_ext {F : Int → Int} {V : Int → Prop} {A K K' : Int} {q : Int × Int} (h : upS F V A K q) (hK : K ≤ K') (hv : ∀ k, K ≤ k → k < K' → ¬ V k) : upS F V A K' q := by
  have key : ∀ k, k < K' → V k → k < K := fun k h1 h2 => Int.not_le.mp (fun z => hv k z h1 h2)
  rcases h with ⟨h1, h2⟩ | ⟨h1, h2, h3, h4⟩
  · exact Or.inl ⟨h1, fun k g1 g2 => h2 k (key k g1 g2) g2⟩
  · exact Or.inr ⟨h1, h2, ⟨h3.1, by omega⟩, fun k g1 g2 => h4 k (key k g1 g2) g2⟩
theorem upS_step {F : Int → Int} {V : Int → Prop} {A K : Int} {q : Int × Int} (h : upS F V A K q) (hv : V K) : upS F V A (K + 1) (if q.1 < F K then (F K, K) else q) := by
  rcases h with ⟨h1, h2⟩ | ⟨h1, h2, h3, h4⟩
  · subst h1
    by_cases c : A < F K
    · rw [if_pos c]
      refine Or.inr ⟨hv, rfl, ⟨c, by show K < K + 1; omega⟩, fun k g1 g2 => ?_⟩
      by_cases e : k = K
      · subst e; exact ⟨Int.le_refl _, fun z => absurd z (Int.lt_irrefl _)⟩
      · have := h2 k (by omega) g2
        exact ⟨by show F k ≤ F K; omega, fun _ => by show F k < F K; omega⟩
    · rw [if_neg c]
      refine Or.inl ⟨rfl, fun k g1 g2 => ?_⟩
      by_cases e : k = K
      · subst e; omega
      · exact h2 k (by omega) g2
  · by_cases c : q.1 < F K
    · rw [if_pos c]
      refine Or.inr ⟨hv, rfl, ⟨by show A < F K; omega, by show K < K + 1; omega⟩, fun k g1 g2 => ?_⟩
      by_cases e : k = K
      · subst e; exact ⟨Int.le_refl _, fun z => absurd z (Int.lt_irrefl _)⟩
      · have := h4 k (by omega) g2
        exact ⟨by show F k ≤ F K; omega, fun _ => by show F k < F K; omega⟩
    · rw [if_neg c]
      refine Or.inr ⟨h1, h2, ⟨h3.1, by omega⟩, fun k g1 g2 => ?_⟩
      by_cases e : k = K
      · subst e
        exact ⟨by omega, fun z => by omega⟩
      · exact h4 k (by omega) g2
def dnS (F : Int → Int) (V : Int → Prop) (A K b m : Int) : Prop := (b = -1 ∧ m = A + 1 ∧ ∀ k, K ≤ k → V k → F k ≤ A) ∨ (V b ∧ m = F b ∧ A < F b ∧ ∀ k, K ≤ k → V k → F k ≤ F b ∧ (k < b → F k < F b))
theorem dnS_ext {F : Int → Int} {V : Int → Prop} {A K b m : Int} (h : dnS F V A (K + 1) b m) (hv : ¬ V K) : dnS F V A K b m := by
  have key : ∀ k, K ≤ k → V k → K + 1 ≤ k := fun k h1 h2 => by
    have : k ≠ K := fun z => hv (by rw [← z]; exact h2)
    omega
  rcases h with ⟨h1, h2, h3⟩ | ⟨h1, h2, h3, h4⟩
  · exact Or.inl ⟨h1, h2, fun k g1 g2 => h3 k (key k g1 g2) g2⟩
  · exact Or.inr ⟨h1, h2, h3, fun k g1 g2 => h4 k (key k g1 g2) g2⟩
theorem dnS_take {F : Int → Int} {V : Int → Prop} {A K b m : Int} (h : dnS F V A (K + 1) b m) (hv : V K) (c : m ≤ F K) : dnS F V A K K (F K) := by
  rcases h with ⟨h1, h2, h3⟩ | ⟨h1, h2, h3, h4⟩
  · refine Or.inr ⟨hv, rfl, by omega, fun k g1 g2 => ⟨?_, fun z => by omega⟩⟩
    by_cases e : k = K
    · subst e; exact Int.le_refl _
    · have := h3 k (by omega) g2; omega
  · refine Or.inr ⟨hv, rfl, by omega, fun k g1 g2 => ⟨?_, fun z => by omega⟩⟩
    by_cases e : k = K
    · subst e; exact Int.le_refl _
    · have := h4 k (by omega) g2; omega
theorem dnS_leave {F : Int → Int} {V : Int → Prop} {A K b m : Int} (h : dnS F V A (K + 1) b m) (c : F K < m) : dnS F V A K b m := by
  rcases h with ⟨h1, h2, h3⟩ | ⟨h1, h2, h3, h4⟩
  · refine Or.inl ⟨h1, h2, fun k g1 g2 => ?_⟩
    by_cases e : k = K
    · subst e; omega
    · exact h3 k (by omega) g2
  · refine Or.inr ⟨h1, h2, h3, fun k g1 g2 => ?_⟩
    by_cases e : k = K
    · subst e; exact ⟨by omega, fun _ => by omega⟩
    · exact h4 k (by omega) g2
theorem dnS_end {F : Int → Int} {V : Int → Prop} {A b m : Int} (h : dnS F V A 0 b m) (hv : ∀ k, V k → 0 ≤ k) : BSf F V A b := by
  rcases h with ⟨h1, h2, h3⟩ | ⟨h1, h2, h3, h4⟩
  · exact Or.inl ⟨h1, fun k g => h3 k (hv k g) g⟩
  · exact Or.inr ⟨h1, h3, fun k g => h4 k (hv k g) g⟩
/-! the class's best swap and best row -/
def bsV (S : Int) (k : Int) : Prop := (0 ≤ k ∧ k / 6 < k % 6) ∧ k % 6 < S
def bsF0 (M : xM) (r : Int) (k : Int) : Int := oaI (swP M 1 (spI r (k / 6)) (spI r (k % 6))) 1
theorem bpF_up {M : xM} {r : Int} (hS : hSz M 1) (a : Nat) : ∀ (n : Nat) (q : Int × Int), (a : Int) + 1 + n ≤ szI M 1 r → upS (bsF0 M r) (bsV (szI M 1 r)) (oaI M 1) (6 * a + (a + 1)) q → upS (bsF0 M r) (bsV (szI M 1 r)) (oaI M 1) (6 * a + (a + 1) + n) (bpF M r a n q)
  | 0, q, _, h => by rw [show (6 * (a : Int) + (a + 1) + ((0 : Nat) : Int)) = 6 * a + (a + 1) by omega]; exact h
  | n + 1, q, hn, h => by
    have hs := hS r
    have ih := bpF_up hS a n q (by omega) h
    have e1 : (6 * (a : Int) + (a + 1) + n) / 6 = a := by omega
    have e2 : (6 * (a : Int) + (a + 1) + n) % 6 = a + 1 + n := by omega
    have := upS_step ih (by unfold bsV; rw [e1, e2]; omega)
    have eF : bsF0 M r (6 * (a : Int) + (a + 1) + n) = oaI (swP M 1 (spI r a) (spI r ((a : Int) + 1 + n))) 1 := by unfold bsF0; rw [e1, e2]
    rw [eF] at this
    simp only [bpF]
    rw [show (6 * (a : Int) + (a + 1) + ((n + 1 : Nat) : Int)) = 6 * a + (a + 1) + n + 1 by omega, show 6 * (a : Int) + ((a : Int) + 1 + n) = 6 * a + (a + 1) + n by omega]
    exact this
theorem bpG_up {M : xM} {r : Int} (hS : hSz M 1) : ∀ a : Nat, (a : Int) ≤ szI M 1 r → upS (bsF0 M r) (bsV (szI M 1 r)) (oaI M 1) (6 * a) (bpG M r a)
  | 0, _ => Or.inl ⟨rfl, fun k h1 h2 => by unfold bsV at h2; omega⟩
  | a + 1, ha => by
    have hs := hS r
    have ih := bpG_up (r := r) hS a (by omega)
    have h1 : upS (bsF0 M r) (bsV (szI M 1 r)) (oaI M 1) (6 * a + (a + 1)) (bpG M r a) := upS_ext ih (by omega) (fun k g1 g2 g3 => by unfold bsV at g3; omega)
    have h2 := bpF_up hS a (szI M 1 r - ((a : Int) + 1)).toNat _ (by omega) h1
    simp only [bpG]
    exact upS_ext h2 (by omega) (fun k g1 g2 g3 => by unfold bsV at g3; omega)
theorem bpI_bs {M : xM} {r : Int} (hS : hSz M 1) : BSf (bsF0 M r) (bsV (szI M 1 r)) (oaI M 1) (bpI M r) := by
  have hs := hS r
  have h := bpG_up (r := r) hS (szI M 1 r).toNat (by omega)
  unfold bpI
  have lim : ∀ k, bsV (szI M 1 r) k → k < 6 * (((szI M 1 r).toNat : Nat) : Int) := fun k g => by unfold bsV at g; omega
  rcases h with ⟨h1, h2⟩ | ⟨h1, h2, h3, h4⟩
  · exact Or.inl ⟨by rw [h1], fun k g => h2 k (lim k g) g⟩
  · exact Or.inr ⟨h1, h3.1, fun k g => h4 k (lim k g) g⟩
def brV (M : xM) (k : Int) : Prop := (0 ≤ k ∧ k < 4) ∧ szI M 1 k < 6
def brF0 (M : xM) (x k : Int) : Int := oaI (arM M 1 k x 0) 1
theorem brF_up (M : xM) (x : Int) : ∀ m : Nat, m ≤ 4 → upS (brF0 M x) (brV M) (-1) m (brF M x m)
  | 0, _ => Or.inl ⟨rfl, fun k h1 h2 => by unfold brV at h2; omega⟩
  | m + 1, hm => by
    have ih := brF_up M x m (by omega)
    simp only [brF]
    by_cases hs : szI M 1 (m : Int) < 6
    · have := upS_step ih (show brV M m from ⟨by omega, hs⟩)
      rw [show ((m + 1 : Nat) : Int) = (m : Int) + 1 from rfl]
      by_cases c : (brF M x m).1 < oaI (arM M 1 m x 0) 1
      · rw [if_pos ⟨hs, c⟩]
        rw [show brF0 M x m = oaI (arM M 1 m x 0) 1 from rfl, if_pos c] at this
        exact this
      · rw [if_neg (fun z => c z.2)]
        rw [show brF0 M x m = oaI (arM M 1 m x 0) 1 from rfl, if_neg c] at this
        exact this
    · rw [if_neg (fun z => hs z.1)]
      exact upS_ext ih (by omega) (fun k g1 g2 g3 => by
        have : k = m := by omega
        subst this
        exact hs g3.2)
theorem brF_bs (M : xM) (x : Int) : BSf (brF0 M x) (brV M) (-1) (brF M x 4).2 := by
  have h := brF_up M x 4 (Nat.le_refl _)
  have lim : ∀ k, brV M k → k < ((4 : Nat) : Int) := fun k g => by unfold brV at g; omega
  rcases h with ⟨h1, h2⟩ | ⟨h1, h2, h3, h4⟩
  · exact Or.inl ⟨by rw [h1], fun k g => h2 k (lim k g) g⟩
  · exact Or.inr ⟨h1, h3.1, fun k g => h4 k (lim k g) g⟩
theorem BSf_cong {F G : Int → Int} {V U : Int → Prop} {A B b : Int} (h : BSf F V A b) (hA : A = B) (hV : ∀ k, V k ↔ U k) (hF : ∀ k, V k → F k = G k) : BSf G U B b := by
  subst hA
  rcases h with ⟨h1, h2⟩ | ⟨h1, h3, h4⟩
  · exact Or.inl ⟨h1, fun k g => by rw [← hF k ((hV k).mpr g)]; exact h2 k ((hV k).mpr g)⟩
  · refine Or.inr ⟨(hV b).mp h1, by rw [← hF b h1]; exact h3, fun k g => ?_⟩
    have := h4 k ((hV k).mpr g)
    rw [← hF k ((hV k).mpr g), ← hF b h1]
    exact this
