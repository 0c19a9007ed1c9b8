/-! THE STATE: the class's choir goes with the law's arrays; what each action makes of it -/
theorem trM_2 {M : xM} {c : Nat} {r : Int} : ∀ n, (trM M c r n).2 = M.2
  | 0 => rfl
  | n + 1 => by simp only [trM]; rw [swP_2, trM_2 n]
theorem inM_2 {c : Nat} {r z : Int} : ∀ (n : Nat) (M : xM), (inM c r z n M).2 = M.2
  | 0, _ => rfl
  | n + 1, M => by
    simp only [inM]
    split
    · rw [inM_2 n, swP_2]
    · rfl
theorem srM_2 {M : xM} {c : Nat} {r z : Int} : ∀ n, (srM M c r z n).2 = M.2
  | 0 => rfl
  | n + 1 => by simp only [srM]; rw [inM_2, srM_2 n]
theorem okH_e {M N : xM} (h : okH M) (e : N.1 16 = M.1 16) : okH N := by
  unfold okH at h ⊢
  rw [e]; exact h
theorem okT_e {M N : xM} (h : okT M) (e : N.2 = M.2) : okT N := fun a k b q => h a k b (by rw [e] at q; exact q)
def Cl (t : Int) (M : xM) (h v d n : aT) : Prop := Rl t M h v d n ∧ (okH M ∧ okT M) ∧ M.1 68 = h ∧ M.1 69 = v ∧ M.1 70 = d ∧ M.1 71 = n
def Nw (M N : xM) (h v d n : aT) : Prop := (∀ a, a < 68 → N.1 a = M.1 a) ∧ N.2 = M.2 ∧ N.1 68 = h ∧ N.1 69 = v ∧ N.1 70 = d ∧ N.1 71 = n
theorem x_nw {l : Launch} {E : xE} {Rm : Room} {A : Nat → Prop} {Y : xY} {k m pc : Nat} {ls st : List xV} {M N : xM} {h v d n : aT} (q : Nw M N h v d n) (g : ∀ z, Nw M z h v d n → WP l E Rm A Y k m pc ls st z) : WP l E Rm A Y k m pc ls st N := g N q
theorem x_cl {l : Launch} {E : xE} {Rm : Room} {A : Nat → Prop} {Y : xY} {k m pc : Nat} {ls st : List xV} {N : xM} {t : Int} {h v d n : aT} (q : Cl t N h v d n) (g : ∀ z, Cl t z h v d n → WP l E Rm A Y k m pc ls st z) : WP l E Rm A Y k m pc ls st N := g N q
theorem upd_i {f : aT} {k : Nat} {z : Int} (h : rg z) : (upd f k (jI z) k).toInt = z := by
  unfold upd
  rw [if_pos rfl, jI_toInt h]
section STATE
variable {t : Int} {M N : xM} {h v d n h' v' d' n' : aT}
theorem Nw_0 (C : Cl t M h v d n) : Nw M M h v d n := ⟨fun _ _ => rfl, rfl, C.2.2⟩
theorem Nw_68 (Q : Nw M N h v d n) {k : Nat} {x : Int32} : Nw M (upI N 68 k x) (upd h k x) v d n :=
  ⟨fun a ha => (upI_row (by omega)).trans (Q.1 a ha), Q.2.1, upI_f Q.2.2.1, (upI_row (by decide)).trans Q.2.2.2.1, (upI_row (by decide)).trans Q.2.2.2.2.1, (upI_row (by decide)).trans Q.2.2.2.2.2⟩
theorem Nw_69 (Q : Nw M N h v d n) {k : Nat} {x : Int32} : Nw M (upI N 69 k x) h (upd v k x) d n :=
  ⟨fun a ha => (upI_row (by omega)).trans (Q.1 a ha), Q.2.1, (upI_row (by decide)).trans Q.2.2.1, upI_f Q.2.2.2.1, (upI_row (by decide)).trans Q.2.2.2.2.1, (upI_row (by decide)).trans Q.2.2.2.2.2⟩
theorem Nw_70 (Q : Nw M N h v d n) {k : Nat} {x : Int32} : Nw M (upI N 70 k x) h v (upd d k x) n :=
  ⟨fun a ha => (upI_row (by omega)).trans (Q.1 a ha), Q.2.1, (upI_row (by decide)).trans Q.2.2.1, (upI_row (by decide)).trans Q.2.2.2.1, upI_f Q.2.2.2.2.1, (upI_row (by decide)).trans Q.2.2.2.2.2⟩
theorem Nw_71 (Q : Nw M N h v d n) {k : Nat} {x : Int32} : Nw M (upI N 71 k x) h v d (upd n k x) :=
  ⟨fun a ha => (upI_row (by omega)).trans (Q.1 a ha), Q.2.1, (upI_row (by decide)).trans Q.2.2.1, (upI_row (by decide)).trans Q.2.2.2.1, (upI_row (by decide)).trans Q.2.2.2.2.1, upI_f Q.2.2.2.2.2⟩
theorem Nw_ex (Q : Nw M N h v d n) {s u : Int} (hs : 0 ≤ s ∧ s < 24) (hu : 0 ≤ u ∧ u < 24) : Nw M (exA N s u) (exF h s u) (exF v s u) (exF d s u) n := by
  unfold exA
  refine ⟨fun a ha => ?_, ?_, ?_, ?_, ?_, ?_⟩
  · rw [swC_row (by omega), swC_row (by omega), swC_row (by omega)]; exact Q.1 a ha
  · rw [swC_2, swC_2, swC_2]; exact Q.2.1
  · rw [swC_row (by decide), swC_row (by decide)]; exact swC_ex hs hu Q.2.2.1
  · rw [swC_row (by decide)]; exact swC_ex hs hu ((swC_row (by decide)).trans Q.2.2.2.1)
  · exact swC_ex hs hu ((swC_row (by decide)).trans ((swC_row (by decide)).trans Q.2.2.2.2.1))
  · rw [swC_row (by decide), swC_row (by decide), swC_row (by decide)]; exact Q.2.2.2.2.2
theorem Nw_cl (Q : Nw M N h v d n) {z : Int} (hz : 0 ≤ z ∧ z < 24) : Nw M (clA N z) (clf h (z / 6) (z % 6)) (clf v (z / 6) (z % 6)) (clf d (z / 6) (z % 6)) n := by
  unfold clA
  refine ⟨fun a ha => ?_, ?_, ?_, ?_, ?_, ?_⟩
  · rw [clF_row (by omega), clF_row (by omega), clF_row (by omega)]; exact Q.1 a ha
  · rw [clF_2, clF_2, clF_2]; exact Q.2.1
  · rw [clF_row (by decide), clF_row (by decide)]; exact clF_clf (by omega) (by omega) Q.2.2.1
  · rw [clF_row (by decide)]; exact clF_clf (by omega) (by omega) ((clF_row (by decide)).trans Q.2.2.2.1)
  · exact clF_clf (by omega) (by omega) ((clF_row (by decide)).trans ((clF_row (by decide)).trans Q.2.2.2.2.1))
  · rw [clF_row (by decide), clF_row (by decide), clF_row (by decide)]; exact Q.2.2.2.2.2
theorem Cl_mono (C : Cl t M h v d n) {u : Int} (hu : t ≤ u) : Cl u M h v d n := ⟨Rl_mono C.1 hu, C.2⟩
theorem Cl_q (C : Cl t M h v d n) (q : qX M N) : Cl t N h v d n :=
  ⟨Rl_lo C.1 (fun a ha => q.1 a (by omega)), ⟨okH_e C.2.1.1 (q.1 16 (by omega)), q.2.1 C.2.1.2⟩, (q.1 68 (by omega)).trans C.2.2.1, (q.1 69 (by omega)).trans C.2.2.2.1, (q.1 70 (by omega)).trans C.2.2.2.2.1, (q.1 71 (by omega)).trans C.2.2.2.2.2⟩
theorem Cl_B (C : Cl t M h v d n) (Q : Nw M N h' v' d' n') : Rl t (svM N 1) h v d n := Rl_lo C.1 (fun a ha => (svM_row (by omega)).trans (Q.1 a (by omega)))
theorem Cl_ok (C : Cl t M h v d n) (Q : Nw M N h' v' d' n') : okC N 1 ∧ okH N ∧ ∀ r, 0 ≤ r ∧ r < 4 → szI N 1 r = mnI h r :=
  ⟨okC_e (eqC_lo fun a ha => Q.1 a (by omega)) C.1.1.1, okH_e C.2.1.1 (Q.1 16 (by omega)), fun r hr => (szI_of (Q.1 2 (by omega)) r).trans (Rl_sz C.1 hr)⟩
theorem Cl_of {u : Int} {K : xM} (C : Cl t M h v d n) (Q : Nw M N h' v' d' n') (R : Rl u K h' v' d' n') (hr : ∀ a, 5 < a → K.1 a = (svM N 1).1 a) (h2 : K.2 = (svM N 1).2) : Cl u K h' v' d' n' :=
  ⟨R, ⟨okH_e (okH_svM (Cl_ok C Q).2.1) (hr 16 (by omega)), okT_e C.2.1.2 (h2.trans ((svM_2 N).trans Q.2.1))⟩, (hr 68 (by omega)).trans ((svM_row (by omega)).trans Q.2.2.1), (hr 69 (by omega)).trans ((svM_row (by omega)).trans Q.2.2.2.1), (hr 70 (by omega)).trans ((svM_row (by omega)).trans Q.2.2.2.2.1), (hr 71 (by omega)).trans ((svM_row (by omega)).trans Q.2.2.2.2.2)⟩
theorem Cl_none (C : Cl t M h v d n) (hz : ∀ j : Nat, j < 24 → (h j).toInt ≤ 0) : ohI M 0 = 0 := by
  rw [(Rl_oh C.1).1, Rl_sum C.1, sum4]
  have key : ∀ r : Int, 0 ≤ r ∧ r < 4 → mnI h r = 0 := fun r hr => by
    have hb := mnI_b h r
    by_cases e : mnI h r = 0
    · exact e
    · have := ((C.1.2.1.1 r 0 hr.1 hr.2 (by omega) (by omega)).1 (by omega)).1
      have := hz (6 * r + 0).toNat (by omega)
      have e2 : hgt h r 0 = (h (6 * r + 0).toNat).toInt := rfl
      omega
  rw [key 0 (by decide), key 1 (by decide), key 2 (by decide), key 3 (by decide)]
  rfl
theorem Cl_oa (C : Cl t M h v d n) : oaI M 1 = oaI (vC h n) 1 := (oaI_h C.1.2.2.1 C.1.1.1.1).symm
theorem Cl_dc (C : Cl t M h v d n) (r : Int) : dcI M 1 r = dcI (vC h n) 1 r := (dcI_h C.1.2.2.1 C.1.1.1.1 r).symm
/-- numbers given -/
theorem Cl_cnt (C : Cl t M h v d n) (Q : Nw M N h' v' d' n') : N.1 1 6 = n 2 ∧ ((svM N 1).1 1 6).toInt = (n 2).toInt := by
  have e : N.1 1 6 = n 2 := (congrFun (Q.1 1 (by omega)) 6).trans C.1.2.2.2.2.1.1.symm
  exact ⟨e, by rw [show (svM N 1).1 1 6 = N.1 1 6 from congrFun (svM_row (by omega)) 6, e]⟩
theorem Cl_join (C : Cl t M h v d n) {r x w : Int} (Q : Nw M N (upd h (6 * r + mnI h r).toNat (jI x)) (upd v (6 * r + mnI h r).toNat (jI w)) (upd d (6 * r + mnI h r).toNat (jI (n 2).toInt)) (upd n 2 (jI ((n 2).toInt + 1)))) (hr : 0 ≤ r ∧ r < 4) (hm : mnI h r < 6) (hx : 0 < x ∧ x ≤ 1000) (hw : 0 ≤ w ∧ w ≤ 3) (ht : t < 999) : Cl (t + 1) (arM (svM N 1) 1 r x w) (upd h (6 * r + mnI h r).toNat (jI x)) (upd v (6 * r + mnI h r).toNat (jI w)) (upd d (6 * r + mnI h r).toNat (jI (n 2).toInt)) (upd n 2 (jI ((n 2).toInt + 1))) := by
  have R := Rl_join (Cl_B C Q) hr hm hx hw ht
  rw [← jI_of (n 2)] at R
  rw [jI_of (n 2)] at R
  refine Cl_of C Q ?_ (fun a ha => arM_at.1 a (by omega)) arM_at.2.1
  rw [jI_of]
  exact R
theorem Cl_leave (C : Cl t M h v d n) {z : Int} (hz : vz h z) (Q : Nw M N (clf h (z / 6) (z % 6)) (clf v (z / 6) (z % 6)) (clf d (z / 6) (z % 6)) (upd n 3 (jI ((n 3).toInt + 1)))) : Cl (t + 1) (leM (svM N 1) (z / 6) (z % 6)) (clf h (z / 6) (z % 6)) (clf v (z / 6) (z % 6)) (clf d (z / 6) (z % 6)) (upd n 3 (jI ((n 3).toInt + 1))) := by
  obtain ⟨p1, p2, -⟩ := vz_mn C.1.2.1 hz
  refine Cl_of C Q (Rl_leave (Cl_B C Q) p1 p2) (fun a ha => ?_) ?_
  · unfold leM
    rw [upI_row (by omega), ds_row (by omega)]
  · unfold leM dsM
    rw [upI_2, csM_2, mvM_2]
theorem Cl_lv (C : Cl t M h v d n) {z : Int} (hz : vz h z) (Q : Nw M N h' v' d' n') : rdI ((svM N 1).1 (1 + 2)) 24 (spI (z / 6) (z % 6)) = (d z.toNat).toInt := by
  obtain ⟨p1, p2, p3⟩ := vz_mn C.1.2.1 hz
  have hb := mnI_b h (z / 6)
  rw [show (svM N 1).1 (1 + 2) = M.1 3 from (svM_row (by omega)).trans (Q.1 3 (by omega)), sp_in p1 (by omega), rdI_at p1 (by omega), p3, (Rl_hz C.1 hz).2.1]
theorem Cl_swap (C : Cl t M h v d n) {s u : Int} (hs : vz h s) (hu : vz h u) (Q : Nw M N (exF h s u) (exF v s u) (exF d s u) (upd n 4 (jI ((n 4).toInt + 1)))) : Cl t (swM (svM N 1) (s / 6) (s % 6) (u / 6) (u % 6)) (exF h s u) (exF v s u) (exF d s u) (upd n 4 (jI ((n 4).toInt + 1))) :=
  Cl_of C Q (Rl_sw (Cl_B C Q) hs hu) (fun a ha => by unfold swM; rw [upI_row (by omega), swP_row (by omega)]) (by unfold swM; rw [upI_2, swP_2])
theorem Cl_grow (C : Cl t M h v d n) {z x : Int} (hz : vz h z) (hx : 0 < x ∧ x ≤ 1000) (Q : Nw M N (upd h z.toNat (jI x)) v d n) : Cl t (wrI (svM N 1) (1 + 3) 24 (spI (z / 6) (z % 6)) (jI x)) (upd h z.toNat (jI x)) v d n := by
  obtain ⟨p1, p2, p3⟩ := vz_mn C.1.2.1 hz
  have hb := mnI_b h (z / 6)
  rw [sp_in p1 (by omega), p3]
  exact Cl_of C Q (Rl_grow (Cl_B C Q) hz hx) (fun a ha => wrI_row (by omega)) (wrI_2 _ _ _ _ _)
theorem Cl_gr (C : Cl t M h v d n) {z : Int} (hz : vz h z) (Q : Nw M N h' v' d' n') : heI (svM N 1) 1 (z / 6) (z % 6) = (h z.toNat).toInt := by
  obtain ⟨p1, p2, p3⟩ := vz_mn C.1.2.1 hz
  rw [Rl_he (Cl_B C Q) ((Rl_vld (Cl_B C Q)).mpr ⟨p1, p2⟩)]
  unfold hgt
  rw [p3]
theorem moM_row {K : xM} {c : Nat} {r p u : Int} {a : Nat} (ha : c + 4 < a) : (moM K c r p u).1 a = K.1 a := by
  unfold moM
  dsimp only
  rw [csM_row (by omega), swP_row (by omega), csM_row (by omega), mvM_row (by omega)]
theorem moM_2 {K : xM} {c : Nat} {r p u : Int} : (moM K c r p u).2 = K.2 := by
  unfold moM
  dsimp only
  rw [csM_2, swP_2, csM_2, mvM_2]
theorem Cl_cross (C : Cl t M h v d n) {z u : Int} (hz : vz h z) (hu : 0 ≤ u ∧ u < 4) (hne : z / 6 ≠ u) (hm : mnI h u < 6) (Q : Nw M N (clf (upd h (6 * u + mnI h u).toNat (jI (h z.toNat).toInt)) (z / 6) (z % 6)) (clf (upd v (6 * u + mnI h u).toNat (jI (v z.toNat).toInt)) (z / 6) (z % 6)) (clf (upd d (6 * u + mnI h u).toNat (jI (d z.toNat).toInt)) (z / 6) (z % 6)) n) : Cl t (moM (svM N 1) 1 (z / 6) (z % 6) u) (clf (upd h (6 * u + mnI h u).toNat (jI (h z.toNat).toInt)) (z / 6) (z % 6)) (clf (upd v (6 * u + mnI h u).toNat (jI (v z.toNat).toInt)) (z / 6) (z % 6)) (clf (upd d (6 * u + mnI h u).toNat (jI (d z.toNat).toInt)) (z / 6) (z % 6)) n := by
  obtain ⟨p1, p2, p3⟩ := vz_mn C.1.2.1 hz
  have R := Rl_cross (Cl_B C Q) p1 p2 hu hne hm
  unfold crf at R
  rw [p3] at R
  refine Cl_of C Q ?_ (fun a ha => moM_row (by omega)) moM_2
  rw [jI_of, jI_of, jI_of]
  exact R
theorem Cl_turn (C : Cl t M h v d n) {r : Int} (hr : 0 ≤ r ∧ r < 4) (Q : Nw M N (trA h r (mnI h r) (mnI h r / 2).toNat) (trA v r (mnI h r) (mnI h r / 2).toNat) (trA d r (mnI h r) (mnI h r / 2).toNat) n) : Cl t (trM (svM N 1) 1 r (szI (svM N 1) 1 r / 2).toNat) (trA h r (mnI h r) (mnI h r / 2).toNat) (trA v r (mnI h r) (mnI h r / 2).toNat) (trA d r (mnI h r) (mnI h r / 2).toNat) n := by
  have hb := mnI_b h r
  rw [Rl_sz (Cl_B C Q) hr]
  exact Cl_of C Q (Rl_turn (Cl_B C Q) hr (mnI h r / 2).toNat (by omega)) (fun a ha => trM_row (by omega) _) (trM_2 _)
theorem Cl_sort (C : Cl t M h v d n) {r z : Int} (hr : 0 ≤ r ∧ r < 4) (hz : 0 ≤ z ∧ z ≤ 2) (Q : Nw M N h' v' d' n) {σ : Nat → Nat} (hS : SP (fL h v d) (fL h' v' d') (6 * r).toNat (mnI h r).toNat z (mnI h r).toNat σ) : Cl t (srM (svM N 1) 1 r z (szI (svM N 1) 1 r - 1).toNat) h' v' d' n :=
  Cl_of C Q (Rl_sort (Cl_B C Q) hr hz hS.1 hS.2.1 (fun i j h1 h2 => hS.2.2 i j (by omega) h1 h2)) (fun a ha => srM_row (by omega) _) (srM_2 _)
theorem Cl_set0 (C : Cl t M h v d n) {j : Nat} (hj : j = 0 ∨ j = 1) {x : Int} (hx : (j = 0 → 1 ≤ x ∧ x ≤ 6) ∧ (j = 1 → 0 ≤ x ∧ x ≤ 1)) (Q : Nw M N h v d (upd n j (jI x))) : Cl t (upI (svM N 1) 1 (4 + j) (jI x)) h v d (upd n j (jI x)) := by
  have R := Cl_B C Q
  have hO := R.1.1
  have hO2 : okC (upI (svM N 1) 1 (4 + j) (jI x)) 1 := by
    refine ⟨fun q => by rw [szI_up (by omega)]; exact hO.1 q, ?_, ?_, hLo_of (upI_row (by omega)) hO.2.2.2⟩
    · rw [upI_1]
      by_cases e : j = 0
      · rw [if_pos (by omega), jI_toInt (by have := hx.1 e; omega)]; exact hx.1 e
      · rw [if_neg (by omega)]; exact hO.2.1
    · rw [upI_1]
      by_cases e : j = 1
      · rw [if_pos (by omega), jI_toInt (by have := hx.2 e; omega)]; have := hx.2 e; omega
      · rw [if_neg (by omega)]; exact hO.2.2.1
  exact Cl_of C Q (Rl_set R (hj.elim (fun z => Or.inl z) (fun z => Or.inr (Or.inl z))) hO2) (fun a ha => upI_row (by omega)) (by rw [upI_2])
theorem Cl_set (C : Cl t M h v d n) {s x : Int} (hs : s = 0 ∨ s = 1) (hx : (s = 0 → 1 ≤ x ∧ x ≤ 6) ∧ (s = 1 → 0 ≤ x ∧ x ≤ 1)) (Q : Nw M N h v d (upd n s.toNat (jI x))) : Cl t (upI (svM N 1) 1 (if s = 0 then 4 else 5) (jI x)) h v d (upd n s.toNat (jI x)) := by
  have e : (if s = 0 then 4 else 5 : Nat) = 4 + s.toNat := by
    rcases hs with rfl | rfl
    · rfl
    · rfl
  rw [e]
  exact Cl_set0 C (by omega) ⟨fun z => hx.1 (by omega), fun z => hx.2 (by omega)⟩ Q
theorem Cl_st (C : Cl t M h v d n) {s : Int} (hs : s = 0 ∨ s = 1) (Q : Nw M N h' v' d' n') : (if s = 0 then ((svM N 1).1 1 4).toInt else ((svM N 1).1 1 5).toInt) = (n s.toNat).toInt := by
  have R := Cl_B C Q
  rcases hs with rfl | rfl
  · rw [if_pos rfl, ← Rl_0 R]; rfl
  · rw [if_neg (by decide), ← Rl_1 R]; rfl
/-! the law's sorting, a step -/
theorem mn_sw {κ : Nat → Int} {S a i : Nat} {σ : Nat → Nat} (ha : a ≤ i) (hi : i + 1 < S) (hm : ∀ x, a ≤ x → x < S → κ (σ (i + 1)) ≤ κ (σ x) ∧ (x < i + 1 → κ (σ (i + 1)) < κ (σ x))) : ∀ x, a ≤ x → x < S → κ (swN i σ i) ≤ κ (swN i σ x) ∧ (x < i → κ (swN i σ i) < κ (swN i σ x)) := by
  obtain ⟨w1, w2, w3⟩ := swN_at i σ
  intro x h1 h2
  rw [w1]
  by_cases e1 : x = i
  · subst e1; rw [w1]; exact ⟨Int.le_refl _, fun z => by omega⟩
  · by_cases e2 : x = i + 1
    · subst e2; rw [w2]; exact ⟨(hm i (by omega) (by omega)).1, fun z => by omega⟩
    · rw [w3 x e1 e2]; exact ⟨(hm x h1 h2).1, fun z => (hm x h1 h2).2 (by omega)⟩
theorem SP_up {f f' : fT} {Q S a : Nat} {z : Int} {σ : Nat → Nat} (h : SP f f' Q S z a σ) (hm : ∀ x, a ≤ x → x < S → keyF f Q z (σ a) ≤ keyF f Q z (σ x)) : SP f f' Q S z (a + 1) σ :=
  ⟨h.1, h.2.1, fun i j h1 h2 h3 => by
    by_cases e : i = a
    · rw [e]; exact hm j (by omega) h3
    · exact h.2.2 i j (by omega) h2 h3⟩
theorem SP_0 (f : fT) (Q S : Nat) (z : Int) : SP f f Q S z 0 (fun p => p) := ⟨PF_id f Q S, sgd_id _ _, fun i j h1 => by omega⟩
theorem SP_key {h' v' d' : aT} {f : fT} {Q S : Nat} {z : Int} {a : Nat} {σ : Nat → Nat} {r0 : Int} (hr0 : r0 = (Q : Int)) (h : SP f (fL h' v' d') Q S z a σ) (hR : Q + S ≤ 24) {x : Nat} (hx : x < S) : (z = 0 → keyF f Q z (σ x) = (h' (r0 + x).toNat).toInt) ∧ (z = 1 → keyF f Q z (σ x) = -(h' (r0 + x).toNat).toInt) ∧ (z = 2 → keyF f Q z (σ x) = (v' (r0 + x).toNat).toInt) := by
  have e := PF_key h.1 hR z hx
  have e2 : Q + x = (r0 + x).toNat := by omega
  rw [← e, ← e2]
  unfold keyF
  refine ⟨fun c => ?_, fun c => ?_, fun c => ?_⟩
  · rw [if_pos c]; rfl
  · rw [if_neg (by omega), if_pos c]; rfl
  · rw [if_neg (by omega), if_neg (by omega)]; rfl
theorem mn_take {κ : Nat → Int} {a b c : Nat} {σ : Nat → Nat} (hm : ∀ x, a ≤ x → x < c → κ (σ b) ≤ κ (σ x) ∧ (x < b → κ (σ b) < κ (σ x))) (hk : κ (σ c) < κ (σ b)) : ∀ x, a ≤ x → x < c + 1 → κ (σ c) ≤ κ (σ x) ∧ (x < c → κ (σ c) < κ (σ x)) := fun x h1 h2 => by
  by_cases e : x = c
  · subst e; exact ⟨Int.le_refl _, fun z => by omega⟩
  · have := (hm x h1 (by omega)).1
    exact ⟨by omega, fun _ => by omega⟩
theorem mn_keep {κ : Nat → Int} {a b c : Nat} {σ : Nat → Nat} (hm : ∀ x, a ≤ x → x < c → κ (σ b) ≤ κ (σ x) ∧ (x < b → κ (σ b) < κ (σ x))) (hb : b < c) (hk : κ (σ b) ≤ κ (σ c)) : ∀ x, a ≤ x → x < c + 1 → κ (σ b) ≤ κ (σ x) ∧ (x < b → κ (σ b) < κ (σ x)) := fun x h1 h2 => by
  by_cases e : x = c
  · subst e; exact ⟨hk, fun z => by omega⟩
  · exact hm x h1 (by omega)
end STATE
