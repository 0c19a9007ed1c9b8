/-! THE TIE: history, snapshot, text -/
theorem cpK_1 (M : xM) (a ao b bo n e j : Nat) : (cpK M a ao b bo n).1 e j = if e = b ∧ bo ≤ j ∧ j < bo + n then M.1 a (ao + (j - bo)) else M.1 e j := rfl
theorem cpK_r {M : xM} {a ao b bo n e : Nat} (h : e ≠ b) : (cpK M a ao b bo n).1 e = M.1 e := by
  funext j
  rw [cpK_1, if_neg (fun z => h z.1)]
theorem slN_c {M : xM} {b : Int} (h : (M.1 16 1).toInt = b) (g : Int) : slN M g = 18 + 5 * ((b + g) % 6).toNat := by unfold slN; rw [h]
theorem slN_ne {M : xM} {i j : Int} (hi : 0 ≤ i ∧ i < 6) (hj : 0 ≤ j ∧ j < 6) (h : i ≠ j) : slN M i ≠ slN M j := by
  unfold slN
  omega
theorem slN_ap {M : xM} {i j : Int} (hi : 0 ≤ i ∧ i < 6) (hj : 0 ≤ j ∧ j < 6) (h : i ≠ j) : slN M i + 5 ≤ slN M j ∨ slN M j + 5 ≤ slN M i := by
  unfold slN
  omega
theorem sv0_r (M : xM) {a : Nat} (h : a ≠ 16) : (sv0 M).1 a = M.1 a := by
  unfold sv0
  split
  · rw [upI_row h, upI_row h]
  · rfl
theorem svM_r {M : xM} (hH : okH M) {a : Nat} (h : a < 16 ∨ 48 ≤ a) : (svM M 1).1 a = M.1 a := by
  show (upI (bcM (sv0 M) (slN (sv0 M) ((sv0 M).1 16 2).toInt) 1) 16 2 _).1 a = _
  have hb := slN_bb (sv0 M) ((sv0 M).1 16 2).toInt
  rw [upI_row (by omega), (bcM_at (slN_ch _ _) ch1 (by omega)).2.2.2.2.2.1 a (by omega), sv0_r M (by omega)]
theorem svM_22 {M : xM} : (svM M 1).2 = M.2 := by
  show (upI (bcM (sv0 M) (slN (sv0 M) ((sv0 M).1 16 2).toInt) 1) 16 2 _).2 = _
  have hb := slN_bb (sv0 M) ((sv0 M).1 16 2).toInt
  rw [upI_2, (bcM_at (slN_ch _ _) ch1 (by omega)).2.2.2.2.2.2]
  unfold sv0
  split <;> rfl
theorem svS_r (K : xM) {a : Nat} (h : a ≠ 68) (h2 : a ≠ 70) : (svS K).1 a = K.1 a := by
  unfold svS
  split
  · rw [upI_row h, cpK_r h2]
  · rfl
theorem svZ_r (K : xM) {a : Nat} (h : a ≠ 68) (h2 : a ≠ 70) : (svZ K).1 a = K.1 a := by
  show (upI (cpK (svS K) 69 0 70 (81 * ((svS K).1 68 2).toInt).toNat 81) 68 2 _).1 a = _
  rw [upI_row h, cpK_r h2, svS_r K h h2]
theorem svZ_6k (K : xM) {k : Nat} (h : k ≠ 2) : (svZ K).1 68 k = K.1 68 k := by
  show (upI (cpK (svS K) 69 0 70 (81 * ((svS K).1 68 2).toInt).toNat 81) 68 2 _).1 68 k = _
  rw [upI_1, if_neg (by omega), cpK_r (by decide)]
  unfold svS
  split
  · rw [upI_1, if_neg (by omega), cpK_r (by decide)]
  · rfl
theorem svZ_2 (K : xM) : (svZ K).2 = K.2 := by
  show (cpK (svS K) 69 0 70 (81 * ((svS K).1 68 2).toInt).toNat 81).2 = _
  show (svS K).2 = _
  unfold svS
  split <;> rfl
/-- saved -/
theorem Rh_sv {M K : xM} (h : Rl M K) : Rh (svM M 1) (svZ K) := by
  obtain ⟨hC, ⟨hH, h2, hg⟩, -, -⟩ := h
  obtain ⟨b, hb⟩ : ∃ b, (M.1 16 1).toInt = b := ⟨_, rfl⟩
  obtain ⟨n, hn⟩ : ∃ n, (M.1 16 2).toInt = n := ⟨_, rfl⟩
  have hH' := hH
  unfold okH at hH'
  rw [hb, hn] at hH'
  -- what stands after the room is made: base b1, n1 saved
  have key : ∃ b1 n1 : Int, (0 ≤ b1 ∧ b1 < 6) ∧ (0 ≤ n1 ∧ n1 < 6) ∧ ((sv0 M).1 16 1).toInt = b1 ∧ ((sv0 M).1 16 2).toInt = n1 ∧ ((svS K).1 68 2).toInt = n1 ∧ ∀ i : Nat, (i : Int) < n1 → cg M (18 + 5 * ((b1 + (i : Int)) % 6).toNat) (fun k => (svS K).1 70 (81 * i + k)) := by
    by_cases h6 : 6 ≤ n
    · have hn6 : n = 6 := by omega
      refine ⟨(b + 1) % 6, 5, by omega, by omega, ?_, ?_, ?_, fun i hi => ?_⟩
      · unfold sv0
        rw [hn, if_pos h6, upI_1, if_neg (by decide), upI_1, if_pos ⟨rfl, rfl⟩, hb, jI_toInt (by omega)]
      · unfold sv0
        rw [hn, if_pos h6, upI_1, if_pos ⟨rfl, rfl⟩, jI_toInt (by omega)]
        omega
      · unfold svS
        rw [h2, hn, if_pos hn6, upI_1, if_pos ⟨rfl, rfl⟩]
        rfl
      · have g := hg (i + 1) (by rw [hn]; omega)
        rw [slN_c hb] at g
        rw [show ((b + 1) % 6 + (i : Int)) % 6 = (b + ((i + 1 : Nat) : Int)) % 6 by omega]
        refine cg_g (fun k hk => ?_) g
        unfold svS
        rw [h2, hn, if_pos hn6, upI_row (by decide), cpK_1, if_pos (by omega)]
        exact congrArg (K.1 70) (by omega)
    · refine ⟨b, n, hH'.1, by omega, ?_, ?_, ?_, fun i hi => ?_⟩
      · unfold sv0
        rw [hn, if_neg h6, hb]
      · unfold sv0
        rw [hn, if_neg h6, hn]
      · unfold svS
        rw [h2, hn, if_neg (by omega), h2, hn]
      · have g := hg i (by rw [hn]; exact hi)
        rw [slN_c hb] at g
        have e : svS K = K := by
          unfold svS
          rw [h2, hn, if_neg (by omega)]
        rw [e]
        exact g
  obtain ⟨b1, n1, k1, k2, k3, k4, k5, k6⟩ := key
  have es : ∀ g : Int, slN (sv0 M) g = 18 + 5 * ((b1 + g) % 6).toNat := fun g => slN_c k3 g
  have eM : svM M 1 = upI (bcM (sv0 M) (slN (sv0 M) n1) 1) 16 2 (jI (n1 + 1)) := by
    have hb9 := slN_bb (sv0 M) n1
    show upI (bcM (sv0 M) (slN (sv0 M) ((sv0 M).1 16 2).toInt) 1) 16 2 (jI (((bcM (sv0 M) (slN (sv0 M) ((sv0 M).1 16 2).toInt) 1).1 16 2).toInt + 1)) = _
    rw [k4, (bcM_at (slN_ch _ _) ch1 (by omega)).2.2.2.2.2.1 16 (by omega), k4]
  have eK : svZ K = upI (cpK (svS K) 69 0 70 (81 * n1).toNat 81) 68 2 (jI (n1 + 1)) := by
    show upI (cpK (svS K) 69 0 70 (81 * ((svS K).1 68 2).toInt).toNat 81) 68 2 (jI (((svS K).1 68 2).toInt + 1)) = _
    rw [k5]
  have hb9 := slN_bb (sv0 M) n1
  have hat := bcM_at (M := sv0 M) (slN_ch (sv0 M) n1) ch1 (by omega)
  have f1 : ((svM M 1).1 16 1).toInt = b1 := by
    rw [eM, upI_1, if_neg (by decide), hat.2.2.2.2.2.1 16 (by omega), k3]
  have f2 : (svM M 1).1 16 2 = jI (n1 + 1) := by rw [eM, upI_1, if_pos ⟨rfl, rfl⟩]
  have f3 : ((svM M 1).1 16 2).toInt = n1 + 1 := by rw [f2, jI_toInt (by omega)]
  refine ⟨⟨by rw [f1]; exact k1, by rw [f3]; omega⟩, ?_, fun i hi => ?_⟩
  · rw [f2, eK, upI_1, if_pos ⟨rfl, rfl⟩]
  · rw [f3] at hi
    rw [slN_c f1]
    by_cases hin : (i : Int) < n1
    · have g := k6 i hin
      refine cg_g (g := fun k => (svS K).1 70 (81 * i + k)) (fun k hk => ?_) (cg_r g (fun a h1 h2 => ?_))
      · rw [eK, upI_row (by decide), cpK_1, if_neg (by omega)]
      · have hap := slN_ap (M := sv0 M) (i := (i : Int)) (j := n1) (by omega) (by omega) (by omega)
        rw [es, es] at hap
        rw [es] at hb9
        rw [eM, upI_row (by omega), hat.2.2.2.2.2.1 a (by rw [es]; omega), sv0_r M (by omega)]
    · have hi2 : (i : Int) = n1 := by omega
      have e1 : eqC M (bcM (sv0 M) (slN (sv0 M) n1) 1) 1 (slN (sv0 M) n1) := eqC_trans (eqC_of fun a h1 h2 => sv0_r M (by omega)) (bcM_eq (slN_ch (sv0 M) n1) ch1 (by omega))
      have e2 : eqC (bcM (sv0 M) (slN (sv0 M) n1) 1) (svM M 1) (slN (sv0 M) n1) (slN (sv0 M) n1) := eqC_of fun a h1 h2 => by rw [eM, upI_row (by omega)]
      rw [hi2, ← es]
      refine cg_g (g := K.1 69) (fun k hk => ?_) (cg_e (eqC_trans e1 e2) hC)
      rw [eK, upI_row (by decide), cpK_1, if_pos (by omega), svS_r K (by decide) (by decide)]
      exact congrArg (K.1 69) (by omega)
theorem Rl_sv {M K : xM} (h : Rl M K) : Rl (svM M 1) (svZ K) := by
  have hH := h.2.1.1
  refine ⟨?_, Rh_sv h, Rs_r h.2.2.1 (fun a h1 h2 => svM_r hH (by omega)) (by rw [svM_r hH (by omega)]) (svZ_6k K (by decide)) (svZ_r K (by decide) (by decide)), Rt_r h.2.2.2 (by rw [svM_r hH (by omega)]) (svM_r hH (by omega)) (svZ_6k K (by decide)) (svZ_r K (by decide) (by decide))⟩
  rw [svZ_r K (by decide) (by decide)]
  exact cg_r h.1 (fun a h1 h2 => svM_r hH (by omega))
/-- undone -/
theorem Rl_un {M K : xM} (h : Rl M K) (h0 : 0 < (M.1 16 2).toInt) : Rl (tkM M 1) (unZ K) ∧ (unZ K).1 68 2 = (tkM M 1).1 16 2 := by
  obtain ⟨hC, ⟨hH, h2, hg⟩, hS, hT⟩ := h
  obtain ⟨n, hn⟩ : ∃ n, (M.1 16 2).toInt = n := ⟨_, rfl⟩
  have hH2 := hH.2
  rw [hn] at h0 hH2
  have hn1 : (jI (n - 1)).toInt = n - 1 := jI_toInt (by omega)
  have eM : tkM M 1 = bcM (upI M 16 2 (jI (n - 1))) 1 (slN M (n - 1)) := by
    unfold tkM
    rw [hn, if_pos h0]
    show bcM (upI M 16 2 (jI (n - 1))) 1 (slN (upI M 16 2 (jI (n - 1))) ((upI M 16 2 (jI (n - 1))).1 16 2).toInt) = _
    rw [upI_1, if_pos ⟨rfl, rfl⟩, hn1]
    have : slN (upI M 16 2 (jI (n - 1))) (n - 1) = slN M (n - 1) := by
      unfold slN
      rw [upI_1, if_neg (by decide)]
    rw [this]
  have eK : unZ K = cpK (upI K 68 2 (jI (n - 1))) 70 (81 * (n - 1)).toNat 69 0 81 := by
    show cpK (upI K 68 2 (jI ((K.1 68 2).toInt - 1))) 70 (81 * ((upI K 68 2 (jI ((K.1 68 2).toInt - 1))).1 68 2).toInt).toNat 69 0 81 = _
    rw [upI_1, if_pos ⟨rfl, rfl⟩, h2, hn, hn1]
  have hb9 := slN_bb M (n - 1)
  have hat := bcM_at (M := upI M 16 2 (jI (n - 1))) ch1 (slN_ch M (n - 1)) (by omega)
  have f : ∀ a, a < 1 ∨ 5 < a → (tkM M 1).1 a = (upI M 16 2 (jI (n - 1))).1 a := fun a ha => by rw [eM]; exact hat.2.2.2.2.2.1 a (by omega)
  have f1 : ((tkM M 1).1 16 1) = M.1 16 1 := by rw [f 16 (by omega), upI_1, if_neg (by decide)]
  have f2 : (tkM M 1).1 16 2 = jI (n - 1) := by rw [f 16 (by omega), upI_1, if_pos ⟨rfl, rfl⟩]
  have g2 : (unZ K).1 68 2 = jI (n - 1) := by rw [eK, cpK_r (by decide), upI_1, if_pos ⟨rfl, rfl⟩]
  have g3 : ∀ a, a ≠ 68 → a ≠ 69 → (unZ K).1 a = K.1 a := fun a h1 h2 => by rw [eK, cpK_r h2, upI_row h1]
  have g4 : ∀ k, k ≠ 2 → (unZ K).1 68 k = K.1 68 k := fun k hk => by rw [eK, cpK_r (by decide), upI_1, if_neg (by omega)]
  refine ⟨⟨?_, ⟨⟨by rw [f1]; exact hH.1, by rw [f2, hn1]; omega⟩, by rw [g2, f2], fun i hi => ?_⟩, Rs_r hS (fun a h1 h2 => by rw [f a (by omega), upI_row (by omega)]) (by rw [f 0 (by omega), upI_row (by omega)]) (g4 4 (by decide)) (g3 71 (by decide) (by decide)), Rt_r hT (by rw [f 48 (by omega), upI_row (by omega)]) (by rw [f 49 (by omega), upI_row (by omega)]) (g4 11 (by decide)) (g3 74 (by decide) (by decide))⟩, by rw [g2, f2]⟩
  · have g := hg (n - 1).toNat (by rw [hn]; omega)
    rw [show (((n - 1).toNat : Nat) : Int) = n - 1 by omega] at g
    have e1 : eqC M (tkM M 1) (slN M (n - 1)) 1 := by
      rw [eM]
      exact eqC_trans (eqC_of fun a h1 h2 => upI_row (by omega)) (bcM_eq ch1 (slN_ch M (n - 1)) (by omega))
    refine cg_g (fun k hk => ?_) (cg_e e1 g)
    rw [eK, cpK_1, if_pos (by omega), upI_row (by decide)]
    exact congrArg (K.1 70) (by omega)
  · rw [f2, hn1] at hi
    have g := hg i (by rw [hn]; omega)
    rw [show slN (tkM M 1) (i : Int) = slN M (i : Int) by unfold slN; rw [f1], g3 70 (by decide) (by decide)]
    have hb8 := slN_bb M (i : Int)
    exact cg_r g (fun a h1 h2 => by rw [f a (by omega), upI_row (by omega)])
/-- kept -/
theorem Rl_keep {M K : xM} (h : Rl M K) : Rl (upI (bcM M 11 1) 0 3 (jI 1)) (upI (cpK (upI K 68 5 (jI 0)) 69 0 71 0 81) 68 4 (jI 1)) := by
  obtain ⟨hC, hh, hS, hT⟩ := h
  have hat := bcM_at (M := M) ch11 ch1 (by decide)
  have f : ∀ a, a ≠ 0 → a < 11 ∨ 15 < a → (upI (bcM M 11 1) 0 3 (jI 1)).1 a = M.1 a := fun a h0 h1 => by rw [upI_row h0, hat.2.2.2.2.2.1 a (by omega)]
  have g : ∀ a, a ≠ 68 → a ≠ 71 → (upI (cpK (upI K 68 5 (jI 0)) 69 0 71 0 81) 68 4 (jI 1)).1 a = K.1 a := fun a h1 h2 => by rw [upI_row h1, cpK_r h2, upI_row h1]
  have g8 : ∀ k, k ≠ 4 → k ≠ 5 → (upI (cpK (upI K 68 5 (jI 0)) 69 0 71 0 81) 68 4 (jI 1)).1 68 k = K.1 68 k := fun k h1 h2 => by rw [upI_1, if_neg (by omega), cpK_r (by decide), upI_1, if_neg (by omega)]
  have e1 : eqC M (upI (bcM M 11 1) 0 3 (jI 1)) 1 11 := eqC_trans (bcM_eq ch11 ch1 (by decide)) (eqC_of fun a h1 h2 => upI_row (by omega))
  refine ⟨?_, Rh_r hh (fun a h1 h2 => f a (by omega) (by omega)) (g8 2 (by decide) (by decide)) (g 70 (by decide) (by decide)), ⟨Or.inr ?_, ?_, okC_e e1 hC.1, fun _ => ?_⟩, Rt_r hT (by rw [f 48 (by omega) (by omega)]) (f 49 (by omega) (by omega)) (g8 11 (by decide) (by decide)) (g 74 (by decide) (by decide))⟩
  · rw [g 69 (by decide) (by decide)]
    exact cg_r hC (fun a h1 h2 => f a (by omega) (by omega))
  · rw [upI_1, if_pos ⟨rfl, rfl⟩]
    rfl
  · rw [upI_1, if_pos ⟨rfl, rfl⟩, upI_1, if_pos ⟨rfl, rfl⟩]
  · refine cg_g (g := K.1 69) (fun k hk => ?_) (cg_e e1 hC)
    rw [upI_row (by decide), cpK_1, if_pos (by omega), upI_row (by decide)]
    exact congrArg (K.1 69) (by omega)
/-- the snapshot comes back -/
theorem Rl_back {M K : xM} (h : Rl M K) (h1 : (M.1 0 3).toInt = 1) : Rl (bcM M 1 11) (cpK K 71 0 69 0 81) := by
  have hat := bcM_at (M := M) ch1 ch11 (by decide)
  refine Rl_c h (fun a ha => hat.2.2.2.2.2.1 a (by omega)) (fun a ha => cpK_r ha) ?_
  refine cg_g (g := K.1 71) (fun k hk => ?_) (cg_e (bcM_eq ch1 ch11 (by decide)) (h.2.2.1.2.2.2 h1))
  rw [cpK_1, if_pos (by omega)]
  exact congrArg (K.1 71) (by omega)
/-- text -/
theorem Rl_ad {M K : xM} (h : Rl M K) {x : Int} (hx : 33 ≤ x ∧ x ≤ 126) (hl : tlI M < 60) : Rl (adM M x) (apZ K x) ∧ ((apZ K x).1 68 11).toInt = tlI (adM M x) := by
  obtain ⟨hC, hh, hS, hB, e, e9⟩ := h
  have hB0 := hB.1
  have eM : adM M x = upI (upI M 49 (tlI M).toNat (jI x)) 48 1 (jI (tlI M + 1)) := if_pos ⟨hB0.1, hl⟩
  have eK : apZ K x = upI (upI K 74 (tlI M).toNat (jI x)) 68 11 (jI (tlI M + 1)) := by
    unfold apZ
    rw [e]
    rfl
  have hj : (jI (tlI M + 1)).toInt = tlI M + 1 := jI_toInt (by omega)
  have hjx : (jI x).toInt = x := jI_toInt (by omega)
  have ft : tlI (adM M x) = tlI M + 1 := by
    rw [eM]
    show ((upI (upI M 49 (tlI M).toNat (jI x)) 48 1 (jI (tlI M + 1))).1 48 1).toInt = _
    rw [upI_1, if_pos ⟨rfl, rfl⟩, hj]
  have f : ∀ a, a ≠ 48 → a ≠ 49 → (adM M x).1 a = M.1 a := fun a h1 h2 => by rw [eM, upI_row h1, upI_row h2]
  have f9 : ∀ j, (adM M x).1 49 j = if j = (tlI M).toNat then jI x else M.1 49 j := fun j => by
    rw [eM, upI_row (by decide), upI_1]
    simp
  have g : ∀ a, a ≠ 68 → a ≠ 74 → (apZ K x).1 a = K.1 a := fun a h1 h2 => by rw [eK, upI_row h1, upI_row h2]
  have g8 : ∀ k, k ≠ 11 → (apZ K x).1 68 k = K.1 68 k := fun k h1 => by rw [eK, upI_1, if_neg (by omega), upI_row (by decide)]
  have g9 : ∀ j, (apZ K x).1 74 j = if j = (tlI M).toNat then jI x else K.1 74 j := fun j => by
    rw [eK, upI_row (by decide), upI_1]
    simp
  have g11 : (apZ K x).1 68 11 = jI (tlI M + 1) := by rw [eK, upI_1, if_pos ⟨rfl, rfl⟩]
  have f11 : (adM M x).1 48 1 = jI (tlI M + 1) := by rw [eM, upI_1, if_pos ⟨rfl, rfl⟩]
  refine ⟨⟨?_, Rh_r hh (fun a h1 h2 => f a (by omega) (by omega)) (g8 2 (by decide)) (g 70 (by decide) (by decide)), Rs_r hS (fun a h1 h2 => f a (by omega) (by omega)) (by rw [f 0 (by decide) (by decide)]) (g8 4 (by decide)) (g 71 (by decide) (by decide)), ⟨by rw [ft]; omega, fun i hi => ?_⟩, by rw [g11, f11], fun i hi => ?_⟩, by rw [g11, ft, hj]⟩
  · rw [g 69 (by decide) (by decide)]
    exact cg_r hC (fun a h1 h2 => f a (by omega) (by omega))
  · rw [f9]
    split
    · rw [hjx]
      omega
    · exact hB.2 i hi
  · rw [f9, g9, e9 i hi]
theorem Rl_cl {M K : xM} (h : Rl M K) : Rl (upI M 48 1 (jI 0)) (upI K 68 11 (jI 0)) := by
  obtain ⟨hC, hh, hS, hB, e, e9⟩ := h
  have g8 : ∀ k, k ≠ 11 → (upI K 68 11 (jI 0)).1 68 k = K.1 68 k := fun k h1 => by rw [upI_1, if_neg (by omega)]
  refine ⟨cg_r hC (fun a h1 h2 => upI_row (by omega)), Rh_r hh (fun a h1 h2 => upI_row (by omega)) (g8 2 (by decide)) (upI_row (by decide)), Rs_r hS (fun a h1 h2 => upI_row (by omega)) (by rw [upI_row (by decide)]) (g8 4 (by decide)) (upI_row (by decide)), ⟨?_, fun i hi => ?_⟩, ?_, fun i hi => ?_⟩
  · show 0 ≤ ((upI M 48 1 (jI 0)).1 48 1).toInt ∧ ((upI M 48 1 (jI 0)).1 48 1).toInt ≤ 60
    rw [upI_1, if_pos ⟨rfl, rfl⟩]
    decide
  · rw [upI_row (by decide)]
    exact hB.2 i hi
  · rw [upI_1, if_pos ⟨rfl, rfl⟩, upI_1, if_pos ⟨rfl, rfl⟩]
  · rw [upI_row (by decide), upI_row (by decide)]
    exact e9 i hi
