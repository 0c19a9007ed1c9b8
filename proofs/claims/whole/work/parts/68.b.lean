/-! THE TIE: the calls, one by one: the other changes -/
section TIEB
variable {M M1 : xM} {r' : xV}
theorem tie_chg {Mc : xM} {x a : Int32} {f : xM → xM} (hf : ∀ (K : xM) (a : Nat), a ≠ 69 → (f K).1 a = K.1 a) (hf2 : ∀ K : xM, (f K).2 = K.2) (h2 : Rl Mc (f (svZ (t0 (upL Mc 79 0 x.toInt64))))) (hx : x = a) : tOut (vI (jI 0)) (vI a) (f (svZ (t0 (upL Mc 79 0 x.toInt64)))) ∧ Rl (f (svZ (t0 (upL Mc 79 0 x.toInt64)))) (f (svZ (t0 (upL Mc 79 0 x.toInt64)))) :=
  ⟨tie_yes rfl (chg_5 hf) (by rw [hf2, sv79]) hx, chg_fin hf h2⟩
theorem Rl_m0 {Mc : xM} (h : Rl M M) (e : ∀ a, 68 ≤ a → Mc.1 a = M.1 a) : Rl M Mc :=
  Rl_r h (fun _ _ => rfl) (fun k _ => congrFun (e 68 (by omega)) k) (eqV_69 (e 69 (by omega))) (fun a ha => e a (by omega))
theorem ro_0 {r : Int} (z : roX r = 0) : 0 ≤ r ∧ r < 4 := by
  unfold roX at z
  split at z <;> omega
theorem ro_cc (r : Int) : roX r = 0 ∨ roX r = 1 := by
  unfold roX
  split
  · exact Or.inr rfl
  · exact Or.inl rfl
theorem rw_0 {r a b z : Int} (h : rwX r a b z = 0) : (0 ≤ r ∧ r < 4) ∧ a ≤ z ∧ z ≤ b := by
  unfold rwX at h
  (repeat' split at h) <;> omega
theorem rw_c (r a b z : Int) : rwX r a b z = 0 ∨ rwX r a b z = 1 ∨ rwX r a b z = 2 := by
  unfold rwX
  (repeat' split) <;> omega
theorem se_c (s x : Int) : seX s x = 0 ∨ seX s x = 1 ∨ seX s x = 2 := by
  unfold seX
  (repeat' split) <;> omega
theorem se_0 {s x : Int} (h : seX s x = 0) : s = 0 ∨ s = 1 := by
  unfold seX at h
  (repeat' split at h) <;> omega
theorem tie_turn {r : Int} (H : Rl M M)
    (W : (roX r = 0 → r' = vI (jI 0) ∧ ∃ Mc, Mc = trM (svM M 1) 1 r (szI (svM M 1) 1 r / 2).toNat ∧ M1 = upL Mc 79 0 ((jI (oaI (trM (svM M 1) 1 r (szI (svM M 1) 1 r / 2).toNat) 1))).toInt64) ∧ (roX r ≠ 0 → r' = vI (jI 1) ∧ M1 = M)) :
    Rl M M1 ∧ ∀ r9 M2, ((roY r = 0 → r9 = vI (jI (oaZ (trZ (svZ (t0 M1)) r (zI (svZ (t0 M1)) r / 2).toNat))) ∧ M2 = trZ (svZ (t0 M1)) r (zI (svZ (t0 M1)) r / 2).toNat) ∧ (roY r ≠ 0 → r9 = vI (jI 0) ∧ M2 = upI (t0 M1) 68 5 (jI (roY r)))) → tOut r' r9 M2 ∧ Rl M2 M2 := by
  by_cases hX : roX r = 0
  · obtain ⟨rfl, Mc, eC, rfl⟩ := W.1 hX
    have hr := ro_0 hX
    have hH := H.2.1.1
    rw [← eC]
    have hm := Rl_mid H (Mc := Mc) (fun a ha => by rw [eC, trM_row (by omega), svM_r hH (by omega)]) ((jI (oaI Mc 1))).toInt64
    refine ⟨hm, fun r9 M2 P => ?_⟩
    obtain ⟨rfl, rfl⟩ := P.1 hX
    have h1 := Rl_sv (Rl_t0 hm)
    have hs := h1.1.1.1 r
    rw [Rl_sz h1 hr]
    have h2 := Rl_tr h1 hr (szI (svM M 1) 1 r / 2).toNat (by omega)
    rw [← eC] at h2
    exact tie_chg (f := fun K => trZ K r (szI (svM M 1) 1 r / 2).toNat) (fun K a ha => trZ_row ha _) (fun K => trZ_2 K r _) h2 (by rw [oaZ_v (Rl_Z h2), oaI_v (Rl_v h2) (Rl_hS h2)])
  · obtain ⟨rfl, rfl⟩ := W.2 hX
    refine ⟨H, fun r9 M2 P => ?_⟩
    obtain ⟨rfl, rfl⟩ := P.2 hX
    have e : roY r = 1 := by
      have := ro_cc r
      show roX r = 1
      omega
    exact tie_no H (by omega) (by omega)
theorem tie_sort {r z : Int} (H : Rl M M)
    (W : (rwX r 0 2 z = 0 → r' = vI (jI 0) ∧ ∃ Mc, Mc = (srM (svM M 1) 1 r z (szI (svM M 1) 1 r - 1).toNat) ∧ M1 = upL Mc 79 0 ((jI (dcI (srM (svM M 1) 1 r z (szI (svM M 1) 1 r - 1).toNat) 1 r))).toInt64) ∧ (rwX r 0 2 z ≠ 0 → r' = vI (jI (if rwX r 0 2 z = 1 then 1 else (if rwX r 0 2 z = 2 then 2 else 3))) ∧ M1 = M)) :
    Rl M M1 ∧ ∀ r9 M2, ((rwY r 0 2 z = 0 → r9 = vI (jI (dcZ (soZ (svZ (t0 M1)) r z (zI (svZ (t0 M1)) r).toNat) r)) ∧ M2 = soZ (svZ (t0 M1)) r z (zI (svZ (t0 M1)) r).toNat) ∧ (rwY r 0 2 z ≠ 0 → r9 = vI (jI 0) ∧ M2 = upI (t0 M1) 68 5 (jI (rwY r 0 2 z)))) → tOut r' r9 M2 ∧ Rl M2 M2 := by
  by_cases hX : rwX r 0 2 z = 0
  · obtain ⟨rfl, Mc, eC, rfl⟩ := W.1 hX
    obtain ⟨hr, hz⟩ := rw_0 hX
    have hH := H.2.1.1
    rw [← eC]
    have hm := Rl_mid H (Mc := Mc) (fun a ha => by rw [eC, srM_row (by omega), svM_r hH (by omega)]) ((jI (dcI Mc 1 r))).toInt64
    refine ⟨hm, fun r9 M2 P => ?_⟩
    obtain ⟨rfl, rfl⟩ := P.1 hX
    have h1 := Rl_sv (Rl_t0 hm)
    have h2 := Rl_so h1 hr hz
    rw [← eC] at h2
    exact tie_chg (f := fun K => soZ K r z (zI (svZ (t0 (upL Mc 79 0 ((jI (dcI Mc 1 r))).toInt64))) r).toNat) (fun K a ha => soZ_row ha _) (fun K => soZ_2 K r z _) h2 (by rw [dcZ_v (Rl_Z h2) hr, dcI_v (Rl_v h2) (Rl_hS h2)])
  · obtain ⟨rfl, rfl⟩ := W.2 hX
    refine ⟨H, fun r9 M2 P => ?_⟩
    obtain ⟨rfl, rfl⟩ := P.2 hX
    have e : rwY r 0 2 z = rwX r 0 2 z := rfl
    have := rw_c r 0 2 z
    rw [e]
    refine tie_no H (by omega) ?_
    (repeat' split) <;> omega
theorem zI_s0 (K : xM) : zI K (76 + 0) = (K.1 69 (72 + 4)).toInt := rfl
theorem zI_s1 (K : xM) : zI K (76 + 1) = (K.1 69 (72 + 5)).toInt := rfl
theorem tie_set {s x : Int} (H : Rl M M)
    (W : (seX s x = 0 → r' = vI (jI 0) ∧ ∃ Mc, Mc = upI (svM M 1) 1 (if s = 0 then 4 else 5) (jI x) ∧ M1 = upL Mc 79 0 ((jI (if s = 0 then ((svM M 1).1 1 4).toInt else ((svM M 1).1 1 5).toInt))).toInt64) ∧ (seX s x ≠ 0 → r' = vI (jI (if seX s x = 1 then 1 else (if seX s x = 2 then 2 else 3))) ∧ M1 = M)) :
    Rl M M1 ∧ ∀ r9 M2, ((seY s x = 0 → r9 = vI (jI (zI (svZ (t0 M1)) (76 + s))) ∧ M2 = upI (svZ (t0 M1)) 69 (76 + s).toNat (jI x)) ∧ (seY s x ≠ 0 → r9 = vI (jI 0) ∧ M2 = upI (t0 M1) 68 5 (jI (seY s x)))) → tOut r' r9 M2 ∧ Rl M2 M2 := by
  by_cases hX : seX s x = 0
  · obtain ⟨rfl, Mc, eC, rfl⟩ := W.1 hX
    have hH := H.2.1.1
    have hm := Rl_mid H (Mc := Mc) (fun a ha => by rw [eC, upI_row (by omega), svM_r hH (by omega)]) ((jI (if s = 0 then ((svM M 1).1 1 4).toInt else ((svM M 1).1 1 5).toInt))).toInt64
    refine ⟨hm, fun r9 M2 P => ?_⟩
    obtain ⟨rfl, rfl⟩ := P.1 hX
    have h1 := Rl_sv (Rl_t0 hm)
    have h2 := Rl_set h1 hX
    rw [← eC] at h2
    refine tie_chg (f := fun K => upI K 69 (76 + s).toNat (jI x)) (fun K a ha => upI_row ha) (fun K => rfl) h2 ?_
    rcases se_0 hX with rfl | rfl
    · exact congrArg jI ((if_pos rfl).trans ((congrArg Int32.toInt (Rl_f h1 (j := 4) (by omega) (by omega))).symm.trans (zI_s0 _).symm))
    · exact congrArg jI ((if_neg (by decide)).trans ((congrArg Int32.toInt (Rl_f h1 (j := 5) (by omega) (by omega))).symm.trans (zI_s1 _).symm))
  · obtain ⟨rfl, rfl⟩ := W.2 hX
    refine ⟨H, fun r9 M2 P => ?_⟩
    obtain ⟨rfl, rfl⟩ := P.2 hX
    have e : seY s x = seX s x := rfl
    have := se_c s x
    rw [e]
    refine tie_no H (by omega) ?_
    (repeat' split) <;> omega
/-! text -/
theorem ap_c {K : xM} {x : Int} (H : Rl M K) : (apX M x = 0 ∧ apY K x = 0) ∨ (apX M x = 2 ∧ apY K x = 1) ∨ (apX M x = 3 ∧ apY K x = 2) := by
  have hb : 0 ≤ tlI M ∧ tlI M ≤ 60 := H.2.2.2.1.1
  have e : (K.1 68 11).toInt = tlI M := congrArg Int32.toInt H.2.2.2.2.1
  unfold apX apY
  rw [e]
  (repeat' split) <;> omega
theorem adM_r {x : Int} {a : Nat} (h : a ≠ 48) (h2 : a ≠ 49) : (adM M x).1 a = M.1 a := by
  unfold adM
  split
  · rw [upI_row h, upI_row h2]
  · rfl
theorem apZ_r {K : xM} {x : Int} {a : Nat} (h : a ≠ 68) (h2 : a ≠ 74) : (apZ K x).1 a = K.1 a := by
  unfold apZ
  rw [upI_row h, upI_row h2]
theorem ap_0 {x : Int} (h : apX M x = 0) : (33 ≤ x ∧ x ≤ 126) ∧ tlI M < 60 := by
  unfold apX at h
  (repeat' split at h) <;> omega
theorem tie_append {x : Int} (H : Rl M M)
    (W : (apX M x = 0 → r' = vI (jI 0) ∧ ∃ Mc, Mc = adM M x ∧ M1 = upL Mc 79 0 ((jI (tlI (adM M x)))).toInt64) ∧ (apX M x ≠ 0 → r' = vI (jI (if apX M x = 2 then 1 else (if apX M x = 3 then 2 else 3))) ∧ M1 = M)) :
    Rl M M1 ∧ ∀ r9 M2, ((apY M1 x = 0 → r9 = vI (jI ((apZ (t0 M1) x).1 68 11).toInt) ∧ M2 = apZ (t0 M1) x) ∧ (apY M1 x ≠ 0 → r9 = vI (jI 0) ∧ M2 = upI (t0 M1) 68 5 (jI (apY M1 x)))) → tOut r' r9 M2 ∧ Rl M2 M2 := by
  by_cases hX : apX M x = 0
  · obtain ⟨rfl, Mc, eC, rfl⟩ := W.1 hX
    obtain ⟨hx, hl⟩ := ap_0 hX
    rw [← eC]
    have hm := Rl_mid H (Mc := Mc) (fun a ha => by rw [eC, adM_r (by omega) (by omega)]) ((jI (tlI Mc))).toInt64
    refine ⟨hm, fun r9 M2 P => ?_⟩
    obtain ⟨rfl, rfl⟩ := P.1 (by have := ap_c (x := x) hm; omega)
    obtain ⟨h2, e2⟩ := Rl_ad (Rl_t0 hm) hx hl
    rw [← eC] at h2 e2
    refine ⟨tie_yes rfl ?_ (b := jI (tlI Mc)) (upL_79 Mc _) (by rw [e2]), Rl_fin h2 (fun a ha => ?_)⟩
    · unfold apZ
      rw [upI_1, if_neg (by decide), upI_row (by decide), t0_5]
    · rw [apZ_r (by omega) (by omega), t0_r _ (by omega)]
      rfl
  · obtain ⟨rfl, rfl⟩ := W.2 hX
    refine ⟨H, fun r9 M2 P => ?_⟩
    have e := ap_c (x := x) H
    obtain ⟨rfl, rfl⟩ := P.2 (by omega)
    refine tie_no H (by omega) ?_
    (repeat' split) <;> omega
theorem tie_clear (H : Rl M M) (e1 : M1 = upI M 48 1 (jI 0)) : Rl M M1 ∧ ∀ M2, M2 = upI (t0 M1) 68 11 (jI 0) → jI (tlI M) = jI (M1.1 68 11).toInt ∧ Rl M2 M2 := by
  subst e1
  have hm := Rl_m0 H (Mc := upI M 48 1 (jI 0)) (fun a ha => upI_row (by omega))
  refine ⟨hm, fun M2 e2 => ?_⟩
  subst e2
  refine ⟨?_, Rl_fin (Rl_cl (Rl_t0 hm)) (fun a ha => ?_)⟩
  · rw [hm.2.2.2.2.1]
    rfl
  · rw [upI_row (by omega), t0_r _ (by omega)]
/-! undo, the snapshot -/
theorem un_c {K : xM} (H : Rl M K) : (unX M = 0 ∧ unY K = 0) ∨ (unX M = 3 ∧ unY K = 1) := by
  have hb := H.2.1.1.2
  have e : (K.1 68 2).toInt = (M.1 16 2).toInt := congrArg Int32.toInt H.2.1.2.1
  unfold unX unY
  rw [e]
  by_cases c : 0 < (M.1 16 2).toInt
  · rw [if_neg (fun z => z c), if_neg (by omega)]
    exact Or.inl ⟨rfl, rfl⟩
  · rw [if_pos c, if_pos (by omega)]
    exact Or.inr ⟨rfl, rfl⟩
theorem tkM_r {a : Nat} (h : 5 < a) (h2 : a ≠ 16) : (tkM M 1).1 a = M.1 a := by
  unfold tkM
  split
  · have hb9 := slN_bb (upI M 16 2 (jI ((M.1 16 2).toInt - 1))) ((upI M 16 2 (jI ((M.1 16 2).toInt - 1))).1 16 2).toInt
    have hat := bcM_at (M := upI M 16 2 (jI ((M.1 16 2).toInt - 1))) ch1 (slN_ch (upI M 16 2 (jI ((M.1 16 2).toInt - 1))) ((upI M 16 2 (jI ((M.1 16 2).toInt - 1))).1 16 2).toInt) (by omega)
    exact (hat.2.2.2.2.2.1 a (by omega)).trans (upI_row h2)
  · rfl
theorem unZ_r {K : xM} {a : Nat} (h : a ≠ 68) (h2 : a ≠ 69) : (unZ K).1 a = K.1 a := by
  show (cpK (upI K 68 2 _) 70 _ 69 0 81).1 a = _
  rw [cpK_r h2, upI_row h]
theorem unZ_5 {K : xM} : (unZ K).1 68 5 = K.1 68 5 := by
  show (cpK (upI K 68 2 _) 70 _ 69 0 81).1 68 5 = _
  rw [cpK_r (by decide), upI_1, if_neg (by decide)]
theorem tie_undo (H : Rl M M)
    (W : (unX M = 0 → r' = vI (jI 0) ∧ ∃ Mc, Mc = tkM M 1 ∧ M1 = upL Mc 79 0 ((jI ((tkM M 1).1 16 2).toInt)).toInt64) ∧ (unX M ≠ 0 → r' = vI (jI 1) ∧ M1 = M)) :
    Rl M M1 ∧ ∀ r9 M2, ((unY M1 = 0 → r9 = vI (jI ((unZ (t0 M1)).1 68 2).toInt) ∧ M2 = unZ (t0 M1)) ∧ (unY M1 ≠ 0 → r9 = vI (jI 0) ∧ M2 = upI (t0 M1) 68 5 (jI (unY M1)))) → tOut r' r9 M2 ∧ Rl M2 M2 := by
  by_cases hX : unX M = 0
  · obtain ⟨rfl, Mc, eC, rfl⟩ := W.1 hX
    have h0 : 0 < (M.1 16 2).toInt := by
      unfold unX at hX
      split at hX <;> omega
    rw [← eC]
    have hm := Rl_mid H (Mc := Mc) (fun a ha => by rw [eC, tkM_r (by omega) (by omega)]) ((jI (Mc.1 16 2).toInt)).toInt64
    refine ⟨hm, fun r9 M2 P => ?_⟩
    obtain ⟨rfl, rfl⟩ := P.1 (by have := un_c hm; omega)
    obtain ⟨h2, e2⟩ := Rl_un (Rl_t0 hm) h0
    rw [← eC] at h2 e2
    refine ⟨tie_yes rfl ?_ (b := jI (Mc.1 16 2).toInt) (upL_79 Mc _) (by rw [e2]), Rl_fin h2 (fun a ha => ?_)⟩
    · rw [unZ_5, t0_5]
    · rw [unZ_r (by omega) (by omega), t0_r _ (by omega)]
      rfl
  · obtain ⟨rfl, rfl⟩ := W.2 hX
    refine ⟨H, fun r9 M2 P => ?_⟩
    have e := un_c H
    obtain ⟨rfl, rfl⟩ := P.2 (by omega)
    exact tie_no H (by omega) (by omega)
theorem sum_zI {K : xM} (h : Rl M K) : sumI (szI M 1) 4 = zI K 0 + zI K 1 + zI K 2 + zI K 3 := by
  rw [sum4, Rl_sz h (r := 0) (by decide), Rl_sz h (r := 1) (by decide), Rl_sz h (r := 2) (by decide), Rl_sz h (r := 3) (by decide)]
theorem keep_row {a : Nat} (h : a ≠ 0) (h2 : a < 11 ∨ 15 < a) : (upI (bcM M 11 1) 0 3 (jI 1)).1 a = M.1 a := by
  rw [upI_row h, (bcM_at (M := M) ch11 ch1 (by decide)).2.2.2.2.2.1 a (by omega)]
theorem tie_keep (H : Rl M M) (e1 : M1 = upI (bcM M 11 1) 0 3 (jI 1)) : Rl M M1 ∧ ∀ M2, M2 = (upI (cpK (upI M1 68 5 (jI 0)) 69 0 71 0 81) 68 4 (jI 1)) → jI (sumI (szI M 1) 4) = jI (zI M1 0 + zI M1 1 + zI M1 2 + zI M1 3) ∧ Rl M2 M2 := by
  have hm := Rl_m0 H (Mc := M1) (fun a ha => by rw [e1, keep_row (by omega) (by omega)])
  refine ⟨hm, fun M2 e2 => ⟨by rw [sum_zI hm], ?_⟩⟩
  subst e2
  have h2 := Rl_keep hm
  rw [← e1] at h2
  exact Rl_fin h2 (fun a ha => by rw [upI_row (by omega), cpK_r (by omega), upI_row (by omega)])
theorem re_c {K : xM} (H : Rl M K) : (reX M = 0 ∧ reY K = 0) ∨ (reX M = 3 ∧ reY K = 1) := by
  have hb := H.2.2.1.1
  have e : (K.1 68 4).toInt = (M.1 0 3).toInt := congrArg Int32.toInt H.2.2.1.2.1
  unfold reX reY
  rw [e]
  by_cases c : (M.1 0 3).toInt = 1
  · rw [if_neg (fun z => z c), if_neg (by omega)]
    exact Or.inl ⟨rfl, rfl⟩
  · rw [if_pos c, if_pos (by omega)]
    exact Or.inr ⟨rfl, rfl⟩
theorem tie_restore (H : Rl M M)
    (W : (reX M = 0 → r' = vI (jI 0) ∧ ∃ Mc, Mc = bcM (svM M 1) 1 11 ∧ M1 = upL Mc 79 0 ((jI (sumI (szI (bcM (svM M 1) 1 11) 1) 4))).toInt64) ∧ (reX M ≠ 0 → r' = vI (jI 1) ∧ M1 = M)) :
    Rl M M1 ∧ ∀ r9 M2, ((reY M1 = 0 → r9 = vI (jI (zI (cpK (svZ (t0 M1)) 71 0 69 0 81) 0 + zI (cpK (svZ (t0 M1)) 71 0 69 0 81) 1 + zI (cpK (svZ (t0 M1)) 71 0 69 0 81) 2 + zI (cpK (svZ (t0 M1)) 71 0 69 0 81) 3)) ∧ M2 = (cpK (svZ (t0 M1)) 71 0 69 0 81)) ∧ (reY M1 ≠ 0 → r9 = vI (jI 0) ∧ M2 = upI (t0 M1) 68 5 (jI (reY M1)))) → tOut r' r9 M2 ∧ Rl M2 M2 := by
  by_cases hX : reX M = 0
  · obtain ⟨rfl, Mc, eC, rfl⟩ := W.1 hX
    have hH := H.2.1.1
    have h0 : (M.1 0 3).toInt = 1 := by
      unfold reX at hX
      split at hX
      · omega
      · rename_i h
        exact Classical.not_not.mp h
    rw [← eC]
    have hm := Rl_mid H (Mc := Mc) (fun a ha => by rw [eC, (bcM_at (M := svM M 1) ch1 ch11 (by decide)).2.2.2.2.2.1 a (by omega), svM_r hH (by omega)]) ((jI (sumI (szI Mc 1) 4))).toInt64
    refine ⟨hm, fun r9 M2 P => ?_⟩
    obtain ⟨rfl, rfl⟩ := P.1 (by have := re_c hm; omega)
    have h1 := Rl_sv (Rl_t0 hm)
    have h2 := Rl_back h1 (by rw [svM_r hH (by omega)]; exact h0)
    rw [← eC] at h2
    exact tie_chg (f := fun K => cpK K 71 0 69 0 81) (fun K a ha => cpK_r ha) (fun K => rfl) h2 (congrArg jI (sum_zI h2))
  · obtain ⟨rfl, rfl⟩ := W.2 hX
    refine ⟨H, fun r9 M2 P => ?_⟩
    have e := re_c H
    obtain ⟨rfl, rfl⟩ := P.2 (by omega)
    exact tie_no H (by omega) (by omega)
end TIEB
