/-! THE TIE: the calls, one by one: the changes -/
/-- how a call ends on both sides: the same exception, or none and the same answer -/
def tOut (r' r2 : xV) (M2 : xM) : Prop := ∃ y : Int, (0 ≤ y ∧ y ≤ 3) ∧ r' = vI (jI y) ∧ M2.1 68 5 = jI y ∧ ∃ a : Int32, r2 = vI a ∧ (y = 0 → M2.2.2 79 0 = a.toInt64)
theorem Rl_mid {M Mc : xM} (h : Rl M M) (e : ∀ a, 68 ≤ a → Mc.1 a = M.1 a) (x : Int64) : Rl M (upL Mc 79 0 x) :=
  Rl_r h (fun _ _ => rfl) (fun k _ => congrFun (e 68 (by omega)) k) (eqV_69 (e 69 (by omega))) (fun a ha => e a (by omega))
theorem Rl_fin {Mc M2 : xM} (h : Rl Mc M2) (e : ∀ a, (a < 6 ∨ (11 ≤ a ∧ a < 50)) → M2.1 a = Mc.1 a) : Rl M2 M2 :=
  Rl_r h e (fun _ _ => rfl) (eqV_rfl _ _) (fun _ _ => rfl)
theorem t0_r (K : xM) {a : Nat} (h : a ≠ 68) : (t0 K).1 a = K.1 a := upI_row h
theorem t0_5 (K : xM) : (t0 K).1 68 5 = jI 0 := by
  show (upI K 68 5 (jI 0)).1 68 5 = _
  rw [upI_1, if_pos ⟨rfl, rfl⟩]
theorem upL_79 (K : xM) (x : Int64) : (upL K 79 0 x).2.2 79 0 = x := by
  show (if (79 : Nat) = 79 ∧ (0 : Nat) = 0 then x else K.2.2 79 0) = x
  exact if_pos ⟨rfl, rfl⟩
/-- refused on both sides -/
theorem tie_no {M : xM} (H : Rl M M) {y c : Int} (hy : y = 1 ∨ y = 2 ∨ y = 3) (hc : c = y) : tOut (vI (jI c)) (vI (jI 0)) (upI (t0 M) 68 5 (jI y)) ∧ Rl (upI (t0 M) 68 5 (jI y)) (upI (t0 M) 68 5 (jI y)) := by
  refine ⟨⟨y, by omega, by rw [hc], by rw [upI_1, if_pos ⟨rfl, rfl⟩], jI 0, rfl, fun z => by omega⟩, ?_⟩
  have e : ∀ a, a ≠ 68 → (upI (t0 M) 68 5 (jI y)).1 a = M.1 a := fun a ha => by rw [upI_row ha, t0_r M ha]
  exact Rl_r H (fun a ha => e a (by omega)) (fun k hk => by rw [upI_1, if_neg (by omega)]; show (upI M 68 5 (jI 0)).1 68 k = _; rw [upI_1, if_neg (by omega)]) (eqV_69 (e 69 (by omega))) (fun a ha => e a (by omega))
/-- done on both sides -/
theorem tie_yes {K2 : xM} {c : Int} {a b : Int32} (hc : c = 0) (h5 : K2.1 68 5 = jI 0) (hL : K2.2.2 79 0 = b.toInt64) (hab : b = a) : tOut (vI (jI c)) (vI a) K2 :=
  ⟨0, by omega, by rw [hc], h5, a, rfl, fun _ => by rw [hL, hab]⟩
section TIE
variable {M M1 : xM} {r' : xV}
theorem jo_e {K : xM} (H : Rl M K) (r h v : Int) : joY K r h v = joX M r h v := by
  have e6 : zI K 78 = (M.1 1 6).toInt := congrArg Int32.toInt (Rl_f H (j := 6) (by omega) (by omega))
  unfold joX joY
  by_cases hr : 0 ≤ r ∧ r ≤ 3
  · rw [Rl_sz H ⟨hr.1, by omega⟩, e6]
  · rw [if_pos hr, if_pos hr]
theorem pl_e {K : xM} (H : Rl M K) (r p : Int) : plY K r p = plX M r p := by
  unfold plX plY
  by_cases hr : 0 ≤ r ∧ r < 4
  · rw [Rl_sz H hr]
    by_cases c : 0 ≤ p ∧ p < szI M 1 r
    · rw [if_neg (by omega), if_neg (by omega)]
    · rw [if_pos (by omega), if_pos (by omega)]
  · have : szI M 1 r = 0 := szI_out hr
    rw [if_pos (by omega), if_pos (by omega)]
theorem pl_vld {r p : Int} (h : plX M r p = 0) : vld M 1 r p := by
  unfold plX at h
  by_cases c : 0 ≤ p ∧ p < szI M 1 r
  · by_cases hr : 0 ≤ r ∧ r < 4
    · exact ⟨hr.1, hr.2, c.1, c.2⟩
    · rw [szI_out hr] at c
      omega
  · rw [if_pos c] at h
    omega
theorem pl_c (M : xM) (r p : Int) : plX M r p = 0 ∨ plX M r p = 1 := by
  unfold plX
  split
  · exact Or.inr rfl
  · exact Or.inl rfl
theorem ro_c (r : Int) : (roX r = 0 ∧ 0 ≤ r ∧ r < 4) ∨ (roX r = 1 ∧ ¬ (0 ≤ r ∧ r < 4)) := by
  unfold roX
  by_cases c : 0 ≤ r ∧ r ≤ 3
  · rw [if_neg (fun z => z c)]
    omega
  · rw [if_pos c]
    omega
theorem jo_0 {r h v : Int} (z : joX M r h v = 0) : (0 ≤ r ∧ r < 4) ∧ (100 ≤ h ∧ h ≤ 220) ∧ (0 ≤ v ∧ v ≤ 3) ∧ szI M 1 r < 6 ∧ (M.1 1 6).toInt < 999 := by
  unfold joX at z
  (repeat' split at z) <;> omega
theorem jo_c (M : xM) (r h v : Int) : joX M r h v = 0 ∨ joX M r h v = 1 ∨ joX M r h v = 2 ∨ joX M r h v = 3 := by
  unfold joX
  (repeat' split) <;> omega
/-- a change keeps what is not its own -/
theorem chg_fin {Mc : xM} {f : xM → xM} (hf : ∀ (K : xM) (a : Nat), a ≠ 69 → (f K).1 a = K.1 a) {x : Int64} (h : Rl Mc (f (svZ (t0 (upL Mc 79 0 x))))) : Rl (f (svZ (t0 (upL Mc 79 0 x)))) (f (svZ (t0 (upL Mc 79 0 x)))) :=
  Rl_fin h (fun a ha => by rw [hf _ a (by omega), svZ_r _ (by omega) (by omega), t0_r _ (by omega)]; rfl)
theorem chg_5 {K : xM} {f : xM → xM} (hf : ∀ (K : xM) (a : Nat), a ≠ 69 → (f K).1 a = K.1 a) : (f (svZ (t0 K))).1 68 5 = jI 0 := by
  rw [hf _ 68 (by decide), svZ_6k _ (by decide), t0_5]
theorem leZ_row {r p : Int} (K : xM) (a : Nat) (ha : a ≠ 69) : (leZ K r p).1 a = K.1 a := by
  unfold leZ
  rw [upI_row ha, rmZ_row ha]
theorem swZ_q {r p r2 p2 : Int} (K : xM) (a : Nat) (ha : a ≠ 69) : (swZ K r p r2 p2).1 a = K.1 a := by
  unfold swZ
  rw [upI_row ha, exZ_row ha]
theorem crZ_row {r p t : Int} (K : xM) (a : Nat) (ha : a ≠ 69) : (crZ K r p t).1 a = K.1 a := by
  unfold crZ
  dsimp only
  rw [rmZ_row ha, upI_row ha, cpZ_row ha]
theorem rmL_2 (r p : Int) : ∀ (n : Nat) (K : xM), (rmL K r p n).2 = K.2
  | 0, _ => rfl
  | n + 1, K => by simp only [rmL]; rw [cpZ_2, rmL_2 r p n]
theorem rmZ_2 (K : xM) (r p : Int) : (rmZ K r p).2 = K.2 := by
  unfold rmZ clZ
  show (rmL _ r p _).2 = _
  rw [rmL_2]
  rfl
theorem crZ_2 (K : xM) (r p t : Int) : (crZ K r p t).2 = K.2 := by
  unfold crZ
  dsimp only
  rw [rmZ_2, upI_2, cpZ_2]
theorem trZ_2 (K : xM) (r : Int) : ∀ n, (trZ K r n).2 = K.2
  | 0 => rfl
  | n + 1 => by simp only [trZ]; rw [exZ_2, trZ_2 K r n]
theorem bbZ_2 (r z : Int) : ∀ (n : Nat) (K : xM), (bbZ r z n K).2 = K.2
  | 0, _ => rfl
  | n + 1, K => by
    simp only [bbZ]
    split
    · rw [exZ_2, bbZ_2 r z n]
    · exact bbZ_2 r z n K
theorem soZ_2 (K : xM) (r z : Int) : ∀ n, (soZ K r z n).2 = K.2
  | 0 => rfl
  | n + 1 => by simp only [soZ]; rw [bbZ_2, soZ_2 K r z n]
theorem jnZ_2 (K : xM) (r h v : Int) : (jnZ K r h v).2 = K.2 := rfl
theorem sv79 {Mc : xM} {x : Int64} : (svZ (t0 (upL Mc 79 0 x))).2.2 79 0 = x := by
  rw [svZ_2]
  exact upL_79 Mc x
theorem tie_join {r h v : Int} (H : Rl M M)
    (W : (joX M r h v = 0 → r' = vI (jI 0) ∧ ∃ Mc, Mc = arM (svM M 1) 1 r h v ∧ M1 = upL Mc 79 0 ((jI ((svM M 1).1 1 6).toInt)).toInt64) ∧ (joX M r h v ≠ 0 → r' = vI (jI (if joX M r h v = 1 then 1 else (if joX M r h v = 2 then 2 else 3))) ∧ M1 = M)) :
    Rl M M1 ∧ ∀ r2 M2, ((joY M1 r h v = 0 → r2 = vI (jI (zI (jnZ (svZ (t0 M1)) r h v) 78 - 1)) ∧ M2 = jnZ (svZ (t0 M1)) r h v) ∧ (joY M1 r h v ≠ 0 → r2 = vI (jI 0) ∧ M2 = upI (t0 M1) 68 5 (jI (joY M1 r h v)))) → tOut r' r2 M2 ∧ Rl M2 M2 := by
  by_cases hX : joX M r h v = 0
  · obtain ⟨rfl, Mc, eC, rfl⟩ := W.1 hX
    obtain ⟨hr, hh, hv, hs, hc⟩ := jo_0 hX
    have hH := H.2.1.1
    have hm := Rl_mid H (Mc := Mc) (fun a ha => by rw [eC, arM_at.1 a (by omega), svM_r hH (by omega)]) ((jI ((svM M 1).1 1 6).toInt)).toInt64
    refine ⟨hm, fun r2 M2 P => ?_⟩
    obtain ⟨rfl, rfl⟩ := P.1 (by rw [jo_e hm]; exact hX)
    have h1 := Rl_sv (Rl_t0 hm)
    have e6 : (svM M 1).1 1 6 = M.1 1 6 := by rw [svM_r hH (by omega)]
    have hsz : szI (svM M 1) 1 r = szI M 1 r := szI_of (svM_r hH (by omega)) r
    have h2 := Rl_jn h1 (r := r) (x := h) (v := v) hr (by rw [hsz]; exact hs) (by rw [e6]; exact hc) (by omega) hv
    rw [← eC] at h2
    have e78 : zI (jnZ (svZ (t0 (upL Mc 79 0 ((jI ((svM M 1).1 1 6).toInt)).toInt64))) r h v) 78 = (M.1 1 6).toInt + 1 := by
      have := congrArg Int32.toInt (Rl_f h2 (j := 6) (by omega) (by omega))
      refine this.trans ?_
      have g := H.1.2.1.1
      rw [eC, arM_at.2.2.2, e6, jI_toInt (by omega)]
    refine ⟨tie_yes rfl (chg_5 (f := fun K => jnZ K r h v) (fun K a ha => jnZ_row ha)) (b := jI ((svM M 1).1 1 6).toInt) ?_ ?_, chg_fin (f := fun K => jnZ K r h v) (fun K a ha => jnZ_row ha) h2⟩
    · rw [jnZ_2, sv79]
    · rw [e78, e6, Int.add_sub_cancel]
  · obtain ⟨rfl, rfl⟩ := W.2 hX
    refine ⟨H, fun r2 M2 P => ?_⟩
    have e := jo_e H r h v
    obtain ⟨rfl, rfl⟩ := P.2 (by rw [e]; exact hX)
    rw [e]
    have := jo_c M1 r h v
    refine tie_no H (by omega) ?_
    (repeat' split) <;> omega
theorem tie_leave {r p : Int} (H : Rl M M)
    (W : (plX M r p = 0 → r' = vI (jI 0) ∧ ∃ Mc, Mc = leM (svM M 1) r p ∧ M1 = upL Mc 79 0 ((jI (rdI ((svM M 1).1 (1 + 2)) 24 (spI r p)))).toInt64) ∧ (plX M r p ≠ 0 → r' = vI (jI 1) ∧ M1 = M)) :
    Rl M M1 ∧ ∀ r2 M2, ((plY M1 r p = 0 → r2 = vI (jI (zI (svZ (t0 M1)) (4 + 6 * r + p))) ∧ M2 = leZ (svZ (t0 M1)) r p) ∧ (plY M1 r p ≠ 0 → r2 = vI (jI 0) ∧ M2 = upI (t0 M1) 68 5 (jI (plY M1 r p)))) → tOut r' r2 M2 ∧ Rl M2 M2 := by
  by_cases hX : plX M r p = 0
  · obtain ⟨rfl, Mc, eC, rfl⟩ := W.1 hX
    have hv := pl_vld hX
    have hH := H.2.1.1
    have hm := Rl_mid H (Mc := Mc) (fun a ha => by
      have : (dsM (svM M 1) 1 r p).1 a = (svM M 1).1 a := by unfold dsM; rw [csM_row (by omega), mvM_row (by omega)]
      unfold leM at eC
      rw [eC, upI_row (by omega), this, svM_r hH (by omega)]) ((jI (rdI ((svM M 1).1 (1 + 2)) 24 (spI r p)))).toInt64
    refine ⟨hm, fun r2 M2 P => ?_⟩
    obtain ⟨rfl, rfl⟩ := P.1 (by rw [pl_e hm]; exact hX)
    have h1 := Rl_sv (Rl_t0 hm)
    have hsz : szI (svM M 1) 1 r = szI M 1 r := szI_of (svM_r hH (by omega)) r
    have hv1 : vld (svM M 1) 1 r p := ⟨hv.1, hv.2.1, hv.2.2.1, by rw [hsz]; exact hv.2.2.2⟩
    have h2 := Rl_le h1 hv1
    rw [← eC] at h2
    obtain ⟨b1, b2⟩ := vld_b (Rl_hS H) hv
    refine ⟨tie_yes rfl (chg_5 (f := fun K => leZ K r p) leZ_row) (b := jI (rdI ((svM M 1).1 (1 + 2)) 24 (spI r p))) ?_ ?_, chg_fin (f := fun K => leZ K r p) leZ_row h2⟩
    · have : (leZ (svZ (t0 (upL Mc 79 0 ((jI (rdI ((svM M 1).1 (1 + 2)) 24 (spI r p)))).toInt64))) r p).2 = (svZ (t0 (upL Mc 79 0 ((jI (rdI ((svM M 1).1 (1 + 2)) 24 (spI r p)))).toInt64))).2 := by
        unfold leZ
        rw [upI_2, rmZ_2]
      rw [this, sv79]
    · rw [(Rl_at h1 hv1).1, sp_in b1 b2, rdI_at b1 b2]
  · obtain ⟨rfl, rfl⟩ := W.2 hX
    refine ⟨H, fun r2 M2 P => ?_⟩
    have e := pl_e H r p
    obtain ⟨rfl, rfl⟩ := P.2 (by rw [e]; exact hX)
    rw [e]
    have := pl_c M1 r p
    exact tie_no H (by omega) (by omega)
theorem gr_e {K : xM} (H : Rl M K) (r p h : Int) : grY K r p h = grX M r p h := by
  have e := pl_e H r p
  unfold grX grY
  unfold plX plY at e
  by_cases c : 0 ≤ p ∧ p < szI M 1 r
  · rw [if_neg (c := ¬ (0 ≤ p ∧ p < szI M 1 r)) (fun z => z c)] at e
    rw [if_neg (c := ¬ (0 ≤ p ∧ p < szI M 1 r)) (fun z => z c)]
    split at e
    · omega
    · rename_i d
      rw [if_neg d]
  · rw [if_pos (c := ¬ (0 ≤ p ∧ p < szI M 1 r)) c] at e
    rw [if_pos (c := ¬ (0 ≤ p ∧ p < szI M 1 r)) c]
    split at e
    · rename_i d
      rw [if_pos d]
    · omega
theorem gr_q0 {r p h : Int} (z : grX M r p h = 0) : plX M r p = 0 ∧ (100 ≤ h ∧ h ≤ 220) := by
  unfold grX at z
  unfold plX
  (repeat' split at z) <;> omega
theorem gr_c (M : xM) (r p h : Int) : grX M r p h = 0 ∨ grX M r p h = 1 ∨ grX M r p h = 2 := by
  unfold grX
  (repeat' split) <;> omega
theorem tie_grow {r p h : Int} (H : Rl M M)
    (W : (grX M r p h = 0 → r' = vI (jI 0) ∧ ∃ Mc, Mc = wrI (svM M 1) (1 + 3) 24 (spI r p) (jI h) ∧ M1 = upL Mc 79 0 ((jI (heI (svM M 1) 1 r p))).toInt64) ∧ (grX M r p h ≠ 0 → r' = vI (jI (if grX M r p h = 1 then 1 else (if grX M r p h = 2 then 2 else 3))) ∧ M1 = M)) :
    Rl M M1 ∧ ∀ r2 M2, ((grY M1 r p h = 0 → r2 = vI (jI (zI (svZ (t0 M1)) (28 + 6 * r + p))) ∧ M2 = upI (svZ (t0 M1)) 69 (28 + 6 * r + p).toNat (jI h)) ∧ (grY M1 r p h ≠ 0 → r2 = vI (jI 0) ∧ M2 = upI (t0 M1) 68 5 (jI (grY M1 r p h)))) → tOut r' r2 M2 ∧ Rl M2 M2 := by
  by_cases hX : grX M r p h = 0
  · obtain ⟨rfl, Mc, eC, rfl⟩ := W.1 hX
    obtain ⟨hpl, hh⟩ := gr_q0 hX
    have hv := pl_vld hpl
    have hH := H.2.1.1
    have hm := Rl_mid H (Mc := Mc) (fun a ha => by rw [eC, wrI_row (by omega), svM_r hH (by omega)]) ((jI (heI (svM M 1) 1 r p))).toInt64
    refine ⟨hm, fun r2 M2 P => ?_⟩
    obtain ⟨rfl, rfl⟩ := P.1 (by rw [gr_e hm]; exact hX)
    have h1 := Rl_sv (Rl_t0 hm)
    have hsz : szI (svM M 1) 1 r = szI M 1 r := szI_of (svM_r hH (by omega)) r
    have hv1 : vld (svM M 1) 1 r p := ⟨hv.1, hv.2.1, hv.2.2.1, by rw [hsz]; exact hv.2.2.2⟩
    have h2 := Rl_gr h1 hv1 hh
    rw [← eC] at h2
    obtain ⟨b1, b2⟩ := vld_b (Rl_hS H) hv
    refine ⟨tie_yes rfl (chg_5 (f := fun K => upI K 69 (28 + 6 * r + p).toNat (jI h)) (fun K a ha => upI_row ha)) (b := jI (heI (svM M 1) 1 r p)) ?_ ?_, chg_fin (f := fun K => upI K 69 (28 + 6 * r + p).toNat (jI h)) (fun K a ha => upI_row ha) h2⟩
    · rw [upI_2, sv79]
    · rw [(Rl_at h1 hv1).2.1, heI_at b1 b2]
  · obtain ⟨rfl, rfl⟩ := W.2 hX
    refine ⟨H, fun r2 M2 P => ?_⟩
    have e := gr_e H r p h
    obtain ⟨rfl, rfl⟩ := P.2 (by rw [e]; exact hX)
    rw [e]
    have := gr_c M1 r p h
    refine tie_no H (by omega) ?_
    (repeat' split) <;> omega
theorem sw_e {K : xM} (H : Rl M K) (r p r2 p2 : Int) : swY K r p r2 p2 = swX M r p r2 p2 := by
  have e := pl_e H r p
  have e2 := pl_e H r2 p2
  unfold plX plY at e e2
  unfold swX swY
  by_cases c : 0 ≤ p ∧ p < szI M 1 r
  · rw [if_neg (c := ¬ (0 ≤ p ∧ p < szI M 1 r)) (fun z => z c)] at e
    rw [if_neg (c := ¬ (0 ≤ p ∧ p < szI M 1 r)) (fun z => z c)]
    split at e
    · omega
    · rename_i d
      rw [if_neg d]
      exact e2
  · rw [if_pos (c := ¬ (0 ≤ p ∧ p < szI M 1 r)) c] at e
    rw [if_pos (c := ¬ (0 ≤ p ∧ p < szI M 1 r)) c]
    split at e
    · rename_i d
      rw [if_pos d]
    · omega
theorem sw_0 {r p r2 p2 : Int} (z : swX M r p r2 p2 = 0) : vld M 1 r p ∧ vld M 1 r2 p2 := by
  unfold swX at z
  split at z
  · omega
  · rename_i a
    split at z
    · omega
    · rename_i b
      exact ⟨pl_vld (by unfold plX; rw [if_neg a]), pl_vld (by unfold plX; rw [if_neg b])⟩
theorem sw_c (M : xM) (r p r2 p2 : Int) : swX M r p r2 p2 = 0 ∨ swX M r p r2 p2 = 1 := by
  unfold swX
  (repeat' split) <;> omega
theorem tie_swap {r p r2 p2 : Int} (H : Rl M M)
    (W : (swX M r p r2 p2 = 0 → r' = vI (jI 0) ∧ ∃ Mc, Mc = swM (svM M 1) r p r2 p2 ∧ M1 = upL Mc 79 0 ((jI (oaI (swM (svM M 1) r p r2 p2) 1))).toInt64) ∧ (swX M r p r2 p2 ≠ 0 → r' = vI (jI 1) ∧ M1 = M)) :
    Rl M M1 ∧ ∀ r9 M2, ((swY M1 r p r2 p2 = 0 → r9 = vI (jI (oaZ (swZ (svZ (t0 M1)) r p r2 p2))) ∧ M2 = swZ (svZ (t0 M1)) r p r2 p2) ∧ (swY M1 r p r2 p2 ≠ 0 → r9 = vI (jI 0) ∧ M2 = upI (t0 M1) 68 5 (jI (swY M1 r p r2 p2)))) → tOut r' r9 M2 ∧ Rl M2 M2 := by
  by_cases hX : swX M r p r2 p2 = 0
  · obtain ⟨rfl, Mc, eC, rfl⟩ := W.1 hX
    obtain ⟨hv, hv2⟩ := sw_0 hX
    have hH := H.2.1.1
    rw [← eC]
    have hm := Rl_mid H (Mc := Mc) (fun a ha => by unfold swM at eC; rw [eC, upI_row (by omega), swP_row (by omega), svM_r hH (by omega)]) ((jI (oaI Mc 1))).toInt64
    refine ⟨hm, fun r9 M2 P => ?_⟩
    obtain ⟨rfl, rfl⟩ := P.1 (by rw [sw_e hm]; exact hX)
    have h1 := Rl_sv (Rl_t0 hm)
    have hsz : ∀ q, szI (svM M 1) 1 q = szI M 1 q := fun q => szI_of (svM_r hH (by omega)) q
    have h2 := Rl_sw h1 (r := r) (p := p) (r2 := r2) (p2 := p2) ⟨hv.1, hv.2.1, hv.2.2.1, by rw [hsz]; exact hv.2.2.2⟩ ⟨hv2.1, hv2.2.1, hv2.2.2.1, by rw [hsz]; exact hv2.2.2.2⟩
    rw [← eC] at h2
    refine ⟨tie_yes rfl (chg_5 (f := fun K => swZ K r p r2 p2) swZ_q) (b := jI (oaI Mc 1)) ?_ ?_, chg_fin (f := fun K => swZ K r p r2 p2) swZ_q h2⟩
    · have : (swZ (svZ (t0 (upL Mc 79 0 ((jI (oaI Mc 1))).toInt64))) r p r2 p2).2 = (svZ (t0 (upL Mc 79 0 ((jI (oaI Mc 1))).toInt64))).2 := by
        unfold swZ
        rw [upI_2, exZ_2]
      rw [this, sv79]
    · rw [oaZ_v (Rl_Z h2), oaI_v (Rl_v h2) (Rl_hS h2)]
  · obtain ⟨rfl, rfl⟩ := W.2 hX
    refine ⟨H, fun r9 M2 P => ?_⟩
    have e := sw_e H r p r2 p2
    obtain ⟨rfl, rfl⟩ := P.2 (by rw [e]; exact hX)
    rw [e]
    have := sw_c M1 r p r2 p2
    exact tie_no H (by omega) (by omega)
theorem cr_0 {r p t : Int} (z : crX M r p t = 0) : vld M 1 r p ∧ (0 ≤ t ∧ t < 4) ∧ r ≠ t ∧ szI M 1 t < 6 := by
  unfold crX at z
  split at z
  · omega
  · rename_i a
    split at z
    · omega
    · rename_i b
      split at z
      · omega
      · rename_i c
        have c' := Classical.not_not.mp c
        exact ⟨pl_vld (by unfold plX; rw [if_neg a]), by omega, c'.1, c'.2⟩
theorem cr_c {K : xM} (H : Rl M K) (r p t : Int) : (crX M r p t = 0 ∧ crY K r p t = 0) ∨ (crX M r p t = 1 ∧ crY K r p t = 1) ∨ (crX M r p t = 3 ∧ crY K r p t = 2) := by
  have e := pl_e H r p
  unfold plX plY at e
  unfold crX crY
  by_cases c : 0 ≤ p ∧ p < szI M 1 r
  · rw [if_neg (c := ¬ (0 ≤ p ∧ p < szI M 1 r)) (fun z => z c)] at e
    rw [if_neg (c := ¬ (0 ≤ p ∧ p < szI M 1 r)) (fun z => z c)]
    split at e
    · omega
    · rename_i d
      rw [if_neg d]
      have e9 : 0 ≤ t ∧ t ≤ 3 → zI K t = szI M 1 t := fun ct => Rl_sz H ⟨ct.1, by omega⟩
      have := Rl_hS H t
      (repeat' split) <;> omega
  · rw [if_pos (c := ¬ (0 ≤ p ∧ p < szI M 1 r)) c] at e
    rw [if_pos (c := ¬ (0 ≤ p ∧ p < szI M 1 r)) c]
    split at e
    · rename_i d
      rw [if_pos d]
      exact Or.inr (Or.inl ⟨rfl, rfl⟩)
    · omega
theorem moM_row {r p t : Int} {N : xM} {a : Nat} (h : a < 1 ∨ 5 < a) : (moM N 1 r p t).1 a = N.1 a := by
  unfold moM
  dsimp only
  rw [csM_row (by omega), swP_row (by omega), csM_row (by omega), mvM_row (by omega)]
theorem szI_moM {N : xM} {r p t : Int} (hS : hSz N 1) (hv : vld N 1 r p) (hne : r ≠ t) (ht : 0 ≤ t ∧ t < 4) (hst : szI N 1 t < 6) : szI (moM N 1 r p t) 1 t = szI N 1 t + 1 := by
  obtain ⟨hr, hp6⟩ := vld_b hS hv
  obtain ⟨-, -, hp0, hps⟩ := hv
  obtain ⟨u, hu⟩ : ∃ u, szI N 1 t = u := ⟨_, rfl⟩
  have hs6 := hS r
  have hu6 := hS t
  have hsm : ∀ n q, szI (mvM N 1 r p n) 1 q = szI N 1 q := fun n q => szI_mvM N 1 r p n q
  have hc1 : ∀ n, 0 ≤ szI (mvM N 1 r p n) 1 t + 1 ∧ szI (mvM N 1 r p n) 1 t + 1 ≤ 6 := fun n => by rw [hsm]; omega
  have hs2 : ∀ n q, szI (csM (mvM N 1 r p n) 1 t 1) 1 q = if q = t then u + 1 else szI N 1 q := fun n q => by rw [szI_csM ht (hc1 n), hsm, hsm, hu]
  unfold moM
  dsimp only
  rw [szI_csM_ne (fun z => hne z.symm) ht, szI_swP, hs2, if_pos rfl, hu]
set_option maxRecDepth 20000 in
theorem tie_cross {r p t : Int} (H : Rl M M)
    (W : (crX M r p t = 0 → r' = vI (jI 0) ∧ ∃ Mc, Mc = moM (svM M 1) 1 r p t ∧ M1 = upL Mc 79 0 ((jI (szI (svM M 1) 1 t))).toInt64) ∧ (crX M r p t ≠ 0 → r' = vI (jI (if crX M r p t = 1 then 1 else (if crX M r p t = 3 then 2 else 3))) ∧ M1 = M)) :
    Rl M M1 ∧ ∀ r2 M2, ((crY M1 r p t = 0 → r2 = vI (jI (zI (crZ (svZ (t0 M1)) r p t) t - 1)) ∧ M2 = crZ (svZ (t0 M1)) r p t) ∧ (crY M1 r p t ≠ 0 → r2 = vI (jI 0) ∧ M2 = upI (t0 M1) 68 5 (jI (crY M1 r p t)))) → tOut r' r2 M2 ∧ Rl M2 M2 := by
  by_cases hX : crX M r p t = 0
  · obtain ⟨rfl, Mc, eC, rfl⟩ := W.1 hX
    obtain ⟨hv, ht, hne, hst⟩ := cr_0 hX
    have hH := H.2.1.1
    have hm := Rl_mid H (Mc := Mc) (fun a ha => by rw [eC, moM_row (by omega), svM_r hH (by omega)]) ((jI (szI (svM M 1) 1 t))).toInt64
    refine ⟨hm, fun r2 M2 P => ?_⟩
    obtain ⟨rfl, rfl⟩ := P.1 (by have := cr_c hm r p t; omega)
    have h1 := Rl_sv (Rl_t0 hm)
    have hsz : ∀ q, szI (svM M 1) 1 q = szI M 1 q := fun q => szI_of (svM_r hH (by omega)) q
    have h2 := Rl_cr h1 (r := r) (p := p) (t := t) ⟨hv.1, hv.2.1, hv.2.2.1, by rw [hsz]; exact hv.2.2.2⟩ ht hne (by rw [hsz]; exact hst)
    rw [← eC] at h2
    refine ⟨tie_yes rfl (chg_5 (f := fun K => crZ K r p t) crZ_row) (b := jI (szI (svM M 1) 1 t)) ?_ ?_, chg_fin (f := fun K => crZ K r p t) crZ_row h2⟩
    · have : (crZ (svZ (t0 (upL Mc 79 0 ((jI (szI (svM M 1) 1 t))).toInt64))) r p t).2 = (svZ (t0 (upL Mc 79 0 ((jI (szI (svM M 1) 1 t))).toInt64))).2 := crZ_2 _ r p t
      rw [this, sv79]
    · rw [Rl_sz h2 ht, eC, szI_moM (Rl_hS h1) ⟨hv.1, hv.2.1, hv.2.2.1, by rw [hsz]; exact hv.2.2.2⟩ hne ht (by rw [hsz]; exact hst), Int.add_sub_cancel]
  · obtain ⟨rfl, rfl⟩ := W.2 hX
    refine ⟨H, fun r2 M2 P => ?_⟩
    have e := cr_c H r p t
    obtain ⟨rfl, rfl⟩ := P.2 (by omega)
    refine tie_no H (by omega) ?_
    (repeat' split) <;> omega
end TIE
