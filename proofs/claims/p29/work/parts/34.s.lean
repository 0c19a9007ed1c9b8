/-! isSo(): it answers true -/
theorem goA_vb {h n : aT} (hA : okA h n) {r : Int} (hr : 0 ≤ r ∧ r < 4) : (0 ≤ (goA (vC h n) 1 r).1 ∧ (goA (vC h n) 1 r).1 ≤ 6) ∧ 0 ≤ (goA (vC h n) 1 r).2 ∧ (goA (vC h n) 1 r).2 ≤ 36 := by
  have hb := mnI_b h r
  have hf := facN_le (mnI h r).toNat (by omega)
  have hq := qCd_b (h := h) (n := n) (r := r) (c := facN (mnI h r).toNat) (Nat.le_refl _)
  obtain ⟨-, h2, -⟩ := fldQ_ge (f := wrQ h n r) ((List.range (facN (mnI h r).toNat)).map (orC (mnI h r).toNat)) (-1, 0)
  have h3 := h2 _ (List.mem_map.mpr ⟨0, List.mem_range.mpr (by omega), rfl⟩)
  have h4 := (wrQ_b (h := h) (n := n) (r := r) (c := 0) (by omega)).1
  rw [show fldQ (wrQ h n r) ((List.range (facN (mnI h r).toNat)).map (orC (mnI h r).toNat)) (-1, 0) = qCd h n r (facN (mnI h r).toNat) from rfl] at h3
  rw [qCd_end hA hr] at h3 hq
  refine ⟨⟨?_, hq.1.2⟩, hq.2⟩
  omega
theorem dc1 : Op.cmpValue (FP.dcmp FP.dconst1 FP.dconst1) .l = 0 := by decide +kernel
theorem dc_self {a b : Int} (ha : 0 ≤ a ∧ a ≤ 24) (hb : 1 ≤ b ∧ b ≤ 24) : Op.cmpValue (FP.dcmp (FP.ddiv (FP.i2d (jI a)) (FP.i2d (jI b))) (FP.ddiv (FP.i2d (jI a)) (FP.i2d (jI b)))) .l = 0 := by
  have t : ∀ a, a < 25 → ∀ b, b < 25 → 1 ≤ b → Op.cmpValue (FP.dcmp (FP.ddiv (FP.i2d (jI (a : Nat))) (FP.i2d (jI (b : Nat)))) (FP.ddiv (FP.i2d (jI (a : Nat))) (FP.i2d (jI (b : Nat))))) .l = 0 := by decide +kernel
  have := t a.toNat (by omega) b.toNat (by omega) (by omega)
  rw [show ((a.toNat : Nat) : Int) = a by omega, show ((b.toNat : Nat) : Int) = b by omega] at this
  exact this
theorem m_oddShare {l : Launch} {E : xE} {M0 M : xM} (hO0 : okC M0 1) (hX : qX M0 M) : XP l E 6 yX6_oddShare cX6_oddShare 2 (some FieldType.double) [vA 0] M (fun r' M' => r' = vD (shD (oaI M0 1) (sumI (szI M0 1) 4)) ∧ qX M0 M') :=
  (m_X6_oddShare (okC_e (qX_e hX) hO0)).imp (fun r M' h => by
    rw [oaI_e (qX_e hX), show szI M 1 = szI M0 1 from funext fun q => szI_e (qX_e hX) q] at h
    exact ⟨h.1, by rw [h.2]; exact hX⟩)
theorem mns_b (h : aT) : 0 ≤ sumI (mnI h) 4 ∧ sumI (mnI h) 4 ≤ 24 := sumI_b (b := 6) 4 (fun i _ _ => mnI_b h i)
theorem Rl_sum {t : Int} {M : xM} {h v d n : aT} (R : Rl t M h v d n) : sumI (szI M 1) 4 = sumI (mnI h) 4 := sumI_cong 4 (fun i h0 h1 => Rl_sz R ⟨h0, by omega⟩)
theorem hiI_vb {h n : aT} (hA : okA h n) {r : Int} (hr : 0 ≤ r ∧ r < 4) : ∀ m : Nat, (m : Int) ≤ mnI h r → -1 ≤ mxI (heI (vC h n) 1 r) m ∧ mxI (heI (vC h n) 1 r) m ≤ 1000
  | 0, _ => by simp only [mxI]; omega
  | m + 1, hm => by
    have hb := mnI_b h r
    have := hiI_vb hA hr m (by omega)
    have a := (hA.1 r (m : Int) hr.1 hr.2 (by omega) (by omega)).1 (by omega)
    simp only [mxI]
    rw [vC_he h n hr (by omega)]
    omega
set_option maxRecDepth 20000 in
theorem L_isSo_37 {l : Launch} {E : xE} {t : Int} {h v d n : aT} {M0 : xM} (R : Rl t M0 h v d n) (hT0 : okT M0) (hh : M0.1 68 = h) (hv : M0.1 69 = v) (hd : M0.1 70 = d) (hn : M0.1 71 = n) (hN : xN E = 72) {i : Nat} (hi : i < 4) {Y : xY} (F : xFix E (xA E) Y cL_isSo yL_isSo.cls 12) : ∀ (k : Nat) (p : Int) (M_w : xM), qX M0 M_w → 0 ≤ p ∧ p ≤ mnI h (i : Int) → (∀ (M_in : xM) (y : xV), qX M0 M_in → WP l E (xRm 20 4 96) (xA E) Y i (24 * i) 102 [vA 0, vA 68, vA 69, vA 70, vA 71, vI (jI (sumI (mnI h) i)), vI (jI (sumI (dcI (vC h n) 1) i)), vI (jI 1), vI (jI (i : Int)), vI (jI (mnI h (i : Int))), vI (jI (mxI (heI (vC h n) 1 (i : Int)) (mnI h (i : Int)).toNat)), y] [] M_in) → (mnI h (i : Int) - p).toNat < k → WP l E (xRm 20 4 96) (xA E) Y i (24 * i) 37 [vA 0, vA 68, vA 69, vA 70, vA 71, vI (jI (sumI (mnI h) i)), vI (jI (sumI (dcI (vC h n) 1) i)), vI (jI 1), vI (jI (i : Int)), vI (jI (mnI h (i : Int))), vI (jI (mxI (heI (vC h n) 1 (i : Int)) p.toNat)), vI (jI p)] [] M_w := by
  intro k
  induction k with
  | zero => intro p M_w q_w hp hex hk; exact absurd hk (Nat.not_lt_zero _)
  | succ k ih =>
    intro p M_w q_w hp hex hk
    have hA := R.2.1
    have hO0 := R.1.1
    have hb := mnI_b h (i : Int)
    have hhb := hiI_vb hA (show 0 ≤ (i : Int) ∧ (i : Int) < 4 by omega) p.toNat (by omega)
    refine x_iload F dL_isSo_37 rfl ?_
    refine x_iload F dL_isSo_39 rfl ?_
    refine xj_icmp_ge (tgt := 102) F dL_isSo_41 (by decide) (by omega) (fun h_1 => ?_) (fun h_1 => ?_)
    · have e9 : p = mnI h (i : Int) := by omega
      subst e9
      exact hex _ _ q_w
    · refine x_iload F dL_isSo_44 rfl ?_
      refine xj_if_eq (tgt := 102) F dL_isSo_46 (by decide) (by omega) (fun h_2 => ?_) (fun h_2 => ?_)
      · exact absurd h_2 (by decide)
      · refine x_aload_n F dL_isSo_49 rfl ?_
        refine x_aload_n F dL_isSo_50 rfl ?_
        refine x_aload_n F dL_isSo_51 rfl ?_
        refine x_aload_n F dL_isSo_52 rfl ?_
        refine x_aload F dL_isSo_53 rfl ?_
        refine x_iload F dL_isSo_55 rfl ?_
        refine x_iload F dL_isSo_57 rfl ?_
        refine x_S7P F (m_L_isSinger R hT0 q_w hh hv hd hn (by omega) (by omega)) mlL_40 msL_isSinger dL_isSo_59 ⟨Nat.le_of_ble_eq_true rfl, Nat.le_of_ble_eq_true rfl⟩ ⟨by show _ ≤ 4; omega, by show _ ≤ 96; omega⟩ (Nat.le_of_ble_eq_true rfl) (fun r_59 M_59 q_59 => ?_)
        obtain ⟨rfl, q_59⟩ := q_59
        refine x_istore F dL_isSo_62 (by decide) ?_
        refine x_aload_n F dL_isSo_64 rfl ?_
        refine xj_bipush F dL_isSo_65 (by decide) ?_
        refine x_iload F dL_isSo_67 rfl ?_
        refine xj_imul F dL_isSo_69 ?_
        refine x_iload F dL_isSo_70 rfl ?_
        refine xj_iadd F dL_isSo_72 ?_
        refine xf_hald (f := h) (j := (((6 * (i : Int)) + p)).toNat) F (Or.inl rfl) ((q_59.1 68 (by omega)).trans hh) dL_isSo_73 (by omega) rfl (fun hg_3 => ?_)
        refine x_iload F dL_isSo_74 rfl ?_
        refine xj_icmp_le (tgt := 92) F dL_isSo_76 (by decide) (by omega) (fun h_4 => ?_) (fun h_4 => ?_)
        · refine x_iload F dL_isSo_92 rfl ?_
          refine x_istore F dL_isSo_94 (by decide) ?_
          refine xj_iinc F dL_isSo_96 rfl ?_
          refine x_goto (tgt := 37) F dL_isSo_99 (by decide) ?_
          have e9 : mxI (heI (vC h n) 1 (i : Int)) (p + 1).toNat = max (mxI (heI (vC h n) 1 (i : Int)) p.toNat) ((h (6 * (i : Int) + p).toNat).toInt) := by rw [mxI_step _ hp.1, vC_he h n (by omega) (by omega)]
          have g := ih (p + 1) _ q_59 (by omega) hex (by omega)
          rw [e9] at g
          first
            | (rw [Int.max_eq_right (by omega)] at g; exact g)
            | (rw [Int.max_eq_left (by omega)] at g; exact g)
        · refine x_aload_n F dL_isSo_79 rfl ?_
          refine xj_bipush F dL_isSo_80 (by decide) ?_
          refine x_iload F dL_isSo_82 rfl ?_
          refine xj_imul F dL_isSo_84 ?_
          refine x_iload F dL_isSo_85 rfl ?_
          refine xj_iadd F dL_isSo_87 ?_
          refine xf_hald (f := h) (j := (((6 * (i : Int)) + p)).toNat) F (Or.inl rfl) ((q_59.1 68 (by omega)).trans hh) dL_isSo_88 (by omega) rfl (fun hg_5 => ?_)
          refine x_goto (tgt := 94) F dL_isSo_89 (by decide) ?_
          refine x_istore F dL_isSo_94 (by decide) ?_
          refine xj_iinc F dL_isSo_96 rfl ?_
          refine x_goto (tgt := 37) F dL_isSo_99 (by decide) ?_
          have e9 : mxI (heI (vC h n) 1 (i : Int)) (p + 1).toNat = max (mxI (heI (vC h n) 1 (i : Int)) p.toNat) ((h (6 * (i : Int) + p).toNat).toInt) := by rw [mxI_step _ hp.1, vC_he h n (by omega) (by omega)]
          have g := ih (p + 1) _ q_59 (by omega) hex (by omega)
          rw [e9] at g
          first
            | (rw [Int.max_eq_right (by omega)] at g; exact g)
            | (rw [Int.max_eq_left (by omega)] at g; exact g)
set_option maxRecDepth 20000 in
theorem L_isSo_12 {l : Launch} {E : xE} {t : Int} {h v d n : aT} {M0 : xM} (R : Rl t M0 h v d n) (hT0 : okT M0) (hh : M0.1 68 = h) (hv : M0.1 69 = v) (hd : M0.1 70 = d) (hn : M0.1 71 = n) (hN : xN E = 72) {Y : xY} (F : xFix E (xA E) Y cL_isSo yL_isSo.cls 12) (FR : xRet E Y (some FieldType.boolean) 4 96 (fun r' M' => r' = vI (jI 1) ∧ qX M0 M') (fun _ _ => False)) : ∀ (k : Nat) (i : Nat) (M_w : xM) (y9 y10 y11 : xV), qX M0 M_w → i ≤ 4 → 4 - i < k → WP l E (xRm 20 4 96) (xA E) Y i (24 * i) 12 [vA 0, vA 68, vA 69, vA 70, vA 71, vI (jI (sumI (mnI h) i)), vI (jI (sumI (dcI (vC h n) 1) i)), vI (jI 1), vI (jI (i : Int)), y9, y10, y11] [] M_w := by
  intro k
  induction k with
  | zero => intro i M_w y9 y10 y11 q_w hi hk; exact absurd hk (Nat.not_lt_zero _)
  | succ k ih =>
    intro i M_w y9 y10 y11 q_w hi hk
    have hA := R.2.1
    have hO0 := R.1.1
    have hsb : 0 ≤ sumI (mnI h) i ∧ sumI (mnI h) i ≤ 6 * i := sumI_b (b := 6) i (fun x _ _ => mnI_b h x)
    have hdb : 0 ≤ sumI (dcI (vC h n) 1) i ∧ sumI (dcI (vC h n) 1) i ≤ 36 * i := sumI_b (b := 36) i (fun x _ _ => dcI_b (vC_hS h n) x)
    refine x_iload F dL_isSo_12 rfl ?_
    refine xj_iconst F dL_isSo_14 ?_
    refine xj_icmp_ge (tgt := 269) F dL_isSo_15 (by decide) (by omega) (fun h_1 => ?_) (fun h_1 => ?_)
    · have e4 : i = 4 := by omega
      subst e4
      obtain ⟨u0, u1, u2, u3, u4, u5, u6, u7⟩ := Rl_oh R
      rw [Rl_sum R] at u0
      have hsh : shD (oaI M0 1) (sumI (szI M0 1) 4) = shD (oaI (vC h n) 1) (sumI (mnI h) 4) := by rw [Rl_sum R, oaI_h (eqH_symm R.2.2.1) (vC_hS h n)]
      rw [show daI (vC h n) 1 = sumI (dcI (vC h n) 1) 4 from rfl] at u5
      have wn := Rl_none R
      have hoa := oaI_b (vC_hS h n)
      have hcm := Rl_came R
      have hsum := R.2.2.2.2.2.1
      rw [Rl_sum R] at hsum
      have hlf := R.2.2.2.2.2.2.1
      refine x_iload F dL_isSo_269 rfl ?_
      refine xj_if_eq (tgt := 388) F dL_isSo_271 (by decide) (by omega) (fun h_1 => ?_) (fun h_1 => ?_)
      · exact absurd h_1 (by decide)
      · refine x_aload_n F dL_isSo_274 rfl ?_
        refine xj_iconst F dL_isSo_275 ?_
        refine x_V1P F (m_X6_count hO0 hT0 q_w (by decide)) mlL_53 mvX6_count rfl dL_isSo_276 (by decide) rfl ⟨Nat.le_of_ble_eq_true rfl, Nat.le_of_ble_eq_true rfl⟩ ⟨by show _ ≤ 4; omega, by show _ ≤ 96; omega⟩ (Nat.le_of_ble_eq_true rfl) (fun r_276 M_276 q_276 => ?_)
        obtain ⟨rfl, q_276⟩ := q_276
        rw [u0]
        refine x_iload F dL_isSo_279 rfl ?_
        refine xj_icmp_ne (tgt := 388) F dL_isSo_281 (by decide) (by omega) (fun h_2 => ?_) (fun h_2 => ?_)
        · exfalso
          omega
        · refine x_aload_n F dL_isSo_284 rfl ?_
          refine xj_iconst F dL_isSo_285 ?_
          refine x_V1P F (m_X6_count hO0 hT0 q_276 (by decide)) mlL_53 mvX6_count rfl dL_isSo_286 (by decide) rfl ⟨Nat.le_of_ble_eq_true rfl, Nat.le_of_ble_eq_true rfl⟩ ⟨by show _ ≤ 4; omega, by show _ ≤ 96; omega⟩ (Nat.le_of_ble_eq_true rfl) (fun r_286 M_286 q_286 => ?_)
          obtain ⟨rfl, q_286⟩ := q_286
          rw [u1]
          refine x_aload_n F dL_isSo_289 rfl ?_
          refine x_aload F dL_isSo_290 rfl ?_
          refine x_S2 F (m_L_allOdd (Or.inl rfl) ((q_286.1 68 (by omega)).trans hh) ((q_286.1 71 (by omega)).trans hn) hA) mlL_56 msL_allOdd dL_isSo_292 ⟨Nat.le_of_ble_eq_true rfl, Nat.le_of_ble_eq_true rfl⟩ ⟨by show _ ≤ 4; omega, by show _ ≤ 96; omega⟩ (Nat.le_of_ble_eq_true rfl) ?_
          have hf_3 := oaI_b (vC_hS h n)
          refine xj_icmp_ne (tgt := 388) F dL_isSo_295 (by decide) (by omega) (fun h_4 => ?_) (fun h_4 => ?_)
          · exfalso
            omega
          · refine x_aload_n F dL_isSo_298 rfl ?_
            refine xj_iconst F dL_isSo_299 ?_
            refine x_V1P F (m_X6_count hO0 hT0 q_286 (by decide)) mlL_53 mvX6_count rfl dL_isSo_300 (by decide) rfl ⟨Nat.le_of_ble_eq_true rfl, Nat.le_of_ble_eq_true rfl⟩ ⟨by show _ ≤ 4; omega, by show _ ≤ 96; omega⟩ (Nat.le_of_ble_eq_true rfl) (fun r_300 M_300 q_300 => ?_)
            obtain ⟨rfl, q_300⟩ := q_300
            rw [u2]
            refine x_aload F dL_isSo_303 rfl ?_
            refine xj_iconst F dL_isSo_305 ?_
            refine xf_nald (f := n) (j := 2) F (rfl : xk 71 = (8, 5)) ((q_300.1 71 (by omega)).trans hn) dL_isSo_306 (by omega) rfl (fun hg_5 => ?_)
            refine xj_icmp_ne (tgt := 388) F dL_isSo_307 (by decide) (by omega) (fun h_6 => ?_) (fun h_6 => ?_)
            · exfalso
              omega
            · refine x_aload_n F dL_isSo_310 rfl ?_
              refine xj_iconst F dL_isSo_311 ?_
              refine x_V1P F (m_X6_count hO0 hT0 q_300 (by decide)) mlL_53 mvX6_count rfl dL_isSo_312 (by decide) rfl ⟨Nat.le_of_ble_eq_true rfl, Nat.le_of_ble_eq_true rfl⟩ ⟨by show _ ≤ 4; omega, by show _ ≤ 96; omega⟩ (Nat.le_of_ble_eq_true rfl) (fun r_312 M_312 q_312 => ?_)
              obtain ⟨rfl, q_312⟩ := q_312
              rw [u3]
              refine x_aload F dL_isSo_315 rfl ?_
              refine xj_iconst F dL_isSo_317 ?_
              refine xf_nald (f := n) (j := 3) F (rfl : xk 71 = (8, 5)) ((q_312.1 71 (by omega)).trans hn) dL_isSo_318 (by omega) rfl (fun hg_7 => ?_)
              refine xj_icmp_ne (tgt := 388) F dL_isSo_319 (by decide) (by omega) (fun h_8 => ?_) (fun h_8 => ?_)
              · exfalso
                omega
              · refine x_aload F dL_isSo_322 rfl ?_
                refine xj_iconst F dL_isSo_324 ?_
                refine xf_nald (f := n) (j := 2) F (rfl : xk 71 = (8, 5)) ((q_312.1 71 (by omega)).trans hn) dL_isSo_325 (by omega) rfl (fun hg_9 => ?_)
                refine x_aload F dL_isSo_326 rfl ?_
                refine xj_iconst F dL_isSo_328 ?_
                refine xf_nald (f := n) (j := 3) F (rfl : xk 71 = (8, 5)) ((q_312.1 71 (by omega)).trans hn) dL_isSo_329 (by omega) rfl (fun hg_10 => ?_)
                refine xj_isub F dL_isSo_330 ?_
                refine x_iload F dL_isSo_331 rfl ?_
                refine xj_icmp_ne (tgt := 388) F dL_isSo_333 (by decide) (by omega) (fun h_11 => ?_) (fun h_11 => ?_)
                · exfalso
                  omega
                · refine x_aload_n F dL_isSo_336 rfl ?_
                  refine xj_iconst F dL_isSo_337 ?_
                  refine x_V1P F (m_X6_count hO0 hT0 q_312 (by decide)) mlL_53 mvX6_count rfl dL_isSo_338 (by decide) rfl ⟨Nat.le_of_ble_eq_true rfl, Nat.le_of_ble_eq_true rfl⟩ ⟨by show _ ≤ 4; omega, by show _ ≤ 96; omega⟩ (Nat.le_of_ble_eq_true rfl) (fun r_338 M_338 q_338 => ?_)
                  obtain ⟨rfl, q_338⟩ := q_338
                  rw [u4]
                  refine x_aload F dL_isSo_341 rfl ?_
                  refine xj_iconst F dL_isSo_343 ?_
                  refine xf_nald (f := n) (j := 4) F (rfl : xk 71 = (8, 5)) ((q_338.1 71 (by omega)).trans hn) dL_isSo_344 (by omega) rfl (fun hg_12 => ?_)
                  refine xj_icmp_ne (tgt := 388) F dL_isSo_345 (by decide) (by omega) (fun h_13 => ?_) (fun h_13 => ?_)
                  · exfalso
                    omega
                  · refine x_aload_n F dL_isSo_348 rfl ?_
                    refine xj_iconst F dL_isSo_349 ?_
                    refine x_V1P F (m_X6_count hO0 hT0 q_338 (by decide)) mlL_53 mvX6_count rfl dL_isSo_350 (by decide) rfl ⟨Nat.le_of_ble_eq_true rfl, Nat.le_of_ble_eq_true rfl⟩ ⟨by show _ ≤ 4; omega, by show _ ≤ 96; omega⟩ (Nat.le_of_ble_eq_true rfl) (fun r_350 M_350 q_350 => ?_)
                    obtain ⟨rfl, q_350⟩ := q_350
                    rw [u5]
                    refine x_iload F dL_isSo_353 rfl ?_
                    refine xj_icmp_ne (tgt := 388) F dL_isSo_355 (by decide) (by omega) (fun h_14 => ?_) (fun h_14 => ?_)
                    · exfalso
                      omega
                    · refine x_aload_n F dL_isSo_358 rfl ?_
                      refine xj_bipush F dL_isSo_359 (by decide) ?_
                      refine x_V1P F (m_X6_count hO0 hT0 q_350 (by decide)) mlL_53 mvX6_count rfl dL_isSo_361 (by decide) rfl ⟨Nat.le_of_ble_eq_true rfl, Nat.le_of_ble_eq_true rfl⟩ ⟨by show _ ≤ 4; omega, by show _ ≤ 96; omega⟩ (Nat.le_of_ble_eq_true rfl) (fun r_361 M_361 q_361 => ?_)
                      obtain ⟨rfl, q_361⟩ := q_361
                      rw [u6]
                      refine x_aload F dL_isSo_364 rfl ?_
                      refine xj_iconst F dL_isSo_366 ?_
                      refine xf_nald (f := n) (j := 0) F (rfl : xk 71 = (8, 5)) ((q_361.1 71 (by omega)).trans hn) dL_isSo_367 (by omega) rfl (fun hg_15 => ?_)
                      refine xj_icmp_ne (tgt := 388) F dL_isSo_368 (by decide) (by omega) (fun h_16 => ?_) (fun h_16 => ?_)
                      · exfalso
                        omega
                      · refine x_aload_n F dL_isSo_371 rfl ?_
                        refine xj_bipush F dL_isSo_372 (by decide) ?_
                        refine x_V1P F (m_X6_count hO0 hT0 q_361 (by decide)) mlL_53 mvX6_count rfl dL_isSo_374 (by decide) rfl ⟨Nat.le_of_ble_eq_true rfl, Nat.le_of_ble_eq_true rfl⟩ ⟨by show _ ≤ 4; omega, by show _ ≤ 96; omega⟩ (Nat.le_of_ble_eq_true rfl) (fun r_374 M_374 q_374 => ?_)
                        obtain ⟨rfl, q_374⟩ := q_374
                        rw [u7]
                        refine x_aload F dL_isSo_377 rfl ?_
                        refine xj_iconst F dL_isSo_379 ?_
                        refine xf_nald (f := n) (j := 1) F (rfl : xk 71 = (8, 5)) ((q_374.1 71 (by omega)).trans hn) dL_isSo_380 (by omega) rfl (fun hg_17 => ?_)
                        refine xj_icmp_ne (tgt := 388) F dL_isSo_381 (by decide) (by omega) (fun h_18 => ?_) (fun h_18 => ?_)
                        · exfalso
                          omega
                        · refine xj_iconst F dL_isSo_384 ?_
                          refine x_goto (tgt := 389) F dL_isSo_385 (by decide) ?_
                          refine x_istore F dL_isSo_389 (by decide) ?_
                          refine x_iload F dL_isSo_391 rfl ?_
                          refine xj_if_eq (tgt := 448) F dL_isSo_393 (by decide) (by omega) (fun h_19 => ?_) (fun h_19 => ?_)
                          · exact absurd h_19 (by decide)
                          · refine x_aload_n F dL_isSo_396 rfl ?_
                            refine x_aload F dL_isSo_397 rfl ?_
                            refine xj_iconst F dL_isSo_399 ?_
                            refine xf_nald (f := n) (j := 2) F (rfl : xk 71 = (8, 5)) ((q_374.1 71 (by omega)).trans hn) dL_isSo_400 (by omega) rfl (fun hg_20 => ?_)
                            refine x_V1P F (m_X6_find hO0 hT0 q_374 ⟨by omega, by omega⟩) mlL_29 mvX6_find rfl dL_isSo_401 (by decide) rfl ⟨Nat.le_of_ble_eq_true rfl, Nat.le_of_ble_eq_true rfl⟩ ⟨by show _ ≤ 4; omega, by show _ ≤ 96; omega⟩ (Nat.le_of_ble_eq_true rfl) (fun r_401 M_401 q_401 => ?_)
                            obtain ⟨rfl, q_401⟩ := q_401
                            rw [wn]
                            refine xj_iconst F dL_isSo_404 ?_
                            refine xj_icmp_ne (tgt := 448) F dL_isSo_405 (by decide) (by omega) (fun h_21 => ?_) (fun h_21 => ?_)
                            · exfalso
                              omega
                            · refine x_iload F dL_isSo_408 rfl ?_
                              refine xj_if_ne (tgt := 425) F dL_isSo_410 (by decide) (by omega) (fun h_22 => ?_) (fun h_22 => ?_)
                              · refine x_aload_n F dL_isSo_425 rfl ?_
                                refine x_V0P F (m_oddShare hO0 q_401) mlL_60 mvX6_oddShare rfl dL_isSo_426 (by decide) rfl ⟨Nat.le_of_ble_eq_true rfl, Nat.le_of_ble_eq_true rfl⟩ ⟨by show _ ≤ 4; omega, by show _ ≤ 96; omega⟩ (Nat.le_of_ble_eq_true rfl) (fun r_426 M_426 q_426 => ?_)
                                obtain ⟨rfl, q_426⟩ := q_426
                                rw [hsh, show shD (oaI (vC h n) 1) (sumI (mnI h) 4) = FP.ddiv (FP.i2d (jI (oaI (vC h n) 1))) (FP.i2d (jI (sumI (mnI h) 4))) from if_pos (by omega)]
                                refine x_aload_n F dL_isSo_429 rfl ?_
                                refine x_aload F dL_isSo_430 rfl ?_
                                refine x_S2 F (m_L_allOdd (Or.inl rfl) ((q_426.1 68 (by omega)).trans hh) ((q_426.1 71 (by omega)).trans hn) hA) mlL_56 msL_allOdd dL_isSo_432 ⟨Nat.le_of_ble_eq_true rfl, Nat.le_of_ble_eq_true rfl⟩ ⟨by show _ ≤ 4; omega, by show _ ≤ 96; omega⟩ (Nat.le_of_ble_eq_true rfl) ?_
                                have hf_23 := oaI_b (vC_hS h n)
                                refine x_i2d F dL_isSo_435 ?_
                                refine x_iload F dL_isSo_436 rfl ?_
                                refine x_i2d F dL_isSo_438 ?_
                                refine x_ddiv F dL_isSo_439 (shD_n hoa (by omega)) ?_
                                refine x_dcmp F dL_isSo_440 ?_
                                refine x_if_ne (tgt := 448) F dL_isSo_441 (by decide) (fun h_24 => ?_) (fun h_24 => ?_)
                                · exact absurd (dc_self hoa (by omega)) h_24
                                · refine xj_iconst F dL_isSo_444 ?_
                                  refine x_goto (tgt := 449) F dL_isSo_445 (by decide) ?_
                                  refine x_iret F FR dL_isSo_449 rfl (by omega) (by omega) ?_
                                  first
                                    | exact ⟨rfl, q_414⟩
                                    | exact ⟨rfl, q_426⟩
                              · refine x_aload_n F dL_isSo_413 rfl ?_
                                refine x_V0P F (m_oddShare hO0 q_401) mlL_60 mvX6_oddShare rfl dL_isSo_414 (by decide) rfl ⟨Nat.le_of_ble_eq_true rfl, Nat.le_of_ble_eq_true rfl⟩ ⟨by show _ ≤ 4; omega, by show _ ≤ 96; omega⟩ (Nat.le_of_ble_eq_true rfl) (fun r_414 M_414 q_414 => ?_)
                                obtain ⟨rfl, q_414⟩ := q_414
                                rw [hsh, show shD (oaI (vC h n) 1) (sumI (mnI h) 4) = FP.dconst1 from if_neg (by omega)]
                                refine x_dconst1 F dL_isSo_417 ?_
                                refine x_dcmp F dL_isSo_418 ?_
                                refine x_if_ne (tgt := 448) F dL_isSo_419 (by decide) (fun h_25 => ?_) (fun h_25 => ?_)
                                · exact absurd dc1 h_25
                                · refine x_goto (tgt := 444) F dL_isSo_422 (by decide) ?_
                                  refine xj_iconst F dL_isSo_444 ?_
                                  refine x_goto (tgt := 449) F dL_isSo_445 (by decide) ?_
                                  refine x_iret F FR dL_isSo_449 rfl (by omega) (by omega) ?_
                                  first
                                    | exact ⟨rfl, q_414⟩
                                    | exact ⟨rfl, q_426⟩
    · refine x_iload F dL_isSo_18 rfl ?_
      refine xj_if_eq (tgt := 269) F dL_isSo_20 (by decide) (by omega) (fun h_2 => ?_) (fun h_2 => ?_)
      · exact absurd h_2 (by decide)
      · refine x_aload_n F dL_isSo_23 rfl ?_
        refine x_iload F dL_isSo_24 rfl ?_
        refine x_S2 F (m_L_many (Or.inl rfl) ((q_w.1 68 (by omega)).trans hh) (by omega)) mlL_9 msL_many dL_isSo_26 ⟨Nat.le_of_ble_eq_true rfl, Nat.le_of_ble_eq_true rfl⟩ ⟨by show _ ≤ 4; omega, by show _ ≤ 96; omega⟩ (Nat.le_of_ble_eq_true rfl) ?_
        have hf_3 := mnI_b h (i : Int)
        refine x_istore F dL_isSo_29 (by decide) ?_
        refine xj_iconst F dL_isSo_31 ?_
        refine x_istore F dL_isSo_32 (by decide) ?_
        refine xj_iconst F dL_isSo_34 ?_
        refine x_istore F dL_isSo_35 (by decide) ?_
        have hr : 0 ≤ (i : Int) ∧ (i : Int) < 4 := by omega
        have hb := mnI_b h (i : Int)
        obtain ⟨o0, o1, o2, o3, o4, o5, o6⟩ := Rl_ow R hr
        have cn := Rl_wn R hr
        have hgb := goA_vb hA hr
        have hob := odI_b (vC_hS h n) (i : Int)
        have hcb := dcI_b (vC_hS h n) (i : Int)
        have hib : -1 ≤ hiI (vC h n) 1 (i : Int) ∧ hiI (vC h n) 1 (i : Int) ≤ 1000 := by
          unfold hiI
          rw [vC_sz h n hr]
          exact hiI_vb hA hr _ (by omega)
        refine L_isSo_37 (v := v) (d := d) R hT0 hh hv hd hn hN (by omega) F _ 0 _ q_w (by omega) (fun M_in y q_in => ?_) (Nat.lt_succ_self _)
        rw [show mxI (heI (vC h n) 1 (i : Int)) (mnI h (i : Int)).toNat = hiI (vC h n) 1 (i : Int) by unfold hiI; rw [vC_sz h n hr]]
        refine x_aload_n F dL_isSo_102 rfl ?_
        refine x_aload F dL_isSo_103 rfl ?_
        refine x_iload F dL_isSo_105 rfl ?_
        refine x_callST (As := [_, _, _]) F (m_L_most hN (q_in.2.1 hT0) ((q_in.1 68 (by omega)).trans hh) ((q_in.1 71 (by omega)).trans hn) hA hr) mlL_44 msL_most ⟨Nat.le_of_ble_eq_true rfl, Nat.le_of_ble_eq_true rfl⟩ ⟨by show _ ≤ 4; omega, by show _ ≤ 96; omega⟩ (Nat.le_of_ble_eq_true rfl) rfl dL_isSo_107 (fun C9 M9 hx9 => hx9.elim) (fun r_107 M_107 q_107 => ?_)
        obtain ⟨rfl, rfl⟩ := q_107
        refine x_istore F dL_isSo_110 (by decide) ?_
        refine x_iload F dL_isSo_112 rfl ?_
        refine xj_if_eq (tgt := 242) F dL_isSo_114 (by decide) (by omega) (fun h_1 => ?_) (fun h_1 => ?_)
        · exact absurd h_1 (by decide)
        · refine x_aload_n F dL_isSo_117 rfl ?_
          refine x_iload F dL_isSo_118 rfl ?_
          refine xj_iconst F dL_isSo_120 ?_
          refine x_V2P F (m_X6_row hO0 hT0 q_in hr (by decide)) mlL_47 mvX6_row rfl dL_isSo_121 (by decide) rfl ⟨Nat.le_of_ble_eq_true rfl, Nat.le_of_ble_eq_true rfl⟩ ⟨by show _ ≤ 4; omega, by show _ ≤ 96; omega⟩ (Nat.le_of_ble_eq_true rfl) (fun r_121 M_121 q_121 => ?_)
          obtain ⟨rfl, q_121⟩ := q_121
          rw [o0]
          refine x_iload F dL_isSo_124 rfl ?_
          refine xj_icmp_ne (tgt := 242) F dL_isSo_126 (by decide) (by omega) (fun h_2 => ?_) (fun h_2 => ?_)
          · exfalso
            omega
          · refine x_aload_n F dL_isSo_129 rfl ?_
            refine x_iload F dL_isSo_130 rfl ?_
            refine xj_iconst F dL_isSo_132 ?_
            refine x_V2P F (m_X6_row hO0 hT0 q_121 hr (by decide)) mlL_47 mvX6_row rfl dL_isSo_133 (by decide) rfl ⟨Nat.le_of_ble_eq_true rfl, Nat.le_of_ble_eq_true rfl⟩ ⟨by show _ ≤ 4; omega, by show _ ≤ 96; omega⟩ (Nat.le_of_ble_eq_true rfl) (fun r_133 M_133 q_133 => ?_)
            obtain ⟨rfl, q_133⟩ := q_133
            rw [o1]
            refine x_aload_n F dL_isSo_136 rfl ?_
            refine x_aload F dL_isSo_137 rfl ?_
            refine x_iload F dL_isSo_139 rfl ?_
            refine x_S3 F (m_L_odd (Or.inl rfl) ((q_133.1 68 (by omega)).trans hh) ((q_133.1 71 (by omega)).trans hn) hA hr) mlL_19 msL_odd dL_isSo_141 ⟨Nat.le_of_ble_eq_true rfl, Nat.le_of_ble_eq_true rfl⟩ ⟨by show _ ≤ 4; omega, by show _ ≤ 96; omega⟩ (Nat.le_of_ble_eq_true rfl) ?_
            have hf_3 := odI_b (vC_hS h n) (i : Int)
            refine xj_icmp_ne (tgt := 242) F dL_isSo_144 (by decide) (by omega) (fun h_4 => ?_) (fun h_4 => ?_)
            · exfalso
              omega
            · refine x_aload_n F dL_isSo_147 rfl ?_
              refine x_iload F dL_isSo_148 rfl ?_
              refine xj_iconst F dL_isSo_150 ?_
              refine x_V2P F (m_X6_row hO0 hT0 q_133 hr (by decide)) mlL_47 mvX6_row rfl dL_isSo_151 (by decide) rfl ⟨Nat.le_of_ble_eq_true rfl, Nat.le_of_ble_eq_true rfl⟩ ⟨by show _ ≤ 4; omega, by show _ ≤ 96; omega⟩ (Nat.le_of_ble_eq_true rfl) (fun r_151 M_151 q_151 => ?_)
              obtain ⟨rfl, q_151⟩ := q_151
              rw [o2]
              refine x_aload_n F dL_isSo_154 rfl ?_
              refine x_iload F dL_isSo_155 rfl ?_
              refine x_S2 F (m_L_discord (n := n) (Or.inl rfl) ((q_151.1 68 (by omega)).trans hh) hr) mlL_50 msL_discord dL_isSo_157 ⟨Nat.le_of_ble_eq_true rfl, Nat.le_of_ble_eq_true rfl⟩ ⟨by show _ ≤ 4; omega, by show _ ≤ 96; omega⟩ (Nat.le_of_ble_eq_true rfl) ?_
              have hf_5 := dcI_b (vC_hS h n) (i : Int)
              refine xj_icmp_ne (tgt := 242) F dL_isSo_160 (by decide) (by omega) (fun h_6 => ?_) (fun h_6 => ?_)
              · exfalso
                omega
              · refine x_aload_n F dL_isSo_163 rfl ?_
                refine x_iload F dL_isSo_164 rfl ?_
                refine xj_iconst F dL_isSo_166 ?_
                refine x_V2P F (m_X6_row hO0 hT0 q_151 hr (by decide)) mlL_47 mvX6_row rfl dL_isSo_167 (by decide) rfl ⟨Nat.le_of_ble_eq_true rfl, Nat.le_of_ble_eq_true rfl⟩ ⟨by show _ ≤ 4; omega, by show _ ≤ 96; omega⟩ (Nat.le_of_ble_eq_true rfl) (fun r_167 M_167 q_167 => ?_)
                obtain ⟨rfl, q_167⟩ := q_167
                rw [o3]
                refine x_aload_n F dL_isSo_170 rfl ?_
                refine x_iload F dL_isSo_171 rfl ?_
                refine x_S2 F (m_L_discord (n := n) (Or.inl rfl) ((q_167.1 68 (by omega)).trans hh) hr) mlL_50 msL_discord dL_isSo_173 ⟨Nat.le_of_ble_eq_true rfl, Nat.le_of_ble_eq_true rfl⟩ ⟨by show _ ≤ 4; omega, by show _ ≤ 96; omega⟩ (Nat.le_of_ble_eq_true rfl) ?_
                have hf_7 := dcI_b (vC_hS h n) (i : Int)
                refine xj_iconst F dL_isSo_176 ?_
                refine xj_and1 F dL_isSo_177 (by omega) ?_
                refine xj_icmp_ne (tgt := 242) F dL_isSo_178 (by decide) (by omega) (fun h_8 => ?_) (fun h_8 => ?_)
                · exfalso
                  omega
                · refine x_aload_n F dL_isSo_181 rfl ?_
                  refine x_iload F dL_isSo_182 rfl ?_
                  refine xj_iconst F dL_isSo_184 ?_
                  refine x_V2P F (m_X6_row hO0 hT0 q_167 hr (by decide)) mlL_47 mvX6_row rfl dL_isSo_185 (by decide) rfl ⟨Nat.le_of_ble_eq_true rfl, Nat.le_of_ble_eq_true rfl⟩ ⟨by show _ ≤ 4; omega, by show _ ≤ 96; omega⟩ (Nat.le_of_ble_eq_true rfl) (fun r_185 M_185 q_185 => ?_)
                  obtain ⟨rfl, q_185⟩ := q_185
                  rw [o4]
                  refine x_iload F dL_isSo_188 rfl ?_
                  refine xj_bipush F dL_isSo_190 (by decide) ?_
                  refine xj_idiv F dL_isSo_192 (by omega) ?_
                  refine xj_icmp_ne (tgt := 242) F dL_isSo_193 (by decide) (by omega) (fun h_9 => ?_) (fun h_9 => ?_)
                  · exfalso
                    omega
                  · refine x_aload_n F dL_isSo_196 rfl ?_
                    refine x_iload F dL_isSo_197 rfl ?_
                    refine xj_iconst F dL_isSo_199 ?_
                    refine x_V2P F (m_X6_row hO0 hT0 q_185 hr (by decide)) mlL_47 mvX6_row rfl dL_isSo_200 (by decide) rfl ⟨Nat.le_of_ble_eq_true rfl, Nat.le_of_ble_eq_true rfl⟩ ⟨by show _ ≤ 4; omega, by show _ ≤ 96; omega⟩ (Nat.le_of_ble_eq_true rfl) (fun r_200 M_200 q_200 => ?_)
                    obtain ⟨rfl, q_200⟩ := q_200
                    rw [o5]
                    refine x_iload F dL_isSo_203 rfl ?_
                    refine xj_bipush F dL_isSo_205 (by decide) ?_
                    refine xj_irem F dL_isSo_207 (by omega) ?_
                    refine xj_icmp_ne (tgt := 242) F dL_isSo_208 (by decide) (by omega) (fun h_10 => ?_) (fun h_10 => ?_)
                    · exfalso
                      omega
                    · refine x_aload_n F dL_isSo_211 rfl ?_
                      refine x_iload F dL_isSo_212 rfl ?_
                      refine xj_bipush F dL_isSo_214 (by decide) ?_
                      refine x_V2P F (m_X6_row hO0 hT0 q_200 hr (by decide)) mlL_47 mvX6_row rfl dL_isSo_216 (by decide) rfl ⟨Nat.le_of_ble_eq_true rfl, Nat.le_of_ble_eq_true rfl⟩ ⟨by show _ ≤ 4; omega, by show _ ≤ 96; omega⟩ (Nat.le_of_ble_eq_true rfl) (fun r_216 M_216 q_216 => ?_)
                      obtain ⟨rfl, q_216⟩ := q_216
                      rw [o6]
                      refine x_iload F dL_isSo_219 rfl ?_
                      refine xj_icmp_ne (tgt := 242) F dL_isSo_221 (by decide) (by omega) (fun h_11 => ?_) (fun h_11 => ?_)
                      · exfalso
                        omega
                      · refine x_aload_n F dL_isSo_224 rfl ?_
                        refine x_iload F dL_isSo_225 rfl ?_
                        refine xj_iconst F dL_isSo_227 ?_
                        refine x_iload F dL_isSo_228 rfl ?_
                        refine xj_imul F dL_isSo_230 ?_
                        refine x_V2P F (m_X6_written hO0 hT0 q_216 hr (by omega)) mlL_33 mvX6_written rfl dL_isSo_231 (by decide) rfl ⟨Nat.le_of_ble_eq_true rfl, Nat.le_of_ble_eq_true rfl⟩ ⟨by show _ ≤ 4; omega, by show _ ≤ 96; omega⟩ (Nat.le_of_ble_eq_true rfl) (fun r_231 M_231 q_231 => ?_)
                        obtain ⟨rfl, q_231⟩ := q_231
                        rw [cn]
                        refine xj_iconst F dL_isSo_234 ?_
                        refine xj_icmp_ne (tgt := 242) F dL_isSo_235 (by decide) (by omega) (fun h_12 => ?_) (fun h_12 => ?_)
                        · exfalso
                          omega
                        · refine xj_iconst F dL_isSo_238 ?_
                          refine x_goto (tgt := 243) F dL_isSo_239 (by decide) ?_
                          refine x_istore F dL_isSo_243 (by decide) ?_
                          refine x_iload F dL_isSo_245 rfl ?_
                          refine x_iload F dL_isSo_247 rfl ?_
                          refine xj_iadd F dL_isSo_249 ?_
                          refine x_istore F dL_isSo_250 (by decide) ?_
                          refine x_iload F dL_isSo_252 rfl ?_
                          refine x_aload_n F dL_isSo_254 rfl ?_
                          refine x_iload F dL_isSo_255 rfl ?_
                          refine x_S2 F (m_L_discord (n := n) (Or.inl rfl) ((q_231.1 68 (by omega)).trans hh) hr) mlL_50 msL_discord dL_isSo_257 ⟨Nat.le_of_ble_eq_true rfl, Nat.le_of_ble_eq_true rfl⟩ ⟨by show _ ≤ 4; omega, by show _ ≤ 96; omega⟩ (Nat.le_of_ble_eq_true rfl) ?_
                          have hf_13 := dcI_b (vC_hS h n) (i : Int)
                          refine xj_iadd F dL_isSo_260 ?_
                          refine x_istore F dL_isSo_261 (by decide) ?_
                          refine xj_iinc F dL_isSo_263 rfl ?_
                          refine x_goto (tgt := 12) F dL_isSo_266 (by decide) ?_
                          have g := fun (z9 z10 z11 : xV) => ih (i + 1) _ z9 z10 z11 q_231 (by omega) (by omega)
                          rw [show 24 * (i + 1) = 24 * i + 24 by omega] at g
                          exact g _ _ _
set_option maxRecDepth 20000 in
theorem m_L_isSo {l : Launch} {E : xE} {t : Int} {h v d n : aT} {M0 M : xM} (R : Rl t M0 h v d n) (hT0 : okT M0) (hX : qX M0 M) (hh : M0.1 68 = h) (hv : M0.1 69 = v) (hd : M0.1 70 = d) (hn : M0.1 71 = n) (hN : xN E = 72) : XT l E 20 4 96 yL_isSo cL_isSo 12 (some FieldType.boolean) [vA 0, vA 68, vA 69, vA 70, vA 71] M (fun r' M' => r' = vI (jI 1) ∧ qX M0 M') (fun _ _ => False) := by
  refine xt_start (plainFor_of_name (by decide)) rfl (Nat.le_of_ble_eq_true rfl) ?_
  intro Y F FR
  refine xj_iconst F dL_isSo_0 ?_
  refine x_istore F dL_isSo_1 (by decide) ?_
  refine xj_iconst F dL_isSo_3 ?_
  refine x_istore F dL_isSo_4 (by decide) ?_
  refine xj_iconst F dL_isSo_6 ?_
  refine x_istore F dL_isSo_7 (by decide) ?_
  refine xj_iconst F dL_isSo_9 ?_
  refine x_istore F dL_isSo_10 (by decide) ?_
  exact L_isSo_12 R hT0 hh hv hd hn hN F FR _ 0 M _ _ _ hX (by omega) (Nat.lt_succ_self _)
