/-! would(): it answers true -/
theorem up_id (M : xM) (c k : Nat) (x : Int32) : upI (upI M c k x) c k (M.1 c k) = M := by
  refine Prod.ext (funext fun b => funext fun j => ?_) rfl
  rw [upI_1, upI_1]
  by_cases e : b = c ∧ j = k
  · rw [if_pos e, e.1, e.2]
  · rw [if_neg e, if_neg e]
theorem up_id0 {M : xM} {c k : Nat} {x y : Int32} (h : y = M.1 c k) : upI (upI M c k x) c k y = M := by rw [h]; exact up_id M c k x
theorem qX_bk {M0 M : xM} {c : Nat} {s t : Int} (hc : 68 ≤ c) (hs : 0 ≤ s ∧ s < 24) (ht : 0 ≤ t ∧ t < 24) (h : qX (swC M0 c s t) M) : qX M0 (swC M c s t) := by
  have z := qX_sw h hc hs ht
  rw [swC_swC hs ht] at z
  exact z
theorem qX_bu {M0 M : xM} {c k : Nat} {x y : Int32} (hc : 68 ≤ c) (hy : y = M0.1 c k) (h : qX (upI M0 c k x) M) : qX M0 (upI M c k y) := by
  have z := qX_up h hc k y
  rw [up_id0 hy] at z
  exact z
theorem upI_f {M : xM} {c k : Nat} {x : Int32} {f : aT} (h : M.1 c = f) : (upI M c k x).1 c = upd f k x := by rw [upI_self, h]
theorem bs_oa {t : Int} {M : xM} {h v d n : aT} (R : Rl t M h v d n) {r k : Int} (hr : 0 ≤ r ∧ r < 4) (hk : bsV (mnI h r) k) : vz h (6 * r + k / 6) ∧ vz h (6 * r + k % 6) ∧ oaI (vC (exF h (6 * r + k / 6) (6 * r + k % 6)) n) 1 = bsF0 M r k := by
  have hb := mnI_b h r
  unfold bsV at hk
  have h1 := vz_of R.2.1 (p := k / 6) hr (by omega)
  have h2 := vz_of R.2.1 (p := k % 6) hr (by omega)
  refine ⟨h1, h2, ?_⟩
  unfold bsF0
  rw [sp_in hr (by omega), sp_in hr (by omega)]
  exact ex_oa R h1 h2
theorem bs_best {t : Int} {M : xM} {h v d n : aT} (R : Rl t M h v d n) {r b m : Int} (hr : 0 ≤ r ∧ r < 4) (hd : dnS (bsF0 M r) (bsV (mnI h r)) (oaI (vC h n) 1) 0 b m) : bpI M r = b := by
  have hS : hSz M 1 := R.1.1.1
  have h1 := bpI_bs (r := r) hS
  rw [Rl_sz R hr, oaI_h (eqH_symm R.2.2.1) (vC_hS h n)] at h1
  exact BS_uniq h1 (dnS_end hd (fun k g => by unfold bsV at g; omega))
theorem br_best {t : Int} {M : xM} {h v d n : aT} (_R : Rl t M h v d n) {x b m : Int} (hd : dnS (brF0 M x) (brV M) (-1) 0 b m) : (brF M x 4).2 = b :=
  BS_uniq (brF_bs M x) (dnS_end hd (fun k g => g.1.1))
set_option maxRecDepth 20000 in
theorem L_would_119 {l : Launch} {E : xE} {t : Int} {h v d n : aT} {M0 : xM} (R : Rl t M0 h v d n) (hT0 : okT M0) (hh : M0.1 68 = h) (hn : M0.1 71 = n) {x : Int32} {row hl : Int} (hrow : 0 ≤ row ∧ row < 4) (hhl : 0 ≤ hl ∧ hl < 121) {y4 y5 : xV} {M_w : xM} (q_w : qX M0 M_w) {Y : xY} (F : xFix E (xA E) Y cL_would yL_would.cls 14) : ∀ (k : Nat) (i9 best most : Int) (y12 : xV), -1 ≤ i9 ∧ i9 ≤ 35 → -1 ≤ best ∧ best ≤ 35 → 0 ≤ most ∧ most ≤ 25 → dnS (bsF0 M0 row) (bsV (mnI h row)) (oaI (vC h n) 1) (i9 + 1) best most → (∀ (best9 m9 : Int) (y12 : xV), dnS (bsF0 M0 row) (bsV (mnI h row)) (oaI (vC h n) 1) 0 best9 m9 → -1 ≤ best9 ∧ best9 ≤ 35 → WP l E (xRm 20 0 0) (xA E) Y 0 0 248 [vA 0, vA 68, vA 71, vI x, y4, y5, vI (jI row), vI (jI (100 + hl)), vI (jI 1), vI (jI best9), vI (jI m9), vI (jI (-1)), y12, vU] [] M_w) → (i9 + 1).toNat < k → WP l E (xRm 20 0 0) (xA E) Y 0 0 119 [vA 0, vA 68, vA 71, vI x, y4, y5, vI (jI row), vI (jI (100 + hl)), vI (jI 1), vI (jI best), vI (jI most), vI (jI i9), y12, vU] [] M_w := by
  intro k
  induction k with
  | zero => intro i9 best most y12 hi9 hbb hmm hd hex hk; exact absurd hk (Nat.not_lt_zero _)
  | succ k ih =>
    intro i9 best most y12 hi9 hbb hmm hd hex hk
    have hA := R.2.1
    have hO0 := R.1.1
    have hoa := oaI_b (vC_hS h n)
    have hb := mnI_b h row
    refine x_iload F dL_would_119 rfl ?_
    refine xj_if_lt (tgt := 248) F dL_would_121 (by decide) (by omega) (fun h_1 => ?_) (fun h_1 => ?_)
    · have e9 : i9 = -1 := by omega
      subst e9
      exact hex _ _ _ hd hbb
    · refine x_iload F dL_would_124 rfl ?_
      refine xj_bipush F dL_would_126 (by decide) ?_
      refine xj_idiv F dL_would_128 (by omega) ?_
      refine x_iload F dL_would_129 rfl ?_
      refine xj_bipush F dL_would_131 (by decide) ?_
      refine xj_irem F dL_would_133 (by omega) ?_
      refine xj_icmp_ge (tgt := 242) F dL_would_134 (by decide) (by omega) (fun h_2 => ?_) (fun h_2 => ?_)
      · have hV : ¬ (bsV (mnI h row)) i9 := fun z => by unfold bsV at z; omega
        refine xj_iinc F dL_would_242 rfl ?_
        refine x_goto (tgt := 119) F dL_would_245 (by decide) ?_
        first
          | (exfalso; omega)
          | exact ih (i9 + (-1)) _ _ _ (by omega) (by omega) (by omega) (by rw [show i9 + (-1) + 1 = i9 by omega]; first | exact dnS_take hd hV (by omega) | exact dnS_leave hd (by omega) | exact dnS_ext hd hV) hex (by omega)
      · refine x_iload F dL_would_137 rfl ?_
        refine xj_bipush F dL_would_139 (by decide) ?_
        refine xj_irem F dL_would_141 (by omega) ?_
        refine x_aload_n F dL_would_142 rfl ?_
        refine x_iload F dL_would_143 rfl ?_
        refine x_S2 F (m_L_many (Or.inl rfl) ((q_w.1 68 (by omega)).trans hh) hrow) mlL_9 msL_many dL_would_145 ⟨Nat.le_of_ble_eq_true rfl, Nat.le_of_ble_eq_true rfl⟩ ⟨Nat.zero_le _, Nat.zero_le _⟩ (Nat.le_of_ble_eq_true rfl) ?_
        have hf_3 := mnI_b h row
        refine xj_icmp_ge (tgt := 242) F dL_would_148 (by decide) (by omega) (fun h_4 => ?_) (fun h_4 => ?_)
        · have hV : ¬ (bsV (mnI h row)) i9 := fun z => by unfold bsV at z; omega
          refine xj_iinc F dL_would_242 rfl ?_
          refine x_goto (tgt := 119) F dL_would_245 (by decide) ?_
          first
            | (exfalso; omega)
            | exact ih (i9 + (-1)) _ _ _ (by omega) (by omega) (by omega) (by rw [show i9 + (-1) + 1 = i9 by omega]; first | exact dnS_take hd hV (by omega) | exact dnS_leave hd (by omega) | exact dnS_ext hd hV) hex (by omega)
        · have hV : (bsV (mnI h row)) i9 := ⟨by omega, by omega⟩
          obtain ⟨hs1, hs2, hF⟩ := bs_oa R hrow hV
          have hFb : 0 ≤ bsF0 M0 row i9 ∧ bsF0 M0 row i9 ≤ 24 := by rw [← hF]; exact oaI_b (vC_hS _ _)
          have hbd1 := hs1.1
          have hbd2 := hs2.1
          refine x_aload_n F dL_would_151 rfl ?_
          refine xj_bipush F dL_would_152 (by decide) ?_
          refine x_iload F dL_would_154 rfl ?_
          refine xj_imul F dL_would_156 ?_
          refine x_iload F dL_would_157 rfl ?_
          refine xj_bipush F dL_would_159 (by decide) ?_
          refine xj_idiv F dL_would_161 (by omega) ?_
          refine xj_iadd F dL_would_162 ?_
          refine xj_bipush F dL_would_163 (by decide) ?_
          refine x_iload F dL_would_165 rfl ?_
          refine xj_imul F dL_would_167 ?_
          refine x_iload F dL_would_168 rfl ?_
          refine xj_bipush F dL_would_170 (by decide) ?_
          refine xj_irem F dL_would_172 (by omega) ?_
          refine xj_iadd F dL_would_173 ?_
          refine x_S3 F (m_L_exchange rfl hs1.1 hs2.1) mlL_70 msL_exchange dL_would_174 ⟨Nat.le_of_ble_eq_true rfl, Nat.le_of_ble_eq_true rfl⟩ ⟨Nat.zero_le _, Nat.zero_le _⟩ (Nat.le_of_ble_eq_true rfl) ?_
          refine x_aload_n F dL_would_177 rfl ?_
          refine x_aload_n F dL_would_178 rfl ?_
          refine x_S2 F (m_L_allOdd (Or.inl rfl) (swC_ex hs1.1 hs2.1 ((q_w.1 68 (by omega)).trans hh)) ((congrFun (congrArg Prod.fst rfl) 71).trans ((swC_row (by decide)).trans ((q_w.1 71 (by omega)).trans hn))) (ex_ok hA hs1 hs2)) mlL_56 msL_allOdd dL_would_179 ⟨Nat.le_of_ble_eq_true rfl, Nat.le_of_ble_eq_true rfl⟩ ⟨Nat.zero_le _, Nat.zero_le _⟩ (Nat.le_of_ble_eq_true rfl) ?_
          rw [hF]
          refine x_istore F dL_would_182 (by decide) ?_
          refine x_aload_n F dL_would_184 rfl ?_
          refine xj_bipush F dL_would_185 (by decide) ?_
          refine x_iload F dL_would_187 rfl ?_
          refine xj_imul F dL_would_189 ?_
          refine x_iload F dL_would_190 rfl ?_
          refine xj_bipush F dL_would_192 (by decide) ?_
          refine xj_idiv F dL_would_194 (by omega) ?_
          refine xj_iadd F dL_would_195 ?_
          refine xj_bipush F dL_would_196 (by decide) ?_
          refine x_iload F dL_would_198 rfl ?_
          refine xj_imul F dL_would_200 ?_
          refine x_iload F dL_would_201 rfl ?_
          refine xj_bipush F dL_would_203 (by decide) ?_
          refine xj_irem F dL_would_205 (by omega) ?_
          refine xj_iadd F dL_would_206 ?_
          refine x_S3 F (m_L_exchange rfl hs1.1 hs2.1) mlL_70 msL_exchange dL_would_207 ⟨Nat.le_of_ble_eq_true rfl, Nat.le_of_ble_eq_true rfl⟩ ⟨Nat.zero_le _, Nat.zero_le _⟩ (Nat.le_of_ble_eq_true rfl) ?_
          rw [swC_swC hs1.1 hs2.1]
          refine x_iload F dL_would_210 rfl ?_
          refine x_iload F dL_would_212 rfl ?_
          refine xj_icmp_lt (tgt := 222) F dL_would_214 (by decide) (by omega) (fun h_5 => ?_) (fun h_5 => ?_)
          · refine x_iload F dL_would_222 rfl ?_
            refine x_istore F dL_would_224 (by decide) ?_
            refine x_iload F dL_would_226 rfl ?_
            refine x_iload F dL_would_228 rfl ?_
            refine xj_icmp_lt (tgt := 238) F dL_would_230 (by decide) (by omega) (fun h_6 => ?_) (fun h_6 => ?_)
            · refine x_iload F dL_would_238 rfl ?_
              refine x_istore F dL_would_240 (by decide) ?_
              refine xj_iinc F dL_would_242 rfl ?_
              refine x_goto (tgt := 119) F dL_would_245 (by decide) ?_
              first
                | (exfalso; omega)
                | exact ih (i9 + (-1)) _ _ _ (by omega) (by omega) (by omega) (by rw [show i9 + (-1) + 1 = i9 by omega]; first | exact dnS_take hd hV (by omega) | exact dnS_leave hd (by omega) | exact dnS_ext hd hV) hex (by omega)
            · refine x_iload F dL_would_233 rfl ?_
              refine x_goto (tgt := 240) F dL_would_235 (by decide) ?_
              refine x_istore F dL_would_240 (by decide) ?_
              refine xj_iinc F dL_would_242 rfl ?_
              refine x_goto (tgt := 119) F dL_would_245 (by decide) ?_
              first
                | (exfalso; omega)
                | exact ih (i9 + (-1)) _ _ _ (by omega) (by omega) (by omega) (by rw [show i9 + (-1) + 1 = i9 by omega]; first | exact dnS_take hd hV (by omega) | exact dnS_leave hd (by omega) | exact dnS_ext hd hV) hex (by omega)
          · refine x_iload F dL_would_217 rfl ?_
            refine x_goto (tgt := 224) F dL_would_219 (by decide) ?_
            refine x_istore F dL_would_224 (by decide) ?_
            refine x_iload F dL_would_226 rfl ?_
            refine x_iload F dL_would_228 rfl ?_
            refine xj_icmp_lt (tgt := 238) F dL_would_230 (by decide) (by omega) (fun h_7 => ?_) (fun h_7 => ?_)
            · refine x_iload F dL_would_238 rfl ?_
              refine x_istore F dL_would_240 (by decide) ?_
              refine xj_iinc F dL_would_242 rfl ?_
              refine x_goto (tgt := 119) F dL_would_245 (by decide) ?_
              first
                | (exfalso; omega)
                | exact ih (i9 + (-1)) _ _ _ (by omega) (by omega) (by omega) (by rw [show i9 + (-1) + 1 = i9 by omega]; first | exact dnS_take hd hV (by omega) | exact dnS_leave hd (by omega) | exact dnS_ext hd hV) hex (by omega)
            · refine x_iload F dL_would_233 rfl ?_
              refine x_goto (tgt := 240) F dL_would_235 (by decide) ?_
              refine x_istore F dL_would_240 (by decide) ?_
              refine xj_iinc F dL_would_242 rfl ?_
              refine x_goto (tgt := 119) F dL_would_245 (by decide) ?_
              first
                | (exfalso; omega)
                | exact ih (i9 + (-1)) _ _ _ (by omega) (by omega) (by omega) (by rw [show i9 + (-1) + 1 = i9 by omega]; first | exact dnS_take hd hV (by omega) | exact dnS_leave hd (by omega) | exact dnS_ext hd hV) hex (by omega)
set_option maxRecDepth 20000 in
theorem L_would_280 {l : Launch} {E : xE} {t : Int} {h v d n : aT} {M0 : xM} (R : Rl t M0 h v d n) (hT0 : okT M0) (hh : M0.1 68 = h) (hn : M0.1 71 = n) {x : Int32} {row hl : Int} (hrow : 0 ≤ row ∧ row < 4) (hhl : 0 ≤ hl ∧ hl < 121) {y4 y5 : xV} {M_w : xM} (q_w : qX M0 M_w) {Y : xY} (F : xFix E (xA E) Y cL_would yL_would.cls 14) : ∀ (k : Nat) (i9 best most : Int) (y12 y13 : xV), -1 ≤ i9 ∧ i9 ≤ 3 → -1 ≤ best ∧ best ≤ 3 → 0 ≤ most ∧ most ≤ 25 → dnS (brF0 M0 (100 + hl)) (brV M0) (-1) (i9 + 1) best most → (∀ (best9 m9 : Int) (y12 y13 : xV), dnS (brF0 M0 (100 + hl)) (brV M0) (-1) 0 best9 m9 → -1 ≤ best9 ∧ best9 ≤ 3 → WP l E (xRm 20 0 0) (xA E) Y 0 0 368 [vA 0, vA 68, vA 71, vI x, y4, y5, vI (jI row), vI (jI (100 + hl)), vI (jI 1), vI (jI best9), vI (jI m9), vI (jI (-1)), y12, y13] [] M_w) → (i9 + 1).toNat < k → WP l E (xRm 20 0 0) (xA E) Y 0 0 280 [vA 0, vA 68, vA 71, vI x, y4, y5, vI (jI row), vI (jI (100 + hl)), vI (jI 1), vI (jI best), vI (jI most), vI (jI i9), y12, y13] [] M_w := by
  intro k
  induction k with
  | zero => intro i9 best most y12 y13 hi9 hbb hmm hd hex hk; exact absurd hk (Nat.not_lt_zero _)
  | succ k ih =>
    intro i9 best most y12 y13 hi9 hbb hmm hd hex hk
    have hA := R.2.1
    have hO0 := R.1.1
    have hoa := oaI_b (vC_hS h n)
    have hbk := mnI_b h i9
    refine x_iload F dL_would_280 rfl ?_
    refine xj_if_lt (tgt := 368) F dL_would_282 (by decide) (by omega) (fun h_1 => ?_) (fun h_1 => ?_)
    · have e9 : i9 = -1 := by omega
      subst e9
      exact hex _ _ _ _ hd hbb
    · refine x_aload_n F dL_would_285 rfl ?_
      refine x_iload F dL_would_286 rfl ?_
      refine x_S2 F (m_L_many (Or.inl rfl) ((q_w.1 68 (by omega)).trans hh) (by omega)) mlL_9 msL_many dL_would_288 ⟨Nat.le_of_ble_eq_true rfl, Nat.le_of_ble_eq_true rfl⟩ ⟨Nat.zero_le _, Nat.zero_le _⟩ (Nat.le_of_ble_eq_true rfl) ?_
      have hf_2 := mnI_b h i9
      refine x_istore F dL_would_291 (by decide) ?_
      refine x_iload F dL_would_293 rfl ?_
      refine xj_bipush F dL_would_295 (by decide) ?_
      refine xj_icmp_ge (tgt := 362) F dL_would_297 (by decide) (by omega) (fun h_3 => ?_) (fun h_3 => ?_)
      · have hk4 : 0 ≤ i9 ∧ i9 < 4 := by omega
        have hV : ¬ brV M0 i9 := fun z => by (have := z.2; rw [Rl_sz R hk4] at this; omega)
        refine xj_iinc F dL_would_362 rfl ?_
        refine x_goto (tgt := 280) F dL_would_365 (by decide) ?_
        first
          | (exfalso; omega)
          | exact ih (i9 + (-1)) _ _ _ _ (by omega) (by omega) (by omega) (by rw [show i9 + (-1) + 1 = i9 by omega]; first | exact dnS_take hd hV (by omega) | exact dnS_leave hd (by omega) | exact dnS_ext hd hV) hex (by omega)
      · have hk4 : 0 ≤ i9 ∧ i9 < 4 := by omega
        have hV : brV M0 i9 := ⟨hk4, by rw [Rl_sz R hk4]; omega⟩
        have hF : oaI (vC (upd h (6 * i9 + mnI h i9).toNat (jI (100 + hl))) n) 1 = brF0 M0 (100 + hl) i9 := ad_oa R hk4 (by omega) (by omega)
        have hFb : 0 ≤ brF0 M0 (100 + hl) i9 ∧ brF0 M0 (100 + hl) i9 ≤ 24 := by rw [← hF]; exact oaI_b (vC_hS _ _)
        have hz0 : jI 0 = M_w.1 68 (6 * i9 + mnI h i9).toNat := by
          rw [(q_w.1 68 (by omega)).trans hh]
          have z := (hA.1 i9 (mnI h i9) hk4.1 hk4.2 hbk.1 (by omega)).2 (Int.le_refl _)
          exact ((jI_of (h (6 * i9 + mnI h i9).toNat)).symm.trans (congrArg jI z)).symm
        refine x_aload_n F dL_would_300 rfl ?_
        refine xj_bipush F dL_would_301 (by decide) ?_
        refine x_iload F dL_would_303 rfl ?_
        refine xj_imul F dL_would_305 ?_
        refine x_iload F dL_would_306 rfl ?_
        refine xj_iadd F dL_would_308 ?_
        refine x_iload F dL_would_309 rfl ?_
        refine xf_hast F (Or.inl rfl) dL_would_311 (by omega) ?_
        refine x_aload_n F dL_would_312 rfl ?_
        refine x_aload_n F dL_would_313 rfl ?_
        refine x_S2 F (m_L_allOdd (Or.inl rfl) (upI_f ((q_w.1 68 (by omega)).trans hh)) ((upI_row (by decide)).trans ((q_w.1 71 (by omega)).trans hn)) (ad_ok hA (by omega) (by omega) (by omega))) mlL_56 msL_allOdd dL_would_314 ⟨Nat.le_of_ble_eq_true rfl, Nat.le_of_ble_eq_true rfl⟩ ⟨Nat.zero_le _, Nat.zero_le _⟩ (Nat.le_of_ble_eq_true rfl) ?_
        rw [hF]
        refine x_istore F dL_would_317 (by decide) ?_
        refine x_aload_n F dL_would_319 rfl ?_
        refine xj_bipush F dL_would_320 (by decide) ?_
        refine x_iload F dL_would_322 rfl ?_
        refine xj_imul F dL_would_324 ?_
        refine x_iload F dL_would_325 rfl ?_
        refine xj_iadd F dL_would_327 ?_
        refine xj_iconst F dL_would_328 ?_
        refine xf_hast F (Or.inl rfl) dL_would_329 (by omega) ?_
        rw [up_id0 hz0]
        refine x_iload F dL_would_330 rfl ?_
        refine x_iload F dL_would_332 rfl ?_
        refine xj_icmp_lt (tgt := 342) F dL_would_334 (by decide) (by omega) (fun h_4 => ?_) (fun h_4 => ?_)
        · refine x_iload F dL_would_342 rfl ?_
          refine x_istore F dL_would_344 (by decide) ?_
          refine x_iload F dL_would_346 rfl ?_
          refine x_iload F dL_would_348 rfl ?_
          refine xj_icmp_lt (tgt := 358) F dL_would_350 (by decide) (by omega) (fun h_5 => ?_) (fun h_5 => ?_)
          · refine x_iload F dL_would_358 rfl ?_
            refine x_istore F dL_would_360 (by decide) ?_
            refine xj_iinc F dL_would_362 rfl ?_
            refine x_goto (tgt := 280) F dL_would_365 (by decide) ?_
            first
              | (exfalso; omega)
              | exact ih (i9 + (-1)) _ _ _ _ (by omega) (by omega) (by omega) (by rw [show i9 + (-1) + 1 = i9 by omega]; first | exact dnS_take hd hV (by omega) | exact dnS_leave hd (by omega) | exact dnS_ext hd hV) hex (by omega)
          · refine x_iload F dL_would_353 rfl ?_
            refine x_goto (tgt := 360) F dL_would_355 (by decide) ?_
            refine x_istore F dL_would_360 (by decide) ?_
            refine xj_iinc F dL_would_362 rfl ?_
            refine x_goto (tgt := 280) F dL_would_365 (by decide) ?_
            first
              | (exfalso; omega)
              | exact ih (i9 + (-1)) _ _ _ _ (by omega) (by omega) (by omega) (by rw [show i9 + (-1) + 1 = i9 by omega]; first | exact dnS_take hd hV (by omega) | exact dnS_leave hd (by omega) | exact dnS_ext hd hV) hex (by omega)
        · refine x_iload F dL_would_337 rfl ?_
          refine x_goto (tgt := 344) F dL_would_339 (by decide) ?_
          refine x_istore F dL_would_344 (by decide) ?_
          refine x_iload F dL_would_346 rfl ?_
          refine x_iload F dL_would_348 rfl ?_
          refine xj_icmp_lt (tgt := 358) F dL_would_350 (by decide) (by omega) (fun h_6 => ?_) (fun h_6 => ?_)
          · refine x_iload F dL_would_358 rfl ?_
            refine x_istore F dL_would_360 (by decide) ?_
            refine xj_iinc F dL_would_362 rfl ?_
            refine x_goto (tgt := 280) F dL_would_365 (by decide) ?_
            first
              | (exfalso; omega)
              | exact ih (i9 + (-1)) _ _ _ _ (by omega) (by omega) (by omega) (by rw [show i9 + (-1) + 1 = i9 by omega]; first | exact dnS_take hd hV (by omega) | exact dnS_leave hd (by omega) | exact dnS_ext hd hV) hex (by omega)
          · refine x_iload F dL_would_353 rfl ?_
            refine x_goto (tgt := 360) F dL_would_355 (by decide) ?_
            refine x_istore F dL_would_360 (by decide) ?_
            refine xj_iinc F dL_would_362 rfl ?_
            refine x_goto (tgt := 280) F dL_would_365 (by decide) ?_
            first
              | (exfalso; omega)
              | exact ih (i9 + (-1)) _ _ _ _ (by omega) (by omega) (by omega) (by rw [show i9 + (-1) + 1 = i9 by omega]; first | exact dnS_take hd hV (by omega) | exact dnS_leave hd (by omega) | exact dnS_ext hd hV) hex (by omega)
set_option maxRecDepth 20000 in
theorem would_103 {l : Launch} {E : xE} {t : Int} {h v d n : aT} {M0 : xM} (R : Rl t M0 h v d n) (hT0 : okT M0) (hh : M0.1 68 = h) (hn : M0.1 71 = n) {x : Int32} {row hl : Int} (hrow : 0 ≤ row ∧ row < 4) (hhl : 0 ≤ hl ∧ hl < 121) {y4 y5 : xV} {M_w : xM} (q_w : qX M0 M_w) {Y : xY} (F : xFix E (xA E) Y cL_would yL_would.cls 14) (FR : xRet E Y (some FieldType.boolean) 0 0 (fun r' M' => r' = vI (jI 1) ∧ qX M0 M') (fun _ _ => False)) : WP l E (xRm 20 0 0) (xA E) Y 0 0 103 [vA 0, vA 68, vA 71, vI x, y4, y5, vI (jI row), vI (jI (100 + hl)), vI (jI 1), vU, vU, vU, vU, vU] [] M_w := by
  have hA := R.2.1
  have hO0 := R.1.1
  have hoa := oaI_b (vC_hS h n)
  refine xj_iconst F dL_would_103 ?_
  refine x_istore F dL_would_104 (by decide) ?_
  refine x_aload_n F dL_would_106 rfl ?_
  refine x_aload_n F dL_would_107 rfl ?_
  refine x_S2 F (m_L_allOdd (Or.inl rfl) ((q_w.1 68 (by omega)).trans hh) ((q_w.1 71 (by omega)).trans hn) hA) mlL_56 msL_allOdd dL_would_108 ⟨Nat.le_of_ble_eq_true rfl, Nat.le_of_ble_eq_true rfl⟩ ⟨Nat.zero_le _, Nat.zero_le _⟩ (Nat.le_of_ble_eq_true rfl) ?_
  have hf_1 := oaI_b (vC_hS h n)
  refine xj_iconst F dL_would_111 ?_
  refine xj_iadd F dL_would_112 ?_
  refine x_istore F dL_would_113 (by decide) ?_
  refine xj_bipush F dL_would_115 (by decide) ?_
  refine x_istore F dL_would_117 (by decide) ?_
  refine L_would_119 R hT0 hh hn hrow hhl q_w F _ 35 (-1) _ _ (by omega) (by omega) (by omega) (Or.inl ⟨rfl, rfl, fun k g1 g2 => by unfold bsV at g2; omega⟩) (fun best1 m1 y12 hd1 hbb1 => ?_) (Nat.lt_succ_self _)
  refine x_iload F dL_would_248 rfl ?_
  refine xj_if_eq (tgt := 268) F dL_would_250 (by decide) (by omega) (fun h_1 => ?_) (fun h_1 => ?_)
  · exact absurd h_1 (by decide)
  · refine x_aload_n F dL_would_253 rfl ?_
    refine x_iload F dL_would_254 rfl ?_
    refine x_V1P F (m_X6_bestSwap hO0 hT0 q_w hrow) mlL_78 mvX6_bestSwap rfl dL_would_256 (by decide) rfl ⟨Nat.le_of_ble_eq_true rfl, Nat.le_of_ble_eq_true rfl⟩ ⟨Nat.zero_le _, Nat.zero_le _⟩ (Nat.le_of_ble_eq_true rfl) (fun r_256 M_256 q_256 => ?_)
    obtain ⟨rfl, q_256⟩ := q_256
    rw [bs_best R hrow hd1]
    refine x_iload F dL_would_259 rfl ?_
    refine xj_icmp_ne (tgt := 268) F dL_would_261 (by decide) (by omega) (fun h_2 => ?_) (fun h_2 => ?_)
    · exact absurd rfl h_2
    · refine xj_iconst F dL_would_264 ?_
      refine x_goto (tgt := 269) F dL_would_265 (by decide) ?_
      refine x_istore F dL_would_269 (by decide) ?_
      refine xj_iconst F dL_would_271 ?_
      refine x_istore F dL_would_272 (by decide) ?_
      refine xj_iconst F dL_would_274 ?_
      refine x_istore F dL_would_275 (by decide) ?_
      refine xj_iconst F dL_would_277 ?_
      refine x_istore F dL_would_278 (by decide) ?_
      refine L_would_280 R hT0 hh hn hrow hhl q_256 F _ 3 (-1) 0 _ _ (by omega) (by omega) (by omega) (Or.inl ⟨rfl, rfl, fun k g1 g2 => absurd g2.1.2 (by omega)⟩) (fun best2 m2 y12 y13 hd2 hbb2 => ?_) (Nat.lt_succ_self _)
      refine x_aload_n F dL_would_368 rfl ?_
      refine xj_iconst F dL_would_369 ?_
      refine xf_nald (f := n) (j := 0) F (rfl : xk 71 = (8, 5)) ((q_256.1 71 (by omega)).trans hn) dL_would_370 (by omega) rfl (fun hg_1 => ?_)
      refine x_istore F dL_would_371 (by decide) ?_
      refine x_aload_n F dL_would_373 rfl ?_
      refine xj_iconst F dL_would_374 ?_
      refine xj_iconst F dL_would_375 ?_
      refine x_iload_n F dL_would_376 rfl ?_
      refine xj_iconst F dL_would_377 ?_
      refine x_ishr F dL_would_378 ?_
      refine xj_bipush F dL_would_379 (by decide) ?_
      refine x_S2 F (m_L_low (by decide)) mlL_64 msL_low dL_would_381 ⟨Nat.le_of_ble_eq_true rfl, Nat.le_of_ble_eq_true rfl⟩ ⟨Nat.zero_le _, Nat.zero_le _⟩ (Nat.le_of_ble_eq_true rfl) ?_
      have hl_l6 := lowI_b (x >>> (jI 3 &&& 31)) (b := 6) (by decide)
      obtain ⟨l6, h_l6⟩ : ∃ z, lowI (x >>> (jI 3 &&& 31)) 6 = z := ⟨_, rfl⟩
      rw [h_l6] at hl_l6
      rw [h_l6]
      refine xj_iadd F dL_would_384 ?_
      refine xj_iast F (rfl : xk 71 = (8, 5)) dL_would_385 (by omega) ?_
      show WP l E _ _ Y 0 0 386 _ _ (upI M_256 71 0 (jI (1 + l6)))
      refine x_iload F dL_would_386 rfl ?_
      refine xj_if_eq (tgt := 421) F dL_would_388 (by decide) (by omega) (fun h_2 => ?_) (fun h_2 => ?_)
      · exact absurd h_2 (by decide)
      · refine x_aload_n F dL_would_391 rfl ?_
        refine x_iload F dL_would_392 rfl ?_
        refine x_V1P F (m_X6_bestRow (okC_e (eqC_u (by decide) _ _) hO0) hT0 (qX_up q_256 (by decide) 0 _) (by omega)) mlL_81 mvX6_bestRow rfl dL_would_394 (by decide) rfl ⟨Nat.le_of_ble_eq_true rfl, Nat.le_of_ble_eq_true rfl⟩ ⟨Nat.zero_le _, Nat.zero_le _⟩ (Nat.le_of_ble_eq_true rfl) (fun r_394 M_394 q_394 => ?_)
        obtain ⟨rfl, q_394⟩ := q_394
        rw [show (brF (upI M0 71 0 (jI (1 + l6))) (100 + hl) 4).2 = best2 from (congrArg Prod.snd (brF_e (eqC_u (by decide) _ _) _ 4)).trans (br_best R hd2)]
        refine x_iload F dL_would_397 rfl ?_
        refine xj_icmp_ne (tgt := 421) F dL_would_399 (by decide) (by omega) (fun h_3 => ?_) (fun h_3 => ?_)
        · exact absurd rfl h_3
        · refine x_aload_n F dL_would_402 rfl ?_
          refine x_aload_n F dL_would_403 rfl ?_
          refine xj_iconst F dL_would_404 ?_
          refine xf_nald (f := upd n 0 (jI (1 + l6))) (j := 0) F (rfl : xk 71 = (8, 5)) ((q_394.1 71 (by omega)).trans (upI_f hn)) dL_would_405 (by omega) rfl (fun hg_4 => ?_)
          rw [show (upd n 0 (jI (1 + l6)) 0).toInt = 1 + l6 from jI_toInt (by omega)]
          refine x_V1P F (m_X6_ifReach (okC_e (eqC_u (by decide) _ _) hO0) hT0 q_394 (by omega)) mlL_84 mvX6_ifReach rfl dL_would_406 (by decide) rfl ⟨Nat.le_of_ble_eq_true rfl, Nat.le_of_ble_eq_true rfl⟩ ⟨Nat.zero_le _, Nat.zero_le _⟩ (Nat.le_of_ble_eq_true rfl) (fun r_406 M_406 q_406 => ?_)
          obtain ⟨rfl, q_406⟩ := q_406
          rw [show orI (upI M0 71 0 (jI (1 + l6))) (1 + l6) = oaI (vC h (upd n 0 (jI (1 + l6)))) 1 from (orI_e (eqC_u (by decide) _ _) _).trans (rc_oa R _).symm]
          refine x_aload_n F dL_would_409 rfl ?_
          refine x_aload_n F dL_would_410 rfl ?_
          refine x_S2 F (m_L_allOdd (Or.inl rfl) ((q_406.1 68 (by omega)).trans ((upI_row (by decide)).trans hh)) ((q_406.1 71 (by omega)).trans (upI_f hn)) (rc_ok hA (by omega))) mlL_56 msL_allOdd dL_would_411 ⟨Nat.le_of_ble_eq_true rfl, Nat.le_of_ble_eq_true rfl⟩ ⟨Nat.zero_le _, Nat.zero_le _⟩ (Nat.le_of_ble_eq_true rfl) ?_
          have hf_5 := oaI_b (vC_hS h (upd n 0 (jI (1 + l6))))
          refine xj_icmp_ne (tgt := 421) F dL_would_414 (by decide) (by omega) (fun h_6 => ?_) (fun h_6 => ?_)
          · exact absurd rfl h_6
          · refine xj_iconst F dL_would_417 ?_
            refine x_goto (tgt := 422) F dL_would_418 (by decide) ?_
            refine x_istore F dL_would_422 (by decide) ?_
            refine x_aload_n F dL_would_424 rfl ?_
            refine xj_iconst F dL_would_425 ?_
            refine x_iload F dL_would_426 rfl ?_
            refine xj_iast F (rfl : xk 71 = (8, 5)) dL_would_428 (by omega) ?_
            refine x_iload F dL_would_429 rfl ?_
            refine x_iret F FR dL_would_431 rfl (Nat.le_refl _) (Nat.le_refl _) ?_
            exact ⟨rfl, qX_bu (by decide) (show jI (n 0).toInt = M0.1 71 0 by rw [jI_of, hn]) q_406⟩
set_option maxRecDepth 20000 in
theorem m_L_would {l : Launch} {E : xE} {t : Int} {h v d n : aT} {M0 M : xM} (R : Rl t M0 h v d n) (hT0 : okT M0) (hh : M0.1 68 = h) (hn : M0.1 71 = n) (hX : qX M0 M) {x : Int32} : XP l E 20 yL_would cL_would 14 (some FieldType.boolean) [vA 0, vA 68, vA 71, vI x] M (fun r' M' => r' = vI (jI 1) ∧ qX M0 M') := by
  refine xp_start (plainFor_of_name (by decide)) rfl (Nat.le_of_ble_eq_true rfl) ?_
  intro Y F FR
  have hA := R.2.1
  have hO0 := R.1.1
  have hoa := oaI_b (vC_hS h n)
  refine x_aload_n F dL_would_0 rfl ?_
  refine x_iload_n F dL_would_1 rfl ?_
  refine x_S2P F (m_L_some ((hX.1 68 (by omega)).trans hh)) mlL_67 msL_some dL_would_2 ⟨Nat.le_of_ble_eq_true rfl, Nat.le_of_ble_eq_true rfl⟩ ⟨Nat.zero_le _, Nat.zero_le _⟩ (Nat.le_of_ble_eq_true rfl) (fun r_2 M_2 q_2 => ?_)
  obtain ⟨z_2, rfl, rfl, hz_2⟩ := q_2
  refine x_istore F dL_would_5 (by decide) ?_
  refine x_aload_n F dL_would_7 rfl ?_
  refine x_iload_n F dL_would_8 rfl ?_
  refine xj_bipush F dL_would_9 (by decide) ?_
  refine x_ishr F dL_would_11 ?_
  refine x_S2P F (m_L_some ((hX.1 68 (by omega)).trans hh)) mlL_67 msL_some dL_would_12 ⟨Nat.le_of_ble_eq_true rfl, Nat.le_of_ble_eq_true rfl⟩ ⟨Nat.zero_le _, Nat.zero_le _⟩ (Nat.le_of_ble_eq_true rfl) (fun r_12 M_12 q_12 => ?_)
  obtain ⟨z_12, rfl, rfl, hz_12⟩ := q_12
  refine x_istore F dL_would_15 (by decide) ?_
  refine x_iload_n F dL_would_17 rfl ?_
  refine xj_bipush F dL_would_18 (by decide) ?_
  refine x_ishr F dL_would_20 ?_
  refine xj_iconst F dL_would_21 ?_
  refine x_S2 F (m_L_low (by decide)) mlL_64 msL_low dL_would_22 ⟨Nat.le_of_ble_eq_true rfl, Nat.le_of_ble_eq_true rfl⟩ ⟨Nat.zero_le _, Nat.zero_le _⟩ (Nat.le_of_ble_eq_true rfl) ?_
  have hl_row := lowI_b (x >>> (jI 9 &&& 31)) (b := 4) (by decide)
  obtain ⟨row, h_row⟩ : ∃ z, lowI (x >>> (jI 9 &&& 31)) 4 = z := ⟨_, rfl⟩
  rw [h_row] at hl_row
  rw [h_row]
  refine x_istore F dL_would_25 (by decide) ?_
  refine xj_bipush F dL_would_27 (by decide) ?_
  refine x_iload_n F dL_would_29 rfl ?_
  refine xj_iconst F dL_would_30 ?_
  refine x_ishr F dL_would_31 ?_
  refine xj_bipush F dL_would_32 (by decide) ?_
  refine x_S2 F (m_L_low (by decide)) mlL_64 msL_low dL_would_34 ⟨Nat.le_of_ble_eq_true rfl, Nat.le_of_ble_eq_true rfl⟩ ⟨Nat.zero_le _, Nat.zero_le _⟩ (Nat.le_of_ble_eq_true rfl) ?_
  have hl_hl := lowI_b (x >>> (jI 5 &&& 31)) (b := 121) (by decide)
  obtain ⟨hl, h_hl⟩ : ∃ z, lowI (x >>> (jI 5 &&& 31)) 121 = z := ⟨_, rfl⟩
  rw [h_hl] at hl_hl
  rw [h_hl]
  refine xj_iadd F dL_would_37 ?_
  refine x_istore F dL_would_38 (by decide) ?_
  refine xj_iconst F dL_would_40 ?_
  refine x_istore F dL_would_41 (by decide) ?_
  show WP l E _ _ Y 0 0 43 [vA 0, vA 68, vA 71, vI x, vI (jI z_2), vI (jI z_12), vI (jI row), vI (jI (100 + hl)), vI (jI 1), vU, vU, vU, vU, vU] _ _
  refine x_iload F dL_would_43 rfl ?_
  refine xj_if_lt (tgt := 103) F dL_would_45 (by decide) (by omega) (fun h_1 => ?_) (fun h_1 => ?_)
  · first
      | exact would_103 R hT0 hh hn hl_row hl_hl hX F FR
      | exact would_103 R hT0 hh hn hl_row hl_hl (qX_bk (by decide) hb1 hb2 q_77) F FR
  · have hv1 : vz h z_2 := hz_2.resolve_left (fun z => by omega)
    have hv2 : vz h z_12 := hz_12.resolve_left (fun z => absurd (z.2 z_2.toNat (by have := hv1.1; omega)) (by have := hv1.2; omega))
    have hb1 := hv1.1
    have hb2 := hv2.1
    obtain ⟨p1, p2, p3⟩ := vz_mn hA hv1
    obtain ⟨p4, p5, p6⟩ := vz_mn hA hv2
    have es : ∀ q, szI (swC M0 68 z_2 z_12) 1 q = szI M0 1 q := szI_e (eqC_sw (by decide) _ _)
    have hp9 : 0 ≤ z_2 % 6 ∧ z_2 % 6 < szI (swC M0 68 z_2 z_12) 1 (z_2 / 6) ∧ z_2 % 6 < 6 := ⟨p2.1, by rw [es, Rl_sz R p1]; exact p2.2, by omega⟩
    have hp8 : 0 ≤ z_12 % 6 ∧ z_12 % 6 < szI (swC M0 68 z_2 z_12) 1 (z_12 / 6) ∧ z_12 % 6 < 6 := ⟨p5.1, by rw [es, Rl_sz R p4]; exact p5.2, by omega⟩
    have hsw : oaI (swP (swC M0 68 z_2 z_12) 1 (spI (z_2 / 6) (z_2 % 6)) (spI (z_12 / 6) (z_12 % 6))) 1 = oaI (vC (exF h z_2 z_12) n) 1 := by
      rw [oaI_e (eqC_swQ (eqC_sw (by decide) _ _) _ _), sp_in p1 (by omega), sp_in p4 (by omega), p3, p6, ex_oa R hv1 hv2]
    have hbz : -1 ≤ z_2 ∧ z_2 < 24 := by omega
    refine x_aload_n F dL_would_48 rfl ?_
    refine x_iload F dL_would_49 rfl ?_
    refine x_iload F dL_would_51 rfl ?_
    refine x_S3 F (m_L_exchange rfl hb1 hb2) mlL_70 msL_exchange dL_would_53 ⟨Nat.le_of_ble_eq_true rfl, Nat.le_of_ble_eq_true rfl⟩ ⟨Nat.zero_le _, Nat.zero_le _⟩ (Nat.le_of_ble_eq_true rfl) ?_
    refine x_aload_n F dL_would_56 rfl ?_
    refine x_iload F dL_would_57 rfl ?_
    refine xj_bipush F dL_would_59 (by decide) ?_
    refine xj_idiv F dL_would_61 (by omega) ?_
    refine x_iload F dL_would_62 rfl ?_
    refine xj_bipush F dL_would_64 (by decide) ?_
    refine xj_irem F dL_would_66 (by omega) ?_
    refine x_iload F dL_would_67 rfl ?_
    refine xj_bipush F dL_would_69 (by decide) ?_
    refine xj_idiv F dL_would_71 (by omega) ?_
    refine x_iload F dL_would_72 rfl ?_
    refine xj_bipush F dL_would_74 (by decide) ?_
    refine xj_irem F dL_would_76 (by omega) ?_
    refine x_V4P F (m_X6_ifSwapped (okC_e (eqC_sw (by decide) _ _) hO0) (okT_sw hT0 _ _ _) (qX_sw hX (by decide) hb1 hb2) p1 hp9 p4 hp8) mlL_74 mvX6_ifSwapped rfl dL_would_77 (by decide) rfl ⟨Nat.le_of_ble_eq_true rfl, Nat.le_of_ble_eq_true rfl⟩ ⟨Nat.zero_le _, Nat.zero_le _⟩ (Nat.le_of_ble_eq_true rfl) (fun r_77 M_77 q_77 => ?_)
    obtain ⟨rfl, q_77⟩ := q_77
    rw [hsw]
    refine x_aload_n F dL_would_80 rfl ?_
    refine x_aload_n F dL_would_81 rfl ?_
    refine x_S2 F (m_L_allOdd (Or.inl rfl) ((q_77.1 68 (by omega)).trans (swC_ex hb1 hb2 hh)) ((q_77.1 71 (by omega)).trans ((swC_row (by decide)).trans hn)) (ex_ok hA hv1 hv2)) mlL_56 msL_allOdd dL_would_82 ⟨Nat.le_of_ble_eq_true rfl, Nat.le_of_ble_eq_true rfl⟩ ⟨Nat.zero_le _, Nat.zero_le _⟩ (Nat.le_of_ble_eq_true rfl) ?_
    have hf_2 := oaI_b (vC_hS (exF h z_2 z_12) n)
    refine xj_icmp_ne (tgt := 92) F dL_would_85 (by decide) (by omega) (fun h_3 => ?_) (fun h_3 => ?_)
    · exact absurd rfl h_3
    · refine xj_iconst F dL_would_88 ?_
      refine x_goto (tgt := 93) F dL_would_89 (by decide) ?_
      refine x_istore F dL_would_93 (by decide) ?_
      refine x_aload_n F dL_would_95 rfl ?_
      refine x_iload F dL_would_96 rfl ?_
      refine x_iload F dL_would_98 rfl ?_
      refine x_S3 F (m_L_exchange rfl hb1 hb2) mlL_70 msL_exchange dL_would_100 ⟨Nat.le_of_ble_eq_true rfl, Nat.le_of_ble_eq_true rfl⟩ ⟨Nat.zero_le _, Nat.zero_le _⟩ (Nat.le_of_ble_eq_true rfl) ?_
      first
        | exact would_103 R hT0 hh hn hl_row hl_hl hX F FR
        | exact would_103 R hT0 hh hn hl_row hl_hl (qX_bk (by decide) hb1 hb2 q_77) F FR
