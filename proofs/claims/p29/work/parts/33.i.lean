/-! isSinger(): it answers true -/
theorem hrV_b {h n : aT} (hA : okA h n) {r p : Int} (hr : 0 ≤ r ∧ r < 4) (hp : 0 ≤ p ∧ p < mnI h r) : 0 ≤ hrV h n r p ∧ hrV h n r p ≤ 12 := by
  have h1 := sbI_b (vC_hS h n) r (p + 1) (p + (n 0).toInt)
  have h2 := sbI_b (vC_hS h n) (rfI (vC h n) 1 r) p (p + (n 0).toInt)
  rw [hrV_eq hA hr hp]
  omega
theorem hrT_b (h n : aT) (r p x : Int) : 0 ≤ hrT h n r p x ∧ hrT h n r p x ≤ 2 := by
  unfold hrT
  (repeat' split) <;> omega
set_option maxRecDepth 20000 in
theorem L_isSinger_29 {l : Launch} {E : xE} {t : Int} {h v d n : aT} {M0 M : xM} (R : Rl t M0 h v d n) (hT0 : okT M0) (hX : qX M0 M) (hh : M0.1 68 = h) (hv : M0.1 69 = v) (hd : M0.1 70 = d) (hn : M0.1 71 = n) {r p : Int} (hr : 0 ≤ r ∧ r < 4) (hp : 0 ≤ p ∧ p < mnI h r) {Y : xY} (F : xFix E (xA E) Y cL_isSinger yL_isSinger.cls 11) : ∀ (k : Nat) (x s : Int), p ≤ x ∧ x ≤ min 6 (p + (n 0).toInt + 1) → s = smF (hrT h n r p) p (x - p).toNat → (∀ (y : xV) (s : Int), s = hrV h n r p → WP l E (xRm 19 0 0) (xA E) Y 0 0 123 [vA 0, vA 68, vA 69, vA 70, vA 71, vI (jI r), vI (jI p), vI (jI (6 * r + p)), vI (jI (hdV h n r p + 100 * hhI (vC h n) 1 r p)), vI (jI s), y] [] M) → (7 - x).toNat < k → WP l E (xRm 19 0 0) (xA E) Y 0 0 29 [vA 0, vA 68, vA 69, vA 70, vA 71, vI (jI r), vI (jI p), vI (jI (6 * r + p)), vI (jI (hdV h n r p + 100 * hhI (vC h n) 1 r p)), vI (jI s), vI (jI x)] [] M := by
  intro k
  induction k with
  | zero => intro x s hx hs hex hk; exact absurd hk (Nat.not_lt_zero _)
  | succ k ih =>
    intro x s hx hs hex hk
    have hA := R.2.1
    have hO0 := R.1.1
    have hb := mnI_b h r
    have hn0 := hA.2.1
    have hsb := smF_b (f := hrT h n r p) (lo := p) (b := 2) (x - p).toNat (fun x9 _ _ => hrT_b h n r p x9)
    rw [← hs] at hsb
    refine x_iload F dL_isSinger_29 rfl ?_
    refine xj_bipush F dL_isSinger_31 (by decide) ?_
    refine xj_icmp_ge (tgt := 123) F dL_isSinger_33 (by decide) (by omega) (fun h_1 => ?_) (fun h_1 => ?_)
    · exact hex _ _ (by rw [hs]; unfold hrV; rw [show min 6 (p + (n 0).toInt + 1) - p = x - p by omega])
    · refine x_iload F dL_isSinger_36 rfl ?_
      refine x_iload F dL_isSinger_38 rfl ?_
      refine x_aload F dL_isSinger_40 rfl ?_
      refine xj_iconst F dL_isSinger_42 ?_
      refine xf_nald (f := n) (j := 0) F (rfl : xk 71 = (8, 5)) ((hX.1 71 (by omega)).trans hn) dL_isSinger_43 (by omega) rfl (fun hg_2 => ?_)
      refine xj_iadd F dL_isSinger_44 ?_
      refine xj_icmp_gt (tgt := 123) F dL_isSinger_45 (by decide) (by omega) (fun h_3 => ?_) (fun h_3 => ?_)
      · exact hex _ _ (by rw [hs]; unfold hrV; rw [show min 6 (p + (n 0).toInt + 1) - p = x - p by omega])
      · refine x_iload F dL_isSinger_48 rfl ?_
        refine x_iload F dL_isSinger_50 rfl ?_
        refine x_iload F dL_isSinger_52 rfl ?_
        refine xj_icmp_le (tgt := 74) F dL_isSinger_54 (by decide) (by omega) (fun h_4 => ?_) (fun h_4 => ?_)
        · refine xj_iconst F dL_isSinger_74 ?_
          refine xj_iadd F dL_isSinger_75 ?_
          refine x_istore F dL_isSinger_76 (by decide) ?_
          refine x_iload F dL_isSinger_78 rfl ?_
          refine x_iload F dL_isSinger_80 rfl ?_
          refine xj_if_le (tgt := 113) F dL_isSinger_82 (by decide) (by omega) (fun h_5 => ?_) (fun h_5 => ?_)
          · refine xj_iconst F dL_isSinger_113 ?_
            refine xj_iadd F dL_isSinger_114 ?_
            refine x_istore F dL_isSinger_115 (by decide) ?_
            refine xj_iinc F dL_isSinger_117 rfl ?_
            refine x_goto (tgt := 29) F dL_isSinger_120 (by decide) ?_
            refine ih (x + 1) _ (by omega) ?_ hex (by omega)
            rw [smF_step _ (by omega), ← hs]
            unfold hrT hgt
            (repeat' split) <;> omega
          · refine x_aload F dL_isSinger_85 rfl ?_
            refine xj_iconst F dL_isSinger_87 ?_
            refine xf_nald (f := n) (j := 1) F (rfl : xk 71 = (8, 5)) ((hX.1 71 (by omega)).trans hn) dL_isSinger_88 (by omega) rfl (fun hg_6 => ?_)
            refine xj_iconst F dL_isSinger_89 ?_
            refine xj_icmp_ne (tgt := 113) F dL_isSinger_90 (by decide) (by omega) (fun h_7 => ?_) (fun h_7 => ?_)
            · refine xj_iconst F dL_isSinger_113 ?_
              refine xj_iadd F dL_isSinger_114 ?_
              refine x_istore F dL_isSinger_115 (by decide) ?_
              refine xj_iinc F dL_isSinger_117 rfl ?_
              refine x_goto (tgt := 29) F dL_isSinger_120 (by decide) ?_
              refine ih (x + 1) _ (by omega) ?_ hex (by omega)
              rw [smF_step _ (by omega), ← hs]
              unfold hrT hgt
              (repeat' split) <;> omega
            · refine x_aload_n F dL_isSinger_93 rfl ?_
              refine xj_bipush F dL_isSinger_94 (by decide) ?_
              refine x_iload F dL_isSinger_96 rfl ?_
              refine xj_imul F dL_isSinger_98 ?_
              refine xj_bipush F dL_isSinger_99 (by decide) ?_
              refine xj_isub F dL_isSinger_101 ?_
              refine x_iload F dL_isSinger_102 rfl ?_
              refine xj_iadd F dL_isSinger_104 ?_
              refine xf_hald (f := h) (j := ((((6 * r) - 6) + x)).toNat) F (Or.inl rfl) ((hX.1 68 (by omega)).trans hh) dL_isSinger_105 (by omega) rfl (fun hg_8 => ?_)
              refine xj_if_le (tgt := 113) F dL_isSinger_106 (by decide) (by omega) (fun h_9 => ?_) (fun h_9 => ?_)
              · refine xj_iconst F dL_isSinger_113 ?_
                refine xj_iadd F dL_isSinger_114 ?_
                refine x_istore F dL_isSinger_115 (by decide) ?_
                refine xj_iinc F dL_isSinger_117 rfl ?_
                refine x_goto (tgt := 29) F dL_isSinger_120 (by decide) ?_
                refine ih (x + 1) _ (by omega) ?_ hex (by omega)
                rw [smF_step _ (by omega), ← hs]
                unfold hrT hgt
                (repeat' split) <;> omega
              · refine xj_iconst F dL_isSinger_109 ?_
                refine x_goto (tgt := 114) F dL_isSinger_110 (by decide) ?_
                refine xj_iadd F dL_isSinger_114 ?_
                refine x_istore F dL_isSinger_115 (by decide) ?_
                refine xj_iinc F dL_isSinger_117 rfl ?_
                refine x_goto (tgt := 29) F dL_isSinger_120 (by decide) ?_
                refine ih (x + 1) _ (by omega) ?_ hex (by omega)
                rw [smF_step _ (by omega), ← hs]
                unfold hrT hgt
                (repeat' split) <;> omega
        · refine x_aload_n F dL_isSinger_57 rfl ?_
          refine xj_bipush F dL_isSinger_58 (by decide) ?_
          refine x_iload F dL_isSinger_60 rfl ?_
          refine xj_imul F dL_isSinger_62 ?_
          refine x_iload F dL_isSinger_63 rfl ?_
          refine xj_iadd F dL_isSinger_65 ?_
          refine xf_hald (f := h) (j := (((6 * r) + x)).toNat) F (Or.inl rfl) ((hX.1 68 (by omega)).trans hh) dL_isSinger_66 (by omega) rfl (fun hg_10 => ?_)
          refine xj_if_le (tgt := 74) F dL_isSinger_67 (by decide) (by omega) (fun h_11 => ?_) (fun h_11 => ?_)
          · refine xj_iconst F dL_isSinger_74 ?_
            refine xj_iadd F dL_isSinger_75 ?_
            refine x_istore F dL_isSinger_76 (by decide) ?_
            refine x_iload F dL_isSinger_78 rfl ?_
            refine x_iload F dL_isSinger_80 rfl ?_
            refine xj_if_le (tgt := 113) F dL_isSinger_82 (by decide) (by omega) (fun h_12 => ?_) (fun h_12 => ?_)
            · refine xj_iconst F dL_isSinger_113 ?_
              refine xj_iadd F dL_isSinger_114 ?_
              refine x_istore F dL_isSinger_115 (by decide) ?_
              refine xj_iinc F dL_isSinger_117 rfl ?_
              refine x_goto (tgt := 29) F dL_isSinger_120 (by decide) ?_
              refine ih (x + 1) _ (by omega) ?_ hex (by omega)
              rw [smF_step _ (by omega), ← hs]
              unfold hrT hgt
              (repeat' split) <;> omega
            · refine x_aload F dL_isSinger_85 rfl ?_
              refine xj_iconst F dL_isSinger_87 ?_
              refine xf_nald (f := n) (j := 1) F (rfl : xk 71 = (8, 5)) ((hX.1 71 (by omega)).trans hn) dL_isSinger_88 (by omega) rfl (fun hg_13 => ?_)
              refine xj_iconst F dL_isSinger_89 ?_
              refine xj_icmp_ne (tgt := 113) F dL_isSinger_90 (by decide) (by omega) (fun h_14 => ?_) (fun h_14 => ?_)
              · refine xj_iconst F dL_isSinger_113 ?_
                refine xj_iadd F dL_isSinger_114 ?_
                refine x_istore F dL_isSinger_115 (by decide) ?_
                refine xj_iinc F dL_isSinger_117 rfl ?_
                refine x_goto (tgt := 29) F dL_isSinger_120 (by decide) ?_
                refine ih (x + 1) _ (by omega) ?_ hex (by omega)
                rw [smF_step _ (by omega), ← hs]
                unfold hrT hgt
                (repeat' split) <;> omega
              · refine x_aload_n F dL_isSinger_93 rfl ?_
                refine xj_bipush F dL_isSinger_94 (by decide) ?_
                refine x_iload F dL_isSinger_96 rfl ?_
                refine xj_imul F dL_isSinger_98 ?_
                refine xj_bipush F dL_isSinger_99 (by decide) ?_
                refine xj_isub F dL_isSinger_101 ?_
                refine x_iload F dL_isSinger_102 rfl ?_
                refine xj_iadd F dL_isSinger_104 ?_
                refine xf_hald (f := h) (j := ((((6 * r) - 6) + x)).toNat) F (Or.inl rfl) ((hX.1 68 (by omega)).trans hh) dL_isSinger_105 (by omega) rfl (fun hg_15 => ?_)
                refine xj_if_le (tgt := 113) F dL_isSinger_106 (by decide) (by omega) (fun h_16 => ?_) (fun h_16 => ?_)
                · refine xj_iconst F dL_isSinger_113 ?_
                  refine xj_iadd F dL_isSinger_114 ?_
                  refine x_istore F dL_isSinger_115 (by decide) ?_
                  refine xj_iinc F dL_isSinger_117 rfl ?_
                  refine x_goto (tgt := 29) F dL_isSinger_120 (by decide) ?_
                  refine ih (x + 1) _ (by omega) ?_ hex (by omega)
                  rw [smF_step _ (by omega), ← hs]
                  unfold hrT hgt
                  (repeat' split) <;> omega
                · refine xj_iconst F dL_isSinger_109 ?_
                  refine x_goto (tgt := 114) F dL_isSinger_110 (by decide) ?_
                  refine xj_iadd F dL_isSinger_114 ?_
                  refine x_istore F dL_isSinger_115 (by decide) ?_
                  refine xj_iinc F dL_isSinger_117 rfl ?_
                  refine x_goto (tgt := 29) F dL_isSinger_120 (by decide) ?_
                  refine ih (x + 1) _ (by omega) ?_ hex (by omega)
                  rw [smF_step _ (by omega), ← hs]
                  unfold hrT hgt
                  (repeat' split) <;> omega
          · refine xj_iconst F dL_isSinger_70 ?_
            refine x_goto (tgt := 75) F dL_isSinger_71 (by decide) ?_
            refine xj_iadd F dL_isSinger_75 ?_
            refine x_istore F dL_isSinger_76 (by decide) ?_
            refine x_iload F dL_isSinger_78 rfl ?_
            refine x_iload F dL_isSinger_80 rfl ?_
            refine xj_if_le (tgt := 113) F dL_isSinger_82 (by decide) (by omega) (fun h_17 => ?_) (fun h_17 => ?_)
            · refine xj_iconst F dL_isSinger_113 ?_
              refine xj_iadd F dL_isSinger_114 ?_
              refine x_istore F dL_isSinger_115 (by decide) ?_
              refine xj_iinc F dL_isSinger_117 rfl ?_
              refine x_goto (tgt := 29) F dL_isSinger_120 (by decide) ?_
              refine ih (x + 1) _ (by omega) ?_ hex (by omega)
              rw [smF_step _ (by omega), ← hs]
              unfold hrT hgt
              (repeat' split) <;> omega
            · refine x_aload F dL_isSinger_85 rfl ?_
              refine xj_iconst F dL_isSinger_87 ?_
              refine xf_nald (f := n) (j := 1) F (rfl : xk 71 = (8, 5)) ((hX.1 71 (by omega)).trans hn) dL_isSinger_88 (by omega) rfl (fun hg_18 => ?_)
              refine xj_iconst F dL_isSinger_89 ?_
              refine xj_icmp_ne (tgt := 113) F dL_isSinger_90 (by decide) (by omega) (fun h_19 => ?_) (fun h_19 => ?_)
              · refine xj_iconst F dL_isSinger_113 ?_
                refine xj_iadd F dL_isSinger_114 ?_
                refine x_istore F dL_isSinger_115 (by decide) ?_
                refine xj_iinc F dL_isSinger_117 rfl ?_
                refine x_goto (tgt := 29) F dL_isSinger_120 (by decide) ?_
                refine ih (x + 1) _ (by omega) ?_ hex (by omega)
                rw [smF_step _ (by omega), ← hs]
                unfold hrT hgt
                (repeat' split) <;> omega
              · refine x_aload_n F dL_isSinger_93 rfl ?_
                refine xj_bipush F dL_isSinger_94 (by decide) ?_
                refine x_iload F dL_isSinger_96 rfl ?_
                refine xj_imul F dL_isSinger_98 ?_
                refine xj_bipush F dL_isSinger_99 (by decide) ?_
                refine xj_isub F dL_isSinger_101 ?_
                refine x_iload F dL_isSinger_102 rfl ?_
                refine xj_iadd F dL_isSinger_104 ?_
                refine xf_hald (f := h) (j := ((((6 * r) - 6) + x)).toNat) F (Or.inl rfl) ((hX.1 68 (by omega)).trans hh) dL_isSinger_105 (by omega) rfl (fun hg_20 => ?_)
                refine xj_if_le (tgt := 113) F dL_isSinger_106 (by decide) (by omega) (fun h_21 => ?_) (fun h_21 => ?_)
                · refine xj_iconst F dL_isSinger_113 ?_
                  refine xj_iadd F dL_isSinger_114 ?_
                  refine x_istore F dL_isSinger_115 (by decide) ?_
                  refine xj_iinc F dL_isSinger_117 rfl ?_
                  refine x_goto (tgt := 29) F dL_isSinger_120 (by decide) ?_
                  refine ih (x + 1) _ (by omega) ?_ hex (by omega)
                  rw [smF_step _ (by omega), ← hs]
                  unfold hrT hgt
                  (repeat' split) <;> omega
                · refine xj_iconst F dL_isSinger_109 ?_
                  refine x_goto (tgt := 114) F dL_isSinger_110 (by decide) ?_
                  refine xj_iadd F dL_isSinger_114 ?_
                  refine x_istore F dL_isSinger_115 (by decide) ?_
                  refine xj_iinc F dL_isSinger_117 rfl ?_
                  refine x_goto (tgt := 29) F dL_isSinger_120 (by decide) ?_
                  refine ih (x + 1) _ (by omega) ?_ hex (by omega)
                  rw [smF_step _ (by omega), ← hs]
                  unfold hrT hgt
                  (repeat' split) <;> omega
set_option maxRecDepth 20000 in
theorem m_L_isSinger {l : Launch} {E : xE} {t : Int} {h v d n : aT} {M0 M : xM} (R : Rl t M0 h v d n) (hT0 : okT M0) (hX : qX M0 M) (hh : M0.1 68 = h) (hv : M0.1 69 = v) (hd : M0.1 70 = d) (hn : M0.1 71 = n) {r p : Int} (hr : 0 ≤ r ∧ r < 4) (hp : 0 ≤ p ∧ p < mnI h r) : XP l E 19 yL_isSinger cL_isSinger 11 (some FieldType.boolean) [vA 0, vA 68, vA 69, vA 70, vA 71, vI (jI r), vI (jI p)] M (fun r' M' => r' = vI (jI 1) ∧ qX M0 M') := by
  refine xp_start (plainFor_of_name (by decide)) rfl (Nat.le_of_ble_eq_true rfl) ?_
  intro Y F FR
  have hA := R.2.1
  have hO0 := R.1.1
  have hb := mnI_b h r
  have hn0 := hA.2.1
  obtain ⟨w0, w1, w2, w3, w4, w5, w6, w7⟩ := Rl_os R hr hp
  obtain ⟨c0, c1, c2, c3, c4⟩ := Rl_wr R hr hp
  have wf := Rl_find R hr hp
  have hd0 := Rl_d0 R hr hp
  have hhb := hhI_b (vC_hS h n) r p
  have hdb := hdV_b h n r p
  have hrb := hrV_b hA hr hp
  have hga : 0 < (h (6 * r + p).toNat).toInt ∧ (h (6 * r + p).toNat).toInt ≤ 1000 := (hA.1 r p hr.1 hr.2 hp.1 (by omega)).1 hp.2
  have hps : 0 ≤ p ∧ p < szI M0 1 r ∧ p < 6 := by rw [Rl_sz R hr]; omega
  have hlt := ltI_rg hd0.2
  refine xj_bipush F dL_isSinger_0 (by decide) ?_
  refine x_iload F dL_isSinger_2 rfl ?_
  refine xj_imul F dL_isSinger_4 ?_
  refine x_iload F dL_isSinger_5 rfl ?_
  refine xj_iadd F dL_isSinger_7 ?_
  refine x_istore F dL_isSinger_8 (by decide) ?_
  refine x_aload_n F dL_isSinger_10 rfl ?_
  refine x_aload F dL_isSinger_11 rfl ?_
  refine x_iload F dL_isSinger_13 rfl ?_
  refine x_iload F dL_isSinger_15 rfl ?_
  refine x_S4 F (m_L_hears (Or.inl rfl) ((hX.1 68 (by omega)).trans hh) ((hX.1 71 (by omega)).trans hn) hA hr hp) mlL_15 msL_hears dL_isSinger_17 ⟨Nat.le_of_ble_eq_true rfl, Nat.le_of_ble_eq_true rfl⟩ ⟨Nat.zero_le _, Nat.zero_le _⟩ (Nat.le_of_ble_eq_true rfl) ?_
  have hf_1 := hdV_b h n r p
  have hf_2 := hhI_b (vC_hS h n) r p
  refine x_istore F dL_isSinger_20 (by decide) ?_
  refine xj_iconst F dL_isSinger_22 ?_
  refine x_istore F dL_isSinger_23 (by decide) ?_
  refine x_iload F dL_isSinger_25 rfl ?_
  refine x_istore F dL_isSinger_27 (by decide) ?_
  refine L_isSinger_29 (v := v) (d := d) R hT0 hX hh hv hd hn hr hp F _ p 0 (by omega) (by rw [show p - p = 0 by omega]; rfl) (fun y s hs => ?_) (Nat.lt_succ_self _)
  subst hs
  refine x_aload_n F dL_isSinger_123 rfl ?_
  refine x_iload F dL_isSinger_124 rfl ?_
  refine x_iload F dL_isSinger_126 rfl ?_
  refine xj_iconst F dL_isSinger_128 ?_
  refine x_V3P F (m_X6_singer hO0 hT0 hX hr hps (by decide)) mlL_23 mvX6_singer rfl dL_isSinger_129 (by decide) rfl ⟨Nat.le_of_ble_eq_true rfl, Nat.le_of_ble_eq_true rfl⟩ ⟨Nat.zero_le _, Nat.zero_le _⟩ (Nat.le_of_ble_eq_true rfl) (fun r_129 M_129 q_129 => ?_)
  obtain ⟨rfl, q_129⟩ := q_129
  rw [w0]
  refine x_aload_n F dL_isSinger_132 rfl ?_
  refine x_iload F dL_isSinger_133 rfl ?_
  refine xf_hald (f := d) (j := ((6 * r + p)).toNat) F (Or.inl rfl) ((q_129.1 70 (by omega)).trans hd) dL_isSinger_135 (by omega) rfl (fun hg_1 => ?_)
  refine xj_icmp_ne (tgt := 261) F dL_isSinger_136 (by decide) (by omega) (fun h_2 => ?_) (fun h_2 => ?_)
  · exfalso
    omega
  · refine x_aload_n F dL_isSinger_139 rfl ?_
    refine x_iload F dL_isSinger_140 rfl ?_
    refine x_iload F dL_isSinger_142 rfl ?_
    refine xj_iconst F dL_isSinger_144 ?_
    refine x_V3P F (m_X6_singer hO0 hT0 q_129 hr hps (by decide)) mlL_23 mvX6_singer rfl dL_isSinger_145 (by decide) rfl ⟨Nat.le_of_ble_eq_true rfl, Nat.le_of_ble_eq_true rfl⟩ ⟨Nat.zero_le _, Nat.zero_le _⟩ (Nat.le_of_ble_eq_true rfl) (fun r_145 M_145 q_145 => ?_)
    obtain ⟨rfl, q_145⟩ := q_145
    rw [w1]
    refine x_aload_n F dL_isSinger_148 rfl ?_
    refine x_iload F dL_isSinger_149 rfl ?_
    refine xf_hald (f := h) (j := ((6 * r + p)).toNat) F (Or.inl rfl) ((q_145.1 68 (by omega)).trans hh) dL_isSinger_151 (by omega) rfl (fun hg_3 => ?_)
    refine xj_icmp_ne (tgt := 261) F dL_isSinger_152 (by decide) (by omega) (fun h_4 => ?_) (fun h_4 => ?_)
    · exfalso
      omega
    · refine x_aload_n F dL_isSinger_155 rfl ?_
      refine x_iload F dL_isSinger_156 rfl ?_
      refine x_iload F dL_isSinger_158 rfl ?_
      refine xj_iconst F dL_isSinger_160 ?_
      refine x_V3P F (m_X6_singer hO0 hT0 q_145 hr hps (by decide)) mlL_23 mvX6_singer rfl dL_isSinger_161 (by decide) rfl ⟨Nat.le_of_ble_eq_true rfl, Nat.le_of_ble_eq_true rfl⟩ ⟨Nat.zero_le _, Nat.zero_le _⟩ (Nat.le_of_ble_eq_true rfl) (fun r_161 M_161 q_161 => ?_)
      obtain ⟨rfl, q_161⟩ := q_161
      rw [w2]
      refine x_aload_n F dL_isSinger_164 rfl ?_
      refine x_iload F dL_isSinger_165 rfl ?_
      refine xf_hald (f := v) (j := ((6 * r + p)).toNat) F (Or.inl rfl) ((q_161.1 69 (by omega)).trans hv) dL_isSinger_167 (by omega) rfl (fun hg_5 => ?_)
      refine xj_icmp_ne (tgt := 261) F dL_isSinger_168 (by decide) (by omega) (fun h_6 => ?_) (fun h_6 => ?_)
      · exfalso
        omega
      · refine x_aload_n F dL_isSinger_171 rfl ?_
        refine x_iload F dL_isSinger_172 rfl ?_
        refine x_iload F dL_isSinger_174 rfl ?_
        refine xj_iconst F dL_isSinger_176 ?_
        refine x_V3P F (m_X6_singer hO0 hT0 q_161 hr hps (by decide)) mlL_23 mvX6_singer rfl dL_isSinger_177 (by decide) rfl ⟨Nat.le_of_ble_eq_true rfl, Nat.le_of_ble_eq_true rfl⟩ ⟨Nat.zero_le _, Nat.zero_le _⟩ (Nat.le_of_ble_eq_true rfl) (fun r_177 M_177 q_177 => ?_)
        obtain ⟨rfl, q_177⟩ := q_177
        rw [w3]
        refine x_iload F dL_isSinger_180 rfl ?_
        refine xj_bipush F dL_isSinger_182 (by decide) ?_
        refine xj_irem F dL_isSinger_184 (by omega) ?_
        refine xj_icmp_ne (tgt := 261) F dL_isSinger_185 (by decide) (by omega) (fun h_7 => ?_) (fun h_7 => ?_)
        · exfalso
          omega
        · refine x_aload_n F dL_isSinger_188 rfl ?_
          refine x_iload F dL_isSinger_189 rfl ?_
          refine x_iload F dL_isSinger_191 rfl ?_
          refine xj_iconst F dL_isSinger_193 ?_
          refine x_V3P F (m_X6_singer hO0 hT0 q_177 hr hps (by decide)) mlL_23 mvX6_singer rfl dL_isSinger_194 (by decide) rfl ⟨Nat.le_of_ble_eq_true rfl, Nat.le_of_ble_eq_true rfl⟩ ⟨Nat.zero_le _, Nat.zero_le _⟩ (Nat.le_of_ble_eq_true rfl) (fun r_194 M_194 q_194 => ?_)
          obtain ⟨rfl, q_194⟩ := q_194
          rw [w4]
          refine x_iload F dL_isSinger_197 rfl ?_
          refine xj_bipush F dL_isSinger_199 (by decide) ?_
          refine xj_idiv F dL_isSinger_201 (by omega) ?_
          refine xj_icmp_ne (tgt := 261) F dL_isSinger_202 (by decide) (by omega) (fun h_8 => ?_) (fun h_8 => ?_)
          · exfalso
            omega
          · refine x_aload_n F dL_isSinger_205 rfl ?_
            refine x_iload F dL_isSinger_206 rfl ?_
            refine x_iload F dL_isSinger_208 rfl ?_
            refine xj_iconst F dL_isSinger_210 ?_
            refine x_V3P F (m_X6_singer hO0 hT0 q_194 hr hps (by decide)) mlL_23 mvX6_singer rfl dL_isSinger_211 (by decide) rfl ⟨Nat.le_of_ble_eq_true rfl, Nat.le_of_ble_eq_true rfl⟩ ⟨Nat.zero_le _, Nat.zero_le _⟩ (Nat.le_of_ble_eq_true rfl) (fun r_211 M_211 q_211 => ?_)
            obtain ⟨rfl, q_211⟩ := q_211
            rw [w5]
            refine x_iload F dL_isSinger_214 rfl ?_
            refine xj_bipush F dL_isSinger_216 (by decide) ?_
            refine xj_idiv F dL_isSinger_218 (by omega) ?_
            refine xj_icmp_ne (tgt := 261) F dL_isSinger_219 (by decide) (by omega) (fun h_9 => ?_) (fun h_9 => ?_)
            · exfalso
              omega
            · refine x_aload_n F dL_isSinger_222 rfl ?_
              refine x_iload F dL_isSinger_223 rfl ?_
              refine x_iload F dL_isSinger_225 rfl ?_
              refine xj_bipush F dL_isSinger_227 (by decide) ?_
              refine x_V3P F (m_X6_singer hO0 hT0 q_211 hr hps (by decide)) mlL_23 mvX6_singer rfl dL_isSinger_229 (by decide) rfl ⟨Nat.le_of_ble_eq_true rfl, Nat.le_of_ble_eq_true rfl⟩ ⟨Nat.zero_le _, Nat.zero_le _⟩ (Nat.le_of_ble_eq_true rfl) (fun r_229 M_229 q_229 => ?_)
              obtain ⟨rfl, q_229⟩ := q_229
              rw [w6]
              refine x_iload F dL_isSinger_232 rfl ?_
              refine xj_bipush F dL_isSinger_234 (by decide) ?_
              refine xj_idiv F dL_isSinger_236 (by omega) ?_
              refine xj_iconst F dL_isSinger_237 ?_
              refine xj_and1 F dL_isSinger_238 (by omega) ?_
              refine xj_icmp_ne (tgt := 261) F dL_isSinger_239 (by decide) (by omega) (fun h_10 => ?_) (fun h_10 => ?_)
              · exfalso
                omega
              · refine x_aload_n F dL_isSinger_242 rfl ?_
                refine x_iload F dL_isSinger_243 rfl ?_
                refine x_iload F dL_isSinger_245 rfl ?_
                refine xj_bipush F dL_isSinger_247 (by decide) ?_
                refine x_V3P F (m_X6_singer hO0 hT0 q_229 hr hps (by decide)) mlL_23 mvX6_singer rfl dL_isSinger_249 (by decide) rfl ⟨Nat.le_of_ble_eq_true rfl, Nat.le_of_ble_eq_true rfl⟩ ⟨Nat.zero_le _, Nat.zero_le _⟩ (Nat.le_of_ble_eq_true rfl) (fun r_249 M_249 q_249 => ?_)
                obtain ⟨rfl, q_249⟩ := q_249
                rw [w7]
                refine x_iload F dL_isSinger_252 rfl ?_
                refine xj_icmp_ne (tgt := 261) F dL_isSinger_254 (by decide) (by omega) (fun h_11 => ?_) (fun h_11 => ?_)
                · exfalso
                  omega
                · refine xj_iconst F dL_isSinger_257 ?_
                  refine x_goto (tgt := 262) F dL_isSinger_258 (by decide) ?_
                  refine x_istore F dL_isSinger_262 (by decide) ?_
                  refine x_iload F dL_isSinger_264 rfl ?_
                  refine xj_if_eq (tgt := 384) F dL_isSinger_266 (by decide) (by omega) (fun h_12 => ?_) (fun h_12 => ?_)
                  · exact absurd h_12 (by decide)
                  · refine x_aload_n F dL_isSinger_269 rfl ?_
                    refine x_aload_n F dL_isSinger_270 rfl ?_
                    refine x_iload F dL_isSinger_271 rfl ?_
                    refine xf_hald (f := d) (j := ((6 * r + p)).toNat) F (Or.inl rfl) ((q_249.1 70 (by omega)).trans hd) dL_isSinger_273 (by omega) rfl (fun hg_13 => ?_)
                    refine x_V1P F (m_X6_find hO0 hT0 q_249 ⟨by omega, rg_of _⟩) mlL_29 mvX6_find rfl dL_isSinger_274 (by decide) rfl ⟨Nat.le_of_ble_eq_true rfl, Nat.le_of_ble_eq_true rfl⟩ ⟨Nat.zero_le _, Nat.zero_le _⟩ (Nat.le_of_ble_eq_true rfl) (fun r_274 M_274 q_274 => ?_)
                    obtain ⟨rfl, q_274⟩ := q_274
                    rw [wf]
                    refine x_iload F dL_isSinger_277 rfl ?_
                    refine xj_icmp_ne (tgt := 384) F dL_isSinger_279 (by decide) (by omega) (fun h_14 => ?_) (fun h_14 => ?_)
                    · exfalso
                      omega
                    · refine x_aload_n F dL_isSinger_282 rfl ?_
                      refine x_iload F dL_isSinger_283 rfl ?_
                      refine xj_iconst F dL_isSinger_285 ?_
                      refine x_iload F dL_isSinger_286 rfl ?_
                      refine xj_imul F dL_isSinger_288 ?_
                      refine x_V2P F (m_X6_written hO0 hT0 q_274 hr (by omega)) mlL_33 mvX6_written rfl dL_isSinger_289 (by decide) rfl ⟨Nat.le_of_ble_eq_true rfl, Nat.le_of_ble_eq_true rfl⟩ ⟨Nat.zero_le _, Nat.zero_le _⟩ (Nat.le_of_ble_eq_true rfl) (fun r_289 M_289 q_289 => ?_)
                      obtain ⟨rfl, q_289⟩ := q_289
                      rw [c0]
                      refine xj_bipush F dL_isSinger_292 (by decide) ?_
                      refine x_aload_n F dL_isSinger_294 rfl ?_
                      refine x_iload F dL_isSinger_295 rfl ?_
                      refine xf_hald (f := h) (j := ((6 * r + p)).toNat) F (Or.inl rfl) ((q_289.1 68 (by omega)).trans hh) dL_isSinger_297 (by omega) rfl (fun hg_15 => ?_)
                      refine xj_bipush F dL_isSinger_298 (by decide) ?_
                      refine xj_idiv F dL_isSinger_300 (by omega) ?_
                      refine xj_iadd F dL_isSinger_301 ?_
                      refine xj_icmp_ne (tgt := 384) F dL_isSinger_302 (by decide) (by omega) (fun h_16 => ?_) (fun h_16 => ?_)
                      · exfalso
                        omega
                      · refine x_aload_n F dL_isSinger_305 rfl ?_
                        refine x_iload F dL_isSinger_306 rfl ?_
                        refine xj_iconst F dL_isSinger_308 ?_
                        refine x_iload F dL_isSinger_309 rfl ?_
                        refine xj_imul F dL_isSinger_311 ?_
                        refine xj_iconst F dL_isSinger_312 ?_
                        refine xj_iadd F dL_isSinger_313 ?_
                        refine x_V2P F (m_X6_written hO0 hT0 q_289 hr (by omega)) mlL_33 mvX6_written rfl dL_isSinger_314 (by decide) rfl ⟨Nat.le_of_ble_eq_true rfl, Nat.le_of_ble_eq_true rfl⟩ ⟨Nat.zero_le _, Nat.zero_le _⟩ (Nat.le_of_ble_eq_true rfl) (fun r_314 M_314 q_314 => ?_)
                        obtain ⟨rfl, q_314⟩ := q_314
                        rw [c1]
                        refine xj_bipush F dL_isSinger_317 (by decide) ?_
                        refine x_aload_n F dL_isSinger_319 rfl ?_
                        refine x_iload F dL_isSinger_320 rfl ?_
                        refine xf_hald (f := h) (j := ((6 * r + p)).toNat) F (Or.inl rfl) ((q_314.1 68 (by omega)).trans hh) dL_isSinger_322 (by omega) rfl (fun hg_17 => ?_)
                        refine xj_bipush F dL_isSinger_323 (by decide) ?_
                        refine xj_idiv F dL_isSinger_325 (by omega) ?_
                        refine xj_bipush F dL_isSinger_326 (by decide) ?_
                        refine xj_irem F dL_isSinger_328 (by omega) ?_
                        refine xj_iadd F dL_isSinger_329 ?_
                        refine xj_icmp_ne (tgt := 384) F dL_isSinger_330 (by decide) (by omega) (fun h_18 => ?_) (fun h_18 => ?_)
                        · exfalso
                          omega
                        · refine x_aload_n F dL_isSinger_333 rfl ?_
                          refine x_iload F dL_isSinger_334 rfl ?_
                          refine xj_iconst F dL_isSinger_336 ?_
                          refine x_iload F dL_isSinger_337 rfl ?_
                          refine xj_imul F dL_isSinger_339 ?_
                          refine xj_iconst F dL_isSinger_340 ?_
                          refine xj_iadd F dL_isSinger_341 ?_
                          refine x_V2P F (m_X6_written hO0 hT0 q_314 hr (by omega)) mlL_33 mvX6_written rfl dL_isSinger_342 (by decide) rfl ⟨Nat.le_of_ble_eq_true rfl, Nat.le_of_ble_eq_true rfl⟩ ⟨Nat.zero_le _, Nat.zero_le _⟩ (Nat.le_of_ble_eq_true rfl) (fun r_342 M_342 q_342 => ?_)
                          obtain ⟨rfl, q_342⟩ := q_342
                          rw [c2]
                          refine xj_bipush F dL_isSinger_345 (by decide) ?_
                          refine x_aload_n F dL_isSinger_347 rfl ?_
                          refine x_iload F dL_isSinger_348 rfl ?_
                          refine xf_hald (f := h) (j := ((6 * r + p)).toNat) F (Or.inl rfl) ((q_342.1 68 (by omega)).trans hh) dL_isSinger_350 (by omega) rfl (fun hg_19 => ?_)
                          refine xj_bipush F dL_isSinger_351 (by decide) ?_
                          refine xj_irem F dL_isSinger_353 (by omega) ?_
                          refine xj_iadd F dL_isSinger_354 ?_
                          refine xj_icmp_ne (tgt := 384) F dL_isSinger_355 (by decide) (by omega) (fun h_20 => ?_) (fun h_20 => ?_)
                          · exfalso
                            omega
                          · refine x_aload_n F dL_isSinger_358 rfl ?_
                            refine x_iload F dL_isSinger_359 rfl ?_
                            refine xj_iconst F dL_isSinger_361 ?_
                            refine x_iload F dL_isSinger_362 rfl ?_
                            refine xj_imul F dL_isSinger_364 ?_
                            refine xj_iconst F dL_isSinger_365 ?_
                            refine xj_iadd F dL_isSinger_366 ?_
                            refine x_V2P F (m_X6_written hO0 hT0 q_342 hr (by omega)) mlL_33 mvX6_written rfl dL_isSinger_367 (by decide) rfl ⟨Nat.le_of_ble_eq_true rfl, Nat.le_of_ble_eq_true rfl⟩ ⟨Nat.zero_le _, Nat.zero_le _⟩ (Nat.le_of_ble_eq_true rfl) (fun r_367 M_367 q_367 => ?_)
                            obtain ⟨rfl, q_367⟩ := q_367
                            rw [c3]
                            refine x_aload_n F dL_isSinger_370 rfl ?_
                            refine x_iload F dL_isSinger_371 rfl ?_
                            refine xf_hald (f := v) (j := ((6 * r + p)).toNat) F (Or.inl rfl) ((q_367.1 69 (by omega)).trans hv) dL_isSinger_373 (by omega) rfl (fun hg_21 => ?_)
                            refine x_S1 F (m_L_letter (by omega)) mlL_37 msL_letter dL_isSinger_374 ⟨Nat.le_of_ble_eq_true rfl, Nat.le_of_ble_eq_true rfl⟩ ⟨Nat.zero_le _, Nat.zero_le _⟩ (Nat.le_of_ble_eq_true rfl) ?_
                            refine xj_icmp_ne (tgt := 384) F dL_isSinger_377 (by decide) (by omega) (fun h_22 => ?_) (fun h_22 => ?_)
                            · exfalso
                              omega
                            · refine xj_iconst F dL_isSinger_380 ?_
                              refine x_goto (tgt := 385) F dL_isSinger_381 (by decide) ?_
                              refine x_istore F dL_isSinger_385 (by decide) ?_
                              refine x_iload F dL_isSinger_387 rfl ?_
                              refine xj_if_eq (tgt := 430) F dL_isSinger_389 (by decide) (by omega) (fun h_23 => ?_) (fun h_23 => ?_)
                              · exact absurd h_23 (by decide)
                              · refine x_aload_n F dL_isSinger_392 rfl ?_
                                refine x_iload F dL_isSinger_393 rfl ?_
                                refine xj_iconst F dL_isSinger_395 ?_
                                refine x_iload F dL_isSinger_396 rfl ?_
                                refine xj_imul F dL_isSinger_398 ?_
                                refine xj_iconst F dL_isSinger_399 ?_
                                refine xj_iadd F dL_isSinger_400 ?_
                                refine x_V2P F (m_X6_written hO0 hT0 q_367 hr (by omega)) mlL_33 mvX6_written rfl dL_isSinger_401 (by decide) rfl ⟨Nat.le_of_ble_eq_true rfl, Nat.le_of_ble_eq_true rfl⟩ ⟨Nat.zero_le _, Nat.zero_le _⟩ (Nat.le_of_ble_eq_true rfl) (fun r_401 M_401 q_401 => ?_)
                                obtain ⟨rfl, q_401⟩ := q_401
                                rw [c4]
                                refine x_iload F dL_isSinger_404 rfl ?_
                                refine xj_iconst F dL_isSinger_406 ?_
                                refine xj_iadd F dL_isSinger_407 ?_
                                refine x_aload_n F dL_isSinger_408 rfl ?_
                                refine x_iload F dL_isSinger_409 rfl ?_
                                refine x_S2 F (m_L_many (Or.inl rfl) ((q_401.1 68 (by omega)).trans hh) hr) mlL_9 msL_many dL_isSinger_411 ⟨Nat.le_of_ble_eq_true rfl, Nat.le_of_ble_eq_true rfl⟩ ⟨Nat.zero_le _, Nat.zero_le _⟩ (Nat.le_of_ble_eq_true rfl) ?_
                                have hf_24 := mnI_b h r
                                refine xs_icmp_ge (tgt := 422) (a := 32) (b := (-1)) (la := 2) (lb := 1) (e := 423) F dL_isSinger_414 (by decide) (Or.inr ⟨dL_isSinger_417, rfl, by decide⟩) (Or.inl ⟨dL_isSinger_422, rfl⟩) dL_isSinger_419 (by decide) (by decide) (by omega) ?_
                                refine xj_icmp_ne (tgt := 430) F dL_isSinger_423 (by decide) (by constructor <;> (split <;> omega)) (fun h_25 => ?_) (fun h_25 => ?_)
                                · exact absurd rfl h_25
                                · refine xj_iconst F dL_isSinger_426 ?_
                                  refine x_goto (tgt := 431) F dL_isSinger_427 (by decide) ?_
                                  refine x_iret F FR dL_isSinger_431 rfl (Nat.le_refl _) (Nat.le_refl _) ?_
                                  exact ⟨rfl, q_401⟩
