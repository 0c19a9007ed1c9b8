/-! THE LAW'S SORTING, AND acts -/
set_option maxRecDepth 20000 in
theorem L_sorts_114 {l : Launch} {E : xE} {t : Int} {h v d n : aT} {M : xM} (C : Cl t M h v d n) (ht : t < 999) {row z : Int} (hrow : 0 ≤ row ∧ row < 4) (hz : 0 ≤ z ∧ z ≤ 2) {a : Nat} {y8 : Int} {Y : xY} (F : xFix E (xA E) Y cL_sorts yL_sorts.cls 10) : ∀ (k : Nat) (b : Nat) (σ : Nat → Nat) (h' v' d' : aT) (M_w : xM), Nw M M_w h' v' d' n → a ≤ b ∧ b < (mnI h row).toNat → SP (fL h v d) (fL h' v' d') (6 * row).toNat (mnI h row).toNat z a σ → (∀ x, a ≤ x → x < (mnI h row).toNat → keyF (fL h v d) (6 * row).toNat z (σ b) ≤ keyF (fL h v d) (6 * row).toNat z (σ x) ∧ (x < b → keyF (fL h v d) (6 * row).toNat z (σ b) < keyF (fL h v d) (6 * row).toNat z (σ x))) → (∀ (σ2 : Nat → Nat) (h2 v2 d2 : aT) (M2 : xM), Nw M M2 h2 v2 d2 n → SP (fL h v d) (fL h2 v2 d2) (6 * row).toNat (mnI h row).toNat z (a + 1) σ2 → WP l E (xRm 20 0 0) (xA E) Y 0 0 139 [vA 0, vA 68, vA 69, vA 70, vI (jI row), vI (jI z), vI (jI (6 * row + mnI h row)), vI (jI (6 * row + (a : Int))), vI (jI y8), vI (jI (6 * row + (a : Int)))] [] M2) → b < k → WP l E (xRm 20 0 0) (xA E) Y 0 0 114 [vA 0, vA 68, vA 69, vA 70, vI (jI row), vI (jI z), vI (jI (6 * row + mnI h row)), vI (jI (6 * row + (a : Int))), vI (jI y8), vI (jI (6 * row + (b : Int)))] [] M_w := by
  intro k
  induction k with
  | zero => intro b σ h' v' d' M_w q_w hab hSP hm hex hk; exact absurd hk (Nat.not_lt_zero _)
  | succ k ih =>
    intro b σ h' v' d' M_w q_w hab hSP hm hex hk
    have hb := mnI_b h row
    refine x_iload F dL_sorts_114 rfl ?_
    refine x_iload F dL_sorts_116 rfl ?_
    refine xj_icmp_le (tgt := 139) F dL_sorts_118 (by decide) (by omega) (fun h_1 => ?_) (fun h_1 => ?_)
    · have e9 : b = a := by omega
      subst e9
      exact hex _ _ _ _ _ q_w (SP_up hSP (fun x h1 h2 => (hm x h1 h2).1))
    · obtain ⟨i, rfl⟩ : ∃ i, b = i + 1 := ⟨b - 1, by omega⟩
      have e1 : 6 * row + ((i + 1 : Nat) : Int) = (((6 * row).toNat + i + 1 : Nat) : Int) := by omega
      have e2 : 6 * row + ((i + 1 : Nat) : Int) - 1 = (((6 * row).toNat + i : Nat) : Int) := by omega
      have q9 : Nw M (exA M_w (6 * row + ((i + 1 : Nat) : Int)) (6 * row + ((i + 1 : Nat) : Int) - 1)) (exF h' (((6 * row).toNat + i + 1 : Nat) : Int) (((6 * row).toNat + i : Nat) : Int)) (exF v' (((6 * row).toNat + i + 1 : Nat) : Int) (((6 * row).toNat + i : Nat) : Int)) (exF d' (((6 * row).toNat + i + 1 : Nat) : Int) (((6 * row).toNat + i : Nat) : Int)) n := by
        have q := Nw_ex q_w (s := 6 * row + ((i + 1 : Nat) : Int)) (u := 6 * row + ((i + 1 : Nat) : Int) - 1) (by omega) (by omega)
        rw [e2, e1] at q ⊢
        exact q
      refine x_aload_n F dL_sorts_121 rfl ?_
      refine x_aload_n F dL_sorts_122 rfl ?_
      refine x_aload_n F dL_sorts_123 rfl ?_
      refine x_iload F dL_sorts_124 rfl ?_
      refine x_iload F dL_sorts_126 rfl ?_
      refine xj_iconst F dL_sorts_128 ?_
      refine xj_isub F dL_sorts_129 ?_
      refine x_S5 F (m_L_exchangeAll (by omega) (by omega)) mlL_103 msL_exchangeAll dL_sorts_130 ⟨Nat.le_of_ble_eq_true rfl, Nat.le_of_ble_eq_true rfl⟩ ⟨Nat.zero_le _, Nat.zero_le _⟩ (Nat.le_of_ble_eq_true rfl) ?_
      refine x_nw q9 (fun M_133 q_133 => ?_)
      refine xj_iinc F dL_sorts_133 rfl ?_
      refine x_goto (tgt := 114) F dL_sorts_136 (by decide) ?_
      have g := ih i _ _ _ _ _ q_133 (by omega) (SP_sw hSP (by omega) (by omega) (by omega) ((hm i (by omega) (by omega)).2 (by omega)) (fL_ex (by omega))) (mn_sw (κ := keyF (fL h v d) (6 * row).toNat z) (by omega) (by omega) hm) hex (by omega)
      rw [show 6 * row + (i : Int) = 6 * row + ((i + 1 : Nat) : Int) + (-1) by omega] at g
      exact g
set_option maxRecDepth 20000 in
theorem L_sorts_38 {l : Launch} {E : xE} {t : Int} {h v d n : aT} {M : xM} (C : Cl t M h v d n) (ht : t < 999) {row z : Int} (hrow : 0 ≤ row ∧ row < 4) (hz : 0 ≤ z ∧ z ≤ 2) {a : Nat} {σ : Nat → Nat} {h' v' d' : aT} {M_w : xM} (q_w : Nw M M_w h' v' d' n) (hSP : SP (fL h v d) (fL h' v' d') (6 * row).toNat (mnI h row).toNat z a σ) {Y : xY} (F : xFix E (xA E) Y cL_sorts yL_sorts.cls 10) : ∀ (k : Nat) (b c : Nat), a ≤ b ∧ b < c ∧ c ≤ (mnI h row).toNat → (∀ x, a ≤ x → x < c → keyF (fL h v d) (6 * row).toNat z (σ b) ≤ keyF (fL h v d) (6 * row).toNat z (σ x) ∧ (x < b → keyF (fL h v d) (6 * row).toNat z (σ b) < keyF (fL h v d) (6 * row).toNat z (σ x))) → (∀ (b : Nat) (y9 : xV), a ≤ b ∧ b < (mnI h row).toNat → (∀ x, a ≤ x → x < (mnI h row).toNat → keyF (fL h v d) (6 * row).toNat z (σ b) ≤ keyF (fL h v d) (6 * row).toNat z (σ x) ∧ (x < b → keyF (fL h v d) (6 * row).toNat z (σ b) < keyF (fL h v d) (6 * row).toNat z (σ x))) → WP l E (xRm 20 0 0) (xA E) Y 0 0 110 [vA 0, vA 68, vA 69, vA 70, vI (jI row), vI (jI z), vI (jI (6 * row + mnI h row)), vI (jI (6 * row + (a : Int))), vI (jI (6 * row + (b : Int))), y9] [] M_w) → (mnI h row).toNat - c < k → WP l E (xRm 20 0 0) (xA E) Y 0 0 38 [vA 0, vA 68, vA 69, vA 70, vI (jI row), vI (jI z), vI (jI (6 * row + mnI h row)), vI (jI (6 * row + (a : Int))), vI (jI (6 * row + (b : Int))), vI (jI (6 * row + (c : Int)))] [] M_w := by
  intro k
  induction k with
  | zero => intro b c hab hm hex hk; exact absurd hk (Nat.not_lt_zero _)
  | succ k ih =>
    intro b c hab hm hex hk
    have hb := mnI_b h row
    refine x_iload F dL_sorts_38 rfl ?_
    refine x_iload F dL_sorts_40 rfl ?_
    refine xj_icmp_ge (tgt := 110) F dL_sorts_42 (by decide) (by omega) (fun h_1 => ?_) (fun h_1 => ?_)
    · exact hex b _ (by omega) (fun x h1 h2 => hm x h1 (by omega))
    · obtain ⟨kc0, kc1, kc2⟩ := SP_key (x := c) (show 6 * row = (((6 * row).toNat : Nat) : Int) by omega) hSP (by omega) (by omega)
      obtain ⟨kb0, kb1, kb2⟩ := SP_key (x := b) (show 6 * row = (((6 * row).toNat : Nat) : Int) by omega) hSP (by omega) (by omega)
      refine x_iload F dL_sorts_45 rfl ?_
      refine xj_iconst F dL_sorts_47 ?_
      refine xj_icmp_ne (tgt := 62) F dL_sorts_48 (by decide) (by omega) (fun h_2 => ?_) (fun h_2 => ?_)
      · refine x_iload F dL_sorts_62 rfl ?_
        refine xj_if_ne (tgt := 78) F dL_sorts_64 (by decide) (by omega) (fun h_3 => ?_) (fun h_3 => ?_)
        · refine x_iload F dL_sorts_78 rfl ?_
          refine xj_iconst F dL_sorts_80 ?_
          refine xj_icmp_ne (tgt := 100) F dL_sorts_81 (by decide) (by omega) (fun h_4 => ?_) (fun h_4 => ?_)
          · refine x_iload F dL_sorts_100 rfl ?_
            refine x_istore F dL_sorts_102 (by decide) ?_
            refine xj_iinc F dL_sorts_104 rfl ?_
            refine x_goto (tgt := 38) F dL_sorts_107 (by decide) ?_
            rw [show 6 * row + (c : Int) + 1 = 6 * row + ((c + 1 : Nat) : Int) by omega]
            first
              | exact ih c (c + 1) (by omega) (mn_take (κ := keyF (fL h v d) (6 * row).toNat z) hm (by omega)) hex (by omega)
              | exact ih b (c + 1) (by omega) (mn_keep (κ := keyF (fL h v d) (6 * row).toNat z) hm (by omega) (by omega)) hex (by omega)
          · refine x_aload_n F dL_sorts_84 rfl ?_
            refine x_iload F dL_sorts_85 rfl ?_
            refine xf_hald (f := h') (j := ((6 * row + (c : Int))).toNat) F (Or.inl rfl) q_w.2.2.1 dL_sorts_87 (by omega) rfl (fun hg_5 => ?_)
            refine x_aload_n F dL_sorts_88 rfl ?_
            refine x_iload F dL_sorts_89 rfl ?_
            refine xf_hald (f := h') (j := ((6 * row + (b : Int))).toNat) F (Or.inl rfl) q_w.2.2.1 dL_sorts_91 (by omega) rfl (fun hg_6 => ?_)
            refine xj_icmp_le (tgt := 100) F dL_sorts_92 (by decide) (by omega) (fun h_7 => ?_) (fun h_7 => ?_)
            · refine x_iload F dL_sorts_100 rfl ?_
              refine x_istore F dL_sorts_102 (by decide) ?_
              refine xj_iinc F dL_sorts_104 rfl ?_
              refine x_goto (tgt := 38) F dL_sorts_107 (by decide) ?_
              rw [show 6 * row + (c : Int) + 1 = 6 * row + ((c + 1 : Nat) : Int) by omega]
              first
                | exact ih c (c + 1) (by omega) (mn_take (κ := keyF (fL h v d) (6 * row).toNat z) hm (by omega)) hex (by omega)
                | exact ih b (c + 1) (by omega) (mn_keep (κ := keyF (fL h v d) (6 * row).toNat z) hm (by omega) (by omega)) hex (by omega)
            · refine x_iload F dL_sorts_95 rfl ?_
              refine x_goto (tgt := 102) F dL_sorts_97 (by decide) ?_
              refine x_istore F dL_sorts_102 (by decide) ?_
              refine xj_iinc F dL_sorts_104 rfl ?_
              refine x_goto (tgt := 38) F dL_sorts_107 (by decide) ?_
              rw [show 6 * row + (c : Int) + 1 = 6 * row + ((c + 1 : Nat) : Int) by omega]
              first
                | exact ih c (c + 1) (by omega) (mn_take (κ := keyF (fL h v d) (6 * row).toNat z) hm (by omega)) hex (by omega)
                | exact ih b (c + 1) (by omega) (mn_keep (κ := keyF (fL h v d) (6 * row).toNat z) hm (by omega) (by omega)) hex (by omega)
        · refine x_aload_n F dL_sorts_67 rfl ?_
          refine x_iload F dL_sorts_68 rfl ?_
          refine xf_hald (f := h') (j := ((6 * row + (c : Int))).toNat) F (Or.inl rfl) q_w.2.2.1 dL_sorts_70 (by omega) rfl (fun hg_8 => ?_)
          refine x_aload_n F dL_sorts_71 rfl ?_
          refine x_iload F dL_sorts_72 rfl ?_
          refine xf_hald (f := h') (j := ((6 * row + (b : Int))).toNat) F (Or.inl rfl) q_w.2.2.1 dL_sorts_74 (by omega) rfl (fun hg_9 => ?_)
          refine xj_icmp_lt (tgt := 95) F dL_sorts_75 (by decide) (by omega) (fun h_10 => ?_) (fun h_10 => ?_)
          · refine x_iload F dL_sorts_95 rfl ?_
            refine x_goto (tgt := 102) F dL_sorts_97 (by decide) ?_
            refine x_istore F dL_sorts_102 (by decide) ?_
            refine xj_iinc F dL_sorts_104 rfl ?_
            refine x_goto (tgt := 38) F dL_sorts_107 (by decide) ?_
            rw [show 6 * row + (c : Int) + 1 = 6 * row + ((c + 1 : Nat) : Int) by omega]
            first
              | exact ih c (c + 1) (by omega) (mn_take (κ := keyF (fL h v d) (6 * row).toNat z) hm (by omega)) hex (by omega)
              | exact ih b (c + 1) (by omega) (mn_keep (κ := keyF (fL h v d) (6 * row).toNat z) hm (by omega) (by omega)) hex (by omega)
          · refine x_iload F dL_sorts_78 rfl ?_
            refine xj_iconst F dL_sorts_80 ?_
            refine xj_icmp_ne (tgt := 100) F dL_sorts_81 (by decide) (by omega) (fun h_11 => ?_) (fun h_11 => ?_)
            · refine x_iload F dL_sorts_100 rfl ?_
              refine x_istore F dL_sorts_102 (by decide) ?_
              refine xj_iinc F dL_sorts_104 rfl ?_
              refine x_goto (tgt := 38) F dL_sorts_107 (by decide) ?_
              rw [show 6 * row + (c : Int) + 1 = 6 * row + ((c + 1 : Nat) : Int) by omega]
              first
                | exact ih c (c + 1) (by omega) (mn_take (κ := keyF (fL h v d) (6 * row).toNat z) hm (by omega)) hex (by omega)
                | exact ih b (c + 1) (by omega) (mn_keep (κ := keyF (fL h v d) (6 * row).toNat z) hm (by omega) (by omega)) hex (by omega)
            · refine x_aload_n F dL_sorts_84 rfl ?_
              refine x_iload F dL_sorts_85 rfl ?_
              refine xf_hald (f := h') (j := ((6 * row + (c : Int))).toNat) F (Or.inl rfl) q_w.2.2.1 dL_sorts_87 (by omega) rfl (fun hg_12 => ?_)
              refine x_aload_n F dL_sorts_88 rfl ?_
              refine x_iload F dL_sorts_89 rfl ?_
              refine xf_hald (f := h') (j := ((6 * row + (b : Int))).toNat) F (Or.inl rfl) q_w.2.2.1 dL_sorts_91 (by omega) rfl (fun hg_13 => ?_)
              refine xj_icmp_le (tgt := 100) F dL_sorts_92 (by decide) (by omega) (fun h_14 => ?_) (fun h_14 => ?_)
              · refine x_iload F dL_sorts_100 rfl ?_
                refine x_istore F dL_sorts_102 (by decide) ?_
                refine xj_iinc F dL_sorts_104 rfl ?_
                refine x_goto (tgt := 38) F dL_sorts_107 (by decide) ?_
                rw [show 6 * row + (c : Int) + 1 = 6 * row + ((c + 1 : Nat) : Int) by omega]
                first
                  | exact ih c (c + 1) (by omega) (mn_take (κ := keyF (fL h v d) (6 * row).toNat z) hm (by omega)) hex (by omega)
                  | exact ih b (c + 1) (by omega) (mn_keep (κ := keyF (fL h v d) (6 * row).toNat z) hm (by omega) (by omega)) hex (by omega)
              · refine x_iload F dL_sorts_95 rfl ?_
                refine x_goto (tgt := 102) F dL_sorts_97 (by decide) ?_
                refine x_istore F dL_sorts_102 (by decide) ?_
                refine xj_iinc F dL_sorts_104 rfl ?_
                refine x_goto (tgt := 38) F dL_sorts_107 (by decide) ?_
                rw [show 6 * row + (c : Int) + 1 = 6 * row + ((c + 1 : Nat) : Int) by omega]
                first
                  | exact ih c (c + 1) (by omega) (mn_take (κ := keyF (fL h v d) (6 * row).toNat z) hm (by omega)) hex (by omega)
                  | exact ih b (c + 1) (by omega) (mn_keep (κ := keyF (fL h v d) (6 * row).toNat z) hm (by omega) (by omega)) hex (by omega)
      · refine x_aload_n F dL_sorts_51 rfl ?_
        refine x_iload F dL_sorts_52 rfl ?_
        refine xf_hald (f := v') (j := ((6 * row + (c : Int))).toNat) F (Or.inl rfl) q_w.2.2.2.1 dL_sorts_54 (by omega) rfl (fun hg_15 => ?_)
        refine x_aload_n F dL_sorts_55 rfl ?_
        refine x_iload F dL_sorts_56 rfl ?_
        refine xf_hald (f := v') (j := ((6 * row + (b : Int))).toNat) F (Or.inl rfl) q_w.2.2.2.1 dL_sorts_58 (by omega) rfl (fun hg_16 => ?_)
        refine xj_icmp_lt (tgt := 95) F dL_sorts_59 (by decide) (by omega) (fun h_17 => ?_) (fun h_17 => ?_)
        · refine x_iload F dL_sorts_95 rfl ?_
          refine x_goto (tgt := 102) F dL_sorts_97 (by decide) ?_
          refine x_istore F dL_sorts_102 (by decide) ?_
          refine xj_iinc F dL_sorts_104 rfl ?_
          refine x_goto (tgt := 38) F dL_sorts_107 (by decide) ?_
          rw [show 6 * row + (c : Int) + 1 = 6 * row + ((c + 1 : Nat) : Int) by omega]
          first
            | exact ih c (c + 1) (by omega) (mn_take (κ := keyF (fL h v d) (6 * row).toNat z) hm (by omega)) hex (by omega)
            | exact ih b (c + 1) (by omega) (mn_keep (κ := keyF (fL h v d) (6 * row).toNat z) hm (by omega) (by omega)) hex (by omega)
        · refine x_iload F dL_sorts_62 rfl ?_
          refine xj_if_ne (tgt := 78) F dL_sorts_64 (by decide) (by omega) (fun h_18 => ?_) (fun h_18 => ?_)
          · refine x_iload F dL_sorts_78 rfl ?_
            refine xj_iconst F dL_sorts_80 ?_
            refine xj_icmp_ne (tgt := 100) F dL_sorts_81 (by decide) (by omega) (fun h_19 => ?_) (fun h_19 => ?_)
            · refine x_iload F dL_sorts_100 rfl ?_
              refine x_istore F dL_sorts_102 (by decide) ?_
              refine xj_iinc F dL_sorts_104 rfl ?_
              refine x_goto (tgt := 38) F dL_sorts_107 (by decide) ?_
              rw [show 6 * row + (c : Int) + 1 = 6 * row + ((c + 1 : Nat) : Int) by omega]
              first
                | exact ih c (c + 1) (by omega) (mn_take (κ := keyF (fL h v d) (6 * row).toNat z) hm (by omega)) hex (by omega)
                | exact ih b (c + 1) (by omega) (mn_keep (κ := keyF (fL h v d) (6 * row).toNat z) hm (by omega) (by omega)) hex (by omega)
            · refine x_aload_n F dL_sorts_84 rfl ?_
              refine x_iload F dL_sorts_85 rfl ?_
              refine xf_hald (f := h') (j := ((6 * row + (c : Int))).toNat) F (Or.inl rfl) q_w.2.2.1 dL_sorts_87 (by omega) rfl (fun hg_20 => ?_)
              refine x_aload_n F dL_sorts_88 rfl ?_
              refine x_iload F dL_sorts_89 rfl ?_
              refine xf_hald (f := h') (j := ((6 * row + (b : Int))).toNat) F (Or.inl rfl) q_w.2.2.1 dL_sorts_91 (by omega) rfl (fun hg_21 => ?_)
              refine xj_icmp_le (tgt := 100) F dL_sorts_92 (by decide) (by omega) (fun h_22 => ?_) (fun h_22 => ?_)
              · refine x_iload F dL_sorts_100 rfl ?_
                refine x_istore F dL_sorts_102 (by decide) ?_
                refine xj_iinc F dL_sorts_104 rfl ?_
                refine x_goto (tgt := 38) F dL_sorts_107 (by decide) ?_
                rw [show 6 * row + (c : Int) + 1 = 6 * row + ((c + 1 : Nat) : Int) by omega]
                first
                  | exact ih c (c + 1) (by omega) (mn_take (κ := keyF (fL h v d) (6 * row).toNat z) hm (by omega)) hex (by omega)
                  | exact ih b (c + 1) (by omega) (mn_keep (κ := keyF (fL h v d) (6 * row).toNat z) hm (by omega) (by omega)) hex (by omega)
              · refine x_iload F dL_sorts_95 rfl ?_
                refine x_goto (tgt := 102) F dL_sorts_97 (by decide) ?_
                refine x_istore F dL_sorts_102 (by decide) ?_
                refine xj_iinc F dL_sorts_104 rfl ?_
                refine x_goto (tgt := 38) F dL_sorts_107 (by decide) ?_
                rw [show 6 * row + (c : Int) + 1 = 6 * row + ((c + 1 : Nat) : Int) by omega]
                first
                  | exact ih c (c + 1) (by omega) (mn_take (κ := keyF (fL h v d) (6 * row).toNat z) hm (by omega)) hex (by omega)
                  | exact ih b (c + 1) (by omega) (mn_keep (κ := keyF (fL h v d) (6 * row).toNat z) hm (by omega) (by omega)) hex (by omega)
          · refine x_aload_n F dL_sorts_67 rfl ?_
            refine x_iload F dL_sorts_68 rfl ?_
            refine xf_hald (f := h') (j := ((6 * row + (c : Int))).toNat) F (Or.inl rfl) q_w.2.2.1 dL_sorts_70 (by omega) rfl (fun hg_23 => ?_)
            refine x_aload_n F dL_sorts_71 rfl ?_
            refine x_iload F dL_sorts_72 rfl ?_
            refine xf_hald (f := h') (j := ((6 * row + (b : Int))).toNat) F (Or.inl rfl) q_w.2.2.1 dL_sorts_74 (by omega) rfl (fun hg_24 => ?_)
            refine xj_icmp_lt (tgt := 95) F dL_sorts_75 (by decide) (by omega) (fun h_25 => ?_) (fun h_25 => ?_)
            · refine x_iload F dL_sorts_95 rfl ?_
              refine x_goto (tgt := 102) F dL_sorts_97 (by decide) ?_
              refine x_istore F dL_sorts_102 (by decide) ?_
              refine xj_iinc F dL_sorts_104 rfl ?_
              refine x_goto (tgt := 38) F dL_sorts_107 (by decide) ?_
              rw [show 6 * row + (c : Int) + 1 = 6 * row + ((c + 1 : Nat) : Int) by omega]
              first
                | exact ih c (c + 1) (by omega) (mn_take (κ := keyF (fL h v d) (6 * row).toNat z) hm (by omega)) hex (by omega)
                | exact ih b (c + 1) (by omega) (mn_keep (κ := keyF (fL h v d) (6 * row).toNat z) hm (by omega) (by omega)) hex (by omega)
            · refine x_iload F dL_sorts_78 rfl ?_
              refine xj_iconst F dL_sorts_80 ?_
              refine xj_icmp_ne (tgt := 100) F dL_sorts_81 (by decide) (by omega) (fun h_26 => ?_) (fun h_26 => ?_)
              · refine x_iload F dL_sorts_100 rfl ?_
                refine x_istore F dL_sorts_102 (by decide) ?_
                refine xj_iinc F dL_sorts_104 rfl ?_
                refine x_goto (tgt := 38) F dL_sorts_107 (by decide) ?_
                rw [show 6 * row + (c : Int) + 1 = 6 * row + ((c + 1 : Nat) : Int) by omega]
                first
                  | exact ih c (c + 1) (by omega) (mn_take (κ := keyF (fL h v d) (6 * row).toNat z) hm (by omega)) hex (by omega)
                  | exact ih b (c + 1) (by omega) (mn_keep (κ := keyF (fL h v d) (6 * row).toNat z) hm (by omega) (by omega)) hex (by omega)
              · refine x_aload_n F dL_sorts_84 rfl ?_
                refine x_iload F dL_sorts_85 rfl ?_
                refine xf_hald (f := h') (j := ((6 * row + (c : Int))).toNat) F (Or.inl rfl) q_w.2.2.1 dL_sorts_87 (by omega) rfl (fun hg_27 => ?_)
                refine x_aload_n F dL_sorts_88 rfl ?_
                refine x_iload F dL_sorts_89 rfl ?_
                refine xf_hald (f := h') (j := ((6 * row + (b : Int))).toNat) F (Or.inl rfl) q_w.2.2.1 dL_sorts_91 (by omega) rfl (fun hg_28 => ?_)
                refine xj_icmp_le (tgt := 100) F dL_sorts_92 (by decide) (by omega) (fun h_29 => ?_) (fun h_29 => ?_)
                · refine x_iload F dL_sorts_100 rfl ?_
                  refine x_istore F dL_sorts_102 (by decide) ?_
                  refine xj_iinc F dL_sorts_104 rfl ?_
                  refine x_goto (tgt := 38) F dL_sorts_107 (by decide) ?_
                  rw [show 6 * row + (c : Int) + 1 = 6 * row + ((c + 1 : Nat) : Int) by omega]
                  first
                    | exact ih c (c + 1) (by omega) (mn_take (κ := keyF (fL h v d) (6 * row).toNat z) hm (by omega)) hex (by omega)
                    | exact ih b (c + 1) (by omega) (mn_keep (κ := keyF (fL h v d) (6 * row).toNat z) hm (by omega) (by omega)) hex (by omega)
                · refine x_iload F dL_sorts_95 rfl ?_
                  refine x_goto (tgt := 102) F dL_sorts_97 (by decide) ?_
                  refine x_istore F dL_sorts_102 (by decide) ?_
                  refine xj_iinc F dL_sorts_104 rfl ?_
                  refine x_goto (tgt := 38) F dL_sorts_107 (by decide) ?_
                  rw [show 6 * row + (c : Int) + 1 = 6 * row + ((c + 1 : Nat) : Int) by omega]
                  first
                    | exact ih c (c + 1) (by omega) (mn_take (κ := keyF (fL h v d) (6 * row).toNat z) hm (by omega)) hex (by omega)
                    | exact ih b (c + 1) (by omega) (mn_keep (κ := keyF (fL h v d) (6 * row).toNat z) hm (by omega) (by omega)) hex (by omega)
set_option maxRecDepth 20000 in
theorem L_sorts_21 {l : Launch} {E : xE} {t : Int} {h v d n : aT} {M : xM} (C : Cl t M h v d n) (ht : t < 999) {row z : Int} (hrow : 0 ≤ row ∧ row < 4) (hz : 0 ≤ z ∧ z ≤ 2) {Y : xY} (F : xFix E (xA E) Y cL_sorts yL_sorts.cls 10) (FR : xRet E Y (some FieldType.boolean) 0 0 ((fun r' M' => r' = vI (jI 1) ∧ ∃ h v d n, Cl (t + 1) M' h v d n)) (fun _ _ => False)) : ∀ (k : Nat) (a : Nat) (σ : Nat → Nat) (h' v' d' : aT) (M_w : xM) (y8 y9 : xV), Nw M M_w h' v' d' n → a ≤ (mnI h row).toNat → SP (fL h v d) (fL h' v' d') (6 * row).toNat (mnI h row).toNat z a σ → (mnI h row).toNat - a < k → WP l E (xRm 20 0 0) (xA E) Y 0 0 21 [vA 0, vA 68, vA 69, vA 70, vI (jI row), vI (jI z), vI (jI (6 * row + mnI h row)), vI (jI (6 * row + (a : Int))), y8, y9] [] M_w := by
  intro k
  induction k with
  | zero => intro a σ h' v' d' M_w y8 y9 q_w ha hSP hk; exact absurd hk (Nat.not_lt_zero _)
  | succ k ih =>
    intro a σ h' v' d' M_w y8 y9 q_w ha hSP hk
    have hb := mnI_b h row
    refine x_iload F dL_sorts_21 rfl ?_
    refine x_iload F dL_sorts_23 rfl ?_
    refine xj_icmp_ge (tgt := 145) F dL_sorts_25 (by decide) (by omega) (fun h_1 => ?_) (fun h_1 => ?_)
    · have e9 : a = (mnI h row).toNat := by omega
      subst e9
      have hok := Cl_ok C q_w
      refine x_aload_n F dL_sorts_145 rfl ?_
      refine x_iload F dL_sorts_146 rfl ?_
      refine x_iload F dL_sorts_148 rfl ?_
      refine x_V2 F (m_X6_sort hok.1 hok.2.1 hrow hz) mlL_113 mvX6_sort rfl dL_sorts_150 (by decide) rfl ⟨Nat.le_of_ble_eq_true rfl, Nat.le_of_ble_eq_true rfl⟩ ⟨Nat.zero_le _, Nat.zero_le _⟩ (Nat.le_of_ble_eq_true rfl) ?_
      have c9 := Cl_sort C hrow hz q_w hSP
      rw [Cl_dc c9 row]
      refine x_cl (c9) (fun M_153 q_153 => ?_)
      refine x_aload_n F dL_sorts_153 rfl ?_
      refine x_iload F dL_sorts_154 rfl ?_
      refine x_S2 F (m_L_discord (n := n) (Or.inl rfl) q_153.2.2.1 hrow) mlL_50 msL_discord dL_sorts_156 ⟨Nat.le_of_ble_eq_true rfl, Nat.le_of_ble_eq_true rfl⟩ ⟨Nat.zero_le _, Nat.zero_le _⟩ (Nat.le_of_ble_eq_true rfl) ?_
      have hf_2 := dcI_b (vC_hS h' n) row
      refine xj_icmp_ne (tgt := 166) F dL_sorts_159 (by decide) (by omega) (fun h_3 => ?_) (fun h_3 => ?_)
      · exfalso
        omega
      · refine xj_iconst F dL_sorts_162 ?_
        refine x_goto (tgt := 167) F dL_sorts_163 (by decide) ?_
        refine x_iret F FR dL_sorts_167 rfl (Nat.le_refl _) (Nat.le_refl _) ?_
        exact ⟨rfl, _, _, _, _, Cl_mono q_153 (by omega)⟩
    · refine x_iload F dL_sorts_28 rfl ?_
      refine x_istore F dL_sorts_30 (by decide) ?_
      refine x_iload F dL_sorts_32 rfl ?_
      refine xj_iconst F dL_sorts_34 ?_
      refine xj_iadd F dL_sorts_35 ?_
      refine x_istore F dL_sorts_36 (by decide) ?_
      rw [show 6 * row + (a : Int) + 1 = 6 * row + ((a + 1 : Nat) : Int) by omega]
      refine L_sorts_38 C ht hrow hz q_w hSP F _ a (a + 1) (by omega) (fun x h1 h2 => by rw [show x = a by omega]; exact ⟨Int.le_refl _, fun z => by omega⟩) (fun b y9 hb9 hm9 => ?_) (Nat.lt_succ_self _)
      refine x_iload F dL_sorts_110 rfl ?_
      refine x_istore F dL_sorts_112 (by decide) ?_
      refine L_sorts_114 C ht hrow hz (a := a) F _ b σ h' v' d' M_w q_w hb9 hSP hm9 (fun σ2 h2 v2 d2 M2 q2 hSP2 => ?_) (Nat.lt_succ_self _)
      refine xj_iinc F dL_sorts_139 rfl ?_
      refine x_goto (tgt := 21) F dL_sorts_142 (by decide) ?_
      rw [show 6 * row + (a : Int) + 1 = 6 * row + ((a + 1 : Nat) : Int) by omega]
      exact ih (a + 1) _ _ _ _ _ _ _ q2 (by omega) hSP2 (by omega)
set_option maxRecDepth 20000 in
theorem m_L_sorts {l : Launch} {E : xE} {t : Int} {h v d n : aT} {M : xM} (C : Cl t M h v d n) (ht : t < 999) {row z : Int} (hrow : 0 ≤ row ∧ row < 4) (hz : 0 ≤ z ∧ z ≤ 2) : XP l E 20 yL_sorts cL_sorts 10 (some FieldType.boolean) [vA 0, vA 68, vA 69, vA 70, vI (jI row), vI (jI z)] M (fun r' M' => r' = vI (jI 1) ∧ ∃ h v d n, Cl (t + 1) M' h v d n) := by
  refine xp_start (plainFor_of_name (by decide)) rfl (Nat.le_of_ble_eq_true rfl) ?_
  intro Y F FR
  refine xj_bipush F dL_sorts_0 (by decide) ?_
  refine x_iload F dL_sorts_2 rfl ?_
  refine xj_imul F dL_sorts_4 ?_
  refine x_aload_n F dL_sorts_5 rfl ?_
  refine x_iload F dL_sorts_6 rfl ?_
  refine x_S2 F (m_L_many (Or.inl rfl) (Nw_0 C).2.2.1 hrow) mlL_9 msL_many dL_sorts_8 ⟨Nat.le_of_ble_eq_true rfl, Nat.le_of_ble_eq_true rfl⟩ ⟨Nat.zero_le _, Nat.zero_le _⟩ (Nat.le_of_ble_eq_true rfl) ?_
  have hf_1 := mnI_b h row
  refine xj_iadd F dL_sorts_11 ?_
  refine x_istore F dL_sorts_12 (by decide) ?_
  refine xj_bipush F dL_sorts_14 (by decide) ?_
  refine x_iload F dL_sorts_16 rfl ?_
  refine xj_imul F dL_sorts_18 ?_
  refine x_istore F dL_sorts_19 (by decide) ?_
  have hb := mnI_b h row
  have g := fun (y8 y9 : xV) => L_sorts_21 (l := l) C ht hrow hz F FR _ 0 (fun p => p) h v d M y8 y9 (Nw_0 C) (by omega) (SP_0 _ _ _ _) (Nat.lt_succ_self _)
  rw [show 6 * row + ((0 : Nat) : Int) = 6 * row by omega] at g
  exact g _ _
set_option maxRecDepth 20000 in
theorem acts_263 {l : Launch} {E : xE} {t : Int} {h v d n : aT} {M : xM} (C : Cl t M h v d n) (ht : t < 999) {x : Int32} {op : Int} (hop : 0 ≤ op ∧ op < 12) {s0 X : Int} (hs : s0 = 0 ∨ s0 = 1) (hX : (s0 = 0 → 1 ≤ X ∧ X ≤ 6) ∧ (s0 = 1 → 0 ≤ X ∧ X ≤ 1)) {Y : xY} (F : xFix E (xA E) Y cL_acts yL_acts.cls 12) (FR : xRet E Y (some FieldType.boolean) 0 0 (fun r' M' => r' = vI (jI 1) ∧ ∃ h v d n, Cl (t + 1) M' h v d n) (fun _ _ => False)) : WP l E (xRm 21 0 0) (xA E) Y 0 0 263 [vA 0, vA 68, vA 69, vA 70, vA 71, vI (jI op), vI x, vU, vU, vU, vI (jI s0), vI (jI (n s0.toNat).toInt)] [vI (jI X), vI (jI s0), vA 71] M := by
  have hng := rg_of (n s0.toNat)
  refine xj_iast F (rfl : xk 71 = (8, 5)) dL_acts_263 (by omega) ?_
  refine x_nw (Nw_71 (Nw_0 C)) (fun M_264 q_264 => ?_)
  have hok := Cl_ok C q_264
  refine x_aload_n F dL_acts_264 rfl ?_
  refine x_iload F dL_acts_265 rfl ?_
  refine x_aload F dL_acts_267 rfl ?_
  refine x_iload F dL_acts_269 rfl ?_
  refine xf_nald (f := (upd n (s0).toNat (jI X))) (j := (s0).toNat) F (rfl : xk 71 = (8, 5)) q_264.2.2.2.2.2 dL_acts_271 (by omega) rfl (fun hg_1 => ?_)
  rw [upd_i (by omega)]
  refine x_V2 F (m_X6_set hok.1 hok.2.1 (by omega) ⟨hX.1, hX.2, by omega⟩) mlL_140 mvX6_set rfl dL_acts_272 (by decide) rfl ⟨Nat.le_of_ble_eq_true rfl, Nat.le_of_ble_eq_true rfl⟩ ⟨Nat.zero_le _, Nat.zero_le _⟩ (Nat.le_of_ble_eq_true rfl) ?_
  rw [Cl_st C hs q_264]
  refine x_cl (Cl_set C hs hX q_264) (fun M_275 q_275 => ?_)
  refine x_iload F dL_acts_275 rfl ?_
  refine xj_icmp_ne (tgt := 284) F dL_acts_277 (by decide) (by omega) (fun h_2 => ?_) (fun h_2 => ?_)
  · exfalso
    omega
  · refine xj_iconst F dL_acts_280 ?_
    refine x_goto (tgt := 285) F dL_acts_281 (by decide) ?_
    refine x_iret F FR dL_acts_285 rfl (Nat.le_refl _) (Nat.le_refl _) ?_
    exact ⟨rfl, _, _, _, _, Cl_mono q_275 (by omega)⟩
set_option maxRecDepth 20000 in
theorem m_L_acts {l : Launch} {E : xE} {t : Int} {h v d n : aT} {M : xM} (C : Cl t M h v d n) (ht : t < 999) {x : Int32} {op : Int} (hop : 0 ≤ op ∧ op < 12) : XP l E 21 yL_acts cL_acts 12 (some FieldType.boolean) [vA 0, vA 68, vA 69, vA 70, vA 71, vI (jI op), vI x] M (fun r' M' => r' = vI (jI 1) ∧ ∃ h v d n, Cl (t + 1) M' h v d n) := by
  refine xp_start (plainFor_of_name (by decide)) rfl (Nat.le_of_ble_eq_true rfl) ?_
  intro Y F FR
  refine x_iload F dL_acts_0 rfl ?_
  by_cases h_1 : op = 0
  · refine xj_tabIn (off := 54) (tgt := 56) F dL_acts_2 (by omega) (by omega) (by rw [h_1]; rfl) (by decide) (by omega) ?_
    refine x_aload_n F dL_acts_56 rfl ?_
    refine x_aload_n F dL_acts_57 rfl ?_
    refine x_aload_n F dL_acts_58 rfl ?_
    refine x_aload_n F dL_acts_59 rfl ?_
    refine x_aload F dL_acts_60 rfl ?_
    refine x_iload F dL_acts_62 rfl ?_
    refine x_S6P F (m_L_joins C ht) mlL_116 msL_joins dL_acts_64 ⟨Nat.le_of_ble_eq_true rfl, Nat.le_of_ble_eq_true rfl⟩ ⟨Nat.zero_le _, Nat.zero_le _⟩ (Nat.le_of_ble_eq_true rfl) (fun r_64 M_64 q_64 => ?_)
    obtain ⟨rfl, h9, v9, d9, n9, q_64⟩ := q_64
    refine x_iret F FR dL_acts_67 rfl (Nat.le_refl _) (Nat.le_refl _) ?_
    exact ⟨rfl, _, _, _, _, q_64⟩
  by_cases h_2 : op = 1
  · refine xj_tabIn (off := 54) (tgt := 56) F dL_acts_2 (by omega) (by omega) (by rw [h_2]; rfl) (by decide) (by omega) ?_
    refine x_aload_n F dL_acts_56 rfl ?_
    refine x_aload_n F dL_acts_57 rfl ?_
    refine x_aload_n F dL_acts_58 rfl ?_
    refine x_aload_n F dL_acts_59 rfl ?_
    refine x_aload F dL_acts_60 rfl ?_
    refine x_iload F dL_acts_62 rfl ?_
    refine x_S6P F (m_L_joins C ht) mlL_116 msL_joins dL_acts_64 ⟨Nat.le_of_ble_eq_true rfl, Nat.le_of_ble_eq_true rfl⟩ ⟨Nat.zero_le _, Nat.zero_le _⟩ (Nat.le_of_ble_eq_true rfl) (fun r_64 M_64 q_64 => ?_)
    obtain ⟨rfl, h9, v9, d9, n9, q_64⟩ := q_64
    refine x_iret F FR dL_acts_67 rfl (Nat.le_refl _) (Nat.le_refl _) ?_
    exact ⟨rfl, _, _, _, _, q_64⟩
  by_cases h_3 : op = 2
  · refine xj_tabIn (off := 54) (tgt := 56) F dL_acts_2 (by omega) (by omega) (by rw [h_3]; rfl) (by decide) (by omega) ?_
    refine x_aload_n F dL_acts_56 rfl ?_
    refine x_aload_n F dL_acts_57 rfl ?_
    refine x_aload_n F dL_acts_58 rfl ?_
    refine x_aload_n F dL_acts_59 rfl ?_
    refine x_aload F dL_acts_60 rfl ?_
    refine x_iload F dL_acts_62 rfl ?_
    refine x_S6P F (m_L_joins C ht) mlL_116 msL_joins dL_acts_64 ⟨Nat.le_of_ble_eq_true rfl, Nat.le_of_ble_eq_true rfl⟩ ⟨Nat.zero_le _, Nat.zero_le _⟩ (Nat.le_of_ble_eq_true rfl) (fun r_64 M_64 q_64 => ?_)
    obtain ⟨rfl, h9, v9, d9, n9, q_64⟩ := q_64
    refine x_iret F FR dL_acts_67 rfl (Nat.le_refl _) (Nat.le_refl _) ?_
    exact ⟨rfl, _, _, _, _, q_64⟩
  by_cases h_4 : op = 3
  · refine xj_tabIn (off := 66) (tgt := 68) F dL_acts_2 (by omega) (by omega) (by rw [h_4]; rfl) (by decide) (by omega) ?_
    refine x_aload_n F dL_acts_68 rfl ?_
    refine x_aload_n F dL_acts_69 rfl ?_
    refine x_aload_n F dL_acts_70 rfl ?_
    refine x_aload_n F dL_acts_71 rfl ?_
    refine x_aload F dL_acts_72 rfl ?_
    refine x_iload F dL_acts_74 rfl ?_
    refine x_S6P F (m_L_leaves C ht) mlL_120 msL_leaves dL_acts_76 ⟨Nat.le_of_ble_eq_true rfl, Nat.le_of_ble_eq_true rfl⟩ ⟨Nat.zero_le _, Nat.zero_le _⟩ (Nat.le_of_ble_eq_true rfl) (fun r_76 M_76 q_76 => ?_)
    obtain ⟨rfl, h9, v9, d9, n9, q_76⟩ := q_76
    refine x_iret F FR dL_acts_79 rfl (Nat.le_refl _) (Nat.le_refl _) ?_
    exact ⟨rfl, _, _, _, _, q_76⟩
  by_cases h_5 : op = 4
  · refine xj_tabIn (off := 78) (tgt := 80) F dL_acts_2 (by omega) (by omega) (by rw [h_5]; rfl) (by decide) (by omega) ?_
    refine x_aload_n F dL_acts_80 rfl ?_
    refine x_iload F dL_acts_81 rfl ?_
    refine x_S2P F (m_L_some (Nw_0 C).2.2.1) mlL_67 msL_some dL_acts_83 ⟨Nat.le_of_ble_eq_true rfl, Nat.le_of_ble_eq_true rfl⟩ ⟨Nat.zero_le _, Nat.zero_le _⟩ (Nat.le_of_ble_eq_true rfl) (fun r_83 M_83 q_83 => ?_)
    obtain ⟨z_83, rfl, rfl, hz_83⟩ := q_83
    refine x_istore F dL_acts_86 (by decide) ?_
    refine x_iload F dL_acts_88 rfl ?_
    refine xj_if_ge (tgt := 97) F dL_acts_90 (by decide) (by omega) (fun h_6 => ?_) (fun h_6 => ?_)
    · refine x_aload_n F dL_acts_97 rfl ?_
      refine x_iload F dL_acts_98 rfl ?_
      refine xf_hald (f := h) (j := (z_83).toNat) F (Or.inl rfl) (Nw_0 C).2.2.1 dL_acts_100 (by omega) rfl (fun hg_7 => ?_)
      refine x_istore F dL_acts_101 (by decide) ?_
      refine xj_bipush F dL_acts_103 (by decide) ?_
      refine x_iload F dL_acts_105 rfl ?_
      refine xj_iconst F dL_acts_107 ?_
      refine x_ishr F dL_acts_108 ?_
      refine xj_bipush F dL_acts_109 (by decide) ?_
      refine x_S2 F (m_L_low (by decide)) mlL_64 msL_low dL_acts_111 ⟨Nat.le_of_ble_eq_true rfl, Nat.le_of_ble_eq_true rfl⟩ ⟨Nat.zero_le _, Nat.zero_le _⟩ (Nat.le_of_ble_eq_true rfl) ?_
      have hl_gl := lowI_b (x >>> (jI 4 &&& 31)) (b := 121) (by decide)
      obtain ⟨gl, h_gl⟩ : ∃ z, lowI (x >>> (jI 4 &&& 31)) 121 = z := ⟨_, rfl⟩
      rw [h_gl] at hl_gl
      rw [h_gl]
      refine xj_iadd F dL_acts_114 ?_
      refine x_istore F dL_acts_115 (by decide) ?_
      refine x_iload F dL_acts_117 rfl ?_
      refine xj_if_ge (tgt := 124) F dL_acts_119 (by decide) (by omega) (fun h_8 => ?_) (fun h_8 => ?_)
      · have hz : vz h z_83 := hz_83.resolve_left (fun z => by omega)
        have hbz := hz.1
        obtain ⟨p1, p2, p3⟩ := vz_mn C.1.2.1 hz
        refine x_aload_n F dL_acts_124 rfl ?_
        refine x_iload F dL_acts_125 rfl ?_
        refine x_iload F dL_acts_127 rfl ?_
        refine xf_hast F (Or.inl rfl) dL_acts_129 (by omega) ?_
        refine x_nw (Nw_68 (Nw_0 C)) (fun M_130 q_130 => ?_)
        have hok := Cl_ok C q_130
        refine x_aload_n F dL_acts_130 rfl ?_
        refine x_iload F dL_acts_131 rfl ?_
        refine xj_bipush F dL_acts_133 (by decide) ?_
        refine xj_idiv F dL_acts_135 (by omega) ?_
        refine x_iload F dL_acts_136 rfl ?_
        refine xj_bipush F dL_acts_138 (by decide) ?_
        refine xj_irem F dL_acts_140 (by omega) ?_
        refine x_iload F dL_acts_141 rfl ?_
        refine x_V3 F (m_X6_grow hok.1 hok.2.1 p1 ⟨p2.1, by rw [hok.2.2 _ p1]; exact p2.2, by omega⟩ (by omega)) mlL_123 mvX6_grow rfl dL_acts_143 (by decide) rfl ⟨Nat.le_of_ble_eq_true rfl, Nat.le_of_ble_eq_true rfl⟩ ⟨Nat.zero_le _, Nat.zero_le _⟩ (Nat.le_of_ble_eq_true rfl) ?_
        rw [Cl_gr C hz q_130]
        refine x_cl (Cl_grow C hz (by omega) q_130) (fun M_146 q_146 => ?_)
        refine x_iload F dL_acts_146 rfl ?_
        refine xj_icmp_ne (tgt := 155) F dL_acts_148 (by decide) (by omega) (fun h_9 => ?_) (fun h_9 => ?_)
        · exfalso
          omega
        · refine xj_iconst F dL_acts_151 ?_
          refine x_goto (tgt := 156) F dL_acts_152 (by decide) ?_
          refine x_iret F FR dL_acts_156 rfl (Nat.le_refl _) (Nat.le_refl _) ?_
          exact ⟨rfl, _, _, _, _, Cl_mono q_146 (by omega)⟩
      · refine xj_iconst F dL_acts_122 ?_
        refine x_iret F FR dL_acts_123 rfl (Nat.le_refl _) (Nat.le_refl _) ?_
        exact ⟨rfl, _, _, _, _, Cl_mono C (by omega)⟩
    · refine xj_iconst F dL_acts_93 ?_
      refine x_goto (tgt := 101) F dL_acts_94 (by decide) ?_
      refine x_istore F dL_acts_101 (by decide) ?_
      refine xj_bipush F dL_acts_103 (by decide) ?_
      refine x_iload F dL_acts_105 rfl ?_
      refine xj_iconst F dL_acts_107 ?_
      refine x_ishr F dL_acts_108 ?_
      refine xj_bipush F dL_acts_109 (by decide) ?_
      refine x_S2 F (m_L_low (by decide)) mlL_64 msL_low dL_acts_111 ⟨Nat.le_of_ble_eq_true rfl, Nat.le_of_ble_eq_true rfl⟩ ⟨Nat.zero_le _, Nat.zero_le _⟩ (Nat.le_of_ble_eq_true rfl) ?_
      have hl_gl := lowI_b (x >>> (jI 4 &&& 31)) (b := 121) (by decide)
      obtain ⟨gl, h_gl⟩ : ∃ z, lowI (x >>> (jI 4 &&& 31)) 121 = z := ⟨_, rfl⟩
      rw [h_gl] at hl_gl
      rw [h_gl]
      refine xj_iadd F dL_acts_114 ?_
      refine x_istore F dL_acts_115 (by decide) ?_
      refine x_iload F dL_acts_117 rfl ?_
      refine xj_if_ge (tgt := 124) F dL_acts_119 (by decide) (by omega) (fun h_10 => ?_) (fun h_10 => ?_)
      · have hz : vz h z_83 := hz_83.resolve_left (fun z => by omega)
        have hbz := hz.1
        obtain ⟨p1, p2, p3⟩ := vz_mn C.1.2.1 hz
        refine x_aload_n F dL_acts_124 rfl ?_
        refine x_iload F dL_acts_125 rfl ?_
        refine x_iload F dL_acts_127 rfl ?_
        refine xf_hast F (Or.inl rfl) dL_acts_129 (by omega) ?_
        refine x_nw (Nw_68 (Nw_0 C)) (fun M_130 q_130 => ?_)
        have hok := Cl_ok C q_130
        refine x_aload_n F dL_acts_130 rfl ?_
        refine x_iload F dL_acts_131 rfl ?_
        refine xj_bipush F dL_acts_133 (by decide) ?_
        refine xj_idiv F dL_acts_135 (by omega) ?_
        refine x_iload F dL_acts_136 rfl ?_
        refine xj_bipush F dL_acts_138 (by decide) ?_
        refine xj_irem F dL_acts_140 (by omega) ?_
        refine x_iload F dL_acts_141 rfl ?_
        refine x_V3 F (m_X6_grow hok.1 hok.2.1 p1 ⟨p2.1, by rw [hok.2.2 _ p1]; exact p2.2, by omega⟩ (by omega)) mlL_123 mvX6_grow rfl dL_acts_143 (by decide) rfl ⟨Nat.le_of_ble_eq_true rfl, Nat.le_of_ble_eq_true rfl⟩ ⟨Nat.zero_le _, Nat.zero_le _⟩ (Nat.le_of_ble_eq_true rfl) ?_
        rw [Cl_gr C hz q_130]
        refine x_cl (Cl_grow C hz (by omega) q_130) (fun M_146 q_146 => ?_)
        refine x_iload F dL_acts_146 rfl ?_
        refine xj_icmp_ne (tgt := 155) F dL_acts_148 (by decide) (by omega) (fun h_11 => ?_) (fun h_11 => ?_)
        · exfalso
          omega
        · refine xj_iconst F dL_acts_151 ?_
          refine x_goto (tgt := 156) F dL_acts_152 (by decide) ?_
          refine x_iret F FR dL_acts_156 rfl (Nat.le_refl _) (Nat.le_refl _) ?_
          exact ⟨rfl, _, _, _, _, Cl_mono q_146 (by omega)⟩
      · refine xj_iconst F dL_acts_122 ?_
        refine x_iret F FR dL_acts_123 rfl (Nat.le_refl _) (Nat.le_refl _) ?_
        exact ⟨rfl, _, _, _, _, Cl_mono C (by omega)⟩
  by_cases h_12 : op = 5
  · refine xj_tabIn (off := 155) (tgt := 157) F dL_acts_2 (by omega) (by omega) (by rw [h_12]; rfl) (by decide) (by omega) ?_
    refine x_aload_n F dL_acts_157 rfl ?_
    refine x_aload_n F dL_acts_158 rfl ?_
    refine x_aload_n F dL_acts_159 rfl ?_
    refine x_aload_n F dL_acts_160 rfl ?_
    refine x_aload F dL_acts_161 rfl ?_
    refine x_iload F dL_acts_163 rfl ?_
    refine x_S6P F (m_L_swaps C ht) mlL_126 msL_swaps dL_acts_165 ⟨Nat.le_of_ble_eq_true rfl, Nat.le_of_ble_eq_true rfl⟩ ⟨Nat.zero_le _, Nat.zero_le _⟩ (Nat.le_of_ble_eq_true rfl) (fun r_165 M_165 q_165 => ?_)
    obtain ⟨rfl, h9, v9, d9, n9, q_165⟩ := q_165
    refine x_iret F FR dL_acts_168 rfl (Nat.le_refl _) (Nat.le_refl _) ?_
    exact ⟨rfl, _, _, _, _, q_165⟩
  by_cases h_13 : op = 6
  · refine xj_tabIn (off := 155) (tgt := 157) F dL_acts_2 (by omega) (by omega) (by rw [h_13]; rfl) (by decide) (by omega) ?_
    refine x_aload_n F dL_acts_157 rfl ?_
    refine x_aload_n F dL_acts_158 rfl ?_
    refine x_aload_n F dL_acts_159 rfl ?_
    refine x_aload_n F dL_acts_160 rfl ?_
    refine x_aload F dL_acts_161 rfl ?_
    refine x_iload F dL_acts_163 rfl ?_
    refine x_S6P F (m_L_swaps C ht) mlL_126 msL_swaps dL_acts_165 ⟨Nat.le_of_ble_eq_true rfl, Nat.le_of_ble_eq_true rfl⟩ ⟨Nat.zero_le _, Nat.zero_le _⟩ (Nat.le_of_ble_eq_true rfl) (fun r_165 M_165 q_165 => ?_)
    obtain ⟨rfl, h9, v9, d9, n9, q_165⟩ := q_165
    refine x_iret F FR dL_acts_168 rfl (Nat.le_refl _) (Nat.le_refl _) ?_
    exact ⟨rfl, _, _, _, _, q_165⟩
  by_cases h_14 : op = 7
  · refine xj_tabIn (off := 167) (tgt := 169) F dL_acts_2 (by omega) (by omega) (by rw [h_14]; rfl) (by decide) (by omega) ?_
    refine x_aload_n F dL_acts_169 rfl ?_
    refine x_aload_n F dL_acts_170 rfl ?_
    refine x_aload_n F dL_acts_171 rfl ?_
    refine x_aload_n F dL_acts_172 rfl ?_
    refine x_iload F dL_acts_173 rfl ?_
    refine x_S5P F (m_L_crosses C ht) mlL_129 msL_crosses dL_acts_175 ⟨Nat.le_of_ble_eq_true rfl, Nat.le_of_ble_eq_true rfl⟩ ⟨Nat.zero_le _, Nat.zero_le _⟩ (Nat.le_of_ble_eq_true rfl) (fun r_175 M_175 q_175 => ?_)
    obtain ⟨rfl, h9, v9, d9, n9, q_175⟩ := q_175
    refine x_iret F FR dL_acts_178 rfl (Nat.le_refl _) (Nat.le_refl _) ?_
    exact ⟨rfl, _, _, _, _, q_175⟩
  by_cases h_15 : op = 8
  · refine xj_tabIn (off := 177) (tgt := 179) F dL_acts_2 (by omega) (by omega) (by rw [h_15]; rfl) (by decide) (by omega) ?_
    refine x_aload_n F dL_acts_179 rfl ?_
    refine x_aload_n F dL_acts_180 rfl ?_
    refine x_aload_n F dL_acts_181 rfl ?_
    refine x_aload_n F dL_acts_182 rfl ?_
    refine x_aload F dL_acts_183 rfl ?_
    refine x_iload F dL_acts_185 rfl ?_
    refine xj_iconst F dL_acts_187 ?_
    refine x_S2 F (m_L_low (by first | assumption | omega | decide)) mlL_64 msL_low dL_acts_188 ⟨Nat.le_of_ble_eq_true rfl, Nat.le_of_ble_eq_true rfl⟩ ⟨Nat.zero_le _, Nat.zero_le _⟩ (Nat.le_of_ble_eq_true rfl) ?_
    have hf_16 := lowI_b x (b := 4) (by decide)
    refine x_S6P F (m_L_turns C ht (by omega)) mlL_133 msL_turns dL_acts_191 ⟨Nat.le_of_ble_eq_true rfl, Nat.le_of_ble_eq_true rfl⟩ ⟨Nat.zero_le _, Nat.zero_le _⟩ (Nat.le_of_ble_eq_true rfl) (fun r_191 M_191 q_191 => ?_)
    obtain ⟨rfl, h9, v9, d9, n9, q_191⟩ := q_191
    refine x_iret F FR dL_acts_194 rfl (Nat.le_refl _) (Nat.le_refl _) ?_
    exact ⟨rfl, _, _, _, _, q_191⟩
  by_cases h_17 : op = 9
  · refine xj_tabIn (off := 193) (tgt := 195) F dL_acts_2 (by omega) (by omega) (by rw [h_17]; rfl) (by decide) (by omega) ?_
    refine x_aload_n F dL_acts_195 rfl ?_
    refine x_aload_n F dL_acts_196 rfl ?_
    refine x_aload_n F dL_acts_197 rfl ?_
    refine x_aload_n F dL_acts_198 rfl ?_
    refine x_iload F dL_acts_199 rfl ?_
    refine xj_iconst F dL_acts_201 ?_
    refine x_S2 F (m_L_low (by first | assumption | omega | decide)) mlL_64 msL_low dL_acts_202 ⟨Nat.le_of_ble_eq_true rfl, Nat.le_of_ble_eq_true rfl⟩ ⟨Nat.zero_le _, Nat.zero_le _⟩ (Nat.le_of_ble_eq_true rfl) ?_
    have hf_18 := lowI_b x (b := 4) (by decide)
    refine x_iload F dL_acts_205 rfl ?_
    refine xj_iconst F dL_acts_207 ?_
    refine x_ishr F dL_acts_208 ?_
    refine xj_iconst F dL_acts_209 ?_
    refine x_S2 F (m_L_low (by first | assumption | omega | decide)) mlL_64 msL_low dL_acts_210 ⟨Nat.le_of_ble_eq_true rfl, Nat.le_of_ble_eq_true rfl⟩ ⟨Nat.zero_le _, Nat.zero_le _⟩ (Nat.le_of_ble_eq_true rfl) ?_
    have hf_19 := lowI_b (x >>> ((jI 3) &&& 31)) (b := 3) (by decide)
    refine x_S6P F (m_L_sorts C ht (by omega) (by omega)) mlL_136 msL_sorts dL_acts_213 ⟨Nat.le_of_ble_eq_true rfl, Nat.le_of_ble_eq_true rfl⟩ ⟨Nat.zero_le _, Nat.zero_le _⟩ (Nat.le_of_ble_eq_true rfl) (fun r_213 M_213 q_213 => ?_)
    obtain ⟨rfl, h9, v9, d9, n9, q_213⟩ := q_213
    refine x_iret F FR dL_acts_216 rfl (Nat.le_refl _) (Nat.le_refl _) ?_
    exact ⟨rfl, _, _, _, _, q_213⟩
  refine xj_tabOut (tgt := 217) F dL_acts_2 (by omega) (by decide) (by omega) ?_
  refine x_iload F dL_acts_217 rfl ?_
  refine xj_iconst F dL_acts_219 ?_
  refine x_S2 F (m_L_low (by decide)) mlL_64 msL_low dL_acts_220 ⟨Nat.le_of_ble_eq_true rfl, Nat.le_of_ble_eq_true rfl⟩ ⟨Nat.zero_le _, Nat.zero_le _⟩ (Nat.le_of_ble_eq_true rfl) ?_
  have hl_s0 := lowI_b x (b := 2) (by decide)
  obtain ⟨s0, h_s0⟩ : ∃ z, lowI x 2 = z := ⟨_, rfl⟩
  rw [h_s0] at hl_s0
  rw [h_s0]
  refine x_istore F dL_acts_223 (by decide) ?_
  refine x_aload F dL_acts_225 rfl ?_
  refine x_iload F dL_acts_227 rfl ?_
  refine xf_nald (f := n) (j := (s0).toNat) F (rfl : xk 71 = (8, 5)) (Nw_0 C).2.2.2.2.2 dL_acts_229 (by omega) rfl (fun hg_20 => ?_)
  refine x_istore F dL_acts_230 (by decide) ?_
  refine x_aload F dL_acts_232 rfl ?_
  refine x_iload F dL_acts_234 rfl ?_
  refine x_iload F dL_acts_236 rfl ?_
  refine xj_if_ne (tgt := 255) F dL_acts_238 (by decide) (by omega) (fun h_21 => ?_) (fun h_21 => ?_)
  · refine x_iload F dL_acts_255 rfl ?_
    refine xj_iconst F dL_acts_257 ?_
    refine x_ishr F dL_acts_258 ?_
    refine xj_iconst F dL_acts_259 ?_
    refine x_S2 F (m_L_low (by first | assumption | omega | decide)) mlL_64 msL_low dL_acts_260 ⟨Nat.le_of_ble_eq_true rfl, Nat.le_of_ble_eq_true rfl⟩ ⟨Nat.zero_le _, Nat.zero_le _⟩ (Nat.le_of_ble_eq_true rfl) ?_
    have hf_22 := lowI_b (x >>> ((jI 2) &&& 31)) (b := 2) (by decide)
    exact acts_263 C ht hop (s0 := s0) (by omega) ⟨fun z => by omega, fun z => by omega⟩ F FR
  · refine xj_iconst F dL_acts_241 ?_
    refine x_iload F dL_acts_242 rfl ?_
    refine xj_iconst F dL_acts_244 ?_
    refine x_ishr F dL_acts_245 ?_
    refine xj_bipush F dL_acts_246 (by decide) ?_
    refine x_S2 F (m_L_low (by decide)) mlL_64 msL_low dL_acts_248 ⟨Nat.le_of_ble_eq_true rfl, Nat.le_of_ble_eq_true rfl⟩ ⟨Nat.zero_le _, Nat.zero_le _⟩ (Nat.le_of_ble_eq_true rfl) ?_
    have hl_sa := lowI_b (x >>> (jI 2 &&& 31)) (b := 6) (by decide)
    obtain ⟨sa, h_sa⟩ : ∃ z, lowI (x >>> (jI 2 &&& 31)) 6 = z := ⟨_, rfl⟩
    rw [h_sa] at hl_sa
    rw [h_sa]
    refine xj_iadd F dL_acts_251 ?_
    refine x_goto (tgt := 263) F dL_acts_252 (by decide) ?_
    exact acts_263 C ht hop (s0 := s0) (by omega) ⟨fun z => by omega, fun z => by omega⟩ F FR
