/-! THE LAW: its loop -/
set_option maxRecDepth 20000 in
theorem law_75 {l : Launch} {E : xE} {Y : xY} {A : Nat → Prop} {b L : Nat} {xs : Nat → Int32} (F : xFix E A Y cL_law RL 9) (hN : xN E = 72) (hX : va_X b L xs (ys Y) (ys Y).heap) (hbl : b < (ys Y).heap.size) (hbA : ¬ A b) (hL : L ≤ 260)
    (HE : ∀ (k n pc : Nat) (ls : List xV) (M : xM), k ≤ 600104 → n ≤ 7301314 → decode cL_law pc = .ok (.ireturn, 1) → WP l E room_1 A Y k n pc ls [vI (jI 1)] M) : ∀ (g i k n : Nat) (M : xM) (h v d w : aT) (u8 : xV), Cl (i : Int) M h v d w → i + g = 32 → k + 4 * g ≤ 600104 → n + 96 * g ≤ 7301314 → WP l E room_1 A Y k n 75 [vQ b, vA 0, vA 68, vA 69, vA 70, vA 71, vI (jI 1), vI (jI (i : Int)), u8] [] M := by
  intro g
  induction g with
  | zero =>
    intro i k n M h v d w u8 C hi hk hn
    refine x_iload F dL_law_75 rfl ?_
    refine xj_bipush F dL_law_77 (by decide) ?_
    refine xj_icmp_ge (tgt := 171) F dL_law_79 (by decide) (by omega) (fun h_1 => ?_) (fun h_1 => ?_)
    · refine x_iload F dL_law_171 rfl ?_
      exact HE _ _ _ _ _ (by omega) (by omega) dL_law_173
    · exfalso
      omega
  | succ g ih =>
    intro i k n M h v d w u8 C hi hk hn
    refine x_iload F dL_law_75 rfl ?_
    refine xj_bipush F dL_law_77 (by decide) ?_
    refine xj_icmp_ge (tgt := 171) F dL_law_79 (by decide) (by omega) (fun h_1 => ?_) (fun h_1 => ?_)
    · refine x_iload F dL_law_171 rfl ?_
      exact HE _ _ _ _ _ (by omega) (by omega) dL_law_173
    · refine x_iload F dL_law_82 rfl ?_
      refine xj_if_eq (tgt := 171) F dL_law_84 (by decide) (by omega) (fun h_2 => ?_) (fun h_2 => ?_)
      · exact absurd h_2 (by decide)
      · refine x_aload_nQ F dL_law_87 rfl ?_
        refine x_iload F dL_law_88 rfl ?_
        refine x_callC F hX hbl hbA (m_L_cell (by omega) hL) mlL_152 msL_cell dL_law_90 ⟨Nat.le_of_ble_eq_true rfl, Nat.le_of_ble_eq_true rfl⟩ ⟨by show _ ≤ 600104; omega, by show _ ≤ 7301314; omega⟩ (Nat.le_of_ble_eq_true rfl) (fun r_90 M_90 q_90 => ?_)
        obtain ⟨⟨x_90, rfl⟩, e_90⟩ := q_90
        rw [e_90]
        refine x_istore F dL_law_93 (by decide) ?_
        refine x_aload_n F dL_law_95 rfl ?_
        refine x_aload_n F dL_law_96 rfl ?_
        refine x_aload_n F dL_law_97 rfl ?_
        refine x_aload F dL_law_98 rfl ?_
        refine x_aload F dL_law_100 rfl ?_
        refine x_iload F dL_law_102 rfl ?_
        refine xj_bipush F dL_law_104 (by decide) ?_
        refine xj_icmp_ge (tgt := 113) F dL_law_106 (by decide) (by omega) (fun h_3 => ?_) (fun h_3 => ?_)
        · refine x_iload F dL_law_113 rfl ?_
          refine xj_bipush F dL_law_115 (by decide) ?_
          refine x_ishr F dL_law_117 ?_
          refine xj_bipush F dL_law_118 (by decide) ?_
          refine x_S2 F (m_L_low (by decide)) mlL_64 msL_low dL_law_120 ⟨Nat.le_of_ble_eq_true rfl, Nat.le_of_ble_eq_true rfl⟩ ⟨by show _ ≤ 600104; omega, by show _ ≤ 7301314; omega⟩ (Nat.le_of_ble_eq_true rfl) ?_
          have hf_4 := lowI_b (x_90 >>> ((jI 17) &&& 31)) (b := 12) (by decide)
          refine x_iload F dL_law_123 rfl ?_
          refine x_S7P F (m_L_acts C (by omega) (by omega)) mlL_155 msL_acts dL_law_125 ⟨Nat.le_of_ble_eq_true rfl, Nat.le_of_ble_eq_true rfl⟩ ⟨by show _ ≤ 600104; omega, by show _ ≤ 7301314; omega⟩ (Nat.le_of_ble_eq_true rfl) (fun r_125 M_125 q_125 => ?_)
          obtain ⟨rfl, h9, v9, d9, n9, q_125⟩ := q_125
          refine xj_if_eq (tgt := 162) F dL_law_128 (by decide) (by omega) (fun h_5 => ?_) (fun h_5 => ?_)
          · exact absurd h_5 (by decide)
          · refine x_aload_n F dL_law_131 rfl ?_
            refine x_aload_n F dL_law_132 rfl ?_
            refine x_aload_n F dL_law_133 rfl ?_
            refine x_aload F dL_law_134 rfl ?_
            refine x_aload F dL_law_136 rfl ?_
            refine x_callST (As := [_, _, _, _, _]) F (m_L_isSo q_125.1 q_125.2.1.2 (qX_rf _) q_125.2.2.1 q_125.2.2.2.1 q_125.2.2.2.2.1 q_125.2.2.2.2.2 hN) mlL_144 msL_isSo ⟨Nat.le_of_ble_eq_true rfl, Nat.le_of_ble_eq_true rfl⟩ ⟨by show _ ≤ 600104; omega, by show _ ≤ 7301314; omega⟩ (Nat.le_of_ble_eq_true rfl) rfl dL_law_138 (fun C9 M9 hx9 => hx9.elim) (fun r_138 M_138 q_138 => ?_)
            obtain ⟨rfl, q_138⟩ := q_138
            refine xj_if_eq (tgt := 162) F dL_law_141 (by decide) (by omega) (fun h_6 => ?_) (fun h_6 => ?_)
            · exact absurd h_6 (by decide)
            · refine x_aload_n F dL_law_144 rfl ?_
              refine x_aload_n F dL_law_145 rfl ?_
              refine x_aload F dL_law_146 rfl ?_
              refine x_iload F dL_law_148 rfl ?_
              refine xj_iconst F dL_law_150 ?_
              refine x_ishr F dL_law_151 ?_
              refine x_S4P F (m_L_would q_125.1 q_125.2.1.2 q_125.2.2.1 q_125.2.2.2.2.2 q_138) mlL_148 msL_would dL_law_152 ⟨Nat.le_of_ble_eq_true rfl, Nat.le_of_ble_eq_true rfl⟩ ⟨by show _ ≤ 600104; omega, by show _ ≤ 7301314; omega⟩ (Nat.le_of_ble_eq_true rfl) (fun r_152 M_152 q_152 => ?_)
              obtain ⟨rfl, q_152⟩ := q_152
              refine xj_if_eq (tgt := 162) F dL_law_155 (by decide) (by omega) (fun h_7 => ?_) (fun h_7 => ?_)
              · exact absurd h_7 (by decide)
              · refine xj_iconst F dL_law_158 ?_
                refine x_goto (tgt := 163) F dL_law_159 (by decide) ?_
                refine x_istore F dL_law_163 (by decide) ?_
                refine xj_iinc F dL_law_165 rfl ?_
                refine x_goto (tgt := 75) F dL_law_168 (by decide) ?_
                have e9 : ((i + 1 : Nat) : Int) = (i : Int) + 1 := by omega
                have g := ih (i + 1) (k + 4) (n + 96) M_152 h9 v9 d9 n9 (vI x_90) (by rw [e9]; exact Cl_q q_125 q_152) (by omega) (by omega) (by omega)
                rw [e9] at g
                exact g
        · refine xj_iconst F dL_law_109 ?_
          refine x_goto (tgt := 123) F dL_law_110 (by decide) ?_
          refine x_iload F dL_law_123 rfl ?_
          refine x_S7P F (m_L_acts C (by omega) (by omega)) mlL_155 msL_acts dL_law_125 ⟨Nat.le_of_ble_eq_true rfl, Nat.le_of_ble_eq_true rfl⟩ ⟨by show _ ≤ 600104; omega, by show _ ≤ 7301314; omega⟩ (Nat.le_of_ble_eq_true rfl) (fun r_125 M_125 q_125 => ?_)
          obtain ⟨rfl, h9, v9, d9, n9, q_125⟩ := q_125
          refine xj_if_eq (tgt := 162) F dL_law_128 (by decide) (by omega) (fun h_8 => ?_) (fun h_8 => ?_)
          · exact absurd h_8 (by decide)
          · refine x_aload_n F dL_law_131 rfl ?_
            refine x_aload_n F dL_law_132 rfl ?_
            refine x_aload_n F dL_law_133 rfl ?_
            refine x_aload F dL_law_134 rfl ?_
            refine x_aload F dL_law_136 rfl ?_
            refine x_callST (As := [_, _, _, _, _]) F (m_L_isSo q_125.1 q_125.2.1.2 (qX_rf _) q_125.2.2.1 q_125.2.2.2.1 q_125.2.2.2.2.1 q_125.2.2.2.2.2 hN) mlL_144 msL_isSo ⟨Nat.le_of_ble_eq_true rfl, Nat.le_of_ble_eq_true rfl⟩ ⟨by show _ ≤ 600104; omega, by show _ ≤ 7301314; omega⟩ (Nat.le_of_ble_eq_true rfl) rfl dL_law_138 (fun C9 M9 hx9 => hx9.elim) (fun r_138 M_138 q_138 => ?_)
            obtain ⟨rfl, q_138⟩ := q_138
            refine xj_if_eq (tgt := 162) F dL_law_141 (by decide) (by omega) (fun h_9 => ?_) (fun h_9 => ?_)
            · exact absurd h_9 (by decide)
            · refine x_aload_n F dL_law_144 rfl ?_
              refine x_aload_n F dL_law_145 rfl ?_
              refine x_aload F dL_law_146 rfl ?_
              refine x_iload F dL_law_148 rfl ?_
              refine xj_iconst F dL_law_150 ?_
              refine x_ishr F dL_law_151 ?_
              refine x_S4P F (m_L_would q_125.1 q_125.2.1.2 q_125.2.2.1 q_125.2.2.2.2.2 q_138) mlL_148 msL_would dL_law_152 ⟨Nat.le_of_ble_eq_true rfl, Nat.le_of_ble_eq_true rfl⟩ ⟨by show _ ≤ 600104; omega, by show _ ≤ 7301314; omega⟩ (Nat.le_of_ble_eq_true rfl) (fun r_152 M_152 q_152 => ?_)
              obtain ⟨rfl, q_152⟩ := q_152
              refine xj_if_eq (tgt := 162) F dL_law_155 (by decide) (by omega) (fun h_10 => ?_) (fun h_10 => ?_)
              · exact absurd h_10 (by decide)
              · refine xj_iconst F dL_law_158 ?_
                refine x_goto (tgt := 163) F dL_law_159 (by decide) ?_
                refine x_istore F dL_law_163 (by decide) ?_
                refine xj_iinc F dL_law_165 rfl ?_
                refine x_goto (tgt := 75) F dL_law_168 (by decide) ?_
                have e9 : ((i + 1 : Nat) : Int) = (i : Int) + 1 := by omega
                have g := ih (i + 1) (k + 4) (n + 96) M_152 h9 v9 d9 n9 (vI x_90) (by rw [e9]; exact Cl_q q_125 q_152) (by omega) (by omega) (by omega)
                rw [e9] at g
                exact g
set_option maxRecDepth 20000 in
theorem law_40 {l : Launch} {E : xE} {Y : xY} {A : Nat → Prop} {b L : Nat} {xs : Nat → Int32} (F : xFix E A Y cL_law RL 9) (hN : xN E = 72) (hX : va_X b L xs (ys Y) (ys Y).heap) (hbl : b < (ys Y).heap.size) (hbA : ¬ A b) (hL : L ≤ 260)
    (HE : ∀ (k n pc : Nat) (ls : List xV) (M : xM), k ≤ 600104 → n ≤ 7301314 → decode cL_law pc = .ok (.ireturn, 1) → WP l E room_1 A Y k n pc ls [vI (jI 1)] M) {k n : Nat} {M : xM} {h v d w : aT} (C : Cl 0 M h v d w) (hk : k ≤ 1000) (hn : n ≤ 2000) : WP l E room_1 A Y k n 40 [vQ b, vA 0, vA 68, vA 69, vA 70, vA 71, vU, vU, vU] [] M := by
  refine x_aload_n F dL_law_40 rfl ?_
  refine x_aload_n F dL_law_41 rfl ?_
  refine x_aload_n F dL_law_42 rfl ?_
  refine x_aload F dL_law_43 rfl ?_
  refine x_aload F dL_law_45 rfl ?_
  refine x_callST (As := [_, _, _, _, _]) F (m_L_isSo C.1 C.2.1.2 (qX_rf _) C.2.2.1 C.2.2.2.1 C.2.2.2.2.1 C.2.2.2.2.2 hN) mlL_144 msL_isSo ⟨Nat.le_of_ble_eq_true rfl, Nat.le_of_ble_eq_true rfl⟩ ⟨by show _ ≤ 600104; omega, by show _ ≤ 7301314; omega⟩ (Nat.le_of_ble_eq_true rfl) rfl dL_law_47 (fun C9 M9 hx9 => hx9.elim) (fun r_47 M_47 q_47 => ?_)
  obtain ⟨rfl, q_47⟩ := q_47
  refine xj_if_eq (tgt := 69) F dL_law_50 (by decide) (by omega) (fun h_1 => ?_) (fun h_1 => ?_)
  · exact absurd h_1 (by decide)
  · refine x_aload_n F dL_law_53 rfl ?_
    refine x_aload_n F dL_law_54 rfl ?_
    refine x_aload F dL_law_55 rfl ?_
    refine xj_bipush F dL_law_57 (by decide) ?_
    refine x_S4P F (m_L_would C.1 C.2.1.2 C.2.2.1 C.2.2.2.2.2 q_47) mlL_148 msL_would dL_law_59 ⟨Nat.le_of_ble_eq_true rfl, Nat.le_of_ble_eq_true rfl⟩ ⟨by show _ ≤ 600104; omega, by show _ ≤ 7301314; omega⟩ (Nat.le_of_ble_eq_true rfl) (fun r_59 M_59 q_59 => ?_)
    obtain ⟨rfl, q_59⟩ := q_59
    refine xj_if_eq (tgt := 69) F dL_law_62 (by decide) (by omega) (fun h_2 => ?_) (fun h_2 => ?_)
    · exact absurd h_2 (by decide)
    · refine xj_iconst F dL_law_65 ?_
      refine x_goto (tgt := 70) F dL_law_66 (by decide) ?_
      refine x_istore F dL_law_70 (by decide) ?_
      refine xj_iconst F dL_law_72 ?_
      refine x_istore F dL_law_73 (by decide) ?_
      exact law_75 F hN hX hbl hbA hL HE 32 0 (k + 4) (n + 96) M_59 h v d w _ (Cl_q C q_59) (by omega) (by omega) (by omega)
