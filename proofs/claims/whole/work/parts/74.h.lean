/-! THE LAW: its loop -/
theorem lt26 {z : Int} (h : 0 ≤ z ∧ z ≤ 25) : z = 0 ∨ z = 1 ∨ z = 2 ∨ z = 3 ∨ z = 4 ∨ z = 5 ∨ z = 6 ∨ z = 7 ∨ z = 8 ∨ z = 9 ∨ z = 10 ∨ z = 11 ∨ z = 12 ∨ z = 13 ∨ z = 14 ∨ z = 15 ∨ z = 16 ∨ z = 17 ∨ z = 18 ∨ z = 19 ∨ z = 20 ∨ z = 21 ∨ z = 22 ∨ z = 23 ∨ z = 24 ∨ z = 25 := by omega
theorem law_loop {l : Launch} {E : xE} {Y : xY} {A : Nat → Prop} {b L : Nat} {xs : Nat → Int32} (hl : l.stackTraces = false) (F : xFix E A Y cL_law RL 9) (hN : xNC (ys Y)) (hX : va_X b L xs (ys Y) (ys Y).heap) (hbl : b < (ys Y).heap.size) (hbA : ¬ A b) (hL : L ≤ 2560)
    (HE : ∀ (k n pc : Nat) (ls : List xV) (M : xM), k ≤ 601024 → n ≤ 7293034 → decode cL_law pc = .ok (.ireturn, 1) → WP l E room_1 A Y k n pc ls [vI (jI 1)] M) :
    ∀ (g t k n : Nat) (M : xM) (u5 u6 u7 u8 : xV), Rl M M → okT M → 5 * t ≤ L → L < 5 * (t + g) → k + 6 * g ≤ 601024 → n + 36 * g ≤ 7293034 → WP l E room_1 A Y k n 23 [vQ b, vA 0, vA 68, vA 79, vI (jI (5 * (t : Int))), u5, u6, u7, u8] [] M := by
  intro g
  induction g with
  | zero => intro t k n M u5 u6 u7 u8 H hT h1 h2 h3 h4; omega
  | succ g ih =>
    intro t k n M u5 u6 u7 u8 H hT h1 h2 h3 h4
    refine x_iload F dL_law_23 rfl ?_
    refine x_aload_nQ F dL_law_25 rfl ?_
    refine x_slen F hX hbl hbA dL_law_26 ?_
    refine xj_iconst F dL_law_27 ?_
    refine xj_isub F dL_law_28 ?_
    refine xj_icmp_gt (tgt := 1624) F dL_law_29 (by decide) (by omega) (fun h => ?_) (fun h => ?_)
    · refine xj_iconst F dL_law_1624 ?_
      exact HE _ _ _ _ _ (by omega) (by omega) dL_law_1625
    · refine x_aload_nQ F dL_law_32 rfl ?_
      refine x_iload F dL_law_33 rfl ?_
      refine x_sld F hX hbl hbA dL_law_35 (by omega) (by omega) ?_
      refine xj_bipush F dL_law_36 (by decide) ?_
      refine x_iand F dL_law_38 ?_
      obtain ⟨z, hz, ez⟩ := jI_ex (jI (sa xs (5 * (t : Int))) &&& jI 31)
      rw [ez]
      have nx : lwNx l E Y A b (5 * (t : Int)) k n := fun v5 v6 v7 v8 M' H' hT' => by
        refine xj_iinc F dL_law_1618 rfl ?_
        show WP l E room_1 A Y (k + 6) (n + 36) 1621 [vQ b, vA 0, vA 68, vA 79, vI (jI (5 * (t : Int) + 5)), v5, v6, v7, v8] [] M'
        refine x_goto (tgt := 23) F dL_law_1621 (by decide) ?_
        rw [show 5 * (t : Int) + 5 = 5 * ((t + 1 : Nat) : Int) by omega]
        exact ih (t + 1) (k + 6) (n + 36) M' v5 v6 v7 v8 H' hT' (by omega) (by omega) (by omega) (by omega)
      have C : lwC l E Y A b L xs (5 * (t : Int)) k n := ⟨hl, F, hN, hX, hbl, hbA, by omega, show k + 6 ≤ 601024 by omega, show n + 36 ≤ 7293034 by omega⟩
      by_cases hr : 0 ≤ z ∧ z ≤ 25
      · rcases lt26 hr with rfl | rfl | rfl | rfl | rfl | rfl | rfl | rfl | rfl | rfl | rfl | rfl | rfl | rfl | rfl | rfl | rfl | rfl | rfl | rfl | rfl | rfl | rfl | rfl | rfl | rfl
        · exact xj_tabIn (tgt := 156) F dL_law_39 (by decide) (by decide) rfl (by decide) (by decide) (law_join C H hT nx)
        · exact xj_tabIn (tgt := 236) F dL_law_39 (by decide) (by decide) rfl (by decide) (by decide) (law_leave C H hT nx)
        · exact xj_tabIn (tgt := 304) F dL_law_39 (by decide) (by decide) rfl (by decide) (by decide) (law_grow C H hT nx)
        · exact xj_tabIn (tgt := 384) F dL_law_39 (by decide) (by decide) rfl (by decide) (by decide) (law_swap C H hT nx)
        · exact xj_tabIn (tgt := 476) F dL_law_39 (by decide) (by decide) rfl (by decide) (by decide) (law_cross C H hT nx)
        · exact xj_tabIn (tgt := 556) F dL_law_39 (by decide) (by decide) rfl (by decide) (by decide) (law_turn C H hT nx)
        · exact xj_tabIn (tgt := 612) F dL_law_39 (by decide) (by decide) rfl (by decide) (by decide) (law_sort C H hT nx)
        · exact xj_tabIn (tgt := 680) F dL_law_39 (by decide) (by decide) rfl (by decide) (by decide) (law_set C H hT nx)
        · exact xj_tabIn (tgt := 748) F dL_law_39 (by decide) (by decide) rfl (by decide) (by decide) (law_append C H hT nx)
        · exact xj_tabIn (tgt := 804) F dL_law_39 (by decide) (by decide) rfl (by decide) (by decide) (law_clearBuffer C H hT nx)
        · exact xj_tabIn (tgt := 817) F dL_law_39 (by decide) (by decide) rfl (by decide) (by decide) (law_firstError C H hT nx)
        · exact xj_tabIn (tgt := 830) F dL_law_39 (by decide) (by decide) rfl (by decide) (by decide) (law_chant C H hT nx)
        · exact xj_tabIn (tgt := 874) F dL_law_39 (by decide) (by decide) rfl (by decide) (by decide) (law_written C H hT nx)
        · exact xj_tabIn (tgt := 942) F dL_law_39 (by decide) (by decide) rfl (by decide) (by decide) (law_undo C H hT nx)
        · exact xj_tabIn (tgt := 986) F dL_law_39 (by decide) (by decide) rfl (by decide) (by decide) (law_keep C H hT nx)
        · exact xj_tabIn (tgt := 999) F dL_law_39 (by decide) (by decide) rfl (by decide) (by decide) (law_restore C H hT nx)
        · exact xj_tabIn (tgt := 1043) F dL_law_39 (by decide) (by decide) rfl (by decide) (by decide) (law_singer C H hT nx)
        · exact xj_tabIn (tgt := 1123) F dL_law_39 (by decide) (by decide) rfl (by decide) (by decide) (law_row C H hT nx)
        · exact xj_tabIn (tgt := 1191) F dL_law_39 (by decide) (by decide) rfl (by decide) (by decide) (law_find C H hT nx)
        · exact xj_tabIn (tgt := 1247) F dL_law_39 (by decide) (by decide) rfl (by decide) (by decide) (law_count C H hT nx)
        · exact xj_tabIn (tgt := 1303) F dL_law_39 (by decide) (by decide) rfl (by decide) (by decide) (law_ifSwapped C H hT nx)
        · exact xj_tabIn (tgt := 1395) F dL_law_39 (by decide) (by decide) rfl (by decide) (by decide) (law_bestSwap C H hT nx)
        · exact xj_tabIn (tgt := 1451) F dL_law_39 (by decide) (by decide) rfl (by decide) (by decide) (law_bestRow C H hT nx)
        · exact xj_tabIn (tgt := 1507) F dL_law_39 (by decide) (by decide) rfl (by decide) (by decide) (law_ifReach C H hT nx)
        · exact xj_tabIn (tgt := 1563) F dL_law_39 (by decide) (by decide) rfl (by decide) (by decide) (law_oddShare C H hT nx)
        · exact xj_tabIn (tgt := 1604) F dL_law_39 (by decide) (by decide) rfl (by decide) (by decide) (law_digest C H hT nx)
      · exact xj_tabOut (tgt := 1618) F dL_law_39 (by omega) (by decide) hz (x_wid (by omega) (by omega) (nx _ _ _ _ _ H hT))
