/-! THE LAW: what its cases share -/
theorem okT_e {M M' : xM} (e : M'.2 = M.2) (h : okT M) : okT M' := by
  unfold okT at h ⊢
  rw [e]
  exact h
theorem okT_e1 {M M' : xM} (e : M'.2.1 = M.2.1) (h : okT M) : okT M' := by
  unfold okT at h ⊢
  rw [e]
  exact h
theorem okT_W {M M1 : xM} {X : Int} {A B : Prop} {Q : xM → Prop} {x : Int64} (W : (X = 0 → A ∧ ∃ Mc, Q Mc ∧ M1 = upL Mc 79 0 x) ∧ (X ≠ 0 → B ∧ M1 = M)) (hQ : ∀ Mc, Q Mc → okT M → okT Mc) (h : okT M) : okT M1 := by
  by_cases hX : X = 0
  · obtain ⟨-, Mc, q, rfl⟩ := W.1 hX
    exact okT_e1 (M := Mc) rfl (hQ Mc q h)
  · obtain ⟨-, rfl⟩ := W.2 hX
    exact h
theorem okT_P {M1 M2 : xM} {y z : Int} {A B Q : Prop} (P : (y = 0 → A ∧ Q) ∧ (y ≠ 0 → B ∧ M2 = upI (t0 M1) 68 5 (jI z))) (hQ : Q → M2.2.1 = M1.2.1) (h : okT M1) : okT M2 := by
  by_cases hX : y = 0
  · exact okT_e1 (hQ (P.1 hX).2) h
  · obtain ⟨-, rfl⟩ := P.2 hX
    exact okT_e1 (M := M1) rfl h
theorem W_vI {r' : xV} {X : Int} {a c : Int32} {B D : Prop} (W : (X = 0 → r' = vI a ∧ B) ∧ (X ≠ 0 → r' = vI c ∧ D)) : ∃ x, r' = vI x := by
  by_cases h : X = 0
  · exact ⟨a, (W.1 h).1⟩
  · exact ⟨c, (W.2 h).1⟩
theorem trM_2 (M : xM) (c : Nat) (r : Int) : ∀ n, (trM M c r n).2 = M.2
  | 0 => rfl
  | n + 1 => by simp only [trM]; rw [swP_2, trM_2 M c r n]
theorem inM_2 (c : Nat) (r z : Int) : ∀ (n : Nat) (M : xM), (inM c r z n M).2 = M.2
  | 0, _ => rfl
  | n + 1, M => by
    simp only [inM]
    split
    · rw [inM_2 c r z n, swP_2]
    · rfl
theorem srM_2 (M : xM) (c : Nat) (r z : Int) : ∀ n, (srM M c r z n).2 = M.2
  | 0 => rfl
  | n + 1 => by simp only [srM]; rw [inM_2, srM_2 M c r z n]
theorem dsM_2 (M : xM) (c : Nat) (r p : Int) : (dsM M c r p).2 = M.2 := by unfold dsM; rw [csM_2, mvM_2]
theorem leM_2 (M : xM) (r p : Int) : (leM M r p).2 = M.2 := by unfold leM; rw [upI_2, dsM_2]
theorem swM_2 (M : xM) (r p r2 p2 : Int) : (swM M r p r2 p2).2 = M.2 := by unfold swM; rw [upI_2, swP_2]
theorem moM_2 (M : xM) (c : Nat) (r p t : Int) : (moM M c r p t).2 = M.2 := by unfold moM; dsimp only; rw [csM_2, swP_2, csM_2, mvM_2]
theorem adM_2 (M : xM) (x : Int) : (adM M x).2 = M.2 := by unfold adM; split <;> rfl
theorem bcM_2 (M : xM) (c b : Nat) (hC : isCh c) (hB : isCh b) (h : c ≠ b) : (bcM M c b).2 = M.2 := (bcM_at hC hB h).2.2.2.2.2.2
theorem tkM_2 (M : xM) : (tkM M 1).2 = M.2 := by
  unfold tkM
  split
  · have hb9 := slN_bb (upI M 16 2 (jI ((M.1 16 2).toInt - 1))) ((upI M 16 2 (jI ((M.1 16 2).toInt - 1))).1 16 2).toInt
    exact bcM_2 (upI M 16 2 (jI ((M.1 16 2).toInt - 1))) 1 _ ch1 (slN_ch _ _) (by omega)
  · rfl
theorem arM_2 (M : xM) (c : Nat) (r h v : Int) : (arM M c r h v).2 = M.2 := arM_at.2.1
theorem jtM_2 (M : xM) (s : Int) : (jtM M s).2 = M.2 := by unfold jtM; split; exact arM_2 _ _ _ _ _; rfl
theorem stM_2 (M : xM) (s : Int) : (stM M s).2 = M.2 := by
  unfold stM
  split
  · unfold scM
    rw [upI_2, swP_2]
  · rfl
theorem dpM_2 (M : xM) (s : Int) : (dpM M s).2 = M.2 := by
  unfold dpM
  repeat' split
  · exact jtM_2 M s
  · exact stM_2 M s
  · exact trM_2 M _ _ _
  · exact srM_2 M _ _ _ _
  · exact srM_2 M _ _ _ _
  · exact srM_2 M _ _ _ _
  · rfl
theorem chN_2 : ∀ (n : Nat) (s : Int) (M : xM), (chN n s M).1.2 = M.2
  | 0, _, _ => rfl
  | n + 1, s, M => by
    simp only [chN]
    split
    · rw [chN_2 n _ (dpM M s), dpM_2]
    · rfl
theorem crZ_21 (K : xM) (r p t : Int) : (crZ K r p t).2 = K.2 := crZ_2 K r p t
theorem leZ_2 (K : xM) (r p : Int) : (leZ K r p).2 = K.2 := by unfold leZ; rw [upI_2, rmZ_2]
theorem swZ_2 (K : xM) (r p r2 p2 : Int) : (swZ K r p r2 p2).2 = K.2 := by unfold swZ; rw [upI_2, exZ_2]
theorem svt_2 (K : xM) : (svZ (t0 K)).2 = K.2 := by rw [svZ_2]; rfl
/-- what the loop's step is made over -/
def lwC (l : Launch) (E : xE) (Y : xY) (A : Nat → Prop) (b L : Nat) (xs : Nat → Int32) (i : Int) (k n : Nat) : Prop :=
  l.stackTraces = false ∧ xFix E A Y cL_law RL 9 ∧ xNC (ys Y) ∧ va_X b L xs (ys Y) (ys Y).heap ∧ b < (ys Y).heap.size ∧ ¬ A b ∧ (0 ≤ i ∧ i + 5 ≤ L ∧ L ≤ 2560) ∧ (k + 6 ≤ room_1.cells ∧ n + 36 ≤ room_1.slots)
def sa (xs : Nat → Int32) (z : Int) : Int := (xs z.toNat).toInt
theorem rg_sa (xs : Nat → Int32) (z : Int) : rg (sa xs z) := rg_of _
section LAW
variable {l : Launch} {E : xE} {Y : xY} {A : Nat → Prop} {b L : Nat} {xs : Nat → Int32} {i : Int} {k n pc : Nat} {ls st : List xV} {M : xM} {cc : ByteArray} {own : String} {nL : Nat} {R : Room}
theorem x_wid {k' n' : Nat} (h1 : k ≤ k') (h2 : n ≤ n') (g : WP l E R A Y k' n' pc ls st M) : WP l E R A Y k n pc ls st M := fun H locs lr hP hS hl hn => W.widen h1 h2 (g H locs lr hP hS hl hn)
theorem x_sld (F : xFix E A Y cc own nL) (hX : va_X b L xs (ys Y) (ys Y).heap) (hbl : b < (ys Y).heap.size) (hbA : ¬ A b) {z : Int} (d : decode cc pc = .ok (.iaload, 1)) (h : 0 ≤ z ∧ z < L) (hz : rg z) (g : WP l E R A Y k n (pc + 1) ls (vI (jI (sa xs z)) :: st) M) : WP l E R A Y k n pc ls (vI (jI z) :: vQ b :: st) M := fun H locs lr hP hS hl hn => by
  refine va_sld F.1 F.2.1 hX hbl hbA hS (jI_in h hz) d ?_
  have g1 := g H locs lr hP hS hl hn
  unfold sa at g1
  rw [jI_of] at g1
  rw [jI_clamp hz]
  exact g1
theorem x_slen (F : xFix E A Y cc own nL) (hX : va_X b L xs (ys Y) (ys Y).heap) (hbl : b < (ys Y).heap.size) (hbA : ¬ A b) (d : decode cc pc = .ok (.arraylength, 1)) (g : WP l E R A Y k n (pc + 1) ls (vI (jI (L : Int)) :: st) M) : WP l E R A Y k n pc ls (vQ b :: st) M := fun H locs lr hP hS hl hn => by
  refine va_slen F.1 F.2.1 hX hbl hbA hS d ?_
  have g1 := g H locs lr hP hS hl hn
  rw [jI_nat] at g1
  exact g1
theorem x_arg (C : lwC l E Y A b L xs i k n) {j : Int} (hj : 0 ≤ j ∧ j ≤ 4) (d0 : decode cL_law pc = .ok (.aload_n 0, 1)) (d1 : decode cL_law (pc + 1) = .ok (.iload 4, 2)) (d2 : decode cL_law (pc + 3) = .ok (.iconst j, 1)) (d3 : decode cL_law (pc + 4) = .ok (.iadd, 1)) (d4 : decode cL_law (pc + 5) = .ok (.iaload, 1)) {k' n' : Nat} (h0 : ls[0]? = some (vQ b)) (h4 : ls[4]? = some (vI (jI i)))
    (g : WP l E R A Y k' n' (pc + 6) ls (vI (jI (sa xs (i + j))) :: st) M) : WP l E R A Y k' n' pc ls st M := by
  obtain ⟨-, F, -, hX, hbl, hbA, hi, -⟩ := C
  refine x_aload_nQ F d0 h0 ?_
  refine x_iload F d1 h4 ?_
  refine xj_iconst F d2 ?_
  refine xj_iadd F d3 ?_
  exact x_sld F hX hbl hbA d4 (by omega) (by omega) g
theorem law_tail (C : lwC l E Y A b L xs i k n) {off : Int} {x5 x6 : Int32} {u6 u7 u8 : xV} (d0 : decode cL_law pc = .ok (.istore 6, 2)) (d1 : decode cL_law (pc + 2) = .ok (.aload_n 2, 1)) (d2 : decode cL_law (pc + 3) = .ok (.invokevirtual 93, 3)) (d3 : decode cL_law (pc + 6) = .ok (.iload 5, 2)) (d4 : decode cL_law (pc + 8) = .ok (.if_icmp .eq 5, 3)) (d5 : decode cL_law (pc + 13) = .ok (.iload 5, 2)) (d6 : decode cL_law (pc + 15) = .ok (.ifCond .ne 15, 3)) (d7 : decode cL_law (pc + 18) = .ok (.aload_n 3, 1)) (d8 : decode cL_law (pc + 19) = .ok (.iconst 0, 1)) (d9 : decode cL_law (pc + 20) = .ok (.laload, 1)) (d10 : decode cL_law (pc + 21) = .ok (.iload 6, 2)) (d11 : decode cL_law (pc + 23) = .ok (.i2l, 1)) (d12 : decode cL_law (pc + 24) = .ok (.lcmp, 1)) (d13 : decode cL_law (pc + 25) = .ok (.ifCond .eq 5, 3)) (d14 : decode cL_law (pc + 30) = .ok (.goto off, 3)) (ht : ((pc + 30 : Nat) : Int) + off = ((1618 : Nat) : Int))
    (hO : tOut (vI x5) (vI x6) M) (nx : WP l E room_1 A Y (k + 6) (n + 36) 1618 [vQ b, vA 0, vA 68, vA 79, vI (jI i), vI x5, vI x6, u7, u8] [] M) : WP l E room_1 A Y (k + 6) (n + 36) pc [vQ b, vA 0, vA 68, vA 79, vI (jI i), vI x5, u6, u7, u8] [vI x6] M := by
  obtain ⟨-, F, -, -, -, -, -, hcs⟩ := C
  obtain ⟨y, hy, e5, e68, a, e6, eL⟩ := hO
  have e5 : x5 = jI y := by cases e5; rfl
  have e6 : x6 = a := by cases e6; rfl
  subst e5
  subst e6
  refine x_istore F d0 (by decide) ?_
  show WP l E room_1 A Y (k + 6) (n + 36) (pc + 2) [vQ b, vA 0, vA 68, vA 79, vI (jI i), vI (jI y), vI x6, u7, u8] [] M
  refine x_aload_n F d1 rfl ?_
  refine x_V0 F (m_X7_thrown (l := l)) mlL_93 mvX7_thrown rfl d2 (by decide) rfl ⟨Nat.le_of_ble_eq_true rfl, Nat.le_of_ble_eq_true rfl⟩ hcs (Nat.le_of_ble_eq_true rfl) ?_
  rw [e68, jI_of]
  refine x_iload F d3 rfl ?_
  refine xj_icmp_eq (tgt := pc + 13) F d4 (by omega) (by omega) (fun _ => ?_) (fun z => absurd rfl z)
  refine x_iload F d5 rfl ?_
  refine xj_if_ne (tgt := pc + 30) F d6 (by omega) (by omega) (fun _ => ?_) (fun z => ?_)
  · exact x_goto (tgt := 1618) F d14 ht nx
  · refine x_aload_n F d7 rfl ?_
    refine xj_iconst F d8 ?_
    refine x_lald F rfl d9 (jI_in (z := 0) ⟨by decide, by decide⟩ (by decide)) ?_
    rw [jI_clamp (by decide)]
    show WP l E room_1 A Y (k + 6) (n + 36) (pc + 21) _ [vL (M.2.2 79 0)] M
    rw [eL z]
    refine x_iload F d10 rfl ?_
    refine x_i2l F d11 ?_
    refine x_lcmp F d12 ?_
    rw [show lg_cmp x6.toInt64 x6.toInt64 = jI 0 by unfold lg_cmp; simp [Int64.lt_irrefl] <;> rfl]
    refine xj_if_eq (tgt := pc + 30) F d13 (by omega) (by decide) (fun _ => ?_) (fun z => absurd rfl z)
    exact x_goto (tgt := 1618) F d14 ht nx
end LAW
