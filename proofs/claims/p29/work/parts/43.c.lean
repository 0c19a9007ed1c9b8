/-! THE SCRIPT, outside the world: cell() -/
def sa (xs : Nat → Int32) (z : Int) : Int := (xs z.toNat).toInt
section CELL
variable {l : Launch} {E : xE} {Y : xY} {A : Nat → Prop} {b L : Nat} {xs : Nat → Int32} {k n pc : Nat} {ls st : List xV} {M : xM} {cc : ByteArray} {own : String} {nL : Nat} {R : Room}
theorem x_wid {k' n' : Nat} (h1 : k ≤ k') (h2 : n ≤ n') (g : WP l E R A Y k' n' pc ls st M) : WP l E R A Y k n pc ls st M := fun H locs lr hP hS hl hn => W.widen h1 h2 (g H locs lr hP hS hl hn)
theorem x_sld (F : xFix E A Y cc own nL) (hX : va_X b L xs (ys Y) (ys Y).heap) (hbl : b < (ys Y).heap.size) (hbA : ¬ A b) {z : Int} (d : decode cc pc = .ok (.iaload, 1)) (h : 0 ≤ z ∧ z < L) (hz : rg z) (g : WP l E R A Y k n (pc + 1) ls (vI (jI (sa xs z)) :: st) M) : WP l E R A Y k n pc ls (vI (jI z) :: vQ b :: st) M := fun H locs lr hP hS hl hn => by
  refine va_sld F.1 F.2.1 hX hbl hbA hS (jI_in h hz) d ?_
  have g1 := g H locs lr hP hS hl hn
  unfold sa at g1
  rw [jI_of] at g1
  rw [jI_clamp hz]
  exact g1
theorem jI_nat9 (N : Nat) : Int32.ofNat N = jI (N : Int) := by
  apply Int32.toBitVec_inj.mp
  show BitVec.ofNat 32 N = BitVec.ofInt 32 (N : Int)
  rw [BitVec.ofInt_natCast]
theorem x_slen (F : xFix E A Y cc own nL) (hX : va_X b L xs (ys Y) (ys Y).heap) (hbl : b < (ys Y).heap.size) (hbA : ¬ A b) (d : decode cc pc = .ok (.arraylength, 1)) (g : WP l E R A Y k n (pc + 1) ls (vI (jI (L : Int)) :: st) M) : WP l E R A Y k n pc ls (vQ b :: st) M := fun H locs lr hP hS hl hn => by
  refine va_slen F.1 F.2.1 hX hbl hbA hS d ?_
  have g1 := g H locs lr hP hS hl hn
  rw [← jI_nat9] at g1
  exact g1
end CELL
/-- what a method that reads the script needs besides -/
def xPcX (E : xE) (args : List xV) (M : xM) (b L : Nat) (xs : Nat → Int32) : Array Value → State → Prop := fun a U => xPc E args M a U ∧ va_X b L xs U U.heap ∧ b < U.heap.size ∧ ¬ xA E b
def XPX (l : Launch) (E : xE) (d : Nat) (y : MethodName) (cc : ByteArray) (nL : Nat) (rt : Option FieldType) (args : List xV) (M : xM) (b L : Nat) (xs : Nat → Int32) (post : xV → xM → Prop) : Prop :=
  Met l y (Cond.code y cc nL rt :: LW) (xRm d 0 0) (xPcX E args M b L xs) (xQc E post) 0 0 (xA E)
theorem xc_start {l : Launch} {E : xE} {d : Nat} {y : MethodName} {cc : ByteArray} {nL : Nat} {rt : Option FieldType} {args : List xV} {M : xM} {b L : Nat} {xs : Nat → Int32} {post : xV → xM → Prop} (hy : plainFor y = true) {ls0 : List xV} (hls : xEnt args ++ List.replicate (nL - (xEnt args).length) vU = ls0) (hlen : (xEnt args).length ≤ nL)
    (body : ∀ Y : xY, xFix E (xA E) Y cc y.cls nL → xRet E Y rt 0 0 post (fun _ _ => False) → va_X b L xs (ys Y) (ys Y).heap → b < (ys Y).heap.size → ¬ xA E b → WP l E (xRm d 0 0) (xA E) Y 0 0 0 ls0 [] M) : XPX l E d y cc nL rt args M b L xs post := by
  have h : vx_Met l y (Cond.code y cc nL rt :: LW) (xRm d 0 0) (xPcX E args M b L xs) (xQc E post) (xXc E (fun _ _ => False)) 0 0 (xA E) := by
    refine xx_ofWF (cc := cc) (maxL := nL) (ret := rt) hy rfl ?_
    intro p e s m args' below meth c s₁ B hml htab hv
    obtain ⟨⟨rfl, hP, hk⟩, hX, hb1, hb2⟩ := hv
    have hts := atoms_spec (ws := Cond.code y cc nL rt :: LW) B.pre
    have hF : xFix E (xA E) (p, e, s, m, (args.map (xc E.2.2.1)).toArray, below, meth, c, vx_MQ below (xQc E post) (xXc E (fun _ _ => False)) (args.map (xc E.2.2.1)).toArray s 0 0 (xA E)) cc y.cls nL :=
      ⟨B.exec, B.bytes, hml, findClass_of_methodNamed B.named, fun w hw => hts w (List.mem_cons_of_mem _ hw), hk, fun a ha => ⟨a, ha, rfl⟩, fun q _ z => z, B.notSynchronized⟩
    have hb := body _ hF ⟨rfl, B.returns, htab⟩ hX hb1 hb2
    rw [lg_entry_eq]
    subst hls
    refine hb s.heap [] _ hP va_S.rf ?_ ?_
    · show xLs E.2.2.1 c.maxLocals _ _
      rw [hml]
      exact xEnt_ls hlen
    · show _ ≤ c.maxLocals
      rw [hml]
      simp
      omega
  unfold vx_Met at h
  unfold XPX Met
  exact MetFree.mono h (fun _ _ z => z) (fun _ _ _ _ _ z => z) (fun a st o t _ z => by
    rcases z with z | ⟨q, -, C, ce, L, ⟨M', h2, -⟩, -⟩
    · exact z
    · exact h2.elim)
theorem x_callC {l : Launch} {E : xE} {R : Room} {A : Nat → Prop} {Y : xY} {cc : ByteArray} {own : String} {nL : Nat} {k n pc : Nat} {ls st : List xV} {M : xM} {y : MethodName} {cy : ByteArray} {nLy : Nat} {rty : Option FieldType} {d' idx : Nat} {post : xV → xM → Prop} {b L : Nat} {xs : Nat → Int32} {v0 v1 : xV} (F : xFix E A Y cc own nL) (hX : va_X b L xs (ys Y) (ys Y).heap) (hbl : b < (ys Y).heap.size) (hbA : ¬ A b) (hM : XPX l E d' y cy nLy rty [v0, v1] M b L xs post) (hl : xML own idx y) (hv : xMS y cy nLy rty 2) (d : decode cc pc = .ok (.invokestatic idx, 3)) (hR : d' + 1 ≤ R.frames ∧ 8 + (nLy + 11) + 64 * d' ≤ R.locals) (hcs : k ≤ R.cells ∧ n ≤ R.slots) (hst : (st.map xcat).sum ≤ 8) (g : ∀ r M', post r M' → WP l E R A Y k n (pc + 3) ls (xps r st) M') : WP l E R A Y k n pc ls (v1 :: v0 :: st) M := by
  refine x_run (a := ([v0, v1].map (xc E.2.2.1)).toArray) F ?_ g
  intro H locs lr hP hS hlr
  have hq : H[b]? = (ys Y).heap[b]? := hS.2.1 b hbl hbA
  refine va_runS (As := [v0, v1].map (xc E.2.2.1)) ⟨F.1, F.2.1, F.2.2.1, F.2.2.2.1, F.2.2.2.2.1⟩ hM (xcw_S F hl hv hR) ⟨fun a U g mk q => ⟨xPc_blind _ _ _ a U g mk q.1, va_X.moved (u := U) (U := U.calling g mk a) (Vm.Alike.refl U.vm) q.2.1, q.2.2.1, q.2.2.2⟩, fun U hU hW => ?_⟩ rfl (by simp) (by rw [← F.2.2.1]; exact hlr.1) (by simp) (lv_room (xst_sum _ hst)) d hcs
  have hX' : va_X b L xs U U.heap := (hX.moved hW.alike).kept (by rw [hU]; exact hq)
  refine ⟨xpre F [v0, v1] hP hS U hU hW, hX', ?_, fun z => ?_⟩
  · obtain ⟨scr, h1, -⟩ := hX'
    exact (Array.getElem?_eq_some_iff.mp h1).1
  · obtain ⟨a, ha, e⟩ := z
    exact hbA (by rw [e]; exact F.2.2.2.2.2.2.1 a ha)
set_option maxRecDepth 20000 in
theorem m_L_cell {l : Launch} {E : xE} {M : xM} {b L : Nat} {xs : Nat → Int32} {z : Int} (hz : 0 ≤ z ∧ z < 1000) (hL : L ≤ 260) : XPX l E 1 yL_cell cL_cell 2 (some FieldType.int) [vQ b, vI (jI z)] M b L xs (fun r' M' => (∃ x, r' = vI x) ∧ M' = M) := by
  refine xc_start (plainFor_of_name (by decide)) rfl (Nat.le_of_ble_eq_true rfl) ?_
  intro Y F FR hX hbl hbA
  refine x_iload_n F dL_cell_0 rfl ?_
  refine x_aload_nQ F dL_cell_1 rfl ?_
  refine x_slen F hX hbl hbA dL_cell_2 ?_
  refine xj_icmp_ge (tgt := 12) F dL_cell_3 (by decide) (by omega) (fun h_1 => ?_) (fun h_1 => ?_)
  · refine x_ldc F kiL_7 dL_cell_12 ?_
    refine x_iload_n F dL_cell_14 rfl ?_
    refine xj_iconst F dL_cell_15 ?_
    refine xj_iadd F dL_cell_16 ?_
    refine x_imul F dL_cell_17 ?_
    refine xj_bipush F dL_cell_18 (by decide) ?_
    refine x_iadd F dL_cell_20 ?_
    refine x_iret F FR dL_cell_21 rfl (Nat.le_refl _) (Nat.le_refl _) ?_
    exact ⟨⟨_, rfl⟩, rfl⟩
  · refine x_aload_nQ F dL_cell_6 rfl ?_
    refine x_iload_n F dL_cell_7 rfl ?_
    refine x_sld F hX hbl hbA dL_cell_8 (by omega) (by omega) ?_
    refine x_goto (tgt := 21) F dL_cell_9 (by decide) ?_
    refine x_iret F FR dL_cell_21 rfl (Nat.le_refl _) (Nat.le_refl _) ?_
    exact ⟨⟨_, rfl⟩, rfl⟩
