/-! CELLS ARE MADE: the walk while the world is still a list of cells that grows. G: the classes and the array classes. -/
abbrev nC : Type := va_G × (Nat → ClassId)
abbrev nTy (G : nC) : List (ClassId × FieldType) := [(G.2 0, .int), (G.2 1, .char), (G.2 2, .object RX1), (G.2 3, .object RX4)]
def nKn (G : nC) (U : State) : Prop := va_K G.1 vwCl (nTy G) U ∧ (∀ w ∈ NW, va_Nw w U) ∧ va_AO RX1 U ∧ va_AO RX4 U
theorem nKn.go {G : nC} {s U : State} (h : nKn G s) (hW : s.WarmedH U.vm) : nKn G U := ⟨va_K.moved hW.alike h.1, fun w hw => xnw_moved hW (List.mem_filter.mp hw).2 (h.2.1 w hw), va_AO.moved hW.alike h.2.2.1, va_AO.moved hW.alike h.2.2.2⟩
theorem nKn.blind {G : nC} {U : State} {g : JFrame} {mk : MethodId} {a : Array Value} (h : nKn G U) : nKn G (U.calling g mk a) := ⟨va_K.moved (u := U) (U := U.calling g mk a) (Vm.Alike.refl U.vm) h.1, fun w hw => xnw_same (u := U) (U := U.calling g mk a) rfl (List.mem_filter.mp hw).2 (h.2.1 w hw), va_AO.moved (u := U) (U := U.calling g mk a) (Vm.Alike.refl U.vm) h.2.2.1, va_AO.moved (u := U) (U := U.calling g mk a) (Vm.Alike.refl U.vm) h.2.2.2⟩
def nFix (G : nC) (A : Nat → Prop) (Y : xY) (cc : ByteArray) (own : String) (nL : Nat) : Prop :=
  (yp Y).tables.exec = Jvm.exec ∧ (yc Y).code = cc ∧ (yc Y).maxLocals = nL ∧ (ys Y).vm.findClass own = some (ym Y).cls ∧ (∀ w ∈ LW, w.before (ya Y) (ys Y) = true) ∧ nKn G (ys Y) ∧ (∀ q, (ys Y).heap.size ≤ q → A q) ∧ (yM Y).locks = false
def WN (l : Launch) (G : nC) (R : Room) (A : Nat → Prop) (Y : xY) (k n pc : Nat) (ls st : List xV) (ws : va_W) : Prop :=
  ∀ (H : Heap) (locs : List Loc) (lr : Array Slot), va_P G.1 vwCl ws H → va_D A ws → va_S A (ys Y).heap H locs → xLs id (yc Y).maxLocals ls lr → ls.length ≤ (yc Y).maxLocals →
    W (yp Y) l (ye Y) R (ys Y) (ym Y) (ya Y) (yb Y) (yM Y) (yc Y) H locs k n (yQ Y) (F0 (ym Y) pc lr (st.map (xc id)))
section WN1
variable {l : Launch} {G : nC} {R : Room} {A : Nat → Prop} {Y : xY} {cc : ByteArray} {own : String} {nL : Nat} {k n pc : Nat} {ls st : List xV} {ws : va_W}
theorem n_aload_n (F : nFix G A Y cc own nL) {i : Fin 4} {q : Nat} (d : decode cc pc = .ok (.aload_n i, 1)) (hv : ls[(i : Nat)]? = some (vQ q)) (g : WN l G R A Y k n (pc + 1) ls (vQ q :: st) ws) : WN l G R A Y k n pc ls st ws := fun H locs lr hP hD hS hl hn => lv_aload_n F.1 F.2.1 d rfl (hl.2.2 _ _ hv rfl) (g H locs lr hP hD hS hl hn)
theorem n_iload_n (F : nFix G A Y cc own nL) {i : Fin 4} {x : Int32} (d : decode cc pc = .ok (.iload_n i, 1)) (hv : ls[(i : Nat)]? = some (vI x)) (g : WN l G R A Y k n (pc + 1) ls (vI x :: st) ws) : WN l G R A Y k n pc ls st ws := fun H locs lr hP hD hS hl hn => lv_iload_n F.1 F.2.1 d rfl (hl.2.2 _ _ hv rfl) (g H locs lr hP hD hS hl hn)
theorem n_iconst (F : nFix G A Y cc own nL) {i : Int} {v : Int32} (d : decode cc pc = .ok (.iconst i, 1)) (hv : Int32.ofInt i = v) (g : WN l G R A Y k n (pc + 1) ls (vI v :: st) ws) : WN l G R A Y k n pc ls st ws := fun H locs lr hP hD hS hl hn => lv_iconst F.1 F.2.1 d hv (g H locs lr hP hD hS hl hn)
theorem n_bipush (F : nFix G A Y cc own nL) {i : Int} {v : Int32} (d : decode cc pc = .ok (.bipush i, 2)) (hv : (Int8.ofInt i).toInt32 = v) (g : WN l G R A Y k n (pc + 2) ls (vI v :: st) ws) : WN l G R A Y k n pc ls st ws := fun H locs lr hP hD hS hl hn => lv_bipush F.1 F.2.1 d hv (g H locs lr hP hD hS hl hn)
theorem n_sipush (F : nFix G A Y cc own nL) {i : Int} {v : Int32} (d : decode cc pc = .ok (.sipush i, 3)) (hv : (Int16.ofInt i).toInt32 = v) (g : WN l G R A Y k n (pc + 3) ls (vI v :: st) ws) : WN l G R A Y k n pc ls st ws := fun H locs lr hP hD hS hl hn => lv_sipush F.1 F.2.1 d hv (g H locs lr hP hD hS hl hn)
theorem n_aload (F : nFix G A Y cc own nL) {i q : Nat} (d : decode cc pc = .ok (.aload i, 2)) (hv : ls[i]? = some (vQ q)) (g : WN l G R A Y k n (pc + 2) ls (vQ q :: st) ws) : WN l G R A Y k n pc ls st ws := fun H locs lr hP hD hS hl hn => lv_aload F.1 F.2.1 d (hl.2.2 _ _ hv rfl) (g H locs lr hP hD hS hl hn)
theorem n_dup (F : nFix G A Y cc own nL) {v : xV} (d : decode cc pc = .ok (.dup, 1)) (hc : xcat v = 1) (g : WN l G R A Y k n (pc + 1) ls (v :: v :: st) ws) : WN l G R A Y k n pc ls (v :: st) ws := fun H locs lr hP hD hS hl hn => lv_dup F.1 F.2.1 d (by rw [xc_cat]; exact hc) (g H locs lr hP hD hS hl hn)
theorem n_istore_n (F : nFix G A Y cc own nL) {i : Fin 4} {x : Int32} (d : decode cc pc = .ok (.istore_n i, 1)) (hi : (i : Nat) < nL) (g : WN l G R A Y k n (pc + 1) (stl ls (i : Nat) (vI x)) st ws) : WN l G R A Y k n pc ls (vI x :: st) ws := fun H locs lr hP hD hS hl hn => by
  have hi' := hi
  rw [← F.2.2.1] at hi'
  exact lv_istore_n F.1 F.2.1 d rfl hl.has hi' rfl (fun ls' h' => g H locs ls' hP hD hS (xLs.st hi' h' hn) (by rw [stl_len]; exact hn))
theorem n_istore (F : nFix G A Y cc own nL) {i : Nat} {x : Int32} (d : decode cc pc = .ok (.istore i, 2)) (hi : i < nL) (g : WN l G R A Y k n (pc + 2) (stl ls i (vI x)) st ws) : WN l G R A Y k n pc ls (vI x :: st) ws := fun H locs lr hP hD hS hl hn => by
  have hi' := hi
  rw [← F.2.2.1] at hi'
  exact lv_istore F.1 F.2.1 d hl.has hi' rfl (fun ls' h' => g H locs ls' hP hD hS (xLs.st hi' h' hn) (by rw [stl_len]; exact hn))
theorem n_astore_n (F : nFix G A Y cc own nL) {i : Fin 4} {x : Nat} (d : decode cc pc = .ok (.astore_n i, 1)) (hi : (i : Nat) < nL) (g : WN l G R A Y k n (pc + 1) (stl ls (i : Nat) (vQ x)) st ws) : WN l G R A Y k n pc ls (vQ x :: st) ws := fun H locs lr hP hD hS hl hn => by
  have hi' := hi
  rw [← F.2.2.1] at hi'
  exact lv_astore_n F.1 F.2.1 d rfl hl.has hi' rfl (fun ls' h' => g H locs ls' hP hD hS (xLs.st hi' h' hn) (by rw [stl_len]; exact hn))
theorem n_astore (F : nFix G A Y cc own nL) {i x : Nat} (d : decode cc pc = .ok (.astore i, 2)) (hi : i < nL) (g : WN l G R A Y k n (pc + 2) (stl ls i (vQ x)) st ws) : WN l G R A Y k n pc ls (vQ x :: st) ws := fun H locs lr hP hD hS hl hn => by
  have hi' := hi
  rw [← F.2.2.1] at hi'
  exact lv_astore F.1 F.2.1 d hl.has hi' rfl (fun ls' h' => g H locs ls' hP hD hS (xLs.st hi' h' hn) (by rw [stl_len]; exact hn))
theorem n_iinc (F : nFix G A Y cc own nL) {i : Nat} {c : Int} {x v : Int32} (d : decode cc pc = .ok (.iinc i c, 3)) (hv : ls[i]? = some (vI x)) (he : x + Int32.ofInt c = v) (g : WN l G R A Y k n (pc + 3) (stl ls i (vI v)) st ws) : WN l G R A Y k n pc ls st ws := fun H locs lr hP hD hS hl hn => by
  have hil : i < ls.length := (List.getElem?_eq_some_iff.mp hv).1
  have hi' : i < (yc Y).maxLocals := by omega
  have hm : (i, Value.int x) ∈ xll id (yc Y).maxLocals ls := xll_mem.mpr ⟨hi', _, hv, rfl, rfl⟩
  obtain ⟨q, hq⟩ := List.getElem?_of_mem hm
  exact lv_iinc F.1 F.2.1 d hl.has hq he hi' rfl (fun ls' h' => g H locs ls' hP hD hS (xLs.st (v := vI v) hi' h' hn) (by rw [stl_len]; exact hn))
theorem n_goto (F : nFix G A Y cc own nL) {off : Int} {tgt : Nat} (d : decode cc pc = .ok (.goto off, 3)) (ht : (pc : Int) + off = (tgt : Int)) (g : WN l G R A Y k n tgt ls st ws) : WN l G R A Y k n pc ls st ws := fun H locs lr hP hD hS hl hn => lv_goto F.1 F.2.1 d ht (g H locs lr hP hD hS hl hn)
theorem n_icmp_ge (F : nFix G A Y cc own nL) {x y : Int32} {off : Int} {tgt : Nat} (d : decode cc pc = .ok (.if_icmp .ge off, 3)) (ht : (pc : Int) + off = (tgt : Int)) (g1 : y ≤ x → WN l G R A Y k n tgt ls st ws) (g2 : ¬ y ≤ x → WN l G R A Y k n (pc + 3) ls st ws) : WN l G R A Y k n pc ls (vI y :: vI x :: st) ws := fun H locs lr hP hD hS hl hn => lv_icmp_ge F.1 F.2.1 d ht (fun q => g1 q H locs lr hP hD hS hl hn) (fun q => g2 q H locs lr hP hD hS hl hn)
/-- Object() -/
theorem n_obj (F : nFix G A Y cc own nL) {q idx : Nat} (hl : Cond.methodLink own idx Lib.objectInit ∈ LW) (d : decode cc pc = .ok (.invokespecial idx, 3)) (hR : 1 ≤ R.frames ∧ 40 ≤ R.locals) (hst : (st.map xcat).sum ≤ 8) (g : WN l G R A Y k n (pc + 3) ls st ws) : WN l G R A Y k n pc ls (vQ q :: st) ws := fun H locs lr hP hD hS hlr hn => by
  refine W.objInit F.1 F.2.1 F.2.2.2.1 (F.2.2.2.2.1 _ hl) (F.2.2.2.2.1 _ (LW_of 50 (by decide +kernel) (by decide +kernel))) (F.2.2.2.2.1 _ (LW_of 51 (by decide +kernel) (by decide +kernel))) rfl (by rw [← hlr.1]) rfl d hR.1 ?_ (g H locs lr hP hD hS hlr hn)
  have := xst_sum id hst
  have h2 := hR.2
  show 2 * 0 + _ + 12 ≤ _
  omega
theorem nRA_char {U : State} {c1 c2 : ClassId} (h1 : va_RA U c1 .char) (h2 : va_RA U c2 .char) : c1 = c2 := Option.some.inj (Eq.trans (Eq.symm h1) h2)
theorem nRA_obj {U : State} {c1 c2 : ClassId} {C : String} (h1 : va_RA U c1 (.object C)) (h2 : va_RA U c2 (.object C)) : c1 = c2 := by
  obtain ⟨-, -, -, -, -, a⟩ := h1
  obtain ⟨-, -, -, -, -, b⟩ := h2
  exact Option.some.inj (Eq.trans (Eq.symm a) b)
theorem n_newI (F : nFix G A Y cc own nL) {x : Int32} {N : Nat} (d : decode cc pc = .ok (.newarray .int, 2)) (hn : ¬ x < 0) (hN : x.toNatClampNeg = N) (hb : N ≤ 1000) (hR : k + 1 ≤ R.cells ∧ n + N ≤ R.slots) (g : ∀ q : Nat, WN l G R A Y (k + 1) (n + N) (pc + 2) ls (vQ q :: st) (ws ++ [(q, .inl (G.2 0, N, .inl (fun _ => 0)))])) : WN l G R A Y k n pc ls (vI x :: st) ws := fun H locs lr hP hD hS hl hn9 =>
  va_newa (atype := .int) F.1 F.2.1 (F.2.2.2.2.1 _ (LW_of 89 (by decide +kernel) (by decide +kernel))) rfl F.2.2.2.2.2.1.1 hP hD hS F.2.2.2.2.2.2.1 (a0 := (N, .inl (fun _ => 0))) (fun _ => rfl) hn hN (by show N * 4 ≤ _; omega) hR.1 hR.2 d (fun q cA H1 hK1 hP1 hD1 hS1 => by
    have e : cA = G.2 0 := nRA_int (nK_last hK1) (F.2.2.2.2.2.1.1.2 0 _ rfl).2
    subst e
    exact g q H1 locs lr hP1 hD1 hS1 hl hn9)
theorem n_newC (F : nFix G A Y cc own nL) {x : Int32} {N : Nat} (d : decode cc pc = .ok (.newarray .char, 2)) (hn : ¬ x < 0) (hN : x.toNatClampNeg = N) (hb : N ≤ 1000) (hR : k + 1 ≤ R.cells ∧ n + N ≤ R.slots) (g : ∀ q : Nat, WN l G R A Y (k + 1) (n + N) (pc + 2) ls (vQ q :: st) (ws ++ [(q, .inl (G.2 1, N, .inl (fun _ => 0)))])) : WN l G R A Y k n pc ls (vI x :: st) ws := fun H locs lr hP hD hS hl hn9 =>
  va_newa (atype := .char) F.1 F.2.1 (F.2.2.2.2.1 _ (LW_of 121 (by decide +kernel) (by decide +kernel))) rfl F.2.2.2.2.2.1.1 hP hD hS F.2.2.2.2.2.2.1 (a0 := (N, .inl (fun _ => 0))) (fun _ => rfl) hn hN (by show N * 2 ≤ _; omega) hR.1 hR.2 d (fun q cA H1 hK1 hP1 hD1 hS1 => by
    have e : cA = G.2 1 := nRA_char (nK_last hK1) (F.2.2.2.2.2.1.1.2 1 _ rfl).2
    subst e
    exact g q H1 locs lr hP1 hD1 hS1 hl hn9)
theorem n_newQ (F : nFix G A Y cc own nL) {x : Int32} {N idx j : Nat} {C : String} (hc : Cond.classLink own idx C ∈ LW) (ho : nKn G (ys Y) → va_AO C (ys Y)) (hj : (nTy G)[j]? = some (G.2 j, .object C)) (d : decode cc pc = .ok (.anewarray idx, 3)) (hn : ¬ x < 0) (hN : x.toNatClampNeg = N) (hb : N ≤ 1000) (hR : k + 1 ≤ R.cells ∧ n + N ≤ R.slots) (g : ∀ q : Nat, WN l G R A Y (k + 1) (n + N) (pc + 3) ls (vQ q :: st) (ws ++ [(q, .inl (G.2 j, N, .inr (.inr (.inr (.inr (fun _ => none))))))])) : WN l G R A Y k n pc ls (vI x :: st) ws := fun H locs lr hP hD hS hl hn9 =>
  va_newq F.1 F.2.1 F.2.2.2.1 (F.2.2.2.2.1 _ hc) (ho F.2.2.2.2.2.1) F.2.2.2.2.2.1.1 hP hD hS F.2.2.2.2.2.2.1 hn hN (by omega) hR.1 hR.2 d (fun q cA H1 hK1 hP1 hD1 hS1 => by
    have e : cA = G.2 j := nRA_obj (nK_last hK1) (F.2.2.2.2.2.1.1.2 j _ hj).2
    subst e
    exact g q H1 locs lr hP1 hD1 hS1 hl hn9)
/-- a new object -/
def xNO (own : String) (idx ci : Nat) : Prop := ∃ (C : String) (T : u_T) (N : Nat), vwCl[ci]? = some (C, T, N) ∧ (∀ w ∈ u_ws C T N, w ∈ LW) ∧ Cond.classLink own idx C ∈ LW ∧ Cond.instantiable C N ∈ LW ∧ Cond.initialized C ∈ LW
theorem n_new (F : nFix G A Y cc own nL) {idx ci N : Nat} {C : String} {T : u_T} (hc : vwCl[ci]? = some (C, T, N)) (hw : ∀ w ∈ u_ws C T N, w ∈ LW) (h1 : Cond.classLink own idx C ∈ LW) (h2 : Cond.instantiable C N ∈ LW) (h3 : Cond.initialized C ∈ LW) (d : decode cc pc = .ok (.new idx, 3)) {ty : Nat → FieldType} (hty : ∀ k, k < N → parseFieldDescriptor (T k).2.2.1 = some (ty k)) {fs : List Value} (hfs : ∀ j, j < N → defaultValue (ty j) = vp_V fs j) (hR : k + 1 ≤ R.cells ∧ n + N ≤ R.slots) (g : ∀ q : Nat, WN l G R A Y (k + 1) (n + N) (pc + 3) ls (vQ q :: st) (ws ++ [(q, .inr (ci, fs))])) : WN l G R A Y k n pc ls st ws := fun H locs lr hP hD hS hl hn9 =>
  va_new (Ts := LW) F.1 F.2.1 F.2.2.2.2.1 hw ty hty F.2.2.2.1 (F.2.2.2.2.1 _ h1) (F.2.2.2.2.1 _ h2) (F.2.2.2.2.1 _ h3) F.2.2.2.2.2.1.1 hP hD hS F.2.2.2.2.2.2.1 hc hfs hR.1 hR.2 d (fun q H1 hP1 hD1 hS1 => g q H1 locs lr hP1 hD1 hS1 hl hn9)
/-- fields -/
theorem n_get (F : nFix G A Y cc own nL) {idx ci j a q0 : Nat} {fs : List Value} {v : xV} (h : xFL own idx ci j) (he : ws[q0]? = some (a, .inr (ci, fs))) (hv : fs[j]? = some (xc id v)) (d : decode cc pc = .ok (.getfield idx, 3)) (g : WN l G R A Y k n (pc + 3) ls (v :: st) ws) : WN l G R A Y k n pc ls (vQ a :: st) ws := fun H locs lr hP hD hS hl hn9 => by
  obtain ⟨C, T, N, h1, h2, h3, h4, h5⟩ := h
  exact va_get (Ts := LW) (ref := C) F.1 F.2.1 F.2.2.2.2.1 h3 F.2.2.2.1 F.2.2.2.2.2.1.1 hP q0 he h1 j h2 (F.2.2.2.2.1 _ h4) (fun x hx => by rw [h5] at hx; exact hx) hv d (g H locs lr hP hD hS hl hn9)
theorem n_put (F : nFix G A Y cc own nL) {idx ci j a q0 : Nat} {fs : List Value} {v : xV} {ty : FieldType} (h : xFL own idx ci j) (hc : ci < 8) (he : ws[q0]? = some (a, .inr (ci, fs))) (hw : xFW ci j ty) (hn1 : narrow ty (xc id v) = xc id v) (hfit : fits ty (xc id v) = true) (hl9 : j < fs.length) (d : decode cc pc = .ok (.putfield idx, 3)) (g : WN l G R A Y k n (pc + 3) ls st (ws.set q0 (a, .inr (ci, fs.set j (xc id v))))) : WN l G R A Y k n pc ls (v :: vQ a :: st) ws := fun H locs lr hP hD hS hl hn9 => by
  obtain ⟨C, T, N, h1, h2, h3, h4, h5⟩ := h
  obtain ⟨⟨ty0, t1⟩, t2⟩ := xCT_all ci hc C T N h1
  obtain ⟨w1, w2⟩ := hw C T N h1
  exact va_put (Ts := LW) (ref := C) F.1 F.2.1 F.2.2.2.2.1 h3 ty0 t1 t2 F.2.2.2.1 F.2.2.2.2.2.1.1 hP hD hS q0 he h1 j h2 (F.2.2.2.2.1 _ h4) (fun x hx => by rw [h5] at hx; exact hx) w1 w2 hn1 hfit hl9 d (fun H1 locs1 hP1 hD1 hS1 => g H1 locs1 lr hP1 hD1 hS1 hl hn9)
/-- a final field, in its constructor -/
def xFF (own : String) (ci j : Nat) (ty : FieldType) : Prop := ∀ (C : String) (T : u_T) (N : Nat), vwCl[ci]? = some (C, T, N) → (T j).2.2.2 = true ∧ parseFieldDescriptor (T j).2.2.1 = some ty ∧ (T j).1 = own
theorem n_putF (F : nFix G A Y cc own nL) (hin : (yM Y).name = "<init>") {idx ci j a q0 : Nat} {fs : List Value} {v : xV} {ty : FieldType} (h : xFL own idx ci j) (hc : ci < 8) (he : ws[q0]? = some (a, .inr (ci, fs))) (hw : xFF own ci j ty) (hn1 : narrow ty (xc id v) = xc id v) (hfit : fits ty (xc id v) = true) (hl9 : j < fs.length) (d : decode cc pc = .ok (.putfield idx, 3)) (g : WN l G R A Y k n (pc + 3) ls st (ws.set q0 (a, .inr (ci, fs.set j (xc id v))))) : WN l G R A Y k n pc ls (v :: vQ a :: st) ws := fun H locs lr hP hD hS hl hn9 => by
  obtain ⟨C, T, N, h1, h2, h3, h4, h5⟩ := h
  obtain ⟨⟨ty0, t1⟩, t2⟩ := xCT_all ci hc C T N h1
  obtain ⟨w1, w2, w3⟩ := hw C T N h1
  exact va_putF (Ts := LW) (ref := C) F.1 F.2.1 F.2.2.2.2.1 h3 ty0 t1 t2 F.2.2.2.1 F.2.2.2.2.2.1.1 hP hD hS q0 he h1 j h2 (F.2.2.2.2.1 _ h4) (fun x hx => by rw [h5] at hx; exact hx) w1 hin w3 w2 hn1 hfit hl9 d (fun H1 locs1 hP1 hD1 hS1 => g H1 locs1 lr hP1 hD1 hS1 hl hn9)
/-- places -/
theorem n_iast (F : nFix G A Y cc own nL) {a q0 N : Nat} {f : Nat → Int32} {i x : Int32} (he : ws[q0]? = some (a, .inl (G.2 0, N, .inl f))) (hin : vp_in i N) (d : decode cc pc = .ok (.iastore, 1)) (g : WN l G R A Y k n (pc + 1) ls st (ws.set q0 (a, .inl (G.2 0, N, .inl (upd f i.toNatClampNeg x))))) : WN l G R A Y k n pc ls (vI x :: vI i :: vQ a :: st) ws := fun H locs lr hP hD hS hl hn9 =>
  va_iast F.1 F.2.1 F.2.2.2.2.2.1.1 hP hD hS q0 0 he rfl hin d (fun H1 locs1 hP1 hD1 hS1 => g H1 locs1 lr hP1 hD1 hS1 hl hn9)
theorem n_alen (F : nFix G A Y cc own nL) {a q0 t0 : Nat} {cA : ClassId} {x : vp_A} {ty : FieldType} {v : Int32} (he : ws[q0]? = some (a, .inl (cA, x))) (ht : (nTy G)[t0]? = some (cA, ty)) (hv : Int32.ofNat x.1 = v) (d : decode cc pc = .ok (.arraylength, 1)) (g : WN l G R A Y k n (pc + 1) ls (vI v :: st) ws) : WN l G R A Y k n pc ls (vQ a :: st) ws := fun H locs lr hP hD hS hl hn9 =>
  va_alen F.1 F.2.1 F.2.2.2.2.2.1.1 hP q0 t0 he ht hv d (g H locs lr hP hD hS hl hn9)
theorem n_astq (F : nFix G A Y cc own nL) {a q0 t0 qk ci N v : Nat} {vs : List Value} {f : Nat → Option Nat} {r : vw_C} {i : Int32} (he : ws[q0]? = some (a, .inl (G.2 t0, N, .inr (.inr (.inr (.inr f)))))) (ht : (nTy G)[t0]? = some (G.2 t0, .object r.1)) (hv : ws[qk]? = some (v, .inr (ci, vs))) (hc : vwCl[ci]? = some r) (hin : vp_in i N) (d : decode cc pc = .ok (.aastore, 1)) (g : WN l G R A Y k n (pc + 1) ls st (ws.set q0 (a, .inl (G.2 t0, N, .inr (.inr (.inr (.inr (va_up f i.toNatClampNeg (some v))))))))) : WN l G R A Y k n pc ls (vQ v :: vI i :: vQ a :: st) ws := fun H locs lr hP hD hS hl hn9 =>
  va_astq F.1 F.2.1 F.2.2.2.2.2.1.1 hP hD hS q0 t0 qk ci he ht hv hc hin d (fun H1 locs1 hP1 hD1 hS1 => g H1 locs1 lr hP1 hD1 hS1 hl hn9)
theorem n_widen {k' n' : Nat} (h1 : k ≤ k') (h2 : n ≤ n') (g : WN l G R A Y k' n' pc ls st ws) : WN l G R A Y k n pc ls st ws := fun H locs lr hP hD hS hl hn9 => W.widen h1 h2 (g H locs lr hP hD hS hl hn9)
end WN1
/-- a constructor's contract: its object's cell, fields at their defaults, in; a list of cells out -/
def nPc (G : nC) (h0 sz : Nat) (e0 : va_E) : Array Value → State → Prop := va_Pc [.ref h0] (fun U => U.heap.size = sz ∧ va_P G.1 vwCl [(h0, e0)] U.heap ∧ nKn G U)
def nQc (G : nC) (h0 sz : Nat) (e0 : va_E) (post : va_W → Prop) : Array Value → State → Outcome → State → Prop := va_Qv post (fun w t => va_P G.1 vwCl w t.heap ∧ va_D (va_A [(h0, e0)] sz) w) (va_A [(h0, e0)] sz)
def XN (l : Launch) (G : nC) (d mc ms : Nat) (y : MethodName) (cc : ByteArray) (nL : Nat) (e0 : va_E) (post : Nat → va_W → Prop) : Prop :=
  ∀ h0 sz : Nat, Met l y (Cond.code y cc nL none :: LW) (xRm d mc ms) (nPc G h0 sz e0) (nQc G h0 sz e0 (post h0)) mc ms (va_A [(h0, e0)] sz)
def nRet (G : nC) (Y : xY) (h0 : Nat) (e0 : va_E) (mc ms : Nat) (post : va_W → Prop) : Prop :=
  yQ Y = MQ (yb Y) (nQc G h0 (ys Y).heap.size e0 post) (ya Y) (ys Y) mc ms (va_A [(h0, e0)] (ys Y).heap.size) ∧ (yM Y).sig.returnType = none ∧ (yM Y).name = "<init>"
theorem xn_start {l : Launch} {G : nC} {d mc ms : Nat} {y : MethodName} {cc : ByteArray} {nL : Nat} {e0 : va_E} {post : Nat → va_W → Prop} (hy : plainName y.cls = true) (hi : y.name = "<init>") (hnL : 1 ≤ nL)
    (body : ∀ (Y : xY) (h0 : Nat), nFix G (va_A [(h0, e0)] (ys Y).heap.size) Y cc y.cls nL → nRet G Y h0 e0 mc ms (post h0) → WN l G (xRm d mc ms) (va_A [(h0, e0)] (ys Y).heap.size) Y 0 0 0 (vQ h0 :: List.replicate (nL - 1) vU) [] [(h0, e0)]) : XN l G d mc ms y cc nL e0 post := by
  intro h0 sz
  refine Met.ofW (cc := cc) (maxL := nL) (ret := none) hy rfl ?_
  intro p e s m args' below meth c s₁ B hml hv
  obtain ⟨rfl, rfl, hP, hk⟩ := hv
  have hts := atoms_spec (ws := Cond.code y cc nL none :: LW) B.pre
  have hin : meth.name = "<init>" := (name_of_methodNamed B.named B.method).1.trans hi
  have hF : nFix G (va_A [(h0, e0)] s.heap.size) (p, e, s, m, ([Value.ref h0] : List Value).toArray, below, meth, c, MQ below (nQc G h0 s.heap.size e0 (post h0)) ([Value.ref h0] : List Value).toArray s mc ms (va_A [(h0, e0)] s.heap.size)) cc y.cls nL :=
    ⟨B.exec, B.bytes, hml, findClass_of_methodNamed B.named, fun w hw => hts w (List.mem_cons_of_mem _ hw), hk, fun q hq => Or.inr hq, B.notSynchronized⟩
  have hb := body _ h0 hF ⟨rfl, B.returns, hin⟩
  have hD : va_D (va_A [(h0, e0)] s.heap.size) [(h0, e0)] := by
    refine ⟨fun i j p q hi hj _ => ?_, fun k q hk => va_A.in hk⟩
    have h1 := (List.getElem?_eq_some_iff.mp hi).1
    have h2 := (List.getElem?_eq_some_iff.mp hj).1
    simp at h1 h2
    omega
  rw [lg_entry_eq]
  have hent : xEnt [vQ h0] ++ List.replicate (nL - (xEnt [vQ h0]).length) vU = vQ h0 :: List.replicate (nL - 1) vU := rfl
  refine hb s.heap [] _ hP hD va_S.rf ?_ ?_
  · show xLs id c.maxLocals _ _
    rw [hml, ← hent]
    exact xEnt_ls (ad := id) (as := [vQ h0]) hnL
  · show _ ≤ c.maxLocals
    rw [hml]
    simp
    omega
theorem va_nd_nodup : ∀ l : List Nat, l.Nodup → va_nd l = true
  | [], _ => rfl
  | a :: l, h => by
    rw [List.nodup_cons] at h
    simp only [va_nd, Bool.and_eq_true, decide_eq_true_eq]
    exact ⟨h.1, va_nd_nodup l h.2⟩
section WN2
variable {l : Launch} {G : nC} {R : Room} {A : Nat → Prop} {Y : xY} {cc : ByteArray} {own : String} {nL : Nat} {k n pc mc ms d' idx nLy : Nat} {ls st : List xV} {ws : va_W} {e0 : va_E} {y : MethodName} {cy : ByteArray}
theorem n_vret {h0 : Nat} {post : va_W → Prop} (F : nFix G (va_A [(h0, e0)] (ys Y).heap.size) Y cc own nL) (FR : nRet G Y h0 e0 mc ms post) (d : decode cc pc = .ok (.return_, 1)) (hk : k ≤ mc) (hs : n ≤ ms) (h : post ws) : WN l G R (va_A [(h0, e0)] (ys Y).heap.size) Y k n pc ls [] ws := by
  intro H locs lr hP hD hS hl hn9
  rw [show yQ Y = _ from FR.1]
  refine W.widen hk hs ?_
  exact W.vret F.1 F.2.1 FR.2.1 (fun t ht hW => ⟨⟨ws, rfl, h, by rw [ht]; exact hP, hD⟩, hS.F ht⟩) hS.2.2 d F.2.2.2.2.2.2.2
/-- a constructor's call; its object stands last -/
theorem n_go {b mc ms : Nat} {post9 : va_W → Prop} (F : nFix G A Y cc own nL) (hr : ∀ (H : Heap) (locs : List Loc) (lr : Array Slot), va_P G.1 vwCl (ws ++ [(b, e0)]) H → va_D A (ws ++ [(b, e0)]) → va_S A (ys Y).heap H locs → xLs id (yc Y).maxLocals ls lr → va_Run (yp Y) l (ye Y) R (ys Y) (ym Y) (ya Y) (yb Y) (yM Y) (yc Y) H locs k n mc ms (F0 (ym Y) pc lr ((vQ b :: st).map (xc id))) (st.map (xc id)) (nQc G b H.size e0 post9 #[.ref b]) (va_A [(b, e0)] H.size))
    (g : ∀ w : va_W, post9 w → WN l G R A Y (k + mc) (n + ms) (pc + 3) ls st (ws ++ w)) : WN l G R A Y k n pc ls (vQ b :: st) (ws ++ [(b, e0)]) := by
  intro H locs lr hP hD hS hl hn9
  have hlast : (ws ++ [(b, e0)])[ws.length]? = some (b, e0) := by simp
  have hfree : ∀ q, va_A [(b, e0)] H.size q → A q := va_free (wc := [(b, e0)]) hD hS F.2.2.2.2.2.2.1 [ws.length] (by simp)
  refine va_callv (hr H locs lr hP hD hS hl) hS (fun q _ h => hfree q h) hfree (fun w t H1 locs1 ht hvm hw hB hz1 hk1 hS1 => ?_)
  obtain ⟨hP1, hD1⟩ := hB
  rw [ht] at hP1
  obtain ⟨hP2, hD2⟩ := va_join (wr := ws) (w1 := w) hP hD [ws.length] (List.range ws.length) (by simp) (by
    refine List.ext_getElem? (fun i => ?_)
    rw [List.getElem?_map, List.getElem?_map]
    rcases Nat.lt_or_ge i ws.length with h | h
    · rw [List.getElem?_range h]
      simp [List.getElem?_append_left h, List.getElem?_eq_getElem h]
    · rw [List.getElem?_eq_none (by simp; omega), List.getElem?_eq_none (by omega)]
      rfl) (va_nd_nodup _ List.nodup_range) (fun i hi z => by
    have := List.mem_range.mp hi
    simp at z
    omega) hk1 hfree hP1 hD1
  exact g w hw H1 locs1 lr hP2 hD2 hS1 hl hn9
end WN2
