/-! THE LAW'S OWN METHODS: they catch what the class throws. XH: such a method returns, with post. -/
abbrev CIO : String := "java/lang/IndexOutOfBoundsException"
abbrev CIA : String := "java/lang/IllegalArgumentException"
abbrev CIS : String := "java/lang/IllegalStateException"
/-- none of the three is one of the others -/
def xNC (U : State) : Prop := va_Nc CIA CIO U ∧ va_Nc CIS CIO U ∧ va_Nc CIS CIA U
theorem xNC.moved {u U : State} (hvm : u.vm.Alike U.vm) (h : xNC u) : xNC U := ⟨h.1.moved hvm, h.2.1.moved hvm, h.2.2.moved hvm⟩
def xPh (E : xE) (args : List xV) (M : xM) : Array Value → State → Prop := fun a s => xPc E args M a s ∧ xNC s
theorem xPh_blind (E : xE) (args : List xV) (M : xM) : FrameBlind (xPh E args M) := fun a U g mk q => ⟨xPc_blind E args M a U g mk q.1, xNC.moved (u := U) (U := U.calling g mk a) (Vm.Alike.refl U.vm) q.2⟩
def XH (l : Launch) (E : xE) (d mc ms : Nat) (y : MethodName) (cc : ByteArray) (nL : Nat) (rt : Option FieldType) (hh : List (Nat × Nat × Nat × Nat)) (args : List xV) (M : xM) (post : xV → xM → Prop) : Prop :=
  Met l y (Cond.codeWith y cc nL rt hh :: LW) (xRm d mc ms) (xPh E args M) (xQc E post) mc ms (xA E)
def xRetH (E : xE) (Y : xY) (rt : Option FieldType) (mc ms : Nat) (post : xV → xM → Prop) (hh : List (Nat × Nat × Nat × Nat)) : Prop :=
  yQ Y = vx_MQ (yb Y) (xQc E post) (xXc E (fun _ _ => False)) (ya Y) (ys Y) mc ms (xA E) ∧ (yM Y).sig.returnType = rt ∧ (yc Y).exceptionTable.toList = tableOf hh
theorem xh_start {l : Launch} {E : xE} {d mc ms : Nat} {y : MethodName} {cc : ByteArray} {nL : Nat} {rt : Option FieldType} {hh : List (Nat × Nat × Nat × Nat)} {args : List xV} {M : xM} {post : xV → xM → Prop} (hy : plainName y.cls = true) {ls0 : List xV} (hls : xEnt args ++ List.replicate (nL - (xEnt args).length) vU = ls0) (hlen : (xEnt args).length ≤ nL)
    (body : ∀ Y : xY, xFix E (xA E) Y cc y.cls nL → xRetH E Y rt mc ms post hh → xNC (ys Y) → WP l E (xRm d mc ms) (xA E) Y 0 0 0 ls0 [] M) : XH l E d mc ms y cc nL rt hh args M post := by
  have hX : vx_Met l y (Cond.codeWith y cc nL rt hh :: LW) (xRm d mc ms) (xPh E args M) (xQc E post) (xXc E (fun _ _ => False)) mc ms (xA E) := by
    refine vx_ofWH (cc := cc) (maxL := nL) (ret := rt) (hh := hh) hy rfl ?_
    intro p e s m args' below meth c s₁ B hml hv
    obtain ⟨⟨rfl, hP, hk⟩, hnc⟩ := hv
    have hts := atoms_spec (ws := Cond.codeWith y cc nL rt hh :: LW) B.pre
    have hF : xFix E (xA E) (p, e, s, m, (args.map (xc E.2.2.1)).toArray, below, meth, c, vx_MQ below (xQc E post) (xXc E (fun _ _ => False)) (args.map (xc E.2.2.1)).toArray s mc ms (xA E)) cc y.cls nL :=
      ⟨B.exec, B.bytes, hml, findClass_of_methodNamed B.named, fun w hw => hts w (List.mem_cons_of_mem _ hw), hk, fun a ha => ⟨a, ha, rfl⟩, fun q _ z => z, B.notSynchronized⟩
    have hb := body _ hF ⟨rfl, B.returns, vx_table (x := y) B (hts _ List.mem_cons_self)⟩ hnc
    rw [lg_entry_eq]
    subst hls
    refine hb s.heap [] _ hP va_S.rf ?_ ?_
    · show xLs E.2.2.1 c.maxLocals _ _
      rw [hml]
      exact xEnt_ls hlen
    · show _ ≤ c.maxLocals
      rw [hml]
      simp
      omega
  unfold XH Met
  unfold vx_Met at hX
  exact MetFree.mono hX (fun _ _ z => z) (fun _ _ _ _ _ z => z) (fun a st o t _ z => by
    rcases z with z | ⟨q, -, C, ce, L, ⟨M', h2, -⟩, -⟩
    · exact z
    · exact h2.elim)
section XHEND
variable {l : Launch} {E : xE} {R : Room} {Y : xY} {cc : ByteArray} {own : String} {nL : Nat} {k n pc mc ms : Nat} {ls st : List xV} {M : xM} {post : xV → xM → Prop} {hh : List (Nat × Nat × Nat × Nat)} {rt : FieldType}
theorem x_iretH (F : xFix E (xA E) Y cc own nL) (FR : xRetH E Y (some rt) mc ms post hh) {x : Int32} (d : decode cc pc = .ok (.ireturn, 1)) (hn : narrow rt (.int x) = .int x) (hk : k ≤ mc) (hs : n ≤ ms) (h : post (vI x) M) : WP l E R (xA E) Y k n pc ls [vI x] M := by
  intro H locs lr hP hS hl hn9
  rw [show yQ Y = _ from FR.1]
  refine W.widen hk hs (vx_ret ?_)
  exact W.zret F.1 F.2.1 FR.2.1 hn (fun t ht hW => ⟨⟨vI x, M, rfl, h, by rw [ht]; exact hP⟩, hS.F ht⟩) hS.2.2 d F.2.2.2.2.2.2.2.2
/-- caught here -/
theorem x_catch {A : Nat → Prop} (F : xFix E A Y cc own nL) (hT : (yc Y).exceptionTable.toList = tableOf hh) {C name : String} (pre : List ExceptionTableEntry) (x : ExceptionTableEntry) (suf : List ExceptionTableEntry) (hsplit : tableOf hh = pre ++ x :: suf)
    (hpass : ∀ z ∈ pre, covers z pc = false ∨ (z.catchType ≠ 0 ∧ ∃ nm : String, Cond.classLink own z.catchType nm ∈ LW ∧ va_Nc C nm (ys Y))) (hx : covers x pc = true) (h0 : x.catchType ≠ 0)
    (hlink : Cond.classLink own x.catchType name ∈ LW) (hcast : Cond.castable C name ∈ NW) (g : ∀ q : Nat, WP l E R A Y k n x.handlerPc ls [vQ q] M) : WX l E R A Y k n pc ls st M C := by
  intro H locs lr q ce hP hS hl hn hq hv hcl
  exact vx_catch F.2.2.2.1 pre x suf (hT.trans hsplit) (fun z hz => by
    rcases hpass z hz with h | ⟨h1, nm, h2, h3⟩
    · exact Or.inl h
    · exact Or.inr ⟨h1, nm, F.2.2.2.2.1 _ h2, h3⟩) hx h0 (F.2.2.2.2.1 _ hlink) (F.2.2.2.2.2.1.2.1 _ hcast) hq hv hcl (g q H locs lr hP hS hl hn)
end XHEND
theorem cl13 : Cond.classLink RL 13 CIO ∈ LW := LW_of 706 (by decide +kernel) (by decide +kernel)
theorem cl15 : Cond.classLink RL 15 CIA ∈ LW := LW_of 707 (by decide +kernel) (by decide +kernel)
theorem cl17 : Cond.classLink RL 17 CIS ∈ LW := LW_of 708 (by decide +kernel) (by decide +kernel)
theorem ct1 : Cond.castable CIO CIO ∈ NW := NW_of 722 (by decide +kernel) (by decide +kernel)
theorem ct2 : Cond.castable CIA CIA ∈ NW := NW_of 791 (by decide +kernel) (by decide +kernel)
theorem ct3 : Cond.castable CIS CIS ∈ NW := NW_of 813 (by decide +kernel) (by decide +kernel)
theorem xcl_1 : xcl 1 = CIO := rfl
theorem xcl_2 : xcl 2 = CIA := rfl
theorem xcl_3 : xcl 3 = CIS := rfl

section XHC
variable {l : Launch} {E : xE} {R : Room} {A : Nat → Prop} {Y : xY} {cc : ByteArray} {own : String} {nL : Nat} {k n pc mc ms d' idx nLy : Nat} {ls st st0 As : List xV} {M : xM} {post : xV → xM → Prop} {hh : List (Nat × Nat × Nat × Nat)} {y : MethodName} {cy : ByteArray} {rty : Option FieldType}
def xMH (y : MethodName) (cy : ByteArray) (nLy : Nat) (rty : Option FieldType) (hh : List (Nat × Nat × Nat × Nat)) (i : Nat) : Prop := xMY y i ∧ Cond.codeWith y cy nLy rty hh ∈ LW ∧ Cond.static y ∈ LW
theorem x_runH (F : xFix E A Y cc own nL) {a : Array Value} (hr : ∀ (H : Heap) (locs : List Loc) (lr : Array Slot), va_P E.1 vwCl (xws E M) H → va_S A (ys Y).heap H locs → xLs E.2.2.1 (yc Y).maxLocals ls lr → va_Run (yp Y) l (ye Y) R (ys Y) (ym Y) (ya Y) (yb Y) (yM Y) (yc Y) H locs k n mc ms (F0 (ym Y) pc lr (st0.map (xc E.2.2.1))) (st.map (xc E.2.2.1)) (xQc E post a) (xA E))
    (g : ∀ r M', post r M' → WP l E R A Y (k + mc) (n + ms) (pc + 3) ls (xps r st) M') : WP l E R A Y k n pc ls st0 M := by
  intro H locs lr hP hS hl hn T hT X
  obtain ⟨v, st₀, t, T', L, h0, X', hL, e1, e2, ⟨⟨r, M', hv, hp, hb⟩, hF⟩, hg⟩ := hr H locs lr hP hS hl T hT X
  have hv' : v = xrt E r := Option.some.inj (by simpa using hv)
  subst hv'
  obtain ⟨t2, a1, b1⟩ := g r M' hp T'.heap (locs ++ L) lr (by rw [e1]; exact hb) (xS_go F hS h0 hL e1 hF) hl hn T' rfl X'
  refine ⟨t2, hg t2 ?_, b1⟩
  show Steps _ _ _ (T'.setTop (F0 (ym Y) (pc + 3) lr ((xrt E r).toList ++ st.map (xc E.2.2.1)))) t2
  rw [xrt_ps]
  exact a1
theorem xcw_H {i : Nat} (F : xFix E A Y cc own nL) (hl : xML own idx y) (hv : xMH y cy nLy rty hh i) (hR : d' + 1 ≤ R.frames ∧ 8 + (nLy + 11) + 64 * d' ≤ R.locals) : vx_CSW R (ys Y) (ya Y) own idx y cy nLy rty hh (Cond.codeWith y cy nLy rty hh :: LW) (xRm d' mc ms) mc ms i := by
  obtain ⟨⟨i1, i2, i3, i4⟩, c1, c2⟩ := hv
  refine vx_cwSW (Ts := LW) i F.2.2.2.2.1 (LW_goodIn ?_) rfl rfl rfl ⟨i2, i3, i4⟩ hR
  intro w hw
  rcases List.mem_append.mp hw with h | h
  · rcases List.mem_cons.mp h with rfl | h
    · exact hl
    rcases List.mem_cons.mp h with rfl | h
    · exact c2
    rcases List.mem_cons.mp h with rfl | h
    · exact i1
    cases h
  · rcases List.mem_cons.mp h with rfl | h
    · exact c1
    · exact h
theorem x_callH (F : xFix E A Y cc own nL) (hN : xNC (ys Y)) (hM : XH l E d' mc ms y cy nLy rty hh As M post) (hl : xML own idx y) (hv : xMH y cy nLy rty hh As.length) (hR : d' + 1 ≤ R.frames ∧ 8 + (nLy + 11) + 64 * d' ≤ R.locals) (hcs : k + mc ≤ R.cells ∧ n + ms ≤ R.slots) (hst : (st.map xcat).sum ≤ 8) (hs : st0 = As.reverse ++ st) (d : decode cc pc = .ok (.invokestatic idx, 3)) (g : ∀ r M', post r M' → WP l E R A Y (k + mc) (n + ms) (pc + 3) ls (xps r st) M') : WP l E R A Y k n pc ls st0 M := by
  subst hs
  refine x_runH (a := (As.map (xc E.2.2.1)).toArray) F ?_ g
  intro H locs lr hP hS hlr
  exact vx_runSW (As := As.map (xc E.2.2.1)) ⟨F.1, F.2.1, F.2.2.1, F.2.2.2.1, F.2.2.2.2.1⟩ hM (xcw_H F hl hv hR) ⟨xPh_blind _ _ _, fun U hU hW => ⟨xpre F As hP hS U hU hW, hN.moved hW.alike⟩⟩ rfl (by simp) (by rw [← F.2.2.1]; exact hlr.1) (by simp) (lv_room (xst_sum _ hst)) d hcs
end XHC
