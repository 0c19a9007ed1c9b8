section
-- ===== PART A: goes FIRST, ahead of the names: the tables' words, and 'selects' of the private methods out of them =====
/-- a private method of a class that the tables say can be made, by its rows of tables_1 -/
def lw_okq (q : MethodName × Nat) : Prop := (q.1.cls ≠ "java/lang/invoke/MethodHandle" ∧ q.1.cls ≠ "java/lang/invoke/VarHandle") ∧ Cond.instantiable q.1.cls q.2 ∈ tables_1 ∧ Cond.privateMethod q.1 ∈ tables_1 ∧ Cond.instanceMethod q.1 ∈ tables_1
theorem lw_p0 : lw_okq (⟨"OddChoir", "needSinger", "(II)V"⟩, 8) := ⟨⟨by decide +kernel, by decide +kernel⟩, List.mem_of_getElem? (i := 22) (by decide +kernel), List.mem_of_getElem? (i := 215) (by decide +kernel), List.mem_of_getElem? (i := 216) (by decide +kernel)⟩
theorem lw_p1 : lw_okq (⟨"java/lang/Throwable", "fillInStackTrace", "(I)Ljava/lang/Throwable;"⟩, 6) := ⟨⟨by decide +kernel, by decide +kernel⟩, List.mem_of_getElem? (i := 268) (by decide +kernel), List.mem_of_getElem? (i := 266) (by decide +kernel), List.mem_of_getElem? (i := 267) (by decide +kernel)⟩
theorem lw_p2 : lw_okq (⟨"OddChoir", "ofSinger", "(III)I"⟩, 8) := ⟨⟨by decide +kernel, by decide +kernel⟩, List.mem_of_getElem? (i := 22) (by decide +kernel), List.mem_of_getElem? (i := 314) (by decide +kernel), List.mem_of_getElem? (i := 315) (by decide +kernel)⟩
theorem lw_p3 : lw_okq (⟨"OddChoir$Choir", "singersBetween", "(III)I"⟩, 9) := ⟨⟨by decide +kernel, by decide +kernel⟩, List.mem_of_getElem? (i := 30) (by decide +kernel), List.mem_of_getElem? (i := 340) (by decide +kernel), List.mem_of_getElem? (i := 341) (by decide +kernel)⟩
theorem lw_p4 : lw_okq (⟨"OddChoir$Choir", "rowBehind", "(I)I"⟩, 9) := ⟨⟨by decide +kernel, by decide +kernel⟩, List.mem_of_getElem? (i := 30) (by decide +kernel), List.mem_of_getElem? (i := 350) (by decide +kernel), List.mem_of_getElem? (i := 351) (by decide +kernel)⟩
theorem lw_p5 : lw_okq (⟨"OddChoir$Choir", "higherBetween", "(IIII)I"⟩, 9) := ⟨⟨by decide +kernel, by decide +kernel⟩, List.mem_of_getElem? (i := 30) (by decide +kernel), List.mem_of_getElem? (i := 359) (by decide +kernel), List.mem_of_getElem? (i := 360) (by decide +kernel)⟩
theorem lw_p6 : lw_okq (⟨"OddChoir$Choir", "putBetween", "(LOddChoir$HeightTree;III)V"⟩, 9) := ⟨⟨by decide +kernel, by decide +kernel⟩, List.mem_of_getElem? (i := 30) (by decide +kernel), List.mem_of_getElem? (i := 371) (by decide +kernel), List.mem_of_getElem? (i := 372) (by decide +kernel)⟩
theorem lw_p7 : lw_okq (⟨"OddChoir$HeightTree", "freshNode", "(I)LOddChoir$Node;"⟩, 3) := ⟨⟨by decide +kernel, by decide +kernel⟩, List.mem_of_getElem? (i := 100) (by decide +kernel), List.mem_of_getElem? (i := 379) (by decide +kernel), List.mem_of_getElem? (i := 380) (by decide +kernel)⟩
theorem lw_p8 : lw_okq (⟨"OddChoir$Choir", "rowBefore", "(I)I"⟩, 9) := ⟨⟨by decide +kernel, by decide +kernel⟩, List.mem_of_getElem? (i := 30) (by decide +kernel), List.mem_of_getElem? (i := 394) (by decide +kernel), List.mem_of_getElem? (i := 395) (by decide +kernel)⟩
theorem lw_p9 : lw_okq (⟨"OddChoir", "ofRow", "(II)I"⟩, 8) := ⟨⟨by decide +kernel, by decide +kernel⟩, List.mem_of_getElem? (i := 22) (by decide +kernel), List.mem_of_getElem? (i := 488) (by decide +kernel), List.mem_of_getElem? (i := 489) (by decide +kernel)⟩
theorem lw_p10 : lw_okq (⟨"OddChoir$OrderSearch", "noteSinger", "(LOddChoir$Choir;II)V"⟩, 7) := ⟨⟨by decide +kernel, by decide +kernel⟩, List.mem_of_getElem? (i := 136) (by decide +kernel), List.mem_of_getElem? (i := 512) (by decide +kernel), List.mem_of_getElem? (i := 513) (by decide +kernel)⟩
theorem lw_p11 : lw_okq (⟨"OddChoir$OrderSearch", "choose", "(IIII)V"⟩, 7) := ⟨⟨by decide +kernel, by decide +kernel⟩, List.mem_of_getElem? (i := 136) (by decide +kernel), List.mem_of_getElem? (i := 524) (by decide +kernel), List.mem_of_getElem? (i := 525) (by decide +kernel)⟩
theorem lw_p12 : lw_okq (⟨"OddChoir$OrderSearch", "cannotBeBetter", "(II)Z"⟩, 7) := ⟨⟨by decide +kernel, by decide +kernel⟩, List.mem_of_getElem? (i := 136) (by decide +kernel), List.mem_of_getElem? (i := 528) (by decide +kernel), List.mem_of_getElem? (i := 529) (by decide +kernel)⟩
theorem lw_p13 : lw_okq (⟨"OddChoir$OrderSearch", "heardAt", "(II)I"⟩, 7) := ⟨⟨by decide +kernel, by decide +kernel⟩, List.mem_of_getElem? (i := 136) (by decide +kernel), List.mem_of_getElem? (i := 532) (by decide +kernel), List.mem_of_getElem? (i := 533) (by decide +kernel)⟩
theorem lw_p14 : lw_okq (⟨"OddChoir$OrderSearch", "parityOf", "(III)I"⟩, 7) := ⟨⟨by decide +kernel, by decide +kernel⟩, List.mem_of_getElem? (i := 136) (by decide +kernel), List.mem_of_getElem? (i := 543) (by decide +kernel), List.mem_of_getElem? (i := 544) (by decide +kernel)⟩
theorem lw_p15 : lw_okq (⟨"OddChoir", "ofAll", "(I)I"⟩, 8) := ⟨⟨by decide +kernel, by decide +kernel⟩, List.mem_of_getElem? (i := 22) (by decide +kernel), List.mem_of_getElem? (i := 558) (by decide +kernel), List.mem_of_getElem? (i := 559) (by decide +kernel)⟩
def lw_privs_1 : List (MethodName × Nat) := [(⟨"OddChoir", "needSinger", "(II)V"⟩, 8), (⟨"java/lang/Throwable", "fillInStackTrace", "(I)Ljava/lang/Throwable;"⟩, 6), (⟨"OddChoir", "ofSinger", "(III)I"⟩, 8), (⟨"OddChoir$Choir", "singersBetween", "(III)I"⟩, 9), (⟨"OddChoir$Choir", "rowBehind", "(I)I"⟩, 9), (⟨"OddChoir$Choir", "higherBetween", "(IIII)I"⟩, 9), (⟨"OddChoir$Choir", "putBetween", "(LOddChoir$HeightTree;III)V"⟩, 9), (⟨"OddChoir$HeightTree", "freshNode", "(I)LOddChoir$Node;"⟩, 3), (⟨"OddChoir$Choir", "rowBefore", "(I)I"⟩, 9), (⟨"OddChoir", "ofRow", "(II)I"⟩, 8), (⟨"OddChoir$OrderSearch", "noteSinger", "(LOddChoir$Choir;II)V"⟩, 7), (⟨"OddChoir$OrderSearch", "choose", "(IIII)V"⟩, 7), (⟨"OddChoir$OrderSearch", "cannotBeBetter", "(II)Z"⟩, 7), (⟨"OddChoir$OrderSearch", "heardAt", "(II)I"⟩, 7), (⟨"OddChoir$OrderSearch", "parityOf", "(III)I"⟩, 7), (⟨"OddChoir", "ofAll", "(I)I"⟩, 8)]
theorem lw_r1 : ∀ q ∈ lw_privs_1, lw_okq q := List.forall_mem_cons.mpr ⟨lw_p0, List.forall_mem_cons.mpr ⟨lw_p1, List.forall_mem_cons.mpr ⟨lw_p2, List.forall_mem_cons.mpr ⟨lw_p3, List.forall_mem_cons.mpr ⟨lw_p4, List.forall_mem_cons.mpr ⟨lw_p5, List.forall_mem_cons.mpr ⟨lw_p6, List.forall_mem_cons.mpr ⟨lw_p7, List.forall_mem_cons.mpr ⟨lw_p8, List.forall_mem_cons.mpr ⟨lw_p9, List.forall_mem_cons.mpr ⟨lw_p10, List.forall_mem_cons.mpr ⟨lw_p11, List.forall_mem_cons.mpr ⟨lw_p12, List.forall_mem_cons.mpr ⟨lw_p13, List.forall_mem_cons.mpr ⟨lw_p14, List.forall_mem_cons.mpr ⟨lw_p15, fun _ h => absurd h List.not_mem_nil⟩⟩⟩⟩⟩⟩⟩⟩⟩⟩⟩⟩⟩⟩⟩⟩
theorem lw_p16 : lw_okq (⟨"OddChoir", "bestPair", "(I)I"⟩, 8) := ⟨⟨by decide +kernel, by decide +kernel⟩, List.mem_of_getElem? (i := 22) (by decide +kernel), List.mem_of_getElem? (i := 624) (by decide +kernel), List.mem_of_getElem? (i := 625) (by decide +kernel)⟩
theorem lw_p17 : lw_okq (⟨"OddChoir", "bestRowFor", "(I)I"⟩, 8) := ⟨⟨by decide +kernel, by decide +kernel⟩, List.mem_of_getElem? (i := 22) (by decide +kernel), List.mem_of_getElem? (i := 635) (by decide +kernel), List.mem_of_getElem? (i := 636) (by decide +kernel)⟩
theorem lw_p18 : lw_okq (⟨"OddChoir$Choir", "changeSize", "(II)V"⟩, 9) := ⟨⟨by decide +kernel, by decide +kernel⟩, List.mem_of_getElem? (i := 30) (by decide +kernel), List.mem_of_getElem? (i := 643) (by decide +kernel), List.mem_of_getElem? (i := 644) (by decide +kernel)⟩
theorem lw_p19 : lw_okq (⟨"OddChoir", "oddWithReach", "(I)I"⟩, 8) := ⟨⟨by decide +kernel, by decide +kernel⟩, List.mem_of_getElem? (i := 22) (by decide +kernel), List.mem_of_getElem? (i := 651) (by decide +kernel), List.mem_of_getElem? (i := 652) (by decide +kernel)⟩
theorem lw_p20 : lw_okq (⟨"OddChoir$History", "slotAt", "(I)LOddChoir$Choir;"⟩, 3) := ⟨⟨by decide +kernel, by decide +kernel⟩, List.mem_of_getElem? (i := 68) (by decide +kernel), List.mem_of_getElem? (i := 695) (by decide +kernel), List.mem_of_getElem? (i := 696) (by decide +kernel)⟩
theorem lw_p21 : lw_okq (⟨"OddChoir$Choir", "moveToRightEnd", "(II)V"⟩, 9) := ⟨⟨by decide +kernel, by decide +kernel⟩, List.mem_of_getElem? (i := 30) (by decide +kernel), List.mem_of_getElem? (i := 720) (by decide +kernel), List.mem_of_getElem? (i := 721) (by decide +kernel)⟩
theorem lw_p22 : lw_okq (⟨"OddChoir$Choir", "rankAt", "(III)I"⟩, 9) := ⟨⟨by decide +kernel, by decide +kernel⟩, List.mem_of_getElem? (i := 30) (by decide +kernel), List.mem_of_getElem? (i := 780) (by decide +kernel), List.mem_of_getElem? (i := 781) (by decide +kernel)⟩
def lw_privs_2 : List (MethodName × Nat) := [(⟨"OddChoir", "bestPair", "(I)I"⟩, 8), (⟨"OddChoir", "bestRowFor", "(I)I"⟩, 8), (⟨"OddChoir$Choir", "changeSize", "(II)V"⟩, 9), (⟨"OddChoir", "oddWithReach", "(I)I"⟩, 8), (⟨"OddChoir$History", "slotAt", "(I)LOddChoir$Choir;"⟩, 3), (⟨"OddChoir$Choir", "moveToRightEnd", "(II)V"⟩, 9), (⟨"OddChoir$Choir", "rankAt", "(III)I"⟩, 9)]
theorem lw_r2 : ∀ q ∈ lw_privs_2, lw_okq q := List.forall_mem_cons.mpr ⟨lw_p16, List.forall_mem_cons.mpr ⟨lw_p17, List.forall_mem_cons.mpr ⟨lw_p18, List.forall_mem_cons.mpr ⟨lw_p19, List.forall_mem_cons.mpr ⟨lw_p20, List.forall_mem_cons.mpr ⟨lw_p21, List.forall_mem_cons.mpr ⟨lw_p22, fun _ h => absurd h List.not_mem_nil⟩⟩⟩⟩⟩⟩⟩
def lw_privs : List (MethodName × Nat) := lw_privs_1 ++ (lw_privs_2)
def lw_tbl : List Cond := k2_sels lw_privs ++ tables_1
theorem lw_privs_ok : ∀ q ∈ lw_privs, lw_okq q := by
  show ∀ q ∈ lw_privs_1 ++ (lw_privs_2), lw_okq q
  exact List.forall_mem_append.mpr ⟨lw_r1, lw_r2⟩
/-- the streams that the claim lets the run draw from -/
abbrev lw_cs : List Choice := [Jvm.Choice.named "NaN.bits"]
theorem lw_bits : nanBits ∈ lw_cs := by first | decide | exact List.mem_cons_self | simp [lw_cs, nanBits]
/-! ===== BEGIN words of one list among another's, by their places ===== -/
theorem goodIn_r {big : List Cond} (ws : List Cond) (ps : List Nat) (hp : ws = ps.filterMap (fun i => big[i]?)) (h : ws.all goodWord = true) : GoodIn big ws := by
  intro w hw
  have h1 := List.all_eq_true.mp h w hw
  rw [hp] at hw
  obtain ⟨i, -, hi⟩ := List.mem_filterMap.mp hw
  have hm : w ∈ big := by first | exact List.mem_of_getElem? hi | exact List.getElem?_mem hi
  exact ⟨hm, good_of_word h1⟩
theorem goodIn_app {big a b : List Cond} (ha : GoodIn big a) (hb : GoodIn big b) : GoodIn big (a ++ b) := fun w h => (List.mem_append.mp h).elim (ha w) (hb w)
theorem goodIn_ca {big a b : List Cond} {c : Cond} (ha : GoodIn big (c :: a)) (hb : GoodIn big b) : GoodIn big (c :: (a ++ b)) := fun w h => (List.mem_cons.mp h).elim (fun e => ha w (List.mem_cons.mpr (Or.inl e))) (fun h => (List.mem_append.mp h).elim (fun h => ha w (List.mem_cons.mpr (Or.inr h))) (hb w))
theorem goodIn_sub {big ws : List Cond} (hm : ∀ w ∈ ws, w ∈ big) (h : ws.all goodWord = true) : GoodIn big ws := fun w hw => ⟨hm w hw, good_of_word (List.all_eq_true.mp h w hw)⟩
/-! ===== END ===== -/

/-! ===== BEGIN exceptions that leave a method, and their catching by the caller (launches without stack traces) ===== -/
section VXA
/-! The laws vx_back, vx_callV, vx_callS, vx_callSW, vx_throw0, vx_throwS follow proofs of the library, with one case more: JvmDerived/Free/Laws.lean (Back.of_free), Shelf42/LK1.lean (callV, callS), Shelf/KitTraced.lean (throwNew0V, throwNewS). -/
/-- where a method has thrown q: the class by its name, the cell, what was written, the world -/
def vx_T (XC : String → State → State → Prop) (st : State) (q : Addr) (t : State) (mc ms : Nat) (free : Addr → Prop) : Prop :=
  ∃ (E : String) (ce : Cell) (L : List Loc), XC E st t ∧ t.heap[q]? = some ce ∧ ce.vm = .none ∧ st.vm.findClass E = some ce.cls ∧ st.WarmedH t.vm ∧ st.sameButNew ({ t with vm := st.vm } : State) L mc ms ∧ ∀ z ∈ L, free z.base
def vx_Q (Qc : Array Value → State → Outcome → State → Prop) (XC : String → State → State → Prop) (mc ms : Nat) (free : Addr → Prop) : Array Value → State → Outcome → State → Prop := fun a st o t =>
  (Qc a st o t ∧ ∃ L, FrameEnd st o t L mc ms ∧ ∀ q ∈ L, free q.base) ∨ ∃ q, o = .threw q ∧ vx_T XC st q t mc ms free
/-- a callee that returns or throws -/
def vx_Met (l : Launch) (y : MethodName) (ws : List Cond) (rm : Room) (Pc : Array Value → State → Prop) (Qc : Array Value → State → Outcome → State → Prop) (XC : String → State → State → Prop) (mc ms : Nat) (free : Addr → Prop) : Prop :=
  MetFree l y (headSpec ws rm) Pc (fun _ _ _ _ _ => True) (vx_Q Qc XC mc ms free)
def vx_Post (XC : String → State → State → Prop) (mc ms : Nat) (free : Addr → Prop) : Pt → Array Value → Addr → Pt → Prop := fun A a q B =>
  ∃ (g : JFrame) (mk : MethodId) (t : State) (L : List Loc) (E : String) (ce : Cell), B.U.heap = t.heap ∧ B.U.vm = t.vm ∧ XC E (A.U.calling g mk a) t ∧ t.heap[q]? = some ce ∧ ce.vm = .none ∧ A.U.vm.findClass E = some ce.cls ∧ B.locs = A.locs ++ L ∧ (∀ z ∈ L, free z.base) ∧ B.cells = A.cells + mc ∧ B.slots = A.slots + ms
def vx_Back (l : Launch) (R : Room) (p : Program) (e : Env) (below : List Frame) (s : State) (sargs : Array Value) (y : MethodName) (len W9 : Nat)
    (Pre : Pt → Array Value → Prop) (Post : Pt → Array Value → Option Value → Pt → Prop) (PostX : Pt → Array Value → Addr → Pt → Prop) : Prop :=
  ∀ (m : MethodId) (meth : Method) (c : Code) (A : Pt) (g : JFrame) (ig : Instr) (mk : MethodId) (a : Array Value),
    Stand p l e R s m sargs below meth c A.U A.locs A.cells A.slots → g.method = m → g.locals.size = c.maxLocals → decode c.code g.pc = .ok (ig, len) →
    2 * g.monitorRoom + (g.stack.map fun v => v.category).sum ≤ W9 → A.U.methodNamed? y = some mk → Pre A a →
    (∃ (v : Option Value) (B : Pt), Stand p l e R s m sargs below meth c B.U B.locs B.cells B.slots ∧ Post A a v B ∧
      Steps p.tables e below (doInvoke e (A.U.setTop g) [] mk a).1 (B.U.setTop { g with pc := g.pc + len, stack := v.toList ++ g.stack })) ∨
    (∃ (q : Addr) (B : Pt), Stand p l e R s m sargs below meth c B.U B.locs B.cells B.slots ∧ PostX A a q B ∧
      Steps p.tables e below (doInvoke e (A.U.setTop g) [] mk a).1 ((B.U.setTop g).pushFrame (.throwing q)))
section Payer
variable {l : Launch} {R : Room} {p : Program} {e : Env} {below : List Frame} {s : State} {sargs : Array Value} {y : MethodName} {len W9 : Nat}
theorem vx_back {ws : List Cond} {rm : Room} {Pc : Array Value → State → Prop} {Qc : Array Value → State → Outcome → State → Prop} {XC : String → State → State → Prop} {mc ms : Nat} {free : Addr → Prop} {bytes : ByteArray} {maxL : Nat} {ret : Option FieldType}
    (hM : vx_Met l y ws rm Pc Qc XC mc ms free) (hblind : FrameBlind Pc) (hrc : rm.cells = mc) (hrs : rm.slots = ms)
    (hframes : rm.frames + 1 ≤ R.frames) (hlocals : W9 + (maxL + 11) + rm.locals ≤ R.locals)
    (hws : ∀ w ∈ ws, ∀ a' U, s.WarmedH U.vm → w.before a' U = true) (hcode : Cond.code y bytes maxL ret ∈ ws) (hinit : ∀ a' U, s.WarmedH U.vm → (Cond.initialized y.cls).before a' U = true) :
    vx_Back l R p e below s sargs y len W9 (PreOf R mc ms Pc) (PostOf Qc mc ms free) (vx_Post XC mc ms free) := by
  intro m meth c A g ig mk a X hg hsize hdg hW hn hp
  have h1 : (headSpec ws rm).pre.before a A.U = true := atoms_intro fun w hw => hws w hw _ _ X.warmed
  have h2 : (Cond.code y bytes maxL ret).before a A.U = true := hws _ hcode _ _ X.warmed
  have h3 : (Cond.initialized y.cls).before a A.U = true := hinit _ _ X.warmed
  have h4 : A.cells + (headSpec ws rm).room.cells ≤ R.cells := by rw [show (headSpec ws rm).room.cells = mc from hrc]; exact hp.1
  have h5 : A.slots + (headSpec ws rm).room.slots ≤ R.slots := by rw [show (headSpec ws rm).room.slots = ms from hrs]; exact hp.2.1
  have hPc : Pc a (A.U.calling g mk a) := hblind _ _ _ _ hp.2.2
  obtain ⟨U, Ls, c0, s0⟩ := A
  dsimp only [Pt.U, Pt.locs, Pt.cells, Pt.slots] at h1 h2 h3 h4 h5 X hn hPc ⊢
  obtain ⟨methY, cY, hmY, hcY, -, hlY, -, -, -, -⟩ := Cond.code_spec hn h2
  obtain ⟨kY, hkY, -⟩ := className_of_methodNamed hn
  have hinitY : kY.init = .initialized := Cond.initialized_spec (findClass_of_methodNamed hn) hkY h3
  have h : At U g.method c below := by rw [hg]; exact X.here
  have hlocals9 : W9 + (maxL + 11) + (headSpec ws rm).room.locals ≤ R.locals := hlocals
  have happ : (headSpec ws rm).appliesLoose y e.platform (U.calling g mk a) = true :=
    Spec.appliesLoose_calling (g := g) h hdg hn hkY hinitY
      (X.room_calling (g := g) (R' := (headSpec ws rm).room) hsize hmY hcY hframes (by rw [hlY]; omega) h4 h5) h1
  obtain ⟨mid, hmid⟩ := h.above
  have hfr : (U.setTop g).frames = (.java g :: mid) ++ below := by rw [State.frames_setTop' g h.top, hmid]; rfl
  obtain ⟨o, s₂, hsteps, -, hend, hq⟩ := Steps.callFree hM p X.admits X.cas X.clock (acts := []) hfr happ hPc trivial
  have hq' : vx_Q Qc XC mc ms free a (U.calling g mk a) o s₂ := hq
  rw [State.frames_setTop' g h.top] at hend
  obtain ⟨g₀, hg0⟩ := Option.isSome_iff_exists.mp h.top
  obtain ⟨r, hr⟩ := State.topJava?_eq_some.mp hg0
  have hr' : (({ U with heap := s₂.heap, slotsUsed := s₂.slotsUsed } : State).setVm s₂.vm).frames = .java g₀ :: r := hr
  rcases hq' with ⟨hqc, L, hfe, hL⟩ | ⟨q, rfl, E, ce, L, hx, hce, hcv, hcl, hW₂, hsm, hL⟩
  · obtain ⟨⟨v, rfl⟩, hW₂, e2, q2, q3, q4, q5, q6⟩ := id hfe
    have e3 : s₂ = ({ (U.calling g mk a).setFrames s₂.frames with heap := s₂.heap, slotsUsed := s₂.slotsUsed } : State).setVm s₂.vm := by
      have : s₂ = ({ s₂ with vm := (U.calling g mk a).vm } : State).setVm s₂.vm := rfl
      rw [e2] at this
      exact this
    obtain ⟨c₂, i₂, len₂, hc₂, hd₂, hf₂⟩ := hend
    have hW' : U.WarmedH s₂.vm := hW₂
    have hcc : c₂ = c := by
      have h1 : s₂.code? g.method = U.code? g.method := by
        rw [State.code?_eq, State.code?_eq, hW'.alike.method?]
      exact Option.some.inj (hc₂.symm.trans (h1.trans h.code))
    subst hcc
    have hlen : len₂ = len := by rw [hdg] at hd₂; cases hd₂; rfl
    subst hlen
    have hs₂ : s₂ = (({ U with heap := s₂.heap, slotsUsed := s₂.slotsUsed } : State).setVm s₂.vm).setTop { g with pc := g.pc + len₂, stack := v.toList ++ g.stack } := by
      refine e3.trans ?_
      rw [hf₂, State.calling_eq h.top, State.setFrames_setFrames, State.setTop_of_frames _ hr', hr]
      rfl
    have hsame : U.sameButNew ({ U with heap := s₂.heap, slotsUsed := s₂.slotsUsed } : State) L mc ms := by
      refine ⟨?_, q2, q3, q4, q5, q6⟩
      obtain ⟨t, ht, -⟩ := State.frames_cons hr
      show ({ U with heap := s₂.heap, slotsUsed := s₂.slotsUsed } : State) = { U.setFrames U.frames with heap := s₂.heap, slotsUsed := s₂.slotsUsed }
      rw [State.setFrames_self ht]
    subst hg
    refine Or.inl ⟨v, ⟨(({ U with heap := s₂.heap, slotsUsed := s₂.slotsUsed } : State).setVm s₂.vm), Ls ++ L, c0 + mc, s0 + ms⟩,
      ⟨X.admits, X.cas, X.clock, X.frames, X.room, X.hears, X.method, X.code, (X.here.setHeapUsed s₂.heap s₂.slotsUsed).setVm hW'.alike, X.tail, State.WarmedH.trans X.warmed hW', X.limits, X.bytes, X.same.trans (hsame.setVm s.vm)⟩,
      ⟨g, mk, s₂, L, rfl, rfl, hqc, rfl, hL, rfl, rfl⟩, ?_⟩
    show Steps p.tables e below _ ((({ U with heap := s₂.heap, slotsUsed := s₂.slotsUsed } : State).setVm s₂.vm).setTop { g with pc := g.pc + len₂, stack := v.toList ++ g.stack })
    rw [← hs₂]
    exact hsteps
  · obtain ⟨e2, q2, q3, q4, q5, q6⟩ := id hsm
    have e3 : s₂ = ({ (U.calling g mk a).setFrames s₂.frames with heap := s₂.heap, slotsUsed := s₂.slotsUsed } : State).setVm s₂.vm := by
      have : s₂ = ({ s₂ with vm := (U.calling g mk a).vm } : State).setVm s₂.vm := rfl
      rw [e2] at this
      exact this
    have hf₂ : s₂.frames = .throwing q :: .java g :: U.frames.tail := hend
    have hW' : U.WarmedH s₂.vm := hW₂
    have hs₂ : s₂ = ((({ U with heap := s₂.heap, slotsUsed := s₂.slotsUsed } : State).setVm s₂.vm).setTop g).pushFrame (.throwing q) := by
      refine e3.trans ?_
      rw [hf₂, State.calling_eq h.top, State.setFrames_setFrames, State.pushFrame, State.frames_setTop _ hr', State.setTop_of_frames _ hr', State.setFrames_setFrames, hr]
      rfl
    have hsame : U.sameButNew ({ U with heap := s₂.heap, slotsUsed := s₂.slotsUsed } : State) L mc ms := by
      refine ⟨?_, q2, q3, q4, q5, q6⟩
      obtain ⟨t, ht, -⟩ := State.frames_cons hr
      show ({ U with heap := s₂.heap, slotsUsed := s₂.slotsUsed } : State) = { U.setFrames U.frames with heap := s₂.heap, slotsUsed := s₂.slotsUsed }
      rw [State.setFrames_self ht]
    subst hg
    refine Or.inr ⟨q, ⟨(({ U with heap := s₂.heap, slotsUsed := s₂.slotsUsed } : State).setVm s₂.vm), Ls ++ L, c0 + mc, s0 + ms⟩,
      ⟨X.admits, X.cas, X.clock, X.frames, X.room, X.hears, X.method, X.code, (X.here.setHeapUsed s₂.heap s₂.slotsUsed).setVm hW'.alike, X.tail, State.WarmedH.trans X.warmed hW', X.limits, X.bytes, X.same.trans (hsame.setVm s.vm)⟩,
      ⟨g, mk, s₂, L, E, ce, rfl, rfl, hx, hce, hcv, hcl, rfl, hL, rfl, rfl⟩, ?_⟩
    show Steps p.tables e below _ (((({ U with heap := s₂.heap, slotsUsed := s₂.slotsUsed } : State).setVm s₂.vm).setTop g).pushFrame (.throwing q))
    rw [← hs₂]
    exact hsteps
end Payer
section Calls
variable {p : Program} {l : Launch} {e : Env} {R : Room} {s : State} {m : MethodId} {args : Array Value} {below : List Frame} {meth : Method} {c : Code} {T : State} {locs : List Loc} {cells slots : Nat}
theorem vx_callV (X : Stand p l e R s m args below meth c T locs cells slots) (hexec : p.tables.exec = Jvm.exec) {own C : String} {index : Nat} {y : MethodName} {bytes : ByteArray} {maxL : Nat} {ret : Option FieldType}
    (hown : s.vm.findClass own = some m.cls) (hlink : (Cond.methodLink own index y).before args s = true) (hinst : (Cond.instanceMethod y).before args s = true) (hsel : (Cond.selects C y y).before args s = true)
    (hcode : (Cond.code y bytes maxL ret).before args s = true) (hy : y.cls ≠ "java/lang/invoke/MethodHandle" ∧ y.cls ≠ "java/lang/invoke/VarHandle")
    {W9 : Nat} {Pre : Pt → Array Value → Prop} {Post : Pt → Array Value → Option Value → Pt → Prop} {PostX : Pt → Array Value → Addr → Pt → Prop} (hK : vx_Back l R p e below s args y 3 W9 Pre Post PostX)
    {b : Addr} {cellB : Cell} (hcell : T.heap[b]? = some cellB) (hobj : cellB.vm.isStatics = false) (hcls : s.vm.findClass C = some cellB.cls)
    {g : JFrame} (hg : g.method = m) (hsize : g.locals.size = c.maxLocals) {argsL rest : List Value} (hlen : ∀ sig, parseMethodDescriptor y.desc = some sig → argsL.length = sig.parameters.length)
    (hstack : g.stack = argsL.reverse ++ .ref b :: rest) (hW : 2 * g.monitorRoom + (rest.map fun v => v.category).sum ≤ W9) (hdg : decode c.code g.pc = .ok (.invokevirtual index, 3))
    (hpre : ∀ vm₁, s.WarmedH vm₁ → Pre ⟨T.setVm vm₁, locs, cells, slots⟩ (Value.ref b :: argsL).toArray) :
    (∃ (v : Option Value) (vm₁ : Vm) (B : Pt), s.WarmedH vm₁ ∧ Stand p l e R s m args below meth c B.U B.locs B.cells B.slots ∧ Post ⟨T.setVm vm₁, locs, cells, slots⟩ (Value.ref b :: argsL).toArray v B ∧
      ∀ target, Steps p.tables e below (B.U.setTop { g with pc := g.pc + 3, stack := v.toList ++ rest }) target → Steps p.tables e below (T.setTop g) target) ∨
    (∃ (q : Addr) (vm₁ : Vm) (B : Pt), s.WarmedH vm₁ ∧ Stand p l e R s m args below meth c B.U B.locs B.cells B.slots ∧ PostX ⟨T.setVm vm₁, locs, cells, slots⟩ (Value.ref b :: argsL).toArray q B ∧
      Steps p.tables e below (T.setTop g) ((B.U.setTop { g with stack := rest }).pushFrame (.throwing q))) := by
  obtain ⟨mk, methM, hnamed, hmethM, hstM, habM⟩ := Cond.instanceMethod_spec hinst
  obtain ⟨methM', cM, hmethM', -, -, -, -, -, -, hsigM⟩ := Cond.code_spec hnamed hcode
  cases hmethM.symm.trans hmethM'
  obtain ⟨c2, r2, m2, q1, q2, q3, q4, kP, hkP, hkPi⟩ := Cond.selects_spec hsel
  cases hcls.symm.trans q1
  cases (State.methodFound?_of_named hnamed hy).symm.trans q2
  cases hnamed.symm.trans q3
  have hselP : selectMethod e.platform s.vm cellB.cls mk = .method mk := by rw [Launch.admits_selectMethod X.admits]; exact q4
  obtain ⟨vm₁, X₁, hstep₁⟩ := X.invokevirtual hexec hown hlink hnamed hmethM hstM hkP hkPi hy (a := b) (cell := cellB) hcell
    (fun z h => by rw [h] at hobj; cases hobj) hselP hmethM habM hkP hkPi (g := g) hg (argsL := argsL) (rest := rest) (hlen _ hsigM) hstack hdg
  rcases hK m meth c ⟨T.setVm vm₁, locs, cells, slots⟩ { g with stack := rest } (.invokevirtual index) mk (Value.ref b :: argsL).toArray X₁ hg hsize hdg hW (X₁.named hnamed) (hpre vm₁ X₁.warmed) with ⟨v, B, X', hpost, hsteps⟩ | ⟨q, B, X', hpost, hsteps⟩
  · exact Or.inl ⟨v, vm₁, B, X₁.warmed, X', hpost, fun target h => hstep₁ _ fun acts => by rw [doInvoke_state]; exact hsteps.trans h⟩
  · exact Or.inr ⟨q, vm₁, B, X₁.warmed, X', hpost, hstep₁ _ fun acts => by rw [doInvoke_state]; exact hsteps⟩
theorem vx_callS (X : Stand p l e R s m args below meth c T locs cells slots) (hexec : p.tables.exec = Jvm.exec) {own : String} {index : Nat} {y : MethodName} {bytes : ByteArray} {maxL : Nat} {ret : Option FieldType}
    (hown : s.vm.findClass own = some m.cls) (hlink : (Cond.methodLink own index y).before args s = true) (hstat : (Cond.static y).before args s = true) (hinit : (Cond.initialized y.cls).before args s = true)
    (hcode : (Cond.code y bytes maxL ret).before args s = true) (hy : y.cls ≠ "java/lang/invoke/MethodHandle" ∧ y.cls ≠ "java/lang/invoke/VarHandle")
    {W9 : Nat} {Pre : Pt → Array Value → Prop} {Post : Pt → Array Value → Option Value → Pt → Prop} {PostX : Pt → Array Value → Addr → Pt → Prop} (hK : vx_Back l R p e below s args y 3 W9 Pre Post PostX)
    {g : JFrame} (hg : g.method = m) (hsize : g.locals.size = c.maxLocals) {argsL rest : List Value} (hlen : ∀ sig, parseMethodDescriptor y.desc = some sig → argsL.length = sig.parameters.length)
    (hstack : g.stack = argsL.reverse ++ rest) (hW : 2 * g.monitorRoom + (rest.map fun v => v.category).sum ≤ W9) (hdg : decode c.code g.pc = .ok (.invokestatic index, 3))
    (hpre : ∀ vm₁, s.WarmedH vm₁ → Pre ⟨T.setVm vm₁, locs, cells, slots⟩ argsL.toArray) :
    (∃ (v : Option Value) (vm₁ : Vm) (B : Pt), s.WarmedH vm₁ ∧ Stand p l e R s m args below meth c B.U B.locs B.cells B.slots ∧ Post ⟨T.setVm vm₁, locs, cells, slots⟩ argsL.toArray v B ∧
      ∀ target, Steps p.tables e below (B.U.setTop { g with pc := g.pc + 3, stack := v.toList ++ rest }) target → Steps p.tables e below (T.setTop g) target) ∨
    (∃ (q : Addr) (vm₁ : Vm) (B : Pt), s.WarmedH vm₁ ∧ Stand p l e R s m args below meth c B.U B.locs B.cells B.slots ∧ PostX ⟨T.setVm vm₁, locs, cells, slots⟩ argsL.toArray q B ∧
      Steps p.tables e below (T.setTop g) ((B.U.setTop { g with stack := rest }).pushFrame (.throwing q))) := by
  obtain ⟨mk, hnamed⟩ := Cond.code_named hcode
  obtain ⟨methM, cM, hmethM, -, -, -, -, -, -, hsigM⟩ := Cond.code_spec hnamed hcode
  have hstatic : methM.isStatic = true := Cond.static_spec hnamed hmethM hstat
  obtain ⟨kP, hkP, -⟩ := className_of_methodNamed hnamed
  have hinitP : kP.init = .initialized := Cond.initialized_spec (findClass_of_methodNamed hnamed) hkP hinit
  obtain ⟨vm₁, X₁, hstep₁⟩ := X.invokestatic hexec hown hlink hnamed hmethM hstatic hkP hinitP hy (g := g) hg (argsL := argsL) (rest := rest) (hlen _ hsigM) hstack hdg
  rcases hK m meth c ⟨T.setVm vm₁, locs, cells, slots⟩ { g with stack := rest } (.invokestatic index) mk argsL.toArray X₁ hg hsize hdg hW (X₁.named hnamed) (hpre vm₁ X₁.warmed) with ⟨v, B, X', hpost, hsteps⟩ | ⟨q, B, X', hpost, hsteps⟩
  · exact Or.inl ⟨v, vm₁, B, X₁.warmed, X', hpost, fun target h => hstep₁ _ fun acts => by rw [doInvoke_state]; exact hsteps.trans h⟩
  · exact Or.inr ⟨q, vm₁, B, X₁.warmed, X', hpost, hstep₁ _ fun acts => by rw [doInvoke_state]; exact hsteps⟩
end Calls
theorem vx_cls {s : State} {T : State} {vm₁ : Vm} {E : String} {k : ClassId} (hW : s.WarmedH vm₁) (h : (T.setVm vm₁).vm.findClass E = some k) : s.vm.findClass E = some k := by
  have h1 : vm₁.findClass E = some k := h
  rw [hW.alike.findClass] at h1
  exact h1
/-- the method's frame g, with q thrown over it -/
def vx_W (p : Program) (l : Launch) (e : Env) (R : Room) (s : State) (m : MethodId) (args : Array Value) (below : List Frame) (meth : Method) (c : Code) (H : Heap) (locs : List Loc) (cells slots : Nat) (Q : State → Prop) (g : JFrame) (q : Addr) : Prop :=
  ∀ T : State, T.heap = H → Stand p l e R s m args below meth c T locs cells slots → ∃ t, Steps p.tables e below ((T.setTop g).pushFrame (.throwing q)) t ∧ Q t
def vx_Run (p : Program) (l : Launch) (e : Env) (R : Room) (s : State) (m : MethodId) (args : Array Value) (below : List Frame) (meth : Method) (c : Code) (H : Heap) (locs : List Loc) (cells slots mc ms : Nat) (g : JFrame) (rest : List Value) (Qa : State → Outcome → State → Prop) (XC : String → State → State → Prop) (free : Addr → Prop) : Prop :=
  ∀ T : State, T.heap = H → Stand p l e R s m args below meth c T locs cells slots →
    (∃ (v : Option Value) (st₀ t T' : State) (L : List Loc), st₀.heap = H ∧ Stand p l e R s m args below meth c T' (locs ++ L) (cells + mc) (slots + ms) ∧ (∀ q ∈ L, free q.base) ∧ T'.heap = t.heap ∧ T'.vm = t.vm ∧ Qa st₀ (.returned v) t ∧
      Goes p e below T g T' { g with pc := g.pc + 3, stack := v.toList ++ rest }) ∨
    (∃ (q : Addr) (st₀ t T' : State) (L : List Loc) (E : String) (ce : Cell), st₀.heap = H ∧ Stand p l e R s m args below meth c T' (locs ++ L) (cells + mc) (slots + ms) ∧ (∀ z ∈ L, free z.base) ∧ T'.heap = t.heap ∧ T'.vm = t.vm ∧ XC E st₀ t ∧ t.heap[q]? = some ce ∧ ce.vm = .none ∧ s.vm.findClass E = some ce.cls ∧
      Steps p.tables e below (T.setTop g) ((T'.setTop { g with stack := rest }).pushFrame (.throwing q)))
def vx_X {S : Type} (px : S → Prop) (B : String → S → State → Prop) (A : Nat → Prop) : String → State → State → Prop := fun E st t => ∃ u : S, px u ∧ B E u t ∧ va_F A st t
section Runs
variable {p : Program} {l : Launch} {e : Env} {R : Room} {s : State} {m : MethodId} {args : Array Value} {below : List Frame} {meth : Method} {c : Code} {H : Heap} {locs : List Loc} {cells slots : Nat}
variable {y : MethodName} {bytes cc : ByteArray} {maxL nL mc ms n index : Nat} {ret : Option FieldType} {ws : List Cond} {rm : Room} {Pc : Array Value → State → Prop} {Qc : Array Value → State → Outcome → State → Prop} {XC : String → State → State → Prop} {free : Addr → Prop} {Ts : List Cond} {own C : String} {b : Addr} {As rest : List Value} {g : JFrame}
theorem vx_callBack (cb : CallB R s args own index y bytes maxL ret ws rm mc ms n) (hM : vx_Met l y ws rm Pc Qc XC mc ms free) (hbl : FrameBlind Pc) : vx_Back l R p e below s args y 3 8 (PreOf R mc ms Pc) (PostOf Qc mc ms free) (vx_Post XC mc ms free) := by
  obtain ⟨hrc, hrs, hfr, hlo, hws, hcw, -, hini, -⟩ := cb
  exact vx_back (bytes := bytes) (maxL := maxL) (ret := ret) hM hbl hrc hrs hfr hlo hws hcw (fun a' U hW => word_at hW (Or.inl (by first | rfl | simp [Cond.onTables, Cond.keeps, Cond.steady])) hini)
theorem vx_runV (S : CallFix p m c cc nL s args Ts own) (hM : vx_Met l y ws rm Pc Qc XC mc ms free) (cw : CallW R s args own C index y bytes maxL ret ws rm mc ms n) (hp : PreV s H C b Pc As)
    (hg : g.method = m) (hn : As.length = n) (hsize : g.locals.size = nL) (hstack : g.stack = As.reverse ++ .ref b :: rest) (hW : 2 * g.monitorRoom + (rest.map fun v => v.category).sum ≤ 8) (hdg : decode cc g.pc = .ok (.invokevirtual index, 3)) (hf : cells + mc ≤ R.cells ∧ slots + ms ≤ R.slots) :
    vx_Run p l e R s m args below meth c H locs cells slots mc ms g rest (Qc (Value.ref b :: As).toArray) XC free := by
  have hK : vx_Back l R p e below s args y 3 8 (PreOf R mc ms Pc) (PostOf Qc mc ms free) (vx_Post XC mc ms free) := vx_callBack cw.1 hM hp.1
  obtain ⟨⟨-, -, -, -, -, -, hcode, -, hy, hlen, hl⟩, hin, hse⟩ := cw
  obtain ⟨hx, hb, hml, ho, -⟩ := S
  obtain ⟨-, ⟨cellB, hcB, hoB, hclB⟩, hPc⟩ := hp
  intro T hT X
  rcases vx_callV X hx (C := C) (bytes := bytes) (maxL := maxL) (ret := ret) ho hl hin hse hcode hy hK (by rw [hT]; exact hcB) hoB hclB hg (hsize.trans hml.symm) (argsL := As) (rest := rest) (fun sig h => hn.trans (hlen sig h)) hstack hW (by rw [hb]; exact hdg)
    (fun vm₁ hW₁ => ⟨hf.1, hf.2, hPc (T.setVm vm₁) hT hW₁⟩) with ⟨v, vm₁, ⟨U', l2, c2, s2⟩, hW₁, X', ⟨g', mk, t, L, e1, e2, hq, h1, hL, h2, h3⟩, st⟩ | ⟨q, vm₁, ⟨U', l2, c2, s2⟩, hW₁, X', ⟨g', mk, t, L, E, ce, e1, e2, hq, hce, hcv, hcl, h1, hL, h2, h3⟩, st⟩
  · dsimp only [Pt.U, Pt.locs, Pt.cells, Pt.slots] at X' e1 e2 h1 h2 h3 st
    subst h1; subst h2; subst h3
    exact Or.inl ⟨v, (T.setVm vm₁).calling g' mk (Value.ref b :: As).toArray, t, U', L, hT, X', hL, e1, e2, hq, st⟩
  · dsimp only [Pt.U, Pt.locs, Pt.cells, Pt.slots] at X' e1 e2 h1 h2 h3 st hcl
    subst h1; subst h2; subst h3
    exact Or.inr ⟨q, (T.setVm vm₁).calling g' mk (Value.ref b :: As).toArray, t, U', L, E, ce, hT, X', hL, e1, e2, hq, hce, hcv, vx_cls hW₁ hcl, st⟩
theorem vx_runS (S : CallFix p m c cc nL s args Ts own) (hM : vx_Met l y ws rm Pc Qc XC mc ms free) (cw : CallB R s args own index y bytes maxL ret ws rm mc ms n ∧ (Cond.static y).before args s = true) (hp : PreS s H Pc As)
    (hg : g.method = m) (hn : As.length = n) (hsize : g.locals.size = nL) (hstack : g.stack = As.reverse ++ rest) (hW : 2 * g.monitorRoom + (rest.map fun v => v.category).sum ≤ 8) (hdg : decode cc g.pc = .ok (.invokestatic index, 3)) (hf : cells + mc ≤ R.cells ∧ slots + ms ≤ R.slots) :
    vx_Run p l e R s m args below meth c H locs cells slots mc ms g rest (Qc As.toArray) XC free := by
  have hK : vx_Back l R p e below s args y 3 8 (PreOf R mc ms Pc) (PostOf Qc mc ms free) (vx_Post XC mc ms free) := vx_callBack cw.1 hM hp.1
  obtain ⟨⟨-, -, -, -, -, -, hcode, hini, hy, hlen, hl⟩, hstt⟩ := cw
  obtain ⟨hx, hb, hml, ho, -⟩ := S
  intro T hT X
  rcases vx_callS X hx (bytes := bytes) (maxL := maxL) (ret := ret) ho hl hstt hini hcode hy hK hg (hsize.trans hml.symm) (argsL := As) (rest := rest) (fun sig h => hn.trans (hlen sig h)) hstack hW (by rw [hb]; exact hdg)
    (fun vm₁ hW₁ => ⟨hf.1, hf.2, hp.2 (T.setVm vm₁) hT hW₁⟩) with ⟨v, vm₁, ⟨U', l2, c2, s2⟩, hW₁, X', ⟨g', mk, t, L, e1, e2, hq, h1, hL, h2, h3⟩, st⟩ | ⟨q, vm₁, ⟨U', l2, c2, s2⟩, hW₁, X', ⟨g', mk, t, L, E, ce, e1, e2, hq, hce, hcv, hcl, h1, hL, h2, h3⟩, st⟩
  · dsimp only [Pt.U, Pt.locs, Pt.cells, Pt.slots] at X' e1 e2 h1 h2 h3 st
    subst h1; subst h2; subst h3
    exact Or.inl ⟨v, (T.setVm vm₁).calling g' mk As.toArray, t, U', L, hT, X', hL, e1, e2, hq, st⟩
  · dsimp only [Pt.U, Pt.locs, Pt.cells, Pt.slots] at X' e1 e2 h1 h2 h3 st hcl
    subst h1; subst h2; subst h3
    exact Or.inr ⟨q, (T.setVm vm₁).calling g' mk As.toArray, t, U', L, E, ce, hT, X', hL, e1, e2, hq, hce, hcv, vx_cls hW₁ hcl, st⟩
end Runs
section Rows
variable {p : Program} {l : Launch} {e : Env} {R : Room} {s : State} {m : MethodId} {args : Array Value} {below : List Frame} {meth : Method} {c : Code} {H : Heap} {locs : List Loc} {cells slots : Nat} {Q : State → Prop}
variable {mc ms : Nat} {free : Addr → Prop} {A0 A1 : Nat → Prop} {H0 : Heap} {a : Array Value} {pc : Nat} {ls : Array Slot} {st0 rest : List Value}
theorem vx_keep {st₀ t T' : State} {L : List Loc} (h0 : st₀.heap = H) (e1 : T'.heap = t.heap) (hS : va_S A0 H0 H locs) (hA : ∀ q, q < H.size → A1 q → A0 q) (hf : ∀ q, free q → A0 q) (hL : ∀ q ∈ L, free q.base) (hF : va_F A1 st₀ t) :
    H.size ≤ T'.heap.size ∧ (∀ q : Nat, q < H.size → ¬ A1 q → T'.heap[q]? = H[q]?) ∧ va_S A0 H0 T'.heap (locs ++ L) := by
  obtain ⟨hz, hk⟩ := hF
  rw [h0] at hz hk
  exact ⟨by rw [e1]; exact hz, fun q h1 h2 => by rw [e1]; exact hk q h1 h2,
    ⟨Nat.le_trans hS.1 (by rw [e1]; exact hz), fun q h1 h2 => by rw [e1, hk q (Nat.lt_of_lt_of_le h1 hS.1) (fun z => h2 (hA q (Nat.lt_of_lt_of_le h1 hS.1) z))]; exact hS.2.1 q h1 h2, fun q hq => by
      rcases List.mem_append.mp hq with h | h
      · exact hS.2.2 q h
      · exact hf _ (hL q h)⟩⟩
theorem vx_calli {S SX : Type} {post : Int32 → S → Prop} {px : SX → Prop} {B : S → State → Prop} {BX : String → SX → State → Prop} {AX : Nat → Prop} (hr : vx_Run p l e R s m args below meth c H locs cells slots mc ms (F0 m pc ls st0) rest (va_Qi post B A1 a) (vx_X px BX AX) free) (hS : va_S A0 H0 H locs) (hA : ∀ q, q < H.size → A1 q → A0 q) (hf : ∀ q, free q → A0 q) (hAX : ∀ q, q < H.size → AX q → A0 q)
    (kx : ∀ (E : String) (ce : Cell) (q9 : Addr) (u : SX) (t : State) (H1 : Heap) (locs1 : List Loc), t.heap = H1 → s.vm.Alike t.vm → px u → BX E u t → H.size ≤ H1.size → (∀ q : Nat, q < H.size → ¬ AX q → H1[q]? = H[q]?) → va_S A0 H0 H1 locs1 → H1[q9]? = some ce → ce.vm = .none → s.vm.findClass E = some ce.cls → vx_W p l e R s m args below meth c H1 locs1 (cells + mc) (slots + ms) Q (F0 m pc ls rest) q9)
    (kk : ∀ (r : Int32) (u : S) (t : State) (H1 : Heap) (locs1 : List Loc), t.heap = H1 → s.vm.Alike t.vm → post r u → B u t → H.size ≤ H1.size → (∀ q : Nat, q < H.size → ¬ A1 q → H1[q]? = H[q]?) → va_S A0 H0 H1 locs1 → W p l e R s m args below meth c H1 locs1 (cells + mc) (slots + ms) Q (F0 m (pc + 3) ls (.int r :: rest))) : W p l e R s m args below meth c H locs cells slots Q (F0 m pc ls st0) := by
  intro T hT X
  rcases hr T hT X with ⟨v, st₀, t, T', L, h0, X', hL, e1, e2, ⟨⟨r, u, hv, hp, hb⟩, hF⟩, st⟩ | ⟨q, st₀, t, T', L, E, ce, h0, X', hL, e1, e2, ⟨u, hp, hb, hF⟩, hce, hcv, hcl, st⟩
  · cases hv
    obtain ⟨k1, k2, k3⟩ := vx_keep h0 e1 hS hA hf hL hF
    obtain ⟨t2, a1, b1⟩ := kk r u t T'.heap (locs ++ L) e1.symm (by rw [← e2]; exact X'.warmed.alike) hp hb k1 k2 k3 T' rfl X'
    exact ⟨t2, st t2 a1, b1⟩
  · obtain ⟨k1, k2, k3⟩ := vx_keep h0 e1 hS hAX hf hL hF
    obtain ⟨t2, a1, b1⟩ := kx E ce q u t T'.heap (locs ++ L) e1.symm (by rw [← e2]; exact X'.warmed.alike) hp hb k1 k2 k3 (by rw [e1]; exact hce) hcv hcl T' rfl X'
    exact ⟨t2, st.trans a1, b1⟩
theorem vx_calll {S SX : Type} {post : Int64 → S → Prop} {px : SX → Prop} {B : S → State → Prop} {BX : String → SX → State → Prop} {AX : Nat → Prop} (hr : vx_Run p l e R s m args below meth c H locs cells slots mc ms (F0 m pc ls st0) rest (va_Ql post B A1 a) (vx_X px BX AX) free) (hS : va_S A0 H0 H locs) (hA : ∀ q, q < H.size → A1 q → A0 q) (hf : ∀ q, free q → A0 q) (hAX : ∀ q, q < H.size → AX q → A0 q)
    (kx : ∀ (E : String) (ce : Cell) (q9 : Addr) (u : SX) (t : State) (H1 : Heap) (locs1 : List Loc), t.heap = H1 → s.vm.Alike t.vm → px u → BX E u t → H.size ≤ H1.size → (∀ q : Nat, q < H.size → ¬ AX q → H1[q]? = H[q]?) → va_S A0 H0 H1 locs1 → H1[q9]? = some ce → ce.vm = .none → s.vm.findClass E = some ce.cls → vx_W p l e R s m args below meth c H1 locs1 (cells + mc) (slots + ms) Q (F0 m pc ls rest) q9)
    (kk : ∀ (r : Int64) (u : S) (t : State) (H1 : Heap) (locs1 : List Loc), t.heap = H1 → s.vm.Alike t.vm → post r u → B u t → H.size ≤ H1.size → (∀ q : Nat, q < H.size → ¬ A1 q → H1[q]? = H[q]?) → va_S A0 H0 H1 locs1 → W p l e R s m args below meth c H1 locs1 (cells + mc) (slots + ms) Q (F0 m (pc + 3) ls (.long r :: rest))) : W p l e R s m args below meth c H locs cells slots Q (F0 m pc ls st0) := by
  intro T hT X
  rcases hr T hT X with ⟨v, st₀, t, T', L, h0, X', hL, e1, e2, ⟨⟨r, u, hv, hp, hb⟩, hF⟩, st⟩ | ⟨q, st₀, t, T', L, E, ce, h0, X', hL, e1, e2, ⟨u, hp, hb, hF⟩, hce, hcv, hcl, st⟩
  · cases hv
    obtain ⟨k1, k2, k3⟩ := vx_keep h0 e1 hS hA hf hL hF
    obtain ⟨t2, a1, b1⟩ := kk r u t T'.heap (locs ++ L) e1.symm (by rw [← e2]; exact X'.warmed.alike) hp hb k1 k2 k3 T' rfl X'
    exact ⟨t2, st t2 a1, b1⟩
  · obtain ⟨k1, k2, k3⟩ := vx_keep h0 e1 hS hAX hf hL hF
    obtain ⟨t2, a1, b1⟩ := kx E ce q u t T'.heap (locs ++ L) e1.symm (by rw [← e2]; exact X'.warmed.alike) hp hb k1 k2 k3 (by rw [e1]; exact hce) hcv hcl T' rfl X'
    exact ⟨t2, st.trans a1, b1⟩
theorem vx_callf {S SX : Type} {post : UInt32 → S → Prop} {px : SX → Prop} {B : S → State → Prop} {BX : String → SX → State → Prop} {AX : Nat → Prop} (hr : vx_Run p l e R s m args below meth c H locs cells slots mc ms (F0 m pc ls st0) rest (va_Qf post B A1 a) (vx_X px BX AX) free) (hS : va_S A0 H0 H locs) (hA : ∀ q, q < H.size → A1 q → A0 q) (hf : ∀ q, free q → A0 q) (hAX : ∀ q, q < H.size → AX q → A0 q)
    (kx : ∀ (E : String) (ce : Cell) (q9 : Addr) (u : SX) (t : State) (H1 : Heap) (locs1 : List Loc), t.heap = H1 → s.vm.Alike t.vm → px u → BX E u t → H.size ≤ H1.size → (∀ q : Nat, q < H.size → ¬ AX q → H1[q]? = H[q]?) → va_S A0 H0 H1 locs1 → H1[q9]? = some ce → ce.vm = .none → s.vm.findClass E = some ce.cls → vx_W p l e R s m args below meth c H1 locs1 (cells + mc) (slots + ms) Q (F0 m pc ls rest) q9)
    (kk : ∀ (r : UInt32) (u : S) (t : State) (H1 : Heap) (locs1 : List Loc), t.heap = H1 → s.vm.Alike t.vm → post r u → B u t → H.size ≤ H1.size → (∀ q : Nat, q < H.size → ¬ A1 q → H1[q]? = H[q]?) → va_S A0 H0 H1 locs1 → W p l e R s m args below meth c H1 locs1 (cells + mc) (slots + ms) Q (F0 m (pc + 3) ls (.float r :: rest))) : W p l e R s m args below meth c H locs cells slots Q (F0 m pc ls st0) := by
  intro T hT X
  rcases hr T hT X with ⟨v, st₀, t, T', L, h0, X', hL, e1, e2, ⟨⟨r, u, hv, hp, hb⟩, hF⟩, st⟩ | ⟨q, st₀, t, T', L, E, ce, h0, X', hL, e1, e2, ⟨u, hp, hb, hF⟩, hce, hcv, hcl, st⟩
  · cases hv
    obtain ⟨k1, k2, k3⟩ := vx_keep h0 e1 hS hA hf hL hF
    obtain ⟨t2, a1, b1⟩ := kk r u t T'.heap (locs ++ L) e1.symm (by rw [← e2]; exact X'.warmed.alike) hp hb k1 k2 k3 T' rfl X'
    exact ⟨t2, st t2 a1, b1⟩
  · obtain ⟨k1, k2, k3⟩ := vx_keep h0 e1 hS hAX hf hL hF
    obtain ⟨t2, a1, b1⟩ := kx E ce q u t T'.heap (locs ++ L) e1.symm (by rw [← e2]; exact X'.warmed.alike) hp hb k1 k2 k3 (by rw [e1]; exact hce) hcv hcl T' rfl X'
    exact ⟨t2, st.trans a1, b1⟩
theorem vx_calld {S SX : Type} {post : UInt64 → S → Prop} {px : SX → Prop} {B : S → State → Prop} {BX : String → SX → State → Prop} {AX : Nat → Prop} (hr : vx_Run p l e R s m args below meth c H locs cells slots mc ms (F0 m pc ls st0) rest (va_Qd post B A1 a) (vx_X px BX AX) free) (hS : va_S A0 H0 H locs) (hA : ∀ q, q < H.size → A1 q → A0 q) (hf : ∀ q, free q → A0 q) (hAX : ∀ q, q < H.size → AX q → A0 q)
    (kx : ∀ (E : String) (ce : Cell) (q9 : Addr) (u : SX) (t : State) (H1 : Heap) (locs1 : List Loc), t.heap = H1 → s.vm.Alike t.vm → px u → BX E u t → H.size ≤ H1.size → (∀ q : Nat, q < H.size → ¬ AX q → H1[q]? = H[q]?) → va_S A0 H0 H1 locs1 → H1[q9]? = some ce → ce.vm = .none → s.vm.findClass E = some ce.cls → vx_W p l e R s m args below meth c H1 locs1 (cells + mc) (slots + ms) Q (F0 m pc ls rest) q9)
    (kk : ∀ (r : UInt64) (u : S) (t : State) (H1 : Heap) (locs1 : List Loc), t.heap = H1 → s.vm.Alike t.vm → post r u → B u t → H.size ≤ H1.size → (∀ q : Nat, q < H.size → ¬ A1 q → H1[q]? = H[q]?) → va_S A0 H0 H1 locs1 → W p l e R s m args below meth c H1 locs1 (cells + mc) (slots + ms) Q (F0 m (pc + 3) ls (.double r :: rest))) : W p l e R s m args below meth c H locs cells slots Q (F0 m pc ls st0) := by
  intro T hT X
  rcases hr T hT X with ⟨v, st₀, t, T', L, h0, X', hL, e1, e2, ⟨⟨r, u, hv, hp, hb⟩, hF⟩, st⟩ | ⟨q, st₀, t, T', L, E, ce, h0, X', hL, e1, e2, ⟨u, hp, hb, hF⟩, hce, hcv, hcl, st⟩
  · cases hv
    obtain ⟨k1, k2, k3⟩ := vx_keep h0 e1 hS hA hf hL hF
    obtain ⟨t2, a1, b1⟩ := kk r u t T'.heap (locs ++ L) e1.symm (by rw [← e2]; exact X'.warmed.alike) hp hb k1 k2 k3 T' rfl X'
    exact ⟨t2, st t2 a1, b1⟩
  · obtain ⟨k1, k2, k3⟩ := vx_keep h0 e1 hS hAX hf hL hF
    obtain ⟨t2, a1, b1⟩ := kx E ce q u t T'.heap (locs ++ L) e1.symm (by rw [← e2]; exact X'.warmed.alike) hp hb k1 k2 k3 (by rw [e1]; exact hce) hcv hcl T' rfl X'
    exact ⟨t2, st.trans a1, b1⟩
theorem vx_callv {S SX : Type} {post : S → Prop} {px : SX → Prop} {B : S → State → Prop} {BX : String → SX → State → Prop} {AX : Nat → Prop} (hr : vx_Run p l e R s m args below meth c H locs cells slots mc ms (F0 m pc ls st0) rest (va_Qv post B A1 a) (vx_X px BX AX) free) (hS : va_S A0 H0 H locs) (hA : ∀ q, q < H.size → A1 q → A0 q) (hf : ∀ q, free q → A0 q) (hAX : ∀ q, q < H.size → AX q → A0 q)
    (kx : ∀ (E : String) (ce : Cell) (q9 : Addr) (u : SX) (t : State) (H1 : Heap) (locs1 : List Loc), t.heap = H1 → s.vm.Alike t.vm → px u → BX E u t → H.size ≤ H1.size → (∀ q : Nat, q < H.size → ¬ AX q → H1[q]? = H[q]?) → va_S A0 H0 H1 locs1 → H1[q9]? = some ce → ce.vm = .none → s.vm.findClass E = some ce.cls → vx_W p l e R s m args below meth c H1 locs1 (cells + mc) (slots + ms) Q (F0 m pc ls rest) q9)
    (kk : ∀ (u : S) (t : State) (H1 : Heap) (locs1 : List Loc), t.heap = H1 → s.vm.Alike t.vm → post u → B u t → H.size ≤ H1.size → (∀ q : Nat, q < H.size → ¬ A1 q → H1[q]? = H[q]?) → va_S A0 H0 H1 locs1 → W p l e R s m args below meth c H1 locs1 (cells + mc) (slots + ms) Q (F0 m (pc + 3) ls (rest))) : W p l e R s m args below meth c H locs cells slots Q (F0 m pc ls st0) := by
  intro T hT X
  rcases hr T hT X with ⟨v, st₀, t, T', L, h0, X', hL, e1, e2, ⟨⟨u, hv, hp, hb⟩, hF⟩, st⟩ | ⟨q, st₀, t, T', L, E, ce, h0, X', hL, e1, e2, ⟨u, hp, hb, hF⟩, hce, hcv, hcl, st⟩
  · cases hv
    obtain ⟨k1, k2, k3⟩ := vx_keep h0 e1 hS hA hf hL hF
    obtain ⟨t2, a1, b1⟩ := kk u t T'.heap (locs ++ L) e1.symm (by rw [← e2]; exact X'.warmed.alike) hp hb k1 k2 k3 T' rfl X'
    exact ⟨t2, st t2 a1, b1⟩
  · obtain ⟨k1, k2, k3⟩ := vx_keep h0 e1 hS hAX hf hL hF
    obtain ⟨t2, a1, b1⟩ := kx E ce q u t T'.heap (locs ++ L) e1.symm (by rw [← e2]; exact X'.warmed.alike) hp hb k1 k2 k3 (by rw [e1]; exact hce) hcv hcl T' rfl X'
    exact ⟨t2, st.trans a1, b1⟩
/-- caught by the row x of this method's table; the rows ahead don't take it -/
theorem vx_catch {own name : String} {E : String} {ce : Cell} {q : Addr} (hown : s.vm.findClass own = some m.cls) (pre : List ExceptionTableEntry) (x : ExceptionTableEntry) (suf : List ExceptionTableEntry) (hsplit : c.exceptionTable.toList = pre ++ x :: suf)
    (hpass : ∀ z ∈ pre, covers z pc = false ∨ (z.catchType ≠ 0 ∧ ∃ nm : String, (Cond.classLink own z.catchType nm).before args s = true ∧ va_Nc E nm s)) (hx : covers x pc = true) (h0 : x.catchType ≠ 0)
    (hlink : (Cond.classLink own x.catchType name).before args s = true) (hcast : (Cond.castable E name).before args s = true) (hcell : H[q]? = some ce) (hv : ce.vm = .none) (hcl : s.vm.findClass E = some ce.cls)
    (kk : W p l e R s m args below meth c H locs cells slots Q (F0 m x.handlerPc ls [.ref q])) : vx_W p l e R s m args below meth c H locs cells slots Q (F0 m pc ls rest) q := by
  intro T hT X
  have hpl : e.platform.magicAccessors = ({} : Platform).magicAccessors := by rw [X.admits.platform]
  obtain ⟨c3, c4, hc3, hc4, hasg⟩ := Cond.castable_spec hcast
  cases Option.some.inj (hc3.symm.trans hcl)
  obtain ⟨c5, hc5, hcl5⟩ := Cond.classLink_spec hown hlink e.platform hpl
  cases Option.some.inj (hc4.symm.trans hc5)
  obtain ⟨vm', X', st⟩ := X.thenCaughtThrough q (g := F0 m pc ls rest) rfl (Steps.refl _) (by rw [hT]; exact hcell) (by rw [hv]; rfl) (by obtain ⟨k9, h9, -⟩ := Vm.findClass_spec hcl; exact ⟨k9, h9⟩) pre x suf hsplit
    (fun z hz => by
      rcases hpass z hz with h | ⟨hz0, nm, hl1, hn1⟩
      · exact Or.inl h
      · obtain ⟨c6, hc6, hcl6⟩ := Cond.classLink_spec hown hl1 e.platform hpl
        obtain ⟨a8, b8, h1, h2, h3⟩ := hn1
        cases Option.some.inj (h1.symm.trans hcl)
        cases Option.some.inj (h2.symm.trans hc6)
        exact Or.inr ⟨hz0, _, hcl6, h3⟩) hx (Or.inr ⟨h0, c4, hcl5, hasg⟩)
  obtain ⟨t, a1, b1⟩ := kk (T.setVm vm') hT X'
  exact ⟨t, st.trans a1, b1⟩
end Rows
section Ends
variable {p : Program} {l : Launch} {e : Env} {R : Room} {s : State} {m : MethodId} {args : Array Value} {below : List Frame} {meth : Method} {c : Code} {H : Heap} {locs : List Loc} {cells slots : Nat} {Q : State → Prop}
variable {mc ms : Nat} {free : Addr → Prop} {A0 A1 : Nat → Prop} {H0 : Heap} {a : Array Value} {ls : Array Slot} {st0 rest : List Value}
variable {Qc : Array Value → State → Outcome → State → Prop} {XC : String → State → State → Prop}
/-- what a body that may throw owes at its end -/
def vx_MQ (below : List Frame) (Qc : Array Value → State → Outcome → State → Prop) (XC : String → State → State → Prop) (a : Array Value) (s : State) (mc ms : Nat) (free : Addr → Prop) : State → Prop := fun t =>
  ∃ o, t.status = .running ∧ Ended t below o ∧ vx_Q Qc XC mc ms free a s o t
theorem vx_ret {g : JFrame} {mc ms : Nat} (k : W p l e R s m args below meth c H locs cells slots (MQ below Qc args s mc ms free) g) : W p l e R s m args below meth c H locs cells slots (vx_MQ below Qc XC args s mc ms free) g := by
  intro T hT X
  obtain ⟨t, a1, o, b1, b2, b3, b4⟩ := k T hT X
  exact ⟨t, a1, o, b1, b2, Or.inl ⟨b3, b4⟩⟩
/-- not caught here: it goes on to the caller -/
theorem vx_widen {g : JFrame} {q : Addr} {k n : Nat} (h1 : cells ≤ k) (h2 : slots ≤ n) (kk : vx_W p l e R s m args below meth c H locs k n Q g q) : vx_W p l e R s m args below meth c H locs cells slots Q g q := fun T hT X => kk T hT (stand_widen X h1 h2)
theorem vx_out {pc : Nat} {E : String} {ce : Cell} {q : Addr} {mc ms : Nat} (hout : ∀ x ∈ c.exceptionTable.toList, covers x pc = false) (hlocks : meth.locks = false) (hcell : H[q]? = some ce) (hv : ce.vm = .none) (hcl : s.vm.findClass E = some ce.cls)
    (hx : ∀ t : State, t.heap = H → s.vm.Alike t.vm → XC E s t) (hf : ∀ z ∈ locs, free z.base) (hc : cells ≤ mc) (hs : slots ≤ ms) :
    vx_W p l e R s m args below meth c H locs cells slots (vx_MQ below Qc XC args s mc ms free) (F0 m pc ls rest) q := by
  intro T hT X
  obtain ⟨st1, hrun, hend, hW, hsm⟩ := X.leaveThrown q (g := F0 m pc ls rest) rfl rfl rfl hout hlocks
  have hcell9 : (T.setFrames (.throwing q :: below)).heap[q]? = some ce := by
    show T.heap[q]? = some ce
    rw [hT]; exact hcell
  exact ⟨_, st1, .threw q, hrun, hend, Or.inr ⟨q, rfl, E, ce, locs, hx _ hT hW.alike, hcell9, hv, hcl, hW, hsm.mono hc hs, hf⟩⟩
theorem vx_frame {U : State} {k n : Nat} (h : s.sameButNew ({ U with vm := s.vm } : State) locs k n) : s.heap.size ≤ U.heap.size ∧ ∀ q : Nat, q < s.heap.size → (∀ z ∈ locs, z.base ≠ q) → U.heap[q]? = s.heap[q]? := by
  obtain ⟨-, h2, -, -, -, h6⟩ := h
  refine ⟨h2, fun q hq hz => ?_⟩
  obtain ⟨c9, e1, e2, e3, e4⟩ := h6 q _ (Array.getElem?_eq_getElem hq)
  have hs : c9.slots = (s.heap[q]).slots := Array.ext_getElem? fun i => e4 i fun hm => hz _ hm rfl
  have h9 : c9 = s.heap[q] := by
    rw [hs] at e2
    exact e2
  have e5 : U.heap[q]? = some c9 := e1
  rw [e5, h9, Array.getElem?_eq_getElem hq]
/-- the words of a throw but the four that speak of the heap -/
def vx_no (w : Cond) : Bool := decide (w ≠ .isRef (.static Bundle.tN "UNASSIGNED_STACK" Bundle.steD)) && decide (w ≠ .isRef (.static Bundle.tN "SUPPRESSED_SENTINEL" Bundle.listD)) && decide (w ≠ .laysStatic Bundle.tN "UNASSIGNED_STACK" Bundle.steD) && decide (w ≠ .laysStatic Bundle.tN "SUPPRESSED_SENTINEL" Bundle.listD)
def vx_at0 (own : String) (ic : Nat) (X : String) (names : List String) : List Cond := (Bundle.ownAtoms0 own ic X names).filter vx_no
def vx_atS (own : String) (ic : Nat) (X : String) (names : List String) : List Cond := (Bundle.ownAtoms own ic X names).filter vx_no
/-- a word that the tables alone decide, or a good one -/
def vx_ot (w : Cond) : Bool := w.onTables || goodWord w
theorem vx_ot_at {args a' : Array Value} {s U : State} {w : Cond} (hW : s.WarmedH U.vm) (hvm : s.vm = U.vm) (hg : vx_ot w = true) (h : w.before args s = true) : w.before a' U = true := by
  simp only [vx_ot, Bool.or_eq_true] at hg
  rcases hg with hg | hg
  · exact va_tabs hg hvm h
  · exact word_at hW (good_of_word hg) h
/-- a list's words: the good ones out of the method's own list, the others by premises of their own -/
theorem vx_hat {args : Array Value} {s : State} {L B : List Cond} (h1 : ∀ w ∈ L.filter goodWord, w.before args s = true) (h2 : ∀ w ∈ L.filter (fun w => !goodWord w), w ∈ B) (h3 : ∀ w ∈ B, w.before args s = true) : ∀ w ∈ L, w.before args s = true := by
  intro w hw
  by_cases g : goodWord w = true
  · exact h1 w (List.mem_filter.mpr ⟨hw, g⟩)
  · refine h3 w (h2 w (List.mem_filter.mpr ⟨hw, ?_⟩))
    show (!goodWord w) = true
    cases hgw : goodWord w
    · rfl
    · exact absurd hgw g
theorem vx_c {args : Array Value} {s : State} {w : Cond} {B : List Cond} (h : w.before args s = true) (t : ∀ w ∈ B, w.before args s = true) : ∀ w' ∈ w :: B, w'.before args s = true := fun w' h' => (List.mem_cons.mp h').elim (fun e => by rw [e]; exact h) (t w')
theorem vx_n {args : Array Value} {s : State} : ∀ w ∈ ([] : List Cond), w.before args s = true := fun _ h => nomatch h
theorem vx_own {args : Array Value} {s : State} {L : List Cond} (h1 : ∀ w ∈ L.filter vx_no, w.before args s = true)
    (hU : (Cond.isRef (.static Bundle.tN "UNASSIGNED_STACK" Bundle.steD)).before args s = true) (hN : (Cond.isRef (.static Bundle.tN "SUPPRESSED_SENTINEL" Bundle.listD)).before args s = true)
    (lU : (Cond.laysStatic Bundle.tN "UNASSIGNED_STACK" Bundle.steD).before args s = true) (lN : (Cond.laysStatic Bundle.tN "SUPPRESSED_SENTINEL" Bundle.listD).before args s = true) : ∀ w ∈ L, w.before args s = true := by
  intro w hw
  by_cases e1 : w = .isRef (.static Bundle.tN "UNASSIGNED_STACK" Bundle.steD)
  · rw [e1]; exact hU
  · by_cases e2 : w = .isRef (.static Bundle.tN "SUPPRESSED_SENTINEL" Bundle.listD)
    · rw [e2]; exact hN
    · by_cases e3 : w = .laysStatic Bundle.tN "UNASSIGNED_STACK" Bundle.steD
      · rw [e3]; exact lU
      · by_cases e4 : w = .laysStatic Bundle.tN "SUPPRESSED_SENTINEL" Bundle.listD
        · rw [e4]; exact lN
        · exact h1 w (List.mem_filter.mpr ⟨hw, by unfold vx_no; rw [decide_eq_true e1, decide_eq_true e2, decide_eq_true e3, decide_eq_true e4]; rfl⟩)
/-- where a static field lies, its class's statics cell in H -/
def vx_L (C n d : String) (A : Nat → Prop) (U : State) (H : Heap) : Prop := ∃ (c : ClassId) (k : Class) (i : Nat) (f : Field) (a : Nat) (cell : Cell), U.vm.findClass C = some c ∧ U.fieldFound? C n d = some (c, k, i, f) ∧ f.isStatic = true ∧ k.statics = some a ∧ H[a]? = some cell ∧ cell.vm.isStatics = true ∧ cell.cls = c ∧ f.slot < cell.slots.size ∧ k.staticTypes[f.slot]? = some f.type ∧ ¬ A a
theorem vx_L.moved {C n d : String} {A : Nat → Prop} {u U : State} {H : Heap} (hvm : u.vm.Alike U.vm) (h : vx_L C n d A u H) : vx_L C n d A U H := by
  obtain ⟨c, k, i, f, a, cell, h1, h2, h3, h4, h5, h6, h7, h8, h9, h10⟩ := h
  obtain ⟨k', hi', he⟩ := State.fieldFound?_setVm hvm h2
  exact ⟨c, k', i, f, a, cell, by rw [hvm.findClass]; exact h1, hi', h3, by rw [he]; exact h4, h5, h6, h7, h8, by rw [he]; exact h9, h10⟩
theorem vx_L.kept {C n d : String} {A : Nat → Prop} {U : State} {H H1 : Heap} (h : vx_L C n d A U H) (hq : ∀ a : Nat, a < H.size → ¬ A a → H1[a]? = H[a]?) : vx_L C n d A U H1 := by
  obtain ⟨c, k, i, f, a, cell, h1, h2, h3, h4, h5, h6, h7, h8, h9, h10⟩ := h
  exact ⟨c, k, i, f, a, cell, h1, h2, h3, h4, by rw [hq a (Array.getElem?_eq_some_iff.mp h5).1 h10]; exact h5, h6, h7, h8, h9, h10⟩
theorem vx_L.narrow {C n d : String} {A B : Nat → Prop} {U : State} {H : Heap} (h : vx_L C n d A U H) (hAB : ∀ q, B q → A q) : vx_L C n d B U H := by
  obtain ⟨c, k, i, f, a, cell, h1, h2, h3, h4, h5, h6, h7, h8, h9, h10⟩ := h
  exact ⟨c, k, i, f, a, cell, h1, h2, h3, h4, h5, h6, h7, h8, h9, fun z => h10 (hAB _ z)⟩
theorem vx_L.word {C n d : String} {A : Nat → Prop} {s : State} {args : Array Value} (h : vx_L C n d A s s.heap) : (Cond.laysStatic C n d).before args s = true := by
  obtain ⟨c, k, i, f, a, cell, h1, h2, h3, h4, h5, h6, h7, h8, h9, -⟩ := h
  show (Cond.laysStatic C n d).holds args s none s [] = true
  exact Cond.laysStatic_of h1 h2 h3 h4 h5 h6 h7 h8 h9
/-- .. and what it holds: null or some reference -/
def vx_Zq (C n d : String) (A : Nat → Prop) (U : State) (H : Heap) : Prop := va_Zq C n d A U H ∧ vx_L C n d A U H
theorem vx_Zq.moved {C n d : String} {A : Nat → Prop} {u U : State} {H : Heap} (hvm : u.vm.Alike U.vm) (h : vx_Zq C n d A u H) : vx_Zq C n d A U H := ⟨va_Zq.moved hvm h.1, vx_L.moved hvm h.2⟩
theorem vx_Zq.kept {C n d : String} {A : Nat → Prop} {U : State} {H H1 : Heap} (h : vx_Zq C n d A U H) (hq : ∀ a : Nat, a < H.size → ¬ A a → H1[a]? = H[a]?) : vx_Zq C n d A U H1 := ⟨va_Zq.kept h.1 hq, vx_L.kept h.2 hq⟩
theorem vx_Zq.narrow {C n d : String} {A B : Nat → Prop} {U : State} {H : Heap} (h : vx_Zq C n d A U H) (hAB : ∀ q, B q → A q) : vx_Zq C n d B U H := ⟨va_Zq.narrow h.1 hAB, vx_L.narrow h.2 hAB⟩
theorem vx_Zqof {args : Array Value} {s : State} {C n d : String} {A : Nat → Prop} (hl : (Cond.laysStatic C n d).before args s = true) (hini : (Cond.initialized C).before args s = true) (h : (Cond.isRef (.static C n d)).before args s = true) (hA : ∀ a : Nat, a < s.heap.size → ¬ A a) : vx_Zq C n d A s s.heap := by
  refine ⟨va_Zqof hl hini h hA, ?_⟩
  obtain ⟨c, k, i, f, a, cell, h1, h2, h3, h4, h5, h6, h7, h8, h9⟩ := Cond.laysStatic_spec hl
  exact ⟨c, k, i, f, a, cell, h1, h2, h3, h4, h5, h6, h7, h8, h9, hA a (Array.getElem?_eq_some_iff.mp h5).1⟩
theorem vx_isRef {C n d : String} {v : Value} {A : Nat → Prop} {s : State} {args : Array Value} (h : va_Z C n d v A s s.heap) (hv : v.isRef = true) : (Cond.isRef (.static C n d)).before args s = true := by
  obtain ⟨cf, kf, fi, f, a, cell, h1, h2, h3, h4, h5, h6, h7, -⟩ := h
  have he : (Term.static C n d).eval args s none [] s = some v := by
    simp [Term.eval, State.fieldNamed?, h1, h2, h4, h5, h6, h7]
  simp only [Cond.before, Cond.holds, Cond.value, he]
  cases v <;> simp_all [Value.isRef]
theorem vx_isRefq {C n d : String} {A : Nat → Prop} {s : State} {args : Array Value} (h : va_Zq C n d A s s.heap) : (Cond.isRef (.static C n d)).before args s = true := by
  rcases h with h | ⟨t, h⟩
  · exact vx_isRef h rfl
  · exact vx_isRef h rfl
/-- the same frame, seen from here: as if the method were called anew in this heap -/
theorem vx_rebase {T : State} (X : Stand p l e R s m args below meth c T locs cells slots) {R' : Room} (hf : R'.frames ≤ R.frames) (hl : R'.locals ≤ R.locals) (hc : cells + R'.cells ≤ R.cells) (hs : slots + R'.slots ≤ R.slots) :
    Stand p l e R' ((T.setVm s.vm).setFrames (.invoking m args :: below)) m args below meth c T [] 0 0 := by
  have htop : (T.setVm s.vm).topJava?.isSome := X.here.top
  have hF : ((T.setVm s.vm).setFrames (.invoking m args :: below)).frames = .invoking m args :: below := State.frames_setFrames _ (State.cur_lt_of_top htop)
  obtain ⟨g₀, hg0⟩ := Option.isSome_iff_exists.mp htop
  obtain ⟨r, hr⟩ := State.topJava?_eq_some.mp hg0
  have hl9 : e.platform.stackLimits (T.setVm s.vm).me = e.platform.stackLimits s.me := X.limits
  have hb9 : (T.setVm s.vm).me.stackBytes = s.me.stackBytes := X.bytes
  refine ⟨X.admits, X.cas, X.clock, hF, ?_, X.hears, X.method, X.code, X.here, X.tail, X.warmed, ?_, ?_, ?_⟩
  · have h := X.room
    have hU : ((T.setVm s.vm).setFrames (.invoking m args :: below)).localsInUse = s.localsInUse := by
      rw [State.localsInUse_invoking hF (meth := meth) (c := c) X.method X.code, State.localsInUse_invoking X.frames X.method X.code]
    simp only [State.hasRoom, Bool.and_eq_true, decide_eq_true_eq] at h ⊢
    obtain ⟨⟨⟨⟨h1, h2, h3, h4, h5, h6⟩, h7⟩, h8⟩, h9⟩ := h
    rw [X.frames, List.length_cons] at h2 h3
    have q1 := X.heapSize
    have q2 := X.used
    simp only [hF, hU, List.length_cons, State.stackLimits_setFrames, State.stackBytes_setFrames, hl9, hb9]
    refine ⟨⟨⟨⟨by omega, by omega, by omega, by omega, by omega, h6⟩, ?_⟩, ?_⟩, X.book⟩
    · show T.heap.size + R'.cells ≤ e.platform.maxCells
      omega
    · show T.slotsUsed + R'.slots ≤ e.platform.maxSlots
      omega
  · rw [State.stackLimits_setFrames]; rfl
  · rw [State.stackBytes_setFrames]; rfl
  · refine ⟨?_, Nat.le_refl _, Nat.le_refl _, ?_, ?_, fun a c9 h9 => ⟨c9, h9, rfl, rfl, fun _ _ => rfl⟩⟩
    · obtain ⟨t, ht, -⟩ := State.frames_cons hr
      show T.setVm s.vm = { ((T.setVm s.vm).setFrames (.invoking m args :: below)).setFrames (T.setVm s.vm).frames with heap := T.heap, slotsUsed := T.slotsUsed }
      rw [State.setFrames_setFrames, State.setFrames_self ht]
      rfl
    · show T.slotsUsed = T.slotsUsed + ((T.heap.toList.drop T.heap.size).map (·.slots.size)).sum
      rw [List.drop_eq_nil_of_le (Nat.le_of_eq Array.length_toList)]
      rfl
    · show ((T.heap.toList.drop T.heap.size).map (·.slots.size)).sum ≤ 0
      rw [List.drop_eq_nil_of_le (Nat.le_of_eq Array.length_toList)]
      exact Nat.le_refl _
/-- 'throw new E()': new; dup; invokespecial; athrow -/
theorem vx_throw0 {cc : ByteArray} {pc : Nat} (hexec : p.tables.exec = Jvm.exec) (hb : c.code = cc) (hl : l.stackTraces = false) {own cls : String} {names : List String} {ik ic mc ms : Nat} {A : Nat → Prop}
    (hown : s.vm.findClass own = some m.cls) (hcls : Bundle.fit cls = true) (hnames : ∀ n ∈ names, Bundle.fit n = true)
    (hk : (Cond.classLink own ik cls).before args s = true) (hini : (Cond.initialized cls).before args s = true) (hat : ∀ w ∈ vx_at0 own ic cls names, w.before args s = true)
    (hgood : ∀ w ∈ Cond.classLink own ik cls :: Cond.initialized cls :: vx_at0 own ic cls names, vx_ot w = true)
    (hU : vx_Zq Bundle.tN "UNASSIGNED_STACK" Bundle.steD A s s.heap) (hN : vx_Zq Bundle.tN "SUPPRESSED_SENTINEL" Bundle.listD A s s.heap) (hS : va_S A s.heap H locs) (hsize : ls.size = c.maxLocals)
    (d0 : decode cc pc = .ok (.new ik, 3)) (d3 : decode cc (pc + 3) = .ok (.dup, 1)) (d4 : decode cc (pc + 4) = .ok (.invokespecial ic, 3)) (d7 : decode cc (pc + 7) = .ok (.athrow, 1))
    (hout : ∀ x ∈ c.exceptionTable.toList, covers x (pc + 7) = false)
    (hRframes : names.length + 3 < R.frames) (hRlocals : (rest.map fun v => v.category).sum + (13 * (names.length + 1) + 42) ≤ R.locals) (hRcells : cells + 1 ≤ R.cells) (hRslots : slots + 6 ≤ R.slots) (hlocks : meth.locks = false)
    (hx : ∀ t : State, s.vm.Alike t.vm → H.size ≤ t.heap.size → (∀ q : Nat, q < H.size → t.heap[q]? = H[q]?) → XC cls s t)
    (hf : ∀ z ∈ locs, free z.base) (hc : cells + 1 ≤ mc) (hs : slots + 6 ≤ ms) :
    W p l e R s m args below meth c H locs cells slots (vx_MQ below Qc XC args s mc ms free) (F0 m pc ls rest) := by
  intro T hT X
  have htr : e.platform.stackTraces = false := (show e.platform.stackTraces = l.stackTraces by rw [X.admits.platform]).trans hl
  have Y := vx_rebase X (R' := { frames := R.frames, locals := R.locals, cells := 1, slots := 6 }) (Nat.le_refl _) (Nat.le_refl _) hRcells hRslots
  obtain ⟨s', hA⟩ : ∃ z, z = (T.setVm s.vm).setFrames (.invoking m args :: below) := ⟨_, rfl⟩
  rw [← hA] at Y
  have hvm : s'.vm = s.vm := by rw [hA]; rfl
  have hhp : s'.heap = H := by rw [hA]; exact hT
  have hW0 : s.WarmedH s'.vm := by rw [hvm]; exact State.WarmedH.refl s
  have hat' : ∀ w ∈ vx_at0 own ic cls names, w.before args s' = true := fun w hw => vx_ot_at hW0 hvm.symm (hgood w (List.mem_cons_of_mem _ (List.mem_cons_of_mem _ hw))) (hat w hw)
  have hk' : (Cond.classLink own ik cls).before args s' = true := vx_ot_at hW0 hvm.symm (hgood _ List.mem_cons_self) hk
  have hini' : (Cond.initialized cls).before args s' = true := vx_ot_at hW0 hvm.symm (hgood _ (List.mem_cons_of_mem _ List.mem_cons_self)) hini
  have hU' : vx_Zq Bundle.tN "UNASSIGNED_STACK" Bundle.steD A s' s'.heap := by rw [hhp]; exact vx_Zq.moved hW0.alike (hU.kept hS.2.1)
  have hN' : vx_Zq Bundle.tN "SUPPRESSED_SENTINEL" Bundle.listD A s' s'.heap := by rw [hhp]; exact vx_Zq.moved hW0.alike (hN.kept hS.2.1)
  have h : ∀ w ∈ Bundle.ownAtoms0 own ic cls names, w.before args s' = true := vx_own hat' (vx_isRefq hU'.1) (vx_isRefq hN'.1) hU'.2.word hN'.2.word
  have hown' : s'.vm.findClass own = some m.cls := by rw [hvm]; exact hown
  have hins : (Cond.instantiable cls 6).before args s' = true := h _ (by simp [Bundle.ownAtoms0])
  obtain ⟨vm₁, cX, kX, hfX, hkX, -, -, X₁, st1⟩ := Y.newCold hexec (own := own) (C := cls) (index := ik) (n := 6) hown' hk' hins hini'
    (g := F0 m pc ls rest) rfl (by rw [hb]; exact d0) (Nat.le_refl _) (Nat.le_refl _)
  generalize hT1 : (T.setVm vm₁).pushCell { cls := cX, slots := kX.instanceTypes.map defaultValue, vm := .none } = T1 at X₁ st1
  have hcat : (Value.ref T.heap.size).category = 1 := rfl
  have hcellA : T1.heap[T.heap.size]? = some (freshCell cX kX) := by rw [← hT1]; exact State.heap_pushCell_size _ _
  have d3' : decode c.code (pc + 3) = .ok (.dup, 1) := by rw [hb]; exact d3
  obtain ⟨U, hsteps, hrun, hend, hW, hsame, ce, hce, hO⟩ := X₁.ctorThrow0 hexec htr (own := own) (cls := cls) (names := names) (ic := ic) hown' hcls hnames h (fun x hx => nomatch hx) hfX hkX hcellA (by rw [hhp, hT]; exact Nat.le_refl _)
    (g := { method := m, pc := pc + 4, locals := ls, stack := .ref T.heap.size :: .ref T.heap.size :: rest, locked := none }) rfl hsize rfl rfl (rest := rest) rfl
    (by rw [hb]; exact d4) (by rw [hb]; exact d7) hout hRframes (by simp only [List.map_cons, List.sum_cons, hcat]; omega) hlocks
  obtain ⟨f1, f2⟩ := vx_frame hsame
  rw [hhp] at f1 f2
  have hWs : s.WarmedH U.vm := State.WarmedH.trans hW0 hW
  have hcl : s.vm.findClass cls = some ce.cls := by
    have h9 := hO.cls
    rw [hvm] at h9
    exact h9
  have hall : s.sameButNew ({ U with vm := s.vm } : State) locs mc ms := by
    subst hA
    obtain ⟨e1, e2⟩ := hsame
    rw [State.setFrames_setFrames] at e1
    have h2 : (T.setVm s.vm).sameButNew ({ U with vm := s.vm } : State) [] (0 + 1) (0 + 6) := ⟨e1, e2⟩
    have h3 := X.same.trans h2
    rw [List.append_nil] at h3
    exact h3.mono hc hs
  refine ⟨U, ?_, .threw T.heap.size, hrun, hend, Or.inr ⟨T.heap.size, rfl, cls, ce, locs, hx U hWs.alike f1 (fun q hq => f2 q hq (fun z hz => nomatch hz)), hce, hO.vm, hcl, hWs, hall, hf⟩⟩
  refine st1 _ ?_
  show Steps p.tables e below (T1.setTop { method := m, pc := pc + 3, locals := ls, stack := .ref T.heap.size :: rest, locked := none }) _
  jvm_step X₁.here [X₁.here.top, hexec, d3', Value.category]
  exact hsteps
/-- 'throw new E("text")': new; dup; ldc; invokespecial; athrow -/
theorem vx_throwS {cc : ByteArray} {pc : Nat} (hexec : p.tables.exec = Jvm.exec) (hb : c.code = cc) (hl : l.stackTraces = false) {own cls text : String} {names : List String} {ik is ic mc ms sa : Nat} {A : Nat → Prop}
    (hown : s.vm.findClass own = some m.cls) (hcls : Bundle.fit cls = true) (hnames : ∀ n ∈ names, Bundle.fit n = true)
    (hk : (Cond.classLink own ik cls).before args s = true) (hini : (Cond.initialized cls).before args s = true) (hstr : vk_R own is text sa s) (hat : ∀ w ∈ vx_atS own ic cls names, w.before args s = true)
    (hgood : ∀ w ∈ Cond.classLink own ik cls :: Cond.initialized cls :: vx_atS own ic cls names, vx_ot w = true)
    (hU : vx_Zq Bundle.tN "UNASSIGNED_STACK" Bundle.steD A s s.heap) (hN : vx_Zq Bundle.tN "SUPPRESSED_SENTINEL" Bundle.listD A s s.heap) (hS : va_S A s.heap H locs) (hsize : ls.size = c.maxLocals)
    (d0 : decode cc pc = .ok (.new ik, 3)) (d3 : decode cc (pc + 3) = .ok (.dup, 1)) (d4 : decode cc (pc + 4) = .ok (.ldc is, 2)) (d6 : decode cc (pc + 6) = .ok (.invokespecial ic, 3)) (d9 : decode cc (pc + 9) = .ok (.athrow, 1))
    (hout : ∀ x ∈ c.exceptionTable.toList, covers x (pc + 9) = false)
    (hRframes : names.length + 3 < R.frames) (hRlocals : (rest.map fun v => v.category).sum + (13 * (names.length + 1) + 43) ≤ R.locals) (hRcells : cells + 1 ≤ R.cells) (hRslots : slots + 6 ≤ R.slots) (hlocks : meth.locks = false)
    (hx : ∀ t : State, s.vm.Alike t.vm → H.size ≤ t.heap.size → (∀ q : Nat, q < H.size → t.heap[q]? = H[q]?) → XC cls s t)
    (hf : ∀ z ∈ locs, free z.base) (hc : cells + 1 ≤ mc) (hs : slots + 6 ≤ ms) :
    W p l e R s m args below meth c H locs cells slots (vx_MQ below Qc XC args s mc ms free) (F0 m pc ls rest) := by
  intro T hT X
  have htr : e.platform.stackTraces = false := (show e.platform.stackTraces = l.stackTraces by rw [X.admits.platform]).trans hl
  have Y := vx_rebase X (R' := { frames := R.frames, locals := R.locals, cells := 1, slots := 6 }) (Nat.le_refl _) (Nat.le_refl _) hRcells hRslots
  obtain ⟨s', hA⟩ : ∃ z, z = (T.setVm s.vm).setFrames (.invoking m args :: below) := ⟨_, rfl⟩
  rw [← hA] at Y
  have hvm : s'.vm = s.vm := by rw [hA]; rfl
  have hhp : s'.heap = H := by rw [hA]; exact hT
  have hW0 : s.WarmedH s'.vm := by rw [hvm]; exact State.WarmedH.refl s
  have hat' : ∀ w ∈ vx_atS own ic cls names, w.before args s' = true := fun w hw => vx_ot_at hW0 hvm.symm (hgood w (List.mem_cons_of_mem _ (List.mem_cons_of_mem _ hw))) (hat w hw)
  have hk' : (Cond.classLink own ik cls).before args s' = true := vx_ot_at hW0 hvm.symm (hgood _ List.mem_cons_self) hk
  have hini' : (Cond.initialized cls).before args s' = true := vx_ot_at hW0 hvm.symm (hgood _ (List.mem_cons_of_mem _ List.mem_cons_self)) hini
  have hU' : vx_Zq Bundle.tN "UNASSIGNED_STACK" Bundle.steD A s' s'.heap := by rw [hhp]; exact vx_Zq.moved hW0.alike (hU.kept hS.2.1)
  have hN' : vx_Zq Bundle.tN "SUPPRESSED_SENTINEL" Bundle.listD A s' s'.heap := by rw [hhp]; exact vx_Zq.moved hW0.alike (hN.kept hS.2.1)
  have h : ∀ w ∈ Bundle.ownAtoms own ic cls names, w.before args s' = true := vx_own hat' (vx_isRefq hU'.1) (vx_isRefq hN'.1) hU'.2.word hN'.2.word
  have hown' : s'.vm.findClass own = some m.cls := by rw [hvm]; exact hown
  have hins : (Cond.instantiable cls 6).before args s' = true := h _ (by simp [Bundle.ownAtoms])
  obtain ⟨vm₁, cX, kX, hfX, hkX, -, -, X₁, st1⟩ := Y.newCold hexec (own := own) (C := cls) (index := ik) (n := 6) hown' hk' hins hini'
    (g := F0 m pc ls rest) rfl (by rw [hb]; exact d0) (Nat.le_refl _) (Nat.le_refl _)
  generalize hT1 : (T.setVm vm₁).pushCell { cls := cX, slots := kX.instanceTypes.map defaultValue, vm := .none } = T1 at X₁ st1
  have hcat : (Value.ref T.heap.size).category = 1 := rfl
  have hcellA : T1.heap[T.heap.size]? = some (freshCell cX kX) := by rw [← hT1]; exact State.heap_pushCell_size _ _
  have d3' : decode c.code (pc + 3) = .ok (.dup, 1) := by rw [hb]; exact d3
  have d4' : decode c.code (pc + 4) = .ok (.ldc is, 2) := by rw [hb]; exact d4
  have hstr' : vk_R own is text sa s' := vk_R.warm hW0 hstr
  obtain ⟨U, hsteps, hrun, hend, hW, hsame, ce, hce, hO⟩ := X₁.ctorThrowS hexec htr (own := own) (cls := cls) (names := names) (ic := ic) hown' hcls hnames h (fun x hx => nomatch hx) hfX hkX hcellA (by rw [hhp, hT]; exact Nat.le_refl _) (msg := .ref sa) rfl
    (g := { method := m, pc := pc + 6, locals := ls, stack := .ref sa :: .ref T.heap.size :: .ref T.heap.size :: rest, locked := none }) rfl hsize rfl rfl (rest := rest) rfl
    (by rw [hb]; exact d6) (by rw [hb]; exact d9) hout hRframes (by simp only [List.map_cons, List.sum_cons, hcat]; omega) hlocks
  obtain ⟨f1, f2⟩ := vx_frame hsame
  rw [hhp] at f1 f2
  have hWs : s.WarmedH U.vm := State.WarmedH.trans hW0 hW
  have hcl : s.vm.findClass cls = some ce.cls := by
    have h9 := hO.cls
    rw [hvm] at h9
    exact h9
  have hall : s.sameButNew ({ U with vm := s.vm } : State) locs mc ms := by
    subst hA
    obtain ⟨e1, e2⟩ := hsame
    rw [State.setFrames_setFrames] at e1
    have h2 : (T.setVm s.vm).sameButNew ({ U with vm := s.vm } : State) [] (0 + 1) (0 + 6) := ⟨e1, e2⟩
    have h3 := X.same.trans h2
    rw [List.append_nil] at h3
    exact h3.mono hc hs
  refine ⟨U, ?_, .threw T.heap.size, hrun, hend, Or.inr ⟨T.heap.size, rfl, cls, ce, locs, hx U hWs.alike f1 (fun q hq => f2 q hq (fun z hz => nomatch hz)), hce, hO.vm, hcl, hWs, hall, hf⟩⟩
  refine st1 _ ?_
  show Steps p.tables e below (T1.setTop { method := m, pc := pc + 3, locals := ls, stack := .ref T.heap.size :: rest, locked := none }) _
  jvm_step X₁.here [X₁.here.top, hexec, d3', Value.category]
  exact X₁.ldcString hexec (own := own) (text := text) (index := is) (a := sa) hown' hstr'.1 hstr'.2
    (g := { method := m, pc := pc + 4, locals := ls, stack := .ref T.heap.size :: .ref T.heap.size :: rest, locked := none }) rfl d4' _ hsteps
/-- 'throw new E("text")', the text by a wide index -/
theorem vx_throwSW {cc : ByteArray} {pc : Nat} (hexec : p.tables.exec = Jvm.exec) (hb : c.code = cc) (hl : l.stackTraces = false) {own cls text : String} {names : List String} {ik is ic mc ms sa : Nat} {A : Nat → Prop}
    (hown : s.vm.findClass own = some m.cls) (hcls : Bundle.fit cls = true) (hnames : ∀ n ∈ names, Bundle.fit n = true)
    (hk : (Cond.classLink own ik cls).before args s = true) (hini : (Cond.initialized cls).before args s = true) (hstr : vk_R own is text sa s) (hat : ∀ w ∈ vx_atS own ic cls names, w.before args s = true)
    (hgood : ∀ w ∈ Cond.classLink own ik cls :: Cond.initialized cls :: vx_atS own ic cls names, vx_ot w = true)
    (hU : vx_Zq Bundle.tN "UNASSIGNED_STACK" Bundle.steD A s s.heap) (hN : vx_Zq Bundle.tN "SUPPRESSED_SENTINEL" Bundle.listD A s s.heap) (hS : va_S A s.heap H locs) (hsize : ls.size = c.maxLocals)
    (d0 : decode cc pc = .ok (.new ik, 3)) (d3 : decode cc (pc + 3) = .ok (.dup, 1)) (d4 : decode cc (pc + 4) = .ok (.ldc_w is, 3)) (d7 : decode cc (pc + 7) = .ok (.invokespecial ic, 3)) (d10 : decode cc (pc + 10) = .ok (.athrow, 1))
    (hout : ∀ x ∈ c.exceptionTable.toList, covers x (pc + 10) = false)
    (hRframes : names.length + 3 < R.frames) (hRlocals : (rest.map fun v => v.category).sum + (13 * (names.length + 1) + 43) ≤ R.locals) (hRcells : cells + 1 ≤ R.cells) (hRslots : slots + 6 ≤ R.slots) (hlocks : meth.locks = false)
    (hx : ∀ t : State, s.vm.Alike t.vm → H.size ≤ t.heap.size → (∀ q : Nat, q < H.size → t.heap[q]? = H[q]?) → XC cls s t)
    (hf : ∀ z ∈ locs, free z.base) (hc : cells + 1 ≤ mc) (hs : slots + 6 ≤ ms) :
    W p l e R s m args below meth c H locs cells slots (vx_MQ below Qc XC args s mc ms free) (F0 m pc ls rest) := by
  intro T hT X
  have htr : e.platform.stackTraces = false := (show e.platform.stackTraces = l.stackTraces by rw [X.admits.platform]).trans hl
  have Y := vx_rebase X (R' := { frames := R.frames, locals := R.locals, cells := 1, slots := 6 }) (Nat.le_refl _) (Nat.le_refl _) hRcells hRslots
  obtain ⟨s', hA⟩ : ∃ z, z = (T.setVm s.vm).setFrames (.invoking m args :: below) := ⟨_, rfl⟩
  rw [← hA] at Y
  have hvm : s'.vm = s.vm := by rw [hA]; rfl
  have hhp : s'.heap = H := by rw [hA]; exact hT
  have hW0 : s.WarmedH s'.vm := by rw [hvm]; exact State.WarmedH.refl s
  have hat' : ∀ w ∈ vx_atS own ic cls names, w.before args s' = true := fun w hw => vx_ot_at hW0 hvm.symm (hgood w (List.mem_cons_of_mem _ (List.mem_cons_of_mem _ hw))) (hat w hw)
  have hk' : (Cond.classLink own ik cls).before args s' = true := vx_ot_at hW0 hvm.symm (hgood _ List.mem_cons_self) hk
  have hini' : (Cond.initialized cls).before args s' = true := vx_ot_at hW0 hvm.symm (hgood _ (List.mem_cons_of_mem _ List.mem_cons_self)) hini
  have hU' : vx_Zq Bundle.tN "UNASSIGNED_STACK" Bundle.steD A s' s'.heap := by rw [hhp]; exact vx_Zq.moved hW0.alike (hU.kept hS.2.1)
  have hN' : vx_Zq Bundle.tN "SUPPRESSED_SENTINEL" Bundle.listD A s' s'.heap := by rw [hhp]; exact vx_Zq.moved hW0.alike (hN.kept hS.2.1)
  have h : ∀ w ∈ Bundle.ownAtoms own ic cls names, w.before args s' = true := vx_own hat' (vx_isRefq hU'.1) (vx_isRefq hN'.1) hU'.2.word hN'.2.word
  have hown' : s'.vm.findClass own = some m.cls := by rw [hvm]; exact hown
  have hins : (Cond.instantiable cls 6).before args s' = true := h _ (by simp [Bundle.ownAtoms])
  obtain ⟨vm₁, cX, kX, hfX, hkX, -, -, X₁, st1⟩ := Y.newCold hexec (own := own) (C := cls) (index := ik) (n := 6) hown' hk' hins hini'
    (g := F0 m pc ls rest) rfl (by rw [hb]; exact d0) (Nat.le_refl _) (Nat.le_refl _)
  generalize hT1 : (T.setVm vm₁).pushCell { cls := cX, slots := kX.instanceTypes.map defaultValue, vm := .none } = T1 at X₁ st1
  have hcat : (Value.ref T.heap.size).category = 1 := rfl
  have hcellA : T1.heap[T.heap.size]? = some (freshCell cX kX) := by rw [← hT1]; exact State.heap_pushCell_size _ _
  have d3' : decode c.code (pc + 3) = .ok (.dup, 1) := by rw [hb]; exact d3
  have d4' : decode c.code (pc + 4) = .ok (.ldc_w is, 3) := by rw [hb]; exact d4
  have hstr' : vk_R own is text sa s' := vk_R.warm hW0 hstr
  obtain ⟨U, hsteps, hrun, hend, hW, hsame, ce, hce, hO⟩ := X₁.ctorThrowS hexec htr (own := own) (cls := cls) (names := names) (ic := ic) hown' hcls hnames h (fun x hx => nomatch hx) hfX hkX hcellA (by rw [hhp, hT]; exact Nat.le_refl _) (msg := .ref sa) rfl
    (g := { method := m, pc := pc + 7, locals := ls, stack := .ref sa :: .ref T.heap.size :: .ref T.heap.size :: rest, locked := none }) rfl hsize rfl rfl (rest := rest) rfl
    (by rw [hb]; exact d7) (by rw [hb]; exact d10) hout hRframes (by simp only [List.map_cons, List.sum_cons, hcat]; omega) hlocks
  obtain ⟨f1, f2⟩ := vx_frame hsame
  rw [hhp] at f1 f2
  have hWs : s.WarmedH U.vm := State.WarmedH.trans hW0 hW
  have hcl : s.vm.findClass cls = some ce.cls := by
    have h9 := hO.cls
    rw [hvm] at h9
    exact h9
  have hall : s.sameButNew ({ U with vm := s.vm } : State) locs mc ms := by
    subst hA
    obtain ⟨e1, e2⟩ := hsame
    rw [State.setFrames_setFrames] at e1
    have h2 : (T.setVm s.vm).sameButNew ({ U with vm := s.vm } : State) [] (0 + 1) (0 + 6) := ⟨e1, e2⟩
    have h3 := X.same.trans h2
    rw [List.append_nil] at h3
    exact h3.mono hc hs
  refine ⟨U, ?_, .threw T.heap.size, hrun, hend, Or.inr ⟨T.heap.size, rfl, cls, ce, locs, hx U hWs.alike f1 (fun q hq => f2 q hq (fun z hz => nomatch hz)), hce, hO.vm, hcl, hWs, hall, hf⟩⟩
  refine st1 _ ?_
  show Steps p.tables e below (T1.setTop { method := m, pc := pc + 3, locals := ls, stack := .ref T.heap.size :: rest, locked := none }) _
  jvm_step X₁.here [X₁.here.top, hexec, d3', Value.category]
  exact X₁.ldcStringW hexec (own := own) (text := text) (index := is) (a := sa) hown' hstr'.1 hstr'.2
    (g := { method := m, pc := pc + 4, locals := ls, stack := .ref T.heap.size :: .ref T.heap.size :: rest, locked := none }) rfl d4' _ hsteps
end Ends
section Bodies
variable {l : Launch}
theorem vx_ofW {y : MethodName} {ws ws' : List Cond} {rm : Room} {Pc : Array Value → State → Prop} {Qc : Array Value → State → Outcome → State → Prop} {XC : String → State → State → Prop} {mc ms : Nat} {free : Addr → Prop} {cc : ByteArray} {maxL : Nat} {ret : Option FieldType}
    (hy : plainName y.cls = true) (hw : ws = Cond.code y cc maxL ret :: ws')
    (body : ∀ p e s m args below meth c s₁, BodyLoose p l y (headSpec ws rm) cc maxL ret e s m args below meth c s₁ → c.maxLocals = maxL → (∀ x ∈ c.exceptionTable.toList, False) → Pc args s →
      W p l e (headSpec ws rm).room s m args below meth c s.heap [] 0 0 (vx_MQ below Qc XC args s mc ms free) (entryFrame m args maxL)) : vx_Met l y ws rm Pc Qc XC mc ms free := by
  refine MetFree.of_bodyS (code := cc) (maxLocals := maxL) (ret := ret) hy ?_ ?_
  · intro args s m h hn
    obtain ⟨meth, c, h1, h2, h3, h4, h5, h6, -, -⟩ := Cond.code_spec hn (atoms_spec (ws := ws) h _ (by rw [hw]; exact List.mem_cons_self))
    exact ⟨meth, c, h1, h2, h3, h4, h5, h6⟩
  · intro p e s m args below meth c s₁ B hml hP _
    have hh0 : s₁.heap = s.heap := by rw [B.state]; rfl
    have ht : ∀ x ∈ c.exceptionTable.toList, False := by
      obtain ⟨meth9, c9, h1, h2, -, -, -, -, h7, -⟩ := Cond.code_spec B.named (atoms_spec (ws := ws) B.pre _ (by rw [hw]; exact List.mem_cons_self))
      cases Option.some.inj (h1.symm.trans B.method)
      cases Option.some.inj (h2.symm.trans (Stand.of_body B).code)
      intro x hx
      rw [Array.isEmpty_iff.mp h7] at hx
      cases hx
    obtain ⟨t, a1, o, b1, b2, b3⟩ := body p e s m args below meth c s₁ B hml ht hP s₁ hh0 (Stand.of_body B)
    exact ⟨t, o, a1, b1, b2, b3⟩
/-- the table of a body with handlers -/
theorem vx_table {p : Program} {x y : MethodName} {S : Spec} {cc bytes : ByteArray} {maxL maxL' : Nat} {ret ret' : Option FieldType} {e : Env} {s s₁ : State} {m : MethodId} {args : Array Value} {below : List Frame} {meth : Method} {c : Code} {hh : List (Nat × Nat × Nat × Nat)}
    (B : BodyLoose p l y S cc maxL ret e s m args below meth c s₁) (h : (Cond.codeWith y bytes maxL' ret' hh).before args s = true) : c.exceptionTable.toList = tableOf hh := by
  obtain ⟨m9, meth9, c9, hn9, h1, h2, -, -, h6, -⟩ := Cond.codeWith_spec h
  cases Option.some.inj (hn9.symm.trans B.named)
  cases Option.some.inj (h1.symm.trans B.method)
  cases Option.some.inj (h2.symm.trans (Stand.of_body B).code)
  rw [← h6, table_eq]
end Bodies
end VXA
/-! ===== END ===== -/
/-! ===== BEGIN a static call of a method with an exception table ===== -/
section VXS
variable {p : Program} {l : Launch} {e : Env} {R : Room} {s : State} {m : MethodId} {args : Array Value} {below : List Frame} {meth : Method} {c : Code} {T : State} {H : Heap} {locs : List Loc} {cells slots : Nat}
abbrev vx_CSW (R : Room) (s : State) (args : Array Value) (own : String) (index : Nat) (y : MethodName) (bytes : ByteArray) (maxL : Nat) (ret : Option FieldType) (hh : List (Nat × Nat × Nat × Nat)) (ws : List Cond) (rm : Room) (mc ms n : Nat) : Prop :=
  (rm.cells = mc ∧ rm.slots = ms ∧ rm.frames + 1 ≤ R.frames ∧ 8 + (maxL + 11) + rm.locals ≤ R.locals ∧ (∀ w ∈ ws, ∀ (a' : Array Value) (U : State), s.WarmedH U.vm → w.before a' U = true) ∧ Cond.codeWith y bytes maxL ret hh ∈ ws) ∧
  (Cond.codeWith y bytes maxL ret hh).before args s = true ∧ (Cond.initialized y.cls).before args s = true ∧ (y.cls ≠ "java/lang/invoke/MethodHandle" ∧ y.cls ≠ "java/lang/invoke/VarHandle") ∧
  (∀ sig, parseMethodDescriptor y.desc = some sig → n = sig.parameters.length) ∧ (Cond.methodLink own index y).before args s = true ∧ (Cond.static y).before args s = true
theorem vx_cwSW {own : String} {index maxL mc ms : Nat} {y : MethodName} {bytes : ByteArray} {ret : Option FieldType} {hh : List (Nat × Nat × Nat × Nat)} {Ts ws ws' : List Cond} {rm : Room} (n : Nat) (ht : ∀ w ∈ Ts, w.before args s = true) (hT : GoodIn Ts (va_wsS own index y ws)) (hw : ws = Cond.codeWith y bytes maxL ret hh :: ws') (hrc : rm.cells = mc) (hrs : rm.slots = ms)
    (hd : y.cls ≠ "java/lang/invoke/MethodHandle" ∧ y.cls ≠ "java/lang/invoke/VarHandle" ∧ (parseMethodDescriptor y.desc).map (fun d => d.parameters.length) = some n) (hR : rm.frames + 1 ≤ R.frames ∧ 8 + (maxL + 11) + rm.locals ≤ R.locals) :
    vx_CSW R s args own index y bytes maxL ret hh ws rm mc ms n := by
  have ok : ∀ w ∈ va_wsS own index y ws, w.before args s = true := fun w h => ht w (hT w h).1
  have hG : GoodIn Ts ws := fun w h => hT w (by unfold va_wsS; exact List.mem_append_right _ h)
  have hc : Cond.codeWith y bytes maxL ret hh ∈ ws := by rw [hw]; exact List.mem_cons_self
  refine ⟨⟨hrc, hrs, hR.1, hR.2, pay_in ht hG, hc⟩, ht _ (hG _ hc).1, ok _ (by simp [va_wsS]), ⟨hd.1, hd.2.1⟩, fun sig h => ?_, ok _ (by simp [va_wsS]), ok _ (by simp [va_wsS])⟩
  have h2 := hd.2.2
  rw [h] at h2
  exact (Option.some.inj h2).symm
theorem vx_callSW (X : Stand p l e R s m args below meth c T locs cells slots) (hexec : p.tables.exec = Jvm.exec) {own : String} {index : Nat} {y : MethodName} {bytes : ByteArray} {maxL : Nat} {ret : Option FieldType} {hh : List (Nat × Nat × Nat × Nat)}
    (hown : s.vm.findClass own = some m.cls) (hlink : (Cond.methodLink own index y).before args s = true) (hstat : (Cond.static y).before args s = true) (hinit : (Cond.initialized y.cls).before args s = true)
    (hcode : (Cond.codeWith y bytes maxL ret hh).before args s = true) (hy : y.cls ≠ "java/lang/invoke/MethodHandle" ∧ y.cls ≠ "java/lang/invoke/VarHandle")
    {W9 : Nat} {Pre : Pt → Array Value → Prop} {Post : Pt → Array Value → Option Value → Pt → Prop} (hK : Back l R p e below s args y 3 W9 Pre Post)
    {g : JFrame} (hg : g.method = m) (hsize : g.locals.size = c.maxLocals) {argsL rest : List Value} (hlen : ∀ sig, parseMethodDescriptor y.desc = some sig → argsL.length = sig.parameters.length)
    (hstack : g.stack = argsL.reverse ++ rest) (hW : 2 * g.monitorRoom + (rest.map fun v => v.category).sum ≤ W9) (hdg : decode c.code g.pc = .ok (.invokestatic index, 3))
    (hpre : ∀ vm₁, s.WarmedH vm₁ → Pre ⟨T.setVm vm₁, locs, cells, slots⟩ argsL.toArray) :
    ∃ (v : Option Value) (vm₁ : Vm) (B : Pt), s.WarmedH vm₁ ∧ Stand p l e R s m args below meth c B.U B.locs B.cells B.slots ∧ Post ⟨T.setVm vm₁, locs, cells, slots⟩ argsL.toArray v B ∧
      ∀ target, Steps p.tables e below (B.U.setTop { g with pc := g.pc + 3, stack := v.toList ++ rest }) target → Steps p.tables e below (T.setTop g) target := by
  obtain ⟨mk, methM, cM, hnamed, hmethM, -, -, -, -, -, -, hsigM⟩ := Cond.codeWith_spec hcode
  have hstatic : methM.isStatic = true := Cond.static_spec hnamed hmethM hstat
  obtain ⟨kP, hkP, -⟩ := className_of_methodNamed hnamed
  have hinitP : kP.init = .initialized := Cond.initialized_spec (findClass_of_methodNamed hnamed) hkP hinit
  obtain ⟨vm₁, X₁, hstep₁⟩ := X.invokestatic hexec hown hlink hnamed hmethM hstatic hkP hinitP hy (g := g) hg (argsL := argsL) (rest := rest) (hlen _ hsigM) hstack hdg
  obtain ⟨v, B, X', hpost, hsteps⟩ := hK m meth c ⟨T.setVm vm₁, locs, cells, slots⟩ { g with stack := rest } (.invokestatic index) mk argsL.toArray X₁ hg hsize hdg hW (X₁.named hnamed) (hpre vm₁ X₁.warmed)
  exact ⟨v, vm₁, B, X₁.warmed, X', hpost, fun target h => hstep₁ _ fun acts => by rw [doInvoke_state]; exact hsteps.trans h⟩
theorem vx_runSW {y : MethodName} {bytes cc : ByteArray} {maxL nL mc ms n index : Nat} {ret : Option FieldType} {hh : List (Nat × Nat × Nat × Nat)} {ws : List Cond} {rm : Room} {Pc : Array Value → State → Prop} {Qc : Array Value → State → Outcome → State → Prop} {free : Addr → Prop} {Ts : List Cond} {own : String} {As rest : List Value} {g : JFrame}
    (S : CallFix p m c cc nL s args Ts own) (hM : Met l y ws rm Pc Qc mc ms free) (cw : vx_CSW R s args own index y bytes maxL ret hh ws rm mc ms n) (hp : PreS s H Pc As)
    (hg : g.method = m) (hn : As.length = n) (hsize : g.locals.size = nL) (hstack : g.stack = As.reverse ++ rest) (hW : 2 * g.monitorRoom + (rest.map fun v => v.category).sum ≤ 8) (hdg : decode cc g.pc = .ok (.invokestatic index, 3)) (hf : cells + mc ≤ R.cells ∧ slots + ms ≤ R.slots) :
    va_Run p l e R s m args below meth c H locs cells slots mc ms g rest (Qc As.toArray) (free) := by
  obtain ⟨⟨hrc, hrs, hfr, hlo, hws, hcw⟩, hcode, hini, hy, hlen, hl, hstt⟩ := cw
  have hK : Back l R p e below s args y 3 8 (PreOf R mc ms Pc) (PostOf Qc mc ms free) := va_backW (hh := hh) (bytes := bytes) (maxL := maxL) (ret := ret) hM hp.1 hrc hrs hfr hlo hws hcw (fun a' U hW => word_at hW (Or.inl (by first | rfl | simp [Cond.onTables, Cond.keeps, Cond.steady])) hini)
  obtain ⟨hx, hb, hml, ho, -⟩ := S
  intro T hT X
  obtain ⟨v, vm₁, ⟨U', l2, c2, s2⟩, hW₁, X', ⟨g', mk, t, L, e1, e2, hq, h1, hL, h2, h3⟩, st⟩ := vx_callSW X hx (hh := hh) (bytes := bytes) (maxL := maxL) (ret := ret) ho hl hstt hini hcode hy hK hg (hsize.trans hml.symm) (argsL := As) (rest := rest) (fun sig h => hn.trans (hlen sig h)) hstack hW (by rw [hb]; exact hdg)
    (fun vm₁ hW₁ => ⟨hf.1, hf.2, hp.2 (T.setVm vm₁) hT hW₁⟩)
  dsimp only [Pt.U, Pt.locs, Pt.cells, Pt.slots] at X' e1 e2 h1 h2 h3 st
  subst h1; subst h2; subst h3
  exact ⟨v, (T.setVm vm₁).calling g' mk As.toArray, t, U', L, hT, X', hL, e1, e2, hq, st⟩
/-- not caught here, past rows that name other classes: it goes on to the caller -/
theorem vx_outP {p : Program} {l : Launch} {e : Env} {R : Room} {s : State} {m : MethodId} {args : Array Value} {below : List Frame} {meth : Method} {c : Code} {H : Heap} {locs : List Loc} {cells slots : Nat} {free : Addr → Prop} {ls : Array Slot} {rest : List Value} {Qc : Array Value → State → Outcome → State → Prop} {XC : String → State → State → Prop}
    {pc : Nat} {own E : String} {ce : Cell} {q : Addr} {mc ms : Nat} (hown : s.vm.findClass own = some m.cls) (hlocks : meth.locks = false)
    (hpass : ∀ z ∈ c.exceptionTable.toList, covers z pc = false ∨ (z.catchType ≠ 0 ∧ ∃ nm : String, (Cond.classLink own z.catchType nm).before args s = true ∧ va_Nc E nm s)) (hcell : H[q]? = some ce) (hv : ce.vm = .none) (hcl : s.vm.findClass E = some ce.cls)
    (hx : ∀ t : State, t.heap = H → s.vm.Alike t.vm → XC E s t) (hf : ∀ z ∈ locs, free z.base) (hc : cells ≤ mc) (hs : slots ≤ ms) :
    vx_W p l e R s m args below meth c H locs cells slots (vx_MQ below Qc XC args s mc ms free) (F0 m pc ls rest) q := by
  intro T hT X
  have hpl : e.platform.magicAccessors = ({} : Platform).magicAccessors := by rw [X.admits.platform]
  obtain ⟨vm', hW', X', st⟩ := X.outThrough hlocks q (g := F0 m pc ls rest) rfl rfl rfl (cell := ce) (by rw [hT]; exact hcell) (by rw [hv]; rfl)
    (by obtain ⟨k9, h9, -⟩ := Vm.findClass_spec hcl; exact ⟨k9, h9⟩) (fun z hz => by
      rcases hpass z hz with h | ⟨hz0, nm, hl1, hn1⟩
      · exact Or.inl h
      · obtain ⟨c6, hc6, hcl6⟩ := Cond.classLink_spec hown hl1 e.platform hpl
        obtain ⟨a8, b8, h1, h2, h3⟩ := hn1
        cases Option.some.inj (h1.symm.trans hcl)
        cases Option.some.inj (h2.symm.trans hc6)
        exact Or.inr ⟨hz0, _, hcl6, h3⟩)
  obtain ⟨g₀, hfr⟩ := X'.frames_eq
  have hcell9 : ((T.setVm vm').setFrames (.throwing q :: below)).heap[q]? = some ce := by
    show T.heap[q]? = some ce
    rw [hT]; exact hcell
  have hend : Ended ((T.setVm vm').setFrames (.throwing q :: below)) below (.threw q) := State.frames_setFrames _ (State.cur_lt_of_frames hfr)
  refine ⟨(T.setVm vm').setFrames (.throwing q :: below), ?_, .threw q, X'.here.running, hend, Or.inr ⟨q, rfl, E, ce, locs, hx _ hT (X'.ends _).1.alike, hcell9, hv, hcl, (X'.ends _).1, (X'.ends _).2.mono hc hs, hf⟩⟩
  rw [X.pushThrowing_eq]
  exact st
/-- a thing of a world lies in the heap -/
theorem vx_lt {D : va_G} {cl : List vw_C} {ws : va_W} {H1 : Heap} (h : va_P D cl ws H1) {k : Nat} {q : Nat × va_E} (hk : ws[k]? = some q) : q.1 < H1.size := (h k q hk).lt
end VXS
/-! ===== END ===== -/
/-! ===== BEGIN methods with a table of their own: called by a name, returning or throwing ===== -/
section VXH
/-! vx_backW, vx_callVX, vx_callSX, vx_callVW, vx_runVW, vx_runVX, vx_runSX, vx_ofWH follow the same proofs as their sisters above (Free/Laws.lean, Shelf42/LK1.lean); vx_outP calls Shelf42/NT130.lean (outThrough). -/
section
variable {l : Launch} {R : Room} {p : Program} {e : Env} {below : List Frame} {s : State} {sargs : Array Value} {y : MethodName} {len W9 : Nat}
theorem vx_backW {ws : List Cond} {rm : Room} {Pc : Array Value → State → Prop} {Qc : Array Value → State → Outcome → State → Prop} {XC : String → State → State → Prop} {mc ms : Nat} {free : Addr → Prop} {bytes : ByteArray} {maxL : Nat} {ret : Option FieldType} {hh : List (Nat × Nat × Nat × Nat)}
    (hM : vx_Met l y ws rm Pc Qc XC mc ms free) (hblind : FrameBlind Pc) (hrc : rm.cells = mc) (hrs : rm.slots = ms)
    (hframes : rm.frames + 1 ≤ R.frames) (hlocals : W9 + (maxL + 11) + rm.locals ≤ R.locals)
    (hws : ∀ w ∈ ws, ∀ a' U, s.WarmedH U.vm → w.before a' U = true) (hcode : Cond.codeWith y bytes maxL ret hh ∈ ws) (hinit : ∀ a' U, s.WarmedH U.vm → (Cond.initialized y.cls).before a' U = true) :
    vx_Back l R p e below s sargs y len W9 (PreOf R mc ms Pc) (PostOf Qc mc ms free) (vx_Post XC mc ms free) := by
  intro m meth c A g ig mk a X hg hsize hdg hW hn hp
  have h1 : (headSpec ws rm).pre.before a A.U = true := atoms_intro fun w hw => hws w hw _ _ X.warmed
  have h2 : (Cond.codeWith y bytes maxL ret hh).before a A.U = true := hws _ hcode _ _ X.warmed
  have h3 : (Cond.initialized y.cls).before a A.U = true := hinit _ _ X.warmed
  have h4 : A.cells + (headSpec ws rm).room.cells ≤ R.cells := by rw [show (headSpec ws rm).room.cells = mc from hrc]; exact hp.1
  have h5 : A.slots + (headSpec ws rm).room.slots ≤ R.slots := by rw [show (headSpec ws rm).room.slots = ms from hrs]; exact hp.2.1
  have hPc : Pc a (A.U.calling g mk a) := hblind _ _ _ _ hp.2.2
  obtain ⟨U, Ls, c0, s0⟩ := A
  dsimp only [Pt.U, Pt.locs, Pt.cells, Pt.slots] at h1 h2 h3 h4 h5 X hn hPc ⊢
  obtain ⟨m9, methY, cY, hn9, hmY, hcY, -, hlY, -⟩ := Cond.codeWith_spec h2
  cases Option.some.inj (hn9.symm.trans hn)
  obtain ⟨kY, hkY, -⟩ := className_of_methodNamed hn
  have hinitY : kY.init = .initialized := Cond.initialized_spec (findClass_of_methodNamed hn) hkY h3
  have h : At U g.method c below := by rw [hg]; exact X.here
  have hlocals9 : W9 + (maxL + 11) + (headSpec ws rm).room.locals ≤ R.locals := hlocals
  have happ : (headSpec ws rm).appliesLoose y e.platform (U.calling g mk a) = true :=
    Spec.appliesLoose_calling (g := g) h hdg hn hkY hinitY
      (X.room_calling (g := g) (R' := (headSpec ws rm).room) hsize hmY hcY hframes (by rw [hlY]; omega) h4 h5) h1
  obtain ⟨mid, hmid⟩ := h.above
  have hfr : (U.setTop g).frames = (.java g :: mid) ++ below := by rw [State.frames_setTop' g h.top, hmid]; rfl
  obtain ⟨o, s₂, hsteps, -, hend, hq⟩ := Steps.callFree hM p X.admits X.cas X.clock (acts := []) hfr happ hPc trivial
  have hq' : vx_Q Qc XC mc ms free a (U.calling g mk a) o s₂ := hq
  rw [State.frames_setTop' g h.top] at hend
  obtain ⟨g₀, hg0⟩ := Option.isSome_iff_exists.mp h.top
  obtain ⟨r, hr⟩ := State.topJava?_eq_some.mp hg0
  have hr' : (({ U with heap := s₂.heap, slotsUsed := s₂.slotsUsed } : State).setVm s₂.vm).frames = .java g₀ :: r := hr
  rcases hq' with ⟨hqc, L, hfe, hL⟩ | ⟨q, rfl, E, ce, L, hx, hce, hcv, hcl, hW₂, hsm, hL⟩
  · obtain ⟨⟨v, rfl⟩, hW₂, e2, q2, q3, q4, q5, q6⟩ := id hfe
    have e3 : s₂ = ({ (U.calling g mk a).setFrames s₂.frames with heap := s₂.heap, slotsUsed := s₂.slotsUsed } : State).setVm s₂.vm := by
      have : s₂ = ({ s₂ with vm := (U.calling g mk a).vm } : State).setVm s₂.vm := rfl
      rw [e2] at this
      exact this
    obtain ⟨c₂, i₂, len₂, hc₂, hd₂, hf₂⟩ := hend
    have hW' : U.WarmedH s₂.vm := hW₂
    have hcc : c₂ = c := by
      have h1 : s₂.code? g.method = U.code? g.method := by
        rw [State.code?_eq, State.code?_eq, hW'.alike.method?]
      exact Option.some.inj (hc₂.symm.trans (h1.trans h.code))
    subst hcc
    have hlen : len₂ = len := by rw [hdg] at hd₂; cases hd₂; rfl
    subst hlen
    have hs₂ : s₂ = (({ U with heap := s₂.heap, slotsUsed := s₂.slotsUsed } : State).setVm s₂.vm).setTop { g with pc := g.pc + len₂, stack := v.toList ++ g.stack } := by
      refine e3.trans ?_
      rw [hf₂, State.calling_eq h.top, State.setFrames_setFrames, State.setTop_of_frames _ hr', hr]
      rfl
    have hsame : U.sameButNew ({ U with heap := s₂.heap, slotsUsed := s₂.slotsUsed } : State) L mc ms := by
      refine ⟨?_, q2, q3, q4, q5, q6⟩
      obtain ⟨t, ht, -⟩ := State.frames_cons hr
      show ({ U with heap := s₂.heap, slotsUsed := s₂.slotsUsed } : State) = { U.setFrames U.frames with heap := s₂.heap, slotsUsed := s₂.slotsUsed }
      rw [State.setFrames_self ht]
    subst hg
    refine Or.inl ⟨v, ⟨(({ U with heap := s₂.heap, slotsUsed := s₂.slotsUsed } : State).setVm s₂.vm), Ls ++ L, c0 + mc, s0 + ms⟩,
      ⟨X.admits, X.cas, X.clock, X.frames, X.room, X.hears, X.method, X.code, (X.here.setHeapUsed s₂.heap s₂.slotsUsed).setVm hW'.alike, X.tail, State.WarmedH.trans X.warmed hW', X.limits, X.bytes, X.same.trans (hsame.setVm s.vm)⟩,
      ⟨g, mk, s₂, L, rfl, rfl, hqc, rfl, hL, rfl, rfl⟩, ?_⟩
    show Steps p.tables e below _ ((({ U with heap := s₂.heap, slotsUsed := s₂.slotsUsed } : State).setVm s₂.vm).setTop { g with pc := g.pc + len₂, stack := v.toList ++ g.stack })
    rw [← hs₂]
    exact hsteps
  · obtain ⟨e2, q2, q3, q4, q5, q6⟩ := id hsm
    have e3 : s₂ = ({ (U.calling g mk a).setFrames s₂.frames with heap := s₂.heap, slotsUsed := s₂.slotsUsed } : State).setVm s₂.vm := by
      have : s₂ = ({ s₂ with vm := (U.calling g mk a).vm } : State).setVm s₂.vm := rfl
      rw [e2] at this
      exact this
    have hf₂ : s₂.frames = .throwing q :: .java g :: U.frames.tail := hend
    have hW' : U.WarmedH s₂.vm := hW₂
    have hs₂ : s₂ = ((({ U with heap := s₂.heap, slotsUsed := s₂.slotsUsed } : State).setVm s₂.vm).setTop g).pushFrame (.throwing q) := by
      refine e3.trans ?_
      rw [hf₂, State.calling_eq h.top, State.setFrames_setFrames, State.pushFrame, State.frames_setTop _ hr', State.setTop_of_frames _ hr', State.setFrames_setFrames, hr]
      rfl
    have hsame : U.sameButNew ({ U with heap := s₂.heap, slotsUsed := s₂.slotsUsed } : State) L mc ms := by
      refine ⟨?_, q2, q3, q4, q5, q6⟩
      obtain ⟨t, ht, -⟩ := State.frames_cons hr
      show ({ U with heap := s₂.heap, slotsUsed := s₂.slotsUsed } : State) = { U.setFrames U.frames with heap := s₂.heap, slotsUsed := s₂.slotsUsed }
      rw [State.setFrames_self ht]
    subst hg
    refine Or.inr ⟨q, ⟨(({ U with heap := s₂.heap, slotsUsed := s₂.slotsUsed } : State).setVm s₂.vm), Ls ++ L, c0 + mc, s0 + ms⟩,
      ⟨X.admits, X.cas, X.clock, X.frames, X.room, X.hears, X.method, X.code, (X.here.setHeapUsed s₂.heap s₂.slotsUsed).setVm hW'.alike, X.tail, State.WarmedH.trans X.warmed hW', X.limits, X.bytes, X.same.trans (hsame.setVm s.vm)⟩,
      ⟨g, mk, s₂, L, E, ce, rfl, rfl, hx, hce, hcv, hcl, rfl, hL, rfl, rfl⟩, ?_⟩
    show Steps p.tables e below _ (((({ U with heap := s₂.heap, slotsUsed := s₂.slotsUsed } : State).setVm s₂.vm).setTop g).pushFrame (.throwing q))
    rw [← hs₂]
    exact hsteps
end
variable {p : Program} {l : Launch} {e : Env} {R : Room} {s : State} {m : MethodId} {args : Array Value} {below : List Frame} {meth : Method} {c : Code} {T : State} {H : Heap} {locs : List Loc} {cells slots : Nat}
theorem vx_callVX (X : Stand p l e R s m args below meth c T locs cells slots) (hexec : p.tables.exec = Jvm.exec) {own C : String} {index : Nat} {y : MethodName} {bytes : ByteArray} {maxL : Nat} {ret : Option FieldType} {hh : List (Nat × Nat × Nat × Nat)}
    (hown : s.vm.findClass own = some m.cls) (hlink : (Cond.methodLink own index y).before args s = true) (hinst : (Cond.instanceMethod y).before args s = true) (hsel : (Cond.selects C y y).before args s = true)
    (hcode : (Cond.codeWith y bytes maxL ret hh).before args s = true) (hy : y.cls ≠ "java/lang/invoke/MethodHandle" ∧ y.cls ≠ "java/lang/invoke/VarHandle")
    {W9 : Nat} {Pre : Pt → Array Value → Prop} {Post : Pt → Array Value → Option Value → Pt → Prop} {PostX : Pt → Array Value → Addr → Pt → Prop} (hK : vx_Back l R p e below s args y 3 W9 Pre Post PostX)
    {b : Addr} {cellB : Cell} (hcell : T.heap[b]? = some cellB) (hobj : cellB.vm.isStatics = false) (hcls : s.vm.findClass C = some cellB.cls)
    {g : JFrame} (hg : g.method = m) (hsize : g.locals.size = c.maxLocals) {argsL rest : List Value} (hlen : ∀ sig, parseMethodDescriptor y.desc = some sig → argsL.length = sig.parameters.length)
    (hstack : g.stack = argsL.reverse ++ .ref b :: rest) (hW : 2 * g.monitorRoom + (rest.map fun v => v.category).sum ≤ W9) (hdg : decode c.code g.pc = .ok (.invokevirtual index, 3))
    (hpre : ∀ vm₁, s.WarmedH vm₁ → Pre ⟨T.setVm vm₁, locs, cells, slots⟩ (Value.ref b :: argsL).toArray) :
    (∃ (v : Option Value) (vm₁ : Vm) (B : Pt), s.WarmedH vm₁ ∧ Stand p l e R s m args below meth c B.U B.locs B.cells B.slots ∧ Post ⟨T.setVm vm₁, locs, cells, slots⟩ (Value.ref b :: argsL).toArray v B ∧
      ∀ target, Steps p.tables e below (B.U.setTop { g with pc := g.pc + 3, stack := v.toList ++ rest }) target → Steps p.tables e below (T.setTop g) target) ∨
    (∃ (q : Addr) (vm₁ : Vm) (B : Pt), s.WarmedH vm₁ ∧ Stand p l e R s m args below meth c B.U B.locs B.cells B.slots ∧ PostX ⟨T.setVm vm₁, locs, cells, slots⟩ (Value.ref b :: argsL).toArray q B ∧
      Steps p.tables e below (T.setTop g) ((B.U.setTop { g with stack := rest }).pushFrame (.throwing q))) := by
  obtain ⟨mk, methM, hnamed, hmethM, hstM, habM⟩ := Cond.instanceMethod_spec hinst
  obtain ⟨m8, methM', cM, hn8, hmethM', -, -, -, -, -, -, hsigM⟩ := Cond.codeWith_spec hcode
  cases Option.some.inj (hn8.symm.trans hnamed)
  cases hmethM.symm.trans hmethM'
  obtain ⟨c2, r2, m2, q1, q2, q3, q4, kP, hkP, hkPi⟩ := Cond.selects_spec hsel
  cases hcls.symm.trans q1
  cases (State.methodFound?_of_named hnamed hy).symm.trans q2
  cases hnamed.symm.trans q3
  have hselP : selectMethod e.platform s.vm cellB.cls mk = .method mk := by rw [Launch.admits_selectMethod X.admits]; exact q4
  obtain ⟨vm₁, X₁, hstep₁⟩ := X.invokevirtual hexec hown hlink hnamed hmethM hstM hkP hkPi hy (a := b) (cell := cellB) hcell
    (fun z h => by rw [h] at hobj; cases hobj) hselP hmethM habM hkP hkPi (g := g) hg (argsL := argsL) (rest := rest) (hlen _ hsigM) hstack hdg
  rcases hK m meth c ⟨T.setVm vm₁, locs, cells, slots⟩ { g with stack := rest } (.invokevirtual index) mk (Value.ref b :: argsL).toArray X₁ hg hsize hdg hW (X₁.named hnamed) (hpre vm₁ X₁.warmed) with ⟨v, B, X', hpost, hsteps⟩ | ⟨q, B, X', hpost, hsteps⟩
  · exact Or.inl ⟨v, vm₁, B, X₁.warmed, X', hpost, fun target h => hstep₁ _ fun acts => by rw [doInvoke_state]; exact hsteps.trans h⟩
  · exact Or.inr ⟨q, vm₁, B, X₁.warmed, X', hpost, hstep₁ _ fun acts => by rw [doInvoke_state]; exact hsteps⟩
theorem vx_callSX (X : Stand p l e R s m args below meth c T locs cells slots) (hexec : p.tables.exec = Jvm.exec) {own : String} {index : Nat} {y : MethodName} {bytes : ByteArray} {maxL : Nat} {ret : Option FieldType} {hh : List (Nat × Nat × Nat × Nat)}
    (hown : s.vm.findClass own = some m.cls) (hlink : (Cond.methodLink own index y).before args s = true) (hstat : (Cond.static y).before args s = true) (hinit : (Cond.initialized y.cls).before args s = true)
    (hcode : (Cond.codeWith y bytes maxL ret hh).before args s = true) (hy : y.cls ≠ "java/lang/invoke/MethodHandle" ∧ y.cls ≠ "java/lang/invoke/VarHandle")
    {W9 : Nat} {Pre : Pt → Array Value → Prop} {Post : Pt → Array Value → Option Value → Pt → Prop} {PostX : Pt → Array Value → Addr → Pt → Prop} (hK : vx_Back l R p e below s args y 3 W9 Pre Post PostX)
    {g : JFrame} (hg : g.method = m) (hsize : g.locals.size = c.maxLocals) {argsL rest : List Value} (hlen : ∀ sig, parseMethodDescriptor y.desc = some sig → argsL.length = sig.parameters.length)
    (hstack : g.stack = argsL.reverse ++ rest) (hW : 2 * g.monitorRoom + (rest.map fun v => v.category).sum ≤ W9) (hdg : decode c.code g.pc = .ok (.invokestatic index, 3))
    (hpre : ∀ vm₁, s.WarmedH vm₁ → Pre ⟨T.setVm vm₁, locs, cells, slots⟩ argsL.toArray) :
    (∃ (v : Option Value) (vm₁ : Vm) (B : Pt), s.WarmedH vm₁ ∧ Stand p l e R s m args below meth c B.U B.locs B.cells B.slots ∧ Post ⟨T.setVm vm₁, locs, cells, slots⟩ argsL.toArray v B ∧
      ∀ target, Steps p.tables e below (B.U.setTop { g with pc := g.pc + 3, stack := v.toList ++ rest }) target → Steps p.tables e below (T.setTop g) target) ∨
    (∃ (q : Addr) (vm₁ : Vm) (B : Pt), s.WarmedH vm₁ ∧ Stand p l e R s m args below meth c B.U B.locs B.cells B.slots ∧ PostX ⟨T.setVm vm₁, locs, cells, slots⟩ argsL.toArray q B ∧
      Steps p.tables e below (T.setTop g) ((B.U.setTop { g with stack := rest }).pushFrame (.throwing q))) := by
  obtain ⟨mk, methM, cM, hnamed, hmethM, -, -, -, -, -, -, hsigM⟩ := Cond.codeWith_spec hcode
  have hstatic : methM.isStatic = true := Cond.static_spec hnamed hmethM hstat
  obtain ⟨kP, hkP, -⟩ := className_of_methodNamed hnamed
  have hinitP : kP.init = .initialized := Cond.initialized_spec (findClass_of_methodNamed hnamed) hkP hinit
  obtain ⟨vm₁, X₁, hstep₁⟩ := X.invokestatic hexec hown hlink hnamed hmethM hstatic hkP hinitP hy (g := g) hg (argsL := argsL) (rest := rest) (hlen _ hsigM) hstack hdg
  rcases hK m meth c ⟨T.setVm vm₁, locs, cells, slots⟩ { g with stack := rest } (.invokestatic index) mk argsL.toArray X₁ hg hsize hdg hW (X₁.named hnamed) (hpre vm₁ X₁.warmed) with ⟨v, B, X', hpost, hsteps⟩ | ⟨q, B, X', hpost, hsteps⟩
  · exact Or.inl ⟨v, vm₁, B, X₁.warmed, X', hpost, fun target h => hstep₁ _ fun acts => by rw [doInvoke_state]; exact hsteps.trans h⟩
  · exact Or.inr ⟨q, vm₁, B, X₁.warmed, X', hpost, hstep₁ _ fun acts => by rw [doInvoke_state]; exact hsteps⟩
theorem vx_callVW (X : Stand p l e R s m args below meth c T locs cells slots) (hexec : p.tables.exec = Jvm.exec) {own C : String} {index : Nat} {y : MethodName} {bytes : ByteArray} {maxL : Nat} {ret : Option FieldType} {hh : List (Nat × Nat × Nat × Nat)}
    (hown : s.vm.findClass own = some m.cls) (hlink : (Cond.methodLink own index y).before args s = true) (hinst : (Cond.instanceMethod y).before args s = true) (hsel : (Cond.selects C y y).before args s = true)
    (hcode : (Cond.codeWith y bytes maxL ret hh).before args s = true) (hy : y.cls ≠ "java/lang/invoke/MethodHandle" ∧ y.cls ≠ "java/lang/invoke/VarHandle")
    {W9 : Nat} {Pre : Pt → Array Value → Prop} {Post : Pt → Array Value → Option Value → Pt → Prop} (hK : Back l R p e below s args y 3 W9 Pre Post)
    {b : Addr} {cellB : Cell} (hcell : T.heap[b]? = some cellB) (hobj : cellB.vm.isStatics = false) (hcls : s.vm.findClass C = some cellB.cls)
    {g : JFrame} (hg : g.method = m) (hsize : g.locals.size = c.maxLocals) {argsL rest : List Value} (hlen : ∀ sig, parseMethodDescriptor y.desc = some sig → argsL.length = sig.parameters.length)
    (hstack : g.stack = argsL.reverse ++ .ref b :: rest) (hW : 2 * g.monitorRoom + (rest.map fun v => v.category).sum ≤ W9) (hdg : decode c.code g.pc = .ok (.invokevirtual index, 3))
    (hpre : ∀ vm₁, s.WarmedH vm₁ → Pre ⟨T.setVm vm₁, locs, cells, slots⟩ (Value.ref b :: argsL).toArray) :
    ∃ (v : Option Value) (vm₁ : Vm) (B : Pt), s.WarmedH vm₁ ∧ Stand p l e R s m args below meth c B.U B.locs B.cells B.slots ∧ Post ⟨T.setVm vm₁, locs, cells, slots⟩ (Value.ref b :: argsL).toArray v B ∧
      ∀ target, Steps p.tables e below (B.U.setTop { g with pc := g.pc + 3, stack := v.toList ++ rest }) target → Steps p.tables e below (T.setTop g) target := by
  obtain ⟨mk, methM, hnamed, hmethM, hstM, habM⟩ := Cond.instanceMethod_spec hinst
  obtain ⟨m8, methM', cM, hn8, hmethM', -, -, -, -, -, -, hsigM⟩ := Cond.codeWith_spec hcode
  cases Option.some.inj (hn8.symm.trans hnamed)
  cases hmethM.symm.trans hmethM'
  obtain ⟨c2, r2, m2, q1, q2, q3, q4, kP, hkP, hkPi⟩ := Cond.selects_spec hsel
  cases hcls.symm.trans q1
  cases (State.methodFound?_of_named hnamed hy).symm.trans q2
  cases hnamed.symm.trans q3
  have hselP : selectMethod e.platform s.vm cellB.cls mk = .method mk := by rw [Launch.admits_selectMethod X.admits]; exact q4
  obtain ⟨vm₁, X₁, hstep₁⟩ := X.invokevirtual hexec hown hlink hnamed hmethM hstM hkP hkPi hy (a := b) (cell := cellB) hcell
    (fun z h => by rw [h] at hobj; cases hobj) hselP hmethM habM hkP hkPi (g := g) hg (argsL := argsL) (rest := rest) (hlen _ hsigM) hstack hdg
  obtain ⟨v, B, X', hpost, hsteps⟩ := hK m meth c ⟨T.setVm vm₁, locs, cells, slots⟩ { g with stack := rest } (.invokevirtual index) mk (Value.ref b :: argsL).toArray X₁ hg hsize hdg hW (X₁.named hnamed) (hpre vm₁ X₁.warmed)
  exact ⟨v, vm₁, B, X₁.warmed, X', hpost, fun target h => hstep₁ _ fun acts => by rw [doInvoke_state]; exact hsteps.trans h⟩
abbrev vx_CVW (R : Room) (s : State) (args : Array Value) (own C : String) (index : Nat) (y : MethodName) (bytes : ByteArray) (maxL : Nat) (ret : Option FieldType) (hh : List (Nat × Nat × Nat × Nat)) (ws : List Cond) (rm : Room) (mc ms n : Nat) : Prop :=
  (rm.cells = mc ∧ rm.slots = ms ∧ rm.frames + 1 ≤ R.frames ∧ 8 + (maxL + 11) + rm.locals ≤ R.locals ∧ (∀ w ∈ ws, ∀ (a' : Array Value) (U : State), s.WarmedH U.vm → w.before a' U = true) ∧ Cond.codeWith y bytes maxL ret hh ∈ ws) ∧
  (Cond.codeWith y bytes maxL ret hh).before args s = true ∧ (Cond.initialized y.cls).before args s = true ∧ (y.cls ≠ "java/lang/invoke/MethodHandle" ∧ y.cls ≠ "java/lang/invoke/VarHandle") ∧
  (∀ sig, parseMethodDescriptor y.desc = some sig → n = sig.parameters.length) ∧ (Cond.methodLink own index y).before args s = true ∧ (Cond.instanceMethod y).before args s = true ∧ (Cond.selects C y y).before args s = true
theorem vx_cwVW {own C : String} {index maxL mc ms : Nat} {y : MethodName} {bytes : ByteArray} {ret : Option FieldType} {hh : List (Nat × Nat × Nat × Nat)} {Ts ws ws' : List Cond} {rm : Room} (n : Nat) (ht : ∀ w ∈ Ts, w.before args s = true) (hT : GoodIn Ts (wsV own index C y ws)) (hw : ws = Cond.codeWith y bytes maxL ret hh :: ws') (hrc : rm.cells = mc) (hrs : rm.slots = ms)
    (hd : y.cls = C ∧ y.cls ≠ "java/lang/invoke/MethodHandle" ∧ y.cls ≠ "java/lang/invoke/VarHandle" ∧ (parseMethodDescriptor y.desc).map (fun d => d.parameters.length) = some n) (hR : rm.frames + 1 ≤ R.frames ∧ 8 + (maxL + 11) + rm.locals ≤ R.locals) :
    vx_CVW R s args own C index y bytes maxL ret hh ws rm mc ms n := by
  obtain ⟨hC, hd⟩ := hd
  subst hC
  have ok : ∀ w ∈ wsV own index y.cls y ws, w.before args s = true := fun w h => ht w (hT w h).1
  have hG : GoodIn Ts ws := fun w h => hT w (by unfold wsV; exact List.mem_append_right _ h)
  have hc : Cond.codeWith y bytes maxL ret hh ∈ ws := by rw [hw]; exact List.mem_cons_self
  refine ⟨⟨hrc, hrs, hR.1, hR.2, pay_in ht hG, hc⟩, ht _ (hG _ hc).1, ok _ (by simp [wsV]), ⟨hd.1, hd.2.1⟩, fun sig h => ?_, ok _ (by simp [wsV]), ok _ (by simp [wsV]), ok _ (by simp [wsV])⟩
  have h2 := hd.2.2
  rw [h] at h2
  exact (Option.some.inj h2).symm
theorem vx_runVW {y : MethodName} {bytes cc : ByteArray} {maxL nL mc ms n index : Nat} {ret : Option FieldType} {hh : List (Nat × Nat × Nat × Nat)} {ws : List Cond} {rm : Room} {Pc : Array Value → State → Prop} {Qc : Array Value → State → Outcome → State → Prop} {free : Addr → Prop} {Ts : List Cond} {own C : String} {b : Addr} {As rest : List Value} {g : JFrame}
    (S : CallFix p m c cc nL s args Ts own) (hM : Met l y ws rm Pc Qc mc ms free) (cw : vx_CVW R s args own C index y bytes maxL ret hh ws rm mc ms n) (hp : PreV s H C b Pc As)
    (hg : g.method = m) (hn : As.length = n) (hsize : g.locals.size = nL) (hstack : g.stack = As.reverse ++ .ref b :: rest) (hW : 2 * g.monitorRoom + (rest.map fun v => v.category).sum ≤ 8) (hdg : decode cc g.pc = .ok (.invokevirtual index, 3)) (hf : cells + mc ≤ R.cells ∧ slots + ms ≤ R.slots) :
    va_Run p l e R s m args below meth c H locs cells slots mc ms g rest (Qc (Value.ref b :: As).toArray) free := by
  obtain ⟨⟨hrc, hrs, hfr, hlo, hws, hcw⟩, hcode, hini, hy, hlen, hl, hin, hse⟩ := cw
  have hK : Back l R p e below s args y 3 8 (PreOf R mc ms Pc) (PostOf Qc mc ms free) := va_backW (hh := hh) (bytes := bytes) (maxL := maxL) (ret := ret) hM hp.1 hrc hrs hfr hlo hws hcw (fun a' U hW => word_at hW (Or.inl (by first | rfl | simp [Cond.onTables, Cond.keeps, Cond.steady])) hini)
  obtain ⟨hx, hb, hml, ho, -⟩ := S
  obtain ⟨-, ⟨cellB, hcB, hoB, hclB⟩, hPc⟩ := hp
  intro T hT X
  obtain ⟨v, vm₁, ⟨U', l2, c2, s2⟩, hW₁, X', ⟨g', mk, t, L, e1, e2, hq, h1, hL, h2, h3⟩, st⟩ := vx_callVW X hx (C := C) (hh := hh) (bytes := bytes) (maxL := maxL) (ret := ret) ho hl hin hse hcode hy hK (by rw [hT]; exact hcB) hoB hclB hg (hsize.trans hml.symm) (argsL := As) (rest := rest) (fun sig h => hn.trans (hlen sig h)) hstack hW (by rw [hb]; exact hdg)
    (fun vm₁ hW₁ => ⟨hf.1, hf.2, hPc (T.setVm vm₁) hT hW₁⟩)
  dsimp only [Pt.U, Pt.locs, Pt.cells, Pt.slots] at X' e1 e2 h1 h2 h3 st
  subst h1; subst h2; subst h3
  exact ⟨v, (T.setVm vm₁).calling g' mk (Value.ref b :: As).toArray, t, U', L, hT, X', hL, e1, e2, hq, st⟩
section
variable {y : MethodName} {bytes cc : ByteArray} {maxL nL mc ms n index : Nat} {ret : Option FieldType} {ws : List Cond} {rm : Room} {Pc : Array Value → State → Prop} {Qc : Array Value → State → Outcome → State → Prop} {XC : String → State → State → Prop} {free : Addr → Prop} {Ts : List Cond} {own C : String} {b : Addr} {As rest : List Value} {g : JFrame}
theorem vx_runVX {hh : List (Nat × Nat × Nat × Nat)} (S : CallFix p m c cc nL s args Ts own) (hM : vx_Met l y ws rm Pc Qc XC mc ms free) (cw : vx_CVW R s args own C index y bytes maxL ret hh ws rm mc ms n) (hp : PreV s H C b Pc As)
    (hg : g.method = m) (hn : As.length = n) (hsize : g.locals.size = nL) (hstack : g.stack = As.reverse ++ .ref b :: rest) (hW : 2 * g.monitorRoom + (rest.map fun v => v.category).sum ≤ 8) (hdg : decode cc g.pc = .ok (.invokevirtual index, 3)) (hf : cells + mc ≤ R.cells ∧ slots + ms ≤ R.slots) :
    vx_Run p l e R s m args below meth c H locs cells slots mc ms g rest (Qc (Value.ref b :: As).toArray) XC free := by
  obtain ⟨⟨hrc, hrs, hfr, hlo, hws, hcw⟩, hcode, hini, hy, hlen, hl, hin, hse⟩ := cw
  have hK : vx_Back l R p e below s args y 3 8 (PreOf R mc ms Pc) (PostOf Qc mc ms free) (vx_Post XC mc ms free) := vx_backW (hh := hh) (bytes := bytes) (maxL := maxL) (ret := ret) hM hp.1 hrc hrs hfr hlo hws hcw (fun a' U hW => word_at hW (Or.inl (by first | rfl | simp [Cond.onTables, Cond.keeps, Cond.steady])) hini)
  obtain ⟨hx, hb, hml, ho, -⟩ := S
  obtain ⟨-, ⟨cellB, hcB, hoB, hclB⟩, hPc⟩ := hp
  intro T hT X
  rcases vx_callVX X hx (C := C) (hh := hh) (bytes := bytes) (maxL := maxL) (ret := ret) ho hl hin hse hcode hy hK (by rw [hT]; exact hcB) hoB hclB hg (hsize.trans hml.symm) (argsL := As) (rest := rest) (fun sig h => hn.trans (hlen sig h)) hstack hW (by rw [hb]; exact hdg)
    (fun vm₁ hW₁ => ⟨hf.1, hf.2, hPc (T.setVm vm₁) hT hW₁⟩) with ⟨v, vm₁, ⟨U', l2, c2, s2⟩, hW₁, X', ⟨g', mk, t, L, e1, e2, hq, h1, hL, h2, h3⟩, st⟩ | ⟨q, vm₁, ⟨U', l2, c2, s2⟩, hW₁, X', ⟨g', mk, t, L, E, ce, e1, e2, hq, hce, hcv, hcl, h1, hL, h2, h3⟩, st⟩
  · dsimp only [Pt.U, Pt.locs, Pt.cells, Pt.slots] at X' e1 e2 h1 h2 h3 st
    subst h1; subst h2; subst h3
    exact Or.inl ⟨v, (T.setVm vm₁).calling g' mk (Value.ref b :: As).toArray, t, U', L, hT, X', hL, e1, e2, hq, st⟩
  · dsimp only [Pt.U, Pt.locs, Pt.cells, Pt.slots] at X' e1 e2 h1 h2 h3 st hcl
    subst h1; subst h2; subst h3
    exact Or.inr ⟨q, (T.setVm vm₁).calling g' mk (Value.ref b :: As).toArray, t, U', L, E, ce, hT, X', hL, e1, e2, hq, hce, hcv, vx_cls hW₁ hcl, st⟩
theorem vx_runSX {hh : List (Nat × Nat × Nat × Nat)} (S : CallFix p m c cc nL s args Ts own) (hM : vx_Met l y ws rm Pc Qc XC mc ms free) (cw : vx_CSW R s args own index y bytes maxL ret hh ws rm mc ms n) (hp : PreS s H Pc As)
    (hg : g.method = m) (hn : As.length = n) (hsize : g.locals.size = nL) (hstack : g.stack = As.reverse ++ rest) (hW : 2 * g.monitorRoom + (rest.map fun v => v.category).sum ≤ 8) (hdg : decode cc g.pc = .ok (.invokestatic index, 3)) (hf : cells + mc ≤ R.cells ∧ slots + ms ≤ R.slots) :
    vx_Run p l e R s m args below meth c H locs cells slots mc ms g rest (Qc As.toArray) XC free := by
  obtain ⟨⟨hrc, hrs, hfr, hlo, hws, hcw⟩, hcode, hini, hy, hlen, hl, hstt⟩ := cw
  have hK : vx_Back l R p e below s args y 3 8 (PreOf R mc ms Pc) (PostOf Qc mc ms free) (vx_Post XC mc ms free) := vx_backW (hh := hh) (bytes := bytes) (maxL := maxL) (ret := ret) hM hp.1 hrc hrs hfr hlo hws hcw (fun a' U hW => word_at hW (Or.inl (by first | rfl | simp [Cond.onTables, Cond.keeps, Cond.steady])) hini)
  obtain ⟨hx, hb, hml, ho, -⟩ := S
  intro T hT X
  rcases vx_callSX X hx (hh := hh) (bytes := bytes) (maxL := maxL) (ret := ret) ho hl hstt hini hcode hy hK hg (hsize.trans hml.symm) (argsL := As) (rest := rest) (fun sig h => hn.trans (hlen sig h)) hstack hW (by rw [hb]; exact hdg)
    (fun vm₁ hW₁ => ⟨hf.1, hf.2, hp.2 (T.setVm vm₁) hT hW₁⟩) with ⟨v, vm₁, ⟨U', l2, c2, s2⟩, hW₁, X', ⟨g', mk, t, L, e1, e2, hq, h1, hL, h2, h3⟩, st⟩ | ⟨q, vm₁, ⟨U', l2, c2, s2⟩, hW₁, X', ⟨g', mk, t, L, E, ce, e1, e2, hq, hce, hcv, hcl, h1, hL, h2, h3⟩, st⟩
  · dsimp only [Pt.U, Pt.locs, Pt.cells, Pt.slots] at X' e1 e2 h1 h2 h3 st
    subst h1; subst h2; subst h3
    exact Or.inl ⟨v, (T.setVm vm₁).calling g' mk As.toArray, t, U', L, hT, X', hL, e1, e2, hq, st⟩
  · dsimp only [Pt.U, Pt.locs, Pt.cells, Pt.slots] at X' e1 e2 h1 h2 h3 st hcl
    subst h1; subst h2; subst h3
    exact Or.inr ⟨q, (T.setVm vm₁).calling g' mk As.toArray, t, U', L, E, ce, hT, X', hL, e1, e2, hq, hce, hcv, vx_cls hW₁ hcl, st⟩
end
end VXH
theorem vx_ofWH {l : Launch} {y : MethodName} {ws ws' : List Cond} {rm : Room} {Pc : Array Value → State → Prop} {Qc : Array Value → State → Outcome → State → Prop} {XC : String → State → State → Prop} {mc ms : Nat} {free : Addr → Prop} {cc : ByteArray} {maxL : Nat} {ret : Option FieldType} {hh : List (Nat × Nat × Nat × Nat)}
    (hy : plainName y.cls = true) (hw : ws = Cond.codeWith y cc maxL ret hh :: ws')
    (body : ∀ p e s m args below meth c s₁, BodyLoose p l y (headSpec ws rm) cc maxL ret e s m args below meth c s₁ → c.maxLocals = maxL → Pc args s →
      W p l e (headSpec ws rm).room s m args below meth c s.heap [] 0 0 (vx_MQ below Qc XC args s mc ms free) (entryFrame m args maxL)) : vx_Met l y ws rm Pc Qc XC mc ms free := by
  refine MetFree.of_bodyS (code := cc) (maxLocals := maxL) (ret := ret) hy ?_ ?_
  · intro args s m h hn
    obtain ⟨m9, meth, c, hn9, h1, h2, h3, h4, -, h5, h6, -⟩ := Cond.codeWith_spec (atoms_spec (ws := ws) h _ (by rw [hw]; exact List.mem_cons_self))
    cases hn.symm.trans hn9
    exact ⟨meth, c, h1, h2, h3, h4, h5, h6⟩
  · intro p e s m args below meth c s₁ B hml hP _
    have hh0 : s₁.heap = s.heap := by rw [B.state]; rfl
    obtain ⟨t, a1, o, b1, b2, b3⟩ := body p e s m args below meth c s₁ B hml hP s₁ hh0 (Stand.of_body B)
    exact ⟨t, o, a1, b1, b2, b3⟩
/-! ===== END ===== -/
end
section
def RX0 : String := "OddChoir$ChantText"
def TX0 : u_T := fun k => match k with
  | 0 => ("OddChoir$ChantText", "codes", "[C", true)
  | _ => ("OddChoir$ChantText", "length", "I", false)
def tyX0 : Nat → FieldType := fun k => match k with
  | 0 => .array .char
  | _ => .int
abbrev wsX00 : List Cond := u_ws RX0 TX0 2
theorem nmX0 : ∀ a, a < 2 → ∀ b, b < 2 → a ≠ b → (TX0 a).2.1 ≠ (TX0 b).2.1 := by decide +kernel
theorem tyX0_ok : ∀ k, k < 2 → parseFieldDescriptor (TX0 k).2.2.1 = some (tyX0 k) := by decide +kernel
abbrev cX0_init : ByteArray := prog_2_method_1_code
def yX0_init : MethodName := ⟨RX0, "<init>", "()V"⟩
def RX1 : String := "OddChoir$Choir"
def TX1 : u_T := fun k => match k with
  | 0 => ("OddChoir$Choir", "sizes", "[I", true)
  | 1 => ("OddChoir$Choir", "numbers", "[I", true)
  | 2 => ("OddChoir$Choir", "heights", "[I", true)
  | 3 => ("OddChoir$Choir", "voices", "[I", true)
  | 4 => ("OddChoir$Choir", "reach", "I", false)
  | 5 => ("OddChoir$Choir", "behind", "I", false)
  | 6 => ("OddChoir$Choir", "came", "I", false)
  | 7 => ("OddChoir$Choir", "left", "I", false)
  | _ => ("OddChoir$Choir", "swaps", "I", false)
def tyX1 : Nat → FieldType := fun k => match k with
  | 0 => .array .int
  | 1 => .array .int
  | 2 => .array .int
  | 3 => .array .int
  | 4 => .int
  | 5 => .int
  | 6 => .int
  | 7 => .int
  | _ => .int
abbrev wsX10 : List Cond := u_ws RX1 TX1 9
theorem nmX1 : ∀ a, a < 9 → ∀ b, b < 9 → a ≠ b → (TX1 a).2.1 ≠ (TX1 b).2.1 := by decide +kernel
theorem tyX1_ok : ∀ k, k < 9 → parseFieldDescriptor (TX1 k).2.2.1 = some (tyX1 k) := by decide +kernel
abbrev cX1_init : ByteArray := prog_3_method_1_code
def yX1_init : MethodName := ⟨RX1, "<init>", "()V"⟩
abbrev cX1_become : ByteArray := prog_3_method_2_code
def yX1_become : MethodName := ⟨RX1, "become", "(LOddChoir$Choir;)V"⟩
abbrev cX1_copyCells : ByteArray := prog_3_method_3_code
def yX1_copyCells : MethodName := ⟨RX1, "copyCells", "([I[I)V"⟩
abbrev cX1_settingAt : ByteArray := prog_3_method_4_code
def yX1_settingAt : MethodName := ⟨RX1, "settingAt", "(I)I"⟩
abbrev cX1_changeSetting : ByteArray := prog_3_method_5_code
def yX1_changeSetting : MethodName := ⟨RX1, "changeSetting", "(II)V"⟩
abbrev cX1_sizeOf : ByteArray := prog_3_method_6_code
def yX1_sizeOf : MethodName := ⟨RX1, "sizeOf", "(I)I"⟩
abbrev cX1_sizeOfAll : ByteArray := prog_3_method_7_code
def yX1_sizeOfAll : MethodName := ⟨RX1, "sizeOfAll", "()I"⟩
abbrev cX1_changeSize : ByteArray := prog_3_method_8_code
def yX1_changeSize : MethodName := ⟨RX1, "changeSize", "(II)V"⟩
abbrev cX1_isTaken : ByteArray := prog_3_method_9_code
def yX1_isTaken : MethodName := ⟨RX1, "isTaken", "(II)Z"⟩
abbrev cX1_hasRoomFor : ByteArray := prog_3_method_10_code
def yX1_hasRoomFor : MethodName := ⟨RX1, "hasRoomFor", "(I)Z"⟩
abbrev cX1_spotAt : ByteArray := prog_3_method_11_code
def yX1_spotAt : MethodName := ⟨RX1, "spotAt", "(II)I"⟩
abbrev cX1_numberAt : ByteArray := prog_3_method_12_code
def yX1_numberAt : MethodName := ⟨RX1, "numberAt", "(II)I"⟩
abbrev cX1_heightAt : ByteArray := prog_3_method_13_code
def yX1_heightAt : MethodName := ⟨RX1, "heightAt", "(II)I"⟩
abbrev cX1_voiceAt : ByteArray := prog_3_method_14_code
def yX1_voiceAt : MethodName := ⟨RX1, "voiceAt", "(II)I"⟩
abbrev cX1_spotOfNumber : ByteArray := prog_3_method_15_code
def yX1_spotOfNumber : MethodName := ⟨RX1, "spotOfNumber", "(I)I"⟩
abbrev cX1_arrive : ByteArray := prog_3_method_16_code
def yX1_arrive : MethodName := ⟨RX1, "arrive", "(III)I"⟩
abbrev cX1_dismiss : ByteArray := prog_3_method_17_code
def yX1_dismiss : MethodName := ⟨RX1, "dismiss", "(II)I"⟩
abbrev cX1_moveOver : ByteArray := prog_3_method_18_code
def yX1_moveOver : MethodName := ⟨RX1, "moveOver", "(III)I"⟩
abbrev cX1_moveToRightEnd : ByteArray := prog_3_method_19_code
def yX1_moveToRightEnd : MethodName := ⟨RX1, "moveToRightEnd", "(II)V"⟩
abbrev cX1_changeHeight : ByteArray := prog_3_method_20_code
def yX1_changeHeight : MethodName := ⟨RX1, "changeHeight", "(III)V"⟩
abbrev cX1_swapPlaces : ByteArray := prog_3_method_21_code
def yX1_swapPlaces : MethodName := ⟨RX1, "swapPlaces", "(IIII)V"⟩
abbrev cX1_swapCells : ByteArray := prog_3_method_22_code
def yX1_swapCells : MethodName := ⟨RX1, "swapCells", "([III)V"⟩
abbrev cX1_swapAndCount : ByteArray := prog_3_method_23_code
def yX1_swapAndCount : MethodName := ⟨RX1, "swapAndCount", "(IIII)V"⟩
abbrev cX1_turnRound : ByteArray := prog_3_method_24_code
def yX1_turnRound : MethodName := ⟨RX1, "turnRound", "(I)V"⟩
abbrev cX1_putInOrder : ByteArray := prog_3_method_25_code
def yX1_putInOrder : MethodName := ⟨RX1, "putInOrder", "(II)V"⟩
abbrev cX1_rankAt : ByteArray := prog_3_method_26_code
def yX1_rankAt : MethodName := ⟨RX1, "rankAt", "(III)I"⟩
abbrev cX1_highestOf : ByteArray := prog_3_method_27_code
def yX1_highestOf : MethodName := ⟨RX1, "highestOf", "(I)I"⟩
abbrev cX1_discordOf : ByteArray := prog_3_method_28_code
def yX1_discordOf : MethodName := ⟨RX1, "discordOf", "(I)I"⟩
abbrev cX1_discordOfAll : ByteArray := prog_3_method_29_code
def yX1_discordOfAll : MethodName := ⟨RX1, "discordOfAll", "()I"⟩
abbrev cX1_rowBehind : ByteArray := prog_3_method_30_code
def yX1_rowBehind : MethodName := ⟨RX1, "rowBehind", "(I)I"⟩
abbrev cX1_rowBefore : ByteArray := prog_3_method_31_code
def yX1_rowBefore : MethodName := ⟨RX1, "rowBefore", "(I)I"⟩
abbrev cX1_heardBy : ByteArray := prog_3_method_32_code
def yX1_heardBy : MethodName := ⟨RX1, "heardBy", "(II)I"⟩
abbrev cX1_hearersOf : ByteArray := prog_3_method_33_code
def yX1_hearersOf : MethodName := ⟨RX1, "hearersOf", "(II)I"⟩
abbrev cX1_higherHeardBy : ByteArray := prog_3_method_34_code
def yX1_higherHeardBy : MethodName := ⟨RX1, "higherHeardBy", "(II)I"⟩
abbrev cX1_higherBehind : ByteArray := prog_3_method_35_code
def yX1_higherBehind : MethodName := ⟨RX1, "higherBehind", "(III)I"⟩
abbrev cX1_higherByTree : ByteArray := prog_3_method_36_code
def yX1_higherByTree : MethodName := ⟨RX1, "higherByTree", "(LOddChoir$HeightTree;II)I"⟩
abbrev cX1_singersBetween : ByteArray := prog_3_method_37_code
def yX1_singersBetween : MethodName := ⟨RX1, "singersBetween", "(III)I"⟩
abbrev cX1_higherBetween : ByteArray := prog_3_method_38_code
def yX1_higherBetween : MethodName := ⟨RX1, "higherBetween", "(IIII)I"⟩
abbrev cX1_putBetween : ByteArray := prog_3_method_39_code
def yX1_putBetween : MethodName := ⟨RX1, "putBetween", "(LOddChoir$HeightTree;III)V"⟩
abbrev cX1_oddIn : ByteArray := prog_3_method_40_code
def yX1_oddIn : MethodName := ⟨RX1, "oddIn", "(I)I"⟩
abbrev cX1_oddOfAll : ByteArray := prog_3_method_41_code
def yX1_oddOfAll : MethodName := ⟨RX1, "oddOfAll", "()I"⟩
abbrev cX1_writtenLength : ByteArray := prog_3_method_42_code
def yX1_writtenLength : MethodName := ⟨RX1, "writtenLength", "(I)I"⟩
abbrev cX1_writtenCode : ByteArray := prog_3_method_43_code
def yX1_writtenCode : MethodName := ⟨RX1, "writtenCode", "(II)I"⟩
abbrev cX1_letterOf : ByteArray := prog_3_method_44_code
def yX1_letterOf : MethodName := ⟨RX1, "letterOf", "(I)I"⟩
def RX2 : String := "OddChoir$HeightTree"
def TX2 : u_T := fun k => match k with
  | 0 => ("OddChoir$HeightTree", "nodes", "[LOddChoir$Node;", true)
  | 1 => ("OddChoir$HeightTree", "top", "LOddChoir$Node;", false)
  | _ => ("OddChoir$HeightTree", "used", "I", false)
def tyX2 : Nat → FieldType := fun k => match k with
  | 0 => .array (.object "OddChoir$Node")
  | 1 => .object "OddChoir$Node"
  | _ => .int
abbrev wsX20 : List Cond := u_ws RX2 TX2 3
theorem nmX2 : ∀ a, a < 3 → ∀ b, b < 3 → a ≠ b → (TX2 a).2.1 ≠ (TX2 b).2.1 := by decide +kernel
theorem tyX2_ok : ∀ k, k < 3 → parseFieldDescriptor (TX2 k).2.2.1 = some (tyX2 k) := by decide +kernel
abbrev cX2_init : ByteArray := prog_4_method_1_code
def yX2_init : MethodName := ⟨RX2, "<init>", "()V"⟩
abbrev cX2_fell : ByteArray := prog_4_method_2_code
def yX2_fell : MethodName := ⟨RX2, "fell", "()V"⟩
abbrev cX2_put : ByteArray := prog_4_method_3_code
def yX2_put : MethodName := ⟨RX2, "put", "(I)V"⟩
abbrev cX2_freshNode : ByteArray := prog_4_method_4_code
def yX2_freshNode : MethodName := ⟨RX2, "freshNode", "(I)LOddChoir$Node;"⟩
abbrev cX2_higherThan : ByteArray := prog_4_method_5_code
def yX2_higherThan : MethodName := ⟨RX2, "higherThan", "(I)I"⟩
abbrev cX2_allBelow : ByteArray := prog_4_method_6_code
def yX2_allBelow : MethodName := ⟨RX2, "allBelow", "(LOddChoir$Node;I)I"⟩
def RX3 : String := "OddChoir$History"
def TX3 : u_T := fun k => match k with
  | 0 => ("OddChoir$History", "saved", "[LOddChoir$Choir;", true)
  | 1 => ("OddChoir$History", "oldest", "I", false)
  | _ => ("OddChoir$History", "held", "I", false)
def tyX3 : Nat → FieldType := fun k => match k with
  | 0 => .array (.object "OddChoir$Choir")
  | 1 => .int
  | _ => .int
abbrev wsX30 : List Cond := u_ws RX3 TX3 3
theorem nmX3 : ∀ a, a < 3 → ∀ b, b < 3 → a ≠ b → (TX3 a).2.1 ≠ (TX3 b).2.1 := by decide +kernel
theorem tyX3_ok : ∀ k, k < 3 → parseFieldDescriptor (TX3 k).2.2.1 = some (tyX3 k) := by decide +kernel
abbrev cX3_init : ByteArray := prog_5_method_1_code
def yX3_init : MethodName := ⟨RX3, "<init>", "()V"⟩
abbrev cX3_size : ByteArray := prog_5_method_2_code
def yX3_size : MethodName := ⟨RX3, "size", "()I"⟩
abbrev cX3_save : ByteArray := prog_5_method_3_code
def yX3_save : MethodName := ⟨RX3, "save", "(LOddChoir$Choir;)V"⟩
abbrev cX3_slotAt : ByteArray := prog_5_method_5_code
def yX3_slotAt : MethodName := ⟨RX3, "slotAt", "(I)LOddChoir$Choir;"⟩
def RX4 : String := "OddChoir$Node"
def TX4 : u_T := fun k => match k with
  | 0 => ("OddChoir$Node", "height", "I", false)
  | 1 => ("OddChoir$Node", "comers", "I", false)
  | 2 => ("OddChoir$Node", "lesser", "LOddChoir$Node;", false)
  | _ => ("OddChoir$Node", "greater", "LOddChoir$Node;", false)
def tyX4 : Nat → FieldType := fun k => match k with
  | 0 => .int
  | 1 => .int
  | 2 => .object "OddChoir$Node"
  | _ => .object "OddChoir$Node"
abbrev wsX40 : List Cond := u_ws RX4 TX4 4
theorem nmX4 : ∀ a, a < 4 → ∀ b, b < 4 → a ≠ b → (TX4 a).2.1 ≠ (TX4 b).2.1 := by decide +kernel
theorem tyX4_ok : ∀ k, k < 4 → parseFieldDescriptor (TX4 k).2.2.1 = some (tyX4 k) := by decide +kernel
abbrev cX4_init : ByteArray := prog_6_method_1_code
def yX4_init : MethodName := ⟨RX4, "<init>", "()V"⟩
def RX5 : String := "OddChoir$OrderSearch"
def TX5 : u_T := fun k => match k with
  | 0 => ("OddChoir$OrderSearch", "higherOnes", "[I", true)
  | 1 => ("OddChoir$OrderSearch", "oddBehind", "[I", true)
  | 2 => ("OddChoir$OrderSearch", "chosen", "[I", true)
  | 3 => ("OddChoir$OrderSearch", "size", "I", false)
  | 4 => ("OddChoir$OrderSearch", "reach", "I", false)
  | 5 => ("OddChoir$OrderSearch", "most", "I", false)
  | _ => ("OddChoir$OrderSearch", "way", "I", false)
def tyX5 : Nat → FieldType := fun k => match k with
  | 0 => .array .int
  | 1 => .array .int
  | 2 => .array .int
  | 3 => .int
  | 4 => .int
  | 5 => .int
  | _ => .int
abbrev wsX50 : List Cond := u_ws RX5 TX5 7
theorem nmX5 : ∀ a, a < 7 → ∀ b, b < 7 → a ≠ b → (TX5 a).2.1 ≠ (TX5 b).2.1 := by decide +kernel
theorem tyX5_ok : ∀ k, k < 7 → parseFieldDescriptor (TX5 k).2.2.1 = some (tyX5 k) := by decide +kernel
abbrev cX5_init : ByteArray := prog_7_method_1_code
def yX5_init : MethodName := ⟨RX5, "<init>", "()V"⟩
abbrev cX5_goThrough : ByteArray := prog_7_method_2_code
def yX5_goThrough : MethodName := ⟨RX5, "goThrough", "(LOddChoir$Choir;I)V"⟩
abbrev cX5_noteSinger : ByteArray := prog_7_method_3_code
def yX5_noteSinger : MethodName := ⟨RX5, "noteSinger", "(LOddChoir$Choir;II)V"⟩
abbrev cX5_choose : ByteArray := prog_7_method_4_code
def yX5_choose : MethodName := ⟨RX5, "choose", "(IIII)V"⟩
abbrev cX5_cannotBeBetter : ByteArray := prog_7_method_5_code
def yX5_cannotBeBetter : MethodName := ⟨RX5, "cannotBeBetter", "(II)Z"⟩
abbrev cX5_heardAt : ByteArray := prog_7_method_6_code
def yX5_heardAt : MethodName := ⟨RX5, "heardAt", "(II)I"⟩
abbrev cX5_parityOf : ByteArray := prog_7_method_7_code
def yX5_parityOf : MethodName := ⟨RX5, "parityOf", "(III)I"⟩
def RX6 : String := "OddChoir"
def TX6 : u_T := fun k => match k with
  | 0 => ("OddChoir", "now", "LOddChoir$Choir;", true)
  | 1 => ("OddChoir", "trial", "LOddChoir$Choir;", true)
  | 2 => ("OddChoir", "snapshot", "LOddChoir$Choir;", true)
  | 3 => ("OddChoir", "hasSnapshot", "Z", false)
  | 4 => ("OddChoir", "history", "LOddChoir$History;", true)
  | 5 => ("OddChoir", "text", "LOddChoir$ChantText;", true)
  | 6 => ("OddChoir", "tree", "LOddChoir$HeightTree;", true)
  | _ => ("OddChoir", "orders", "LOddChoir$OrderSearch;", true)
def tyX6 : Nat → FieldType := fun k => match k with
  | 0 => .object "OddChoir$Choir"
  | 1 => .object "OddChoir$Choir"
  | 2 => .object "OddChoir$Choir"
  | 3 => .boolean
  | 4 => .object "OddChoir$History"
  | 5 => .object "OddChoir$ChantText"
  | 6 => .object "OddChoir$HeightTree"
  | _ => .object "OddChoir$OrderSearch"
abbrev wsX60 : List Cond := u_ws RX6 TX6 8
theorem nmX6 : ∀ a, a < 8 → ∀ b, b < 8 → a ≠ b → (TX6 a).2.1 ≠ (TX6 b).2.1 := by decide +kernel
theorem tyX6_ok : ∀ k, k < 8 → parseFieldDescriptor (TX6 k).2.2.1 = some (tyX6 k) := by decide +kernel
abbrev cX6_init : ByteArray := prog_1_method_1_code
def yX6_init : MethodName := ⟨RX6, "<init>", "()V"⟩
abbrev cX6_join : ByteArray := prog_1_method_2_code
def yX6_join : MethodName := ⟨RX6, "join", "(III)I"⟩
abbrev cX6_leave : ByteArray := prog_1_method_3_code
def yX6_leave : MethodName := ⟨RX6, "leave", "(II)I"⟩
abbrev cX6_grow : ByteArray := prog_1_method_4_code
def yX6_grow : MethodName := ⟨RX6, "grow", "(III)I"⟩
abbrev cX6_swap : ByteArray := prog_1_method_5_code
def yX6_swap : MethodName := ⟨RX6, "swap", "(IIII)I"⟩
abbrev cX6_cross : ByteArray := prog_1_method_6_code
def yX6_cross : MethodName := ⟨RX6, "cross", "(III)I"⟩
abbrev cX6_turn : ByteArray := prog_1_method_7_code
def yX6_turn : MethodName := ⟨RX6, "turn", "(I)I"⟩
abbrev cX6_sort : ByteArray := prog_1_method_8_code
def yX6_sort : MethodName := ⟨RX6, "sort", "(II)I"⟩
abbrev cX6_set : ByteArray := prog_1_method_9_code
def yX6_set : MethodName := ⟨RX6, "set", "(II)I"⟩
abbrev cX6_written : ByteArray := prog_1_method_14_code
def yX6_written : MethodName := ⟨RX6, "written", "(II)I"⟩
abbrev cX6_singer : ByteArray := prog_1_method_18_code
def yX6_singer : MethodName := ⟨RX6, "singer", "(III)I"⟩
abbrev cX6_row : ByteArray := prog_1_method_19_code
def yX6_row : MethodName := ⟨RX6, "row", "(II)I"⟩
abbrev cX6_find : ByteArray := prog_1_method_20_code
def yX6_find : MethodName := ⟨RX6, "find", "(I)I"⟩
abbrev cX6_count : ByteArray := prog_1_method_21_code
def yX6_count : MethodName := ⟨RX6, "count", "(I)I"⟩
abbrev cX6_ifSwapped : ByteArray := prog_1_method_22_code
def yX6_ifSwapped : MethodName := ⟨RX6, "ifSwapped", "(IIII)I"⟩
abbrev cX6_bestSwap : ByteArray := prog_1_method_23_code
def yX6_bestSwap : MethodName := ⟨RX6, "bestSwap", "(I)I"⟩
abbrev cX6_bestRow : ByteArray := prog_1_method_24_code
def yX6_bestRow : MethodName := ⟨RX6, "bestRow", "(I)I"⟩
abbrev cX6_ifReach : ByteArray := prog_1_method_25_code
def yX6_ifReach : MethodName := ⟨RX6, "ifReach", "(I)I"⟩
abbrev cX6_oddShare : ByteArray := prog_1_method_26_code
def yX6_oddShare : MethodName := ⟨RX6, "oddShare", "()D"⟩
abbrev cX6_needIndex : ByteArray := prog_1_method_28_code
def yX6_needIndex : MethodName := ⟨RX6, "needIndex", "(Z)V"⟩
abbrev cX6_needArgument : ByteArray := prog_1_method_29_code
def yX6_needArgument : MethodName := ⟨RX6, "needArgument", "(Z)V"⟩
abbrev cX6_needState : ByteArray := prog_1_method_30_code
def yX6_needState : MethodName := ⟨RX6, "needState", "(Z)V"⟩
abbrev cX6_needRow : ByteArray := prog_1_method_31_code
def yX6_needRow : MethodName := ⟨RX6, "needRow", "(I)V"⟩
abbrev cX6_needSinger : ByteArray := prog_1_method_32_code
def yX6_needSinger : MethodName := ⟨RX6, "needSinger", "(II)V"⟩
abbrev cX6_needHeight : ByteArray := prog_1_method_33_code
def yX6_needHeight : MethodName := ⟨RX6, "needHeight", "(I)V"⟩
abbrev cX6_isBetween : ByteArray := prog_1_method_34_code
def yX6_isBetween : MethodName := ⟨RX6, "isBetween", "(III)Z"⟩
abbrev cX6_readCell : ByteArray := prog_1_method_35_code
def yX6_readCell : MethodName := ⟨RX6, "readCell", "([II)I"⟩
abbrev cX6_writeCell : ByteArray := prog_1_method_36_code
def yX6_writeCell : MethodName := ⟨RX6, "writeCell", "([III)V"⟩
abbrev cX6_ofSinger : ByteArray := prog_1_method_40_code
def yX6_ofSinger : MethodName := ⟨RX6, "ofSinger", "(III)I"⟩
abbrev cX6_ofRow : ByteArray := prog_1_method_41_code
def yX6_ofRow : MethodName := ⟨RX6, "ofRow", "(II)I"⟩
abbrev cX6_ofAll : ByteArray := prog_1_method_42_code
def yX6_ofAll : MethodName := ⟨RX6, "ofAll", "(I)I"⟩
abbrev cX6_bestPair : ByteArray := prog_1_method_43_code
def yX6_bestPair : MethodName := ⟨RX6, "bestPair", "(I)I"⟩
abbrev cX6_bestRowFor : ByteArray := prog_1_method_44_code
def yX6_bestRowFor : MethodName := ⟨RX6, "bestRowFor", "(I)I"⟩
abbrev cX6_oddWithReach : ByteArray := prog_1_method_45_code
def yX6_oddWithReach : MethodName := ⟨RX6, "oddWithReach", "(I)I"⟩
def RX7 : String := "OddChoirModel"
def TX7 : u_T := fun k => match k with
  | _ => ("", "", "", false)
def tyX7 : Nat → FieldType := fun k => match k with
  | _ => .int
abbrev wsX70 : List Cond := u_ws RX7 TX7 0
theorem nmX7 : ∀ a, a < 0 → ∀ b, b < 0 → a ≠ b → (TX7 a).2.1 ≠ (TX7 b).2.1 := by decide +kernel
theorem tyX7_ok : ∀ k, k < 0 → parseFieldDescriptor (TX7 k).2.2.1 = some (tyX7 k) := by decide +kernel
def RJ6 : String := "java/lang/Integer"
abbrev cJ6_bitCount_0f7a4 : ByteArray := prog_14_method_49_code
def yJ6_bitCount_0f7a4 : MethodName := ⟨RJ6, "bitCount", "(I)I"⟩
def RJ9 : String := "java/lang/Math"
abbrev cJ9_floorMod_7cf53 : ByteArray := prog_15_method_50_code
def yJ9_floorMod_7cf53 : MethodName := ⟨RJ9, "floorMod", "(II)I"⟩
abbrev cJ9_max_7cf53 : ByteArray := prog_15_method_65_code
def yJ9_max_7cf53 : MethodName := ⟨RJ9, "max", "(II)I"⟩
abbrev cJ9_min_7cf53 : ByteArray := prog_15_method_69_code
def yJ9_min_7cf53 : MethodName := ⟨RJ9, "min", "(II)I"⟩
def RJ0 : String := "java/lang/String"
abbrev cJ0_length_8abf5 : ByteArray := prog_17_method_54_code
def yJ0_length_8abf5 : MethodName := ⟨RJ0, "length", "()I"⟩
abbrev cJ0_charAt_5068e : ByteArray := prog_17_method_56_code
def yJ0_charAt_5068e : MethodName := ⟨RJ0, "charAt", "(I)C"⟩
abbrev cJ0_coder_7d493 : ByteArray := prog_17_method_152_code
def yJ0_coder_7d493 : MethodName := ⟨RJ0, "coder", "()B"⟩
abbrev cJ0_isLatin1_aae02 : ByteArray := prog_17_method_154_code
def yJ0_isLatin1_aae02 : MethodName := ⟨RJ0, "isLatin1", "()Z"⟩
abbrev cJ0_checkIndex_df160 : ByteArray := prog_17_method_155_code
def yJ0_checkIndex_df160 : MethodName := ⟨RJ0, "checkIndex", "(II)V"⟩
def RJ1 : String := "java/lang/StringLatin1"
abbrev cJ1_charAt_3b067 : ByteArray := prog_18_method_2_code
def yJ1_charAt_3b067 : MethodName := ⟨RJ1, "charAt", "([BI)C"⟩
def RJ2 : String := "java/lang/StringUTF16"
abbrev cJ2_getChar_3b067 : ByteArray := prog_19_method_5_code
def yJ2_getChar_3b067 : MethodName := ⟨RJ2, "getChar", "([BI)C"⟩
abbrev cJ2_length_9d52b : ByteArray := prog_19_method_6_code
def yJ2_length_9d52b : MethodName := ⟨RJ2, "length", "([B)I"⟩
abbrev cJ2_charAt_3b067 : ByteArray := prog_19_method_83_code
def yJ2_charAt_3b067 : MethodName := ⟨RJ2, "charAt", "([BI)C"⟩
abbrev cJ2_checkIndex_2214a : ByteArray := prog_19_method_91_code
def yJ2_checkIndex_2214a : MethodName := ⟨RJ2, "checkIndex", "(I[B)V"⟩
def RJ10 : String := "java/lang/System"
def RJ3 : String := "jdk/internal/util/Preconditions"
abbrev cJ3_checkIndex_8e157 : ByteArray := prog_22_method_11_code
def yJ3_checkIndex_8e157 : MethodName := ⟨RJ3, "checkIndex", "(IILjava/util/function/BiFunction;)I"⟩
def RL : String := "OddChoirLaw"
abbrev cL_cell : ByteArray := method_2_code
def yL_cell : MethodName := ⟨RL, "cell", "([II)I"⟩
abbrev cL_low : ByteArray := method_3_code
def yL_low : MethodName := ⟨RL, "low", "(II)I"⟩
abbrev cL_many : ByteArray := method_4_code
def yL_many : MethodName := ⟨RL, "many", "([II)I"⟩
abbrev cL_hears : ByteArray := method_5_code
def yL_hears : MethodName := ⟨RL, "hears", "([I[III)I"⟩
abbrev cL_odd : ByteArray := method_6_code
def yL_odd : MethodName := ⟨RL, "odd", "([I[II)I"⟩
abbrev cL_allOdd : ByteArray := method_7_code
def yL_allOdd : MethodName := ⟨RL, "allOdd", "([I[I)I"⟩
abbrev cL_discord : ByteArray := method_8_code
def yL_discord : MethodName := ⟨RL, "discord", "([II)I"⟩
abbrev cL_most : ByteArray := method_9_code
def yL_most : MethodName := ⟨RL, "most", "([I[II)I"⟩
abbrev cL_letter : ByteArray := method_10_code
def yL_letter : MethodName := ⟨RL, "letter", "(I)I"⟩
abbrev cL_isSinger : ByteArray := method_11_code
def yL_isSinger : MethodName := ⟨RL, "isSinger", "(LOddChoir;[I[I[I[III)Z"⟩
abbrev cL_isSo : ByteArray := method_12_code
def yL_isSo : MethodName := ⟨RL, "isSo", "(LOddChoir;[I[I[I[I)Z"⟩
abbrev cL_exchange : ByteArray := method_13_code
def yL_exchange : MethodName := ⟨RL, "exchange", "([III)V"⟩
abbrev cL_some : ByteArray := method_14_code
def yL_some : MethodName := ⟨RL, "some", "([II)I"⟩
abbrev cL_would : ByteArray := method_15_code
def yL_would : MethodName := ⟨RL, "would", "(LOddChoir;[I[II)Z"⟩
abbrev cL_joins : ByteArray := method_16_code
def yL_joins : MethodName := ⟨RL, "joins", "(LOddChoir;[I[I[I[II)Z"⟩
abbrev cL_closes : ByteArray := method_17_code
def yL_closes : MethodName := ⟨RL, "closes", "([III)V"⟩
abbrev cL_closesAll : ByteArray := method_18_code
def yL_closesAll : MethodName := ⟨RL, "closesAll", "([I[I[II)V"⟩
abbrev cL_leaves : ByteArray := method_19_code
def yL_leaves : MethodName := ⟨RL, "leaves", "(LOddChoir;[I[I[I[II)Z"⟩
abbrev cL_crosses : ByteArray := method_20_code
def yL_crosses : MethodName := ⟨RL, "crosses", "(LOddChoir;[I[I[II)Z"⟩
abbrev cL_exchangeAll : ByteArray := method_21_code
def yL_exchangeAll : MethodName := ⟨RL, "exchangeAll", "([I[I[III)V"⟩
abbrev cL_swaps : ByteArray := method_22_code
def yL_swaps : MethodName := ⟨RL, "swaps", "(LOddChoir;[I[I[I[II)Z"⟩
abbrev cL_turns : ByteArray := method_23_code
def yL_turns : MethodName := ⟨RL, "turns", "(LOddChoir;[I[I[I[II)Z"⟩
abbrev cL_sorts : ByteArray := method_24_code
def yL_sorts : MethodName := ⟨RL, "sorts", "(LOddChoir;[I[I[III)Z"⟩
abbrev cL_acts : ByteArray := method_25_code
def yL_acts : MethodName := ⟨RL, "acts", "(LOddChoir;[I[I[I[III)Z"⟩
abbrev cL_law : ByteArray := code
def yL_law : MethodName := ⟨RL, "law", "([I)Z"⟩
theorem dX0_init_0 : decode cX0_init 0 = .ok (.aload_n 0, 1) := by decide +kernel
theorem dX0_init_1 : decode cX0_init 1 = .ok (.invokespecial 3, 3) := by decide +kernel
theorem dX0_init_4 : decode cX0_init 4 = .ok (.aload_n 0, 1) := by decide +kernel
theorem dX0_init_5 : decode cX0_init 5 = .ok (.bipush 60, 2) := by decide +kernel
theorem dX0_init_7 : decode cX0_init 7 = .ok (.newarray .char, 2) := by decide +kernel
theorem dX0_init_9 : decode cX0_init 9 = .ok (.putfield 9, 3) := by decide +kernel
theorem dX0_init_12 : decode cX0_init 12 = .ok (.return_, 1) := by decide +kernel
theorem dX1_init_0 : decode cX1_init 0 = .ok (.aload_n 0, 1) := by decide +kernel
theorem dX1_init_1 : decode cX1_init 1 = .ok (.invokespecial 3, 3) := by decide +kernel
theorem dX1_init_4 : decode cX1_init 4 = .ok (.aload_n 0, 1) := by decide +kernel
theorem dX1_init_5 : decode cX1_init 5 = .ok (.iconst 4, 1) := by decide +kernel
theorem dX1_init_6 : decode cX1_init 6 = .ok (.newarray .int, 2) := by decide +kernel
theorem dX1_init_8 : decode cX1_init 8 = .ok (.putfield 9, 3) := by decide +kernel
theorem dX1_init_11 : decode cX1_init 11 = .ok (.aload_n 0, 1) := by decide +kernel
theorem dX1_init_12 : decode cX1_init 12 = .ok (.bipush 24, 2) := by decide +kernel
theorem dX1_init_14 : decode cX1_init 14 = .ok (.newarray .int, 2) := by decide +kernel
theorem dX1_init_16 : decode cX1_init 16 = .ok (.putfield 15, 3) := by decide +kernel
theorem dX1_init_19 : decode cX1_init 19 = .ok (.aload_n 0, 1) := by decide +kernel
theorem dX1_init_20 : decode cX1_init 20 = .ok (.bipush 24, 2) := by decide +kernel
theorem dX1_init_22 : decode cX1_init 22 = .ok (.newarray .int, 2) := by decide +kernel
theorem dX1_init_24 : decode cX1_init 24 = .ok (.putfield 18, 3) := by decide +kernel
theorem dX1_init_27 : decode cX1_init 27 = .ok (.aload_n 0, 1) := by decide +kernel
theorem dX1_init_28 : decode cX1_init 28 = .ok (.bipush 24, 2) := by decide +kernel
theorem dX1_init_30 : decode cX1_init 30 = .ok (.newarray .int, 2) := by decide +kernel
theorem dX1_init_32 : decode cX1_init 32 = .ok (.putfield 21, 3) := by decide +kernel
theorem dX1_init_35 : decode cX1_init 35 = .ok (.aload_n 0, 1) := by decide +kernel
theorem dX1_init_36 : decode cX1_init 36 = .ok (.bipush 6, 2) := by decide +kernel
theorem dX1_init_38 : decode cX1_init 38 = .ok (.putfield 24, 3) := by decide +kernel
theorem dX1_init_41 : decode cX1_init 41 = .ok (.aload_n 0, 1) := by decide +kernel
theorem dX1_init_42 : decode cX1_init 42 = .ok (.iconst 1, 1) := by decide +kernel
theorem dX1_init_43 : decode cX1_init 43 = .ok (.putfield 28, 3) := by decide +kernel
theorem dX1_init_46 : decode cX1_init 46 = .ok (.return_, 1) := by decide +kernel
theorem dX1_become_0 : decode cX1_become 0 = .ok (.aload_n 1, 1) := by decide +kernel
theorem dX1_become_1 : decode cX1_become 1 = .ok (.ifnonnull 4, 3) := by decide +kernel
theorem dX1_become_4 : decode cX1_become 4 = .ok (.return_, 1) := by decide +kernel
theorem dX1_become_5 : decode cX1_become 5 = .ok (.aload_n 1, 1) := by decide +kernel
theorem dX1_become_6 : decode cX1_become 6 = .ok (.getfield 9, 3) := by decide +kernel
theorem dX1_become_9 : decode cX1_become 9 = .ok (.aload_n 0, 1) := by decide +kernel
theorem dX1_become_10 : decode cX1_become 10 = .ok (.getfield 9, 3) := by decide +kernel
theorem dX1_become_13 : decode cX1_become 13 = .ok (.invokestatic 31, 3) := by decide +kernel
theorem dX1_become_16 : decode cX1_become 16 = .ok (.aload_n 1, 1) := by decide +kernel
theorem dX1_become_17 : decode cX1_become 17 = .ok (.getfield 15, 3) := by decide +kernel
theorem dX1_become_20 : decode cX1_become 20 = .ok (.aload_n 0, 1) := by decide +kernel
theorem dX1_become_21 : decode cX1_become 21 = .ok (.getfield 15, 3) := by decide +kernel
theorem dX1_become_24 : decode cX1_become 24 = .ok (.invokestatic 31, 3) := by decide +kernel
theorem dX1_become_27 : decode cX1_become 27 = .ok (.aload_n 1, 1) := by decide +kernel
theorem dX1_become_28 : decode cX1_become 28 = .ok (.getfield 18, 3) := by decide +kernel
theorem dX1_become_31 : decode cX1_become 31 = .ok (.aload_n 0, 1) := by decide +kernel
theorem dX1_become_32 : decode cX1_become 32 = .ok (.getfield 18, 3) := by decide +kernel
theorem dX1_become_35 : decode cX1_become 35 = .ok (.invokestatic 31, 3) := by decide +kernel
theorem dX1_become_38 : decode cX1_become 38 = .ok (.aload_n 1, 1) := by decide +kernel
theorem dX1_become_39 : decode cX1_become 39 = .ok (.getfield 21, 3) := by decide +kernel
theorem dX1_become_42 : decode cX1_become 42 = .ok (.aload_n 0, 1) := by decide +kernel
theorem dX1_become_43 : decode cX1_become 43 = .ok (.getfield 21, 3) := by decide +kernel
theorem dX1_become_46 : decode cX1_become 46 = .ok (.invokestatic 31, 3) := by decide +kernel
theorem dX1_become_49 : decode cX1_become 49 = .ok (.aload_n 0, 1) := by decide +kernel
theorem dX1_become_50 : decode cX1_become 50 = .ok (.aload_n 1, 1) := by decide +kernel
theorem dX1_become_51 : decode cX1_become 51 = .ok (.getfield 24, 3) := by decide +kernel
theorem dX1_become_54 : decode cX1_become 54 = .ok (.putfield 24, 3) := by decide +kernel
theorem dX1_become_57 : decode cX1_become 57 = .ok (.aload_n 0, 1) := by decide +kernel
theorem dX1_become_58 : decode cX1_become 58 = .ok (.aload_n 1, 1) := by decide +kernel
theorem dX1_become_59 : decode cX1_become 59 = .ok (.getfield 28, 3) := by decide +kernel
theorem dX1_become_62 : decode cX1_become 62 = .ok (.putfield 28, 3) := by decide +kernel
theorem dX1_become_65 : decode cX1_become 65 = .ok (.aload_n 0, 1) := by decide +kernel
theorem dX1_become_66 : decode cX1_become 66 = .ok (.aload_n 1, 1) := by decide +kernel
theorem dX1_become_67 : decode cX1_become 67 = .ok (.getfield 35, 3) := by decide +kernel
theorem dX1_become_70 : decode cX1_become 70 = .ok (.putfield 35, 3) := by decide +kernel
theorem dX1_become_73 : decode cX1_become 73 = .ok (.aload_n 0, 1) := by decide +kernel
theorem dX1_become_74 : decode cX1_become 74 = .ok (.aload_n 1, 1) := by decide +kernel
theorem dX1_become_75 : decode cX1_become 75 = .ok (.getfield 38, 3) := by decide +kernel
theorem dX1_become_78 : decode cX1_become 78 = .ok (.putfield 38, 3) := by decide +kernel
theorem dX1_become_81 : decode cX1_become 81 = .ok (.aload_n 0, 1) := by decide +kernel
theorem dX1_become_82 : decode cX1_become 82 = .ok (.aload_n 1, 1) := by decide +kernel
theorem dX1_become_83 : decode cX1_become 83 = .ok (.getfield 41, 3) := by decide +kernel
theorem dX1_become_86 : decode cX1_become 86 = .ok (.putfield 41, 3) := by decide +kernel
theorem dX1_become_89 : decode cX1_become 89 = .ok (.return_, 1) := by decide +kernel
theorem dX1_copyCells_0 : decode cX1_copyCells 0 = .ok (.aload_n 0, 1) := by decide +kernel
theorem dX1_copyCells_1 : decode cX1_copyCells 1 = .ok (.iconst 0, 1) := by decide +kernel
theorem dX1_copyCells_2 : decode cX1_copyCells 2 = .ok (.aload_n 1, 1) := by decide +kernel
theorem dX1_copyCells_3 : decode cX1_copyCells 3 = .ok (.iconst 0, 1) := by decide +kernel
theorem dX1_copyCells_4 : decode cX1_copyCells 4 = .ok (.aload_n 0, 1) := by decide +kernel
theorem dX1_copyCells_5 : decode cX1_copyCells 5 = .ok (.arraylength, 1) := by decide +kernel
theorem dX1_copyCells_6 : decode cX1_copyCells 6 = .ok (.aload_n 1, 1) := by decide +kernel
theorem dX1_copyCells_7 : decode cX1_copyCells 7 = .ok (.arraylength, 1) := by decide +kernel
theorem dX1_copyCells_8 : decode cX1_copyCells 8 = .ok (.invokestatic 44, 3) := by decide +kernel
theorem dX1_copyCells_11 : decode cX1_copyCells 11 = .ok (.invokestatic 50, 3) := by decide +kernel
theorem dX1_copyCells_14 : decode cX1_copyCells 14 = .ok (.return_, 1) := by decide +kernel
theorem dX1_settingAt_0 : decode cX1_settingAt 0 = .ok (.iload_n 1, 1) := by decide +kernel
theorem dX1_settingAt_1 : decode cX1_settingAt 1 = .ok (.ifCond .ne 10, 3) := by decide +kernel
theorem dX1_settingAt_4 : decode cX1_settingAt 4 = .ok (.aload_n 0, 1) := by decide +kernel
theorem dX1_settingAt_5 : decode cX1_settingAt 5 = .ok (.getfield 24, 3) := by decide +kernel
theorem dX1_settingAt_8 : decode cX1_settingAt 8 = .ok (.goto 7, 3) := by decide +kernel
theorem dX1_settingAt_11 : decode cX1_settingAt 11 = .ok (.aload_n 0, 1) := by decide +kernel
theorem dX1_settingAt_12 : decode cX1_settingAt 12 = .ok (.getfield 28, 3) := by decide +kernel
theorem dX1_settingAt_15 : decode cX1_settingAt 15 = .ok (.ireturn, 1) := by decide +kernel
theorem dX1_changeSetting_0 : decode cX1_changeSetting 0 = .ok (.iload_n 1, 1) := by decide +kernel
theorem dX1_changeSetting_1 : decode cX1_changeSetting 1 = .ok (.ifCond .ne 11, 3) := by decide +kernel
theorem dX1_changeSetting_4 : decode cX1_changeSetting 4 = .ok (.aload_n 0, 1) := by decide +kernel
theorem dX1_changeSetting_5 : decode cX1_changeSetting 5 = .ok (.iload_n 2, 1) := by decide +kernel
theorem dX1_changeSetting_6 : decode cX1_changeSetting 6 = .ok (.putfield 24, 3) := by decide +kernel
theorem dX1_changeSetting_9 : decode cX1_changeSetting 9 = .ok (.goto 8, 3) := by decide +kernel
theorem dX1_changeSetting_12 : decode cX1_changeSetting 12 = .ok (.aload_n 0, 1) := by decide +kernel
theorem dX1_changeSetting_13 : decode cX1_changeSetting 13 = .ok (.iload_n 2, 1) := by decide +kernel
theorem dX1_changeSetting_14 : decode cX1_changeSetting 14 = .ok (.putfield 28, 3) := by decide +kernel
theorem dX1_changeSetting_17 : decode cX1_changeSetting 17 = .ok (.return_, 1) := by decide +kernel
theorem dX1_sizeOf_0 : decode cX1_sizeOf 0 = .ok (.iload_n 1, 1) := by decide +kernel
theorem dX1_sizeOf_1 : decode cX1_sizeOf 1 = .ok (.ifCond .lt 21, 3) := by decide +kernel
theorem dX1_sizeOf_4 : decode cX1_sizeOf 4 = .ok (.iload_n 1, 1) := by decide +kernel
theorem dX1_sizeOf_5 : decode cX1_sizeOf 5 = .ok (.aload_n 0, 1) := by decide +kernel
theorem dX1_sizeOf_6 : decode cX1_sizeOf 6 = .ok (.getfield 9, 3) := by decide +kernel
theorem dX1_sizeOf_9 : decode cX1_sizeOf 9 = .ok (.arraylength, 1) := by decide +kernel
theorem dX1_sizeOf_10 : decode cX1_sizeOf 10 = .ok (.if_icmp .ge 12, 3) := by decide +kernel
theorem dX1_sizeOf_13 : decode cX1_sizeOf 13 = .ok (.aload_n 0, 1) := by decide +kernel
theorem dX1_sizeOf_14 : decode cX1_sizeOf 14 = .ok (.getfield 9, 3) := by decide +kernel
theorem dX1_sizeOf_17 : decode cX1_sizeOf 17 = .ok (.iload_n 1, 1) := by decide +kernel
theorem dX1_sizeOf_18 : decode cX1_sizeOf 18 = .ok (.iaload, 1) := by decide +kernel
theorem dX1_sizeOf_19 : decode cX1_sizeOf 19 = .ok (.goto 4, 3) := by decide +kernel
theorem dX1_sizeOf_22 : decode cX1_sizeOf 22 = .ok (.iconst 0, 1) := by decide +kernel
theorem dX1_sizeOf_23 : decode cX1_sizeOf 23 = .ok (.ireturn, 1) := by decide +kernel
theorem dX1_sizeOfAll_0 : decode cX1_sizeOfAll 0 = .ok (.iconst 0, 1) := by decide +kernel
theorem dX1_sizeOfAll_1 : decode cX1_sizeOfAll 1 = .ok (.istore_n 1, 1) := by decide +kernel
theorem dX1_sizeOfAll_2 : decode cX1_sizeOfAll 2 = .ok (.iconst 0, 1) := by decide +kernel
theorem dX1_sizeOfAll_3 : decode cX1_sizeOfAll 3 = .ok (.istore_n 2, 1) := by decide +kernel
theorem dX1_sizeOfAll_4 : decode cX1_sizeOfAll 4 = .ok (.iload_n 2, 1) := by decide +kernel
theorem dX1_sizeOfAll_5 : decode cX1_sizeOfAll 5 = .ok (.iconst 4, 1) := by decide +kernel
theorem dX1_sizeOfAll_6 : decode cX1_sizeOfAll 6 = .ok (.if_icmp .ge 17, 3) := by decide +kernel
theorem dX1_sizeOfAll_9 : decode cX1_sizeOfAll 9 = .ok (.iload_n 1, 1) := by decide +kernel
theorem dX1_sizeOfAll_10 : decode cX1_sizeOfAll 10 = .ok (.aload_n 0, 1) := by decide +kernel
theorem dX1_sizeOfAll_11 : decode cX1_sizeOfAll 11 = .ok (.iload_n 2, 1) := by decide +kernel
theorem dX1_sizeOfAll_12 : decode cX1_sizeOfAll 12 = .ok (.invokevirtual 56, 3) := by decide +kernel
theorem dX1_sizeOfAll_15 : decode cX1_sizeOfAll 15 = .ok (.iadd, 1) := by decide +kernel
theorem dX1_sizeOfAll_16 : decode cX1_sizeOfAll 16 = .ok (.istore_n 1, 1) := by decide +kernel
theorem dX1_sizeOfAll_17 : decode cX1_sizeOfAll 17 = .ok (.iinc 2 1, 3) := by decide +kernel
theorem dX1_sizeOfAll_20 : decode cX1_sizeOfAll 20 = .ok (.goto (-16), 3) := by decide +kernel
theorem dX1_sizeOfAll_23 : decode cX1_sizeOfAll 23 = .ok (.iload_n 1, 1) := by decide +kernel
theorem dX1_sizeOfAll_24 : decode cX1_sizeOfAll 24 = .ok (.ireturn, 1) := by decide +kernel
theorem dX1_changeSize_0 : decode cX1_changeSize 0 = .ok (.aload_n 0, 1) := by decide +kernel
theorem dX1_changeSize_1 : decode cX1_changeSize 1 = .ok (.iload_n 1, 1) := by decide +kernel
theorem dX1_changeSize_2 : decode cX1_changeSize 2 = .ok (.invokevirtual 56, 3) := by decide +kernel
theorem dX1_changeSize_5 : decode cX1_changeSize 5 = .ok (.iload_n 2, 1) := by decide +kernel
theorem dX1_changeSize_6 : decode cX1_changeSize 6 = .ok (.iadd, 1) := by decide +kernel
theorem dX1_changeSize_7 : decode cX1_changeSize 7 = .ok (.istore_n 3, 1) := by decide +kernel
theorem dX1_changeSize_8 : decode cX1_changeSize 8 = .ok (.iload_n 1, 1) := by decide +kernel
theorem dX1_changeSize_9 : decode cX1_changeSize 9 = .ok (.ifCond .lt 29, 3) := by decide +kernel
theorem dX1_changeSize_12 : decode cX1_changeSize 12 = .ok (.iload_n 1, 1) := by decide +kernel
theorem dX1_changeSize_13 : decode cX1_changeSize 13 = .ok (.aload_n 0, 1) := by decide +kernel
theorem dX1_changeSize_14 : decode cX1_changeSize 14 = .ok (.getfield 9, 3) := by decide +kernel
theorem dX1_changeSize_17 : decode cX1_changeSize 17 = .ok (.arraylength, 1) := by decide +kernel
theorem dX1_changeSize_18 : decode cX1_changeSize 18 = .ok (.if_icmp .ge 20, 3) := by decide +kernel
theorem dX1_changeSize_21 : decode cX1_changeSize 21 = .ok (.iload_n 3, 1) := by decide +kernel
theorem dX1_changeSize_22 : decode cX1_changeSize 22 = .ok (.ifCond .lt 16, 3) := by decide +kernel
theorem dX1_changeSize_25 : decode cX1_changeSize 25 = .ok (.iload_n 3, 1) := by decide +kernel
theorem dX1_changeSize_26 : decode cX1_changeSize 26 = .ok (.bipush 6, 2) := by decide +kernel
theorem dX1_changeSize_28 : decode cX1_changeSize 28 = .ok (.if_icmp .gt 10, 3) := by decide +kernel
theorem dX1_changeSize_31 : decode cX1_changeSize 31 = .ok (.aload_n 0, 1) := by decide +kernel
theorem dX1_changeSize_32 : decode cX1_changeSize 32 = .ok (.getfield 9, 3) := by decide +kernel
theorem dX1_changeSize_35 : decode cX1_changeSize 35 = .ok (.iload_n 1, 1) := by decide +kernel
theorem dX1_changeSize_36 : decode cX1_changeSize 36 = .ok (.iload_n 3, 1) := by decide +kernel
theorem dX1_changeSize_37 : decode cX1_changeSize 37 = .ok (.iastore, 1) := by decide +kernel
theorem dX1_changeSize_38 : decode cX1_changeSize 38 = .ok (.return_, 1) := by decide +kernel
theorem dX1_isTaken_0 : decode cX1_isTaken 0 = .ok (.iload_n 2, 1) := by decide +kernel
theorem dX1_isTaken_1 : decode cX1_isTaken 1 = .ok (.ifCond .lt 16, 3) := by decide +kernel
theorem dX1_isTaken_4 : decode cX1_isTaken 4 = .ok (.iload_n 2, 1) := by decide +kernel
theorem dX1_isTaken_5 : decode cX1_isTaken 5 = .ok (.aload_n 0, 1) := by decide +kernel
theorem dX1_isTaken_6 : decode cX1_isTaken 6 = .ok (.iload_n 1, 1) := by decide +kernel
theorem dX1_isTaken_7 : decode cX1_isTaken 7 = .ok (.invokevirtual 56, 3) := by decide +kernel
theorem dX1_isTaken_10 : decode cX1_isTaken 10 = .ok (.if_icmp .ge 7, 3) := by decide +kernel
theorem dX1_isTaken_13 : decode cX1_isTaken 13 = .ok (.iconst 1, 1) := by decide +kernel
theorem dX1_isTaken_14 : decode cX1_isTaken 14 = .ok (.goto 4, 3) := by decide +kernel
theorem dX1_isTaken_17 : decode cX1_isTaken 17 = .ok (.iconst 0, 1) := by decide +kernel
theorem dX1_isTaken_18 : decode cX1_isTaken 18 = .ok (.ireturn, 1) := by decide +kernel
theorem dX1_hasRoomFor_0 : decode cX1_hasRoomFor 0 = .ok (.aload_n 0, 1) := by decide +kernel
theorem dX1_hasRoomFor_1 : decode cX1_hasRoomFor 1 = .ok (.iload_n 1, 1) := by decide +kernel
theorem dX1_hasRoomFor_2 : decode cX1_hasRoomFor 2 = .ok (.invokevirtual 56, 3) := by decide +kernel
theorem dX1_hasRoomFor_5 : decode cX1_hasRoomFor 5 = .ok (.bipush 6, 2) := by decide +kernel
theorem dX1_hasRoomFor_7 : decode cX1_hasRoomFor 7 = .ok (.if_icmp .ge 17, 3) := by decide +kernel
theorem dX1_hasRoomFor_10 : decode cX1_hasRoomFor 10 = .ok (.aload_n 0, 1) := by decide +kernel
theorem dX1_hasRoomFor_11 : decode cX1_hasRoomFor 11 = .ok (.getfield 35, 3) := by decide +kernel
theorem dX1_hasRoomFor_14 : decode cX1_hasRoomFor 14 = .ok (.sipush 999, 3) := by decide +kernel
theorem dX1_hasRoomFor_17 : decode cX1_hasRoomFor 17 = .ok (.if_icmp .ge 7, 3) := by decide +kernel
theorem dX1_hasRoomFor_20 : decode cX1_hasRoomFor 20 = .ok (.iconst 1, 1) := by decide +kernel
theorem dX1_hasRoomFor_21 : decode cX1_hasRoomFor 21 = .ok (.goto 4, 3) := by decide +kernel
theorem dX1_hasRoomFor_24 : decode cX1_hasRoomFor 24 = .ok (.iconst 0, 1) := by decide +kernel
theorem dX1_hasRoomFor_25 : decode cX1_hasRoomFor 25 = .ok (.ireturn, 1) := by decide +kernel
theorem dX1_spotAt_0 : decode cX1_spotAt 0 = .ok (.iload_n 0, 1) := by decide +kernel
theorem dX1_spotAt_1 : decode cX1_spotAt 1 = .ok (.ifCond .lt 27, 3) := by decide +kernel
theorem dX1_spotAt_4 : decode cX1_spotAt 4 = .ok (.iload_n 0, 1) := by decide +kernel
theorem dX1_spotAt_5 : decode cX1_spotAt 5 = .ok (.iconst 4, 1) := by decide +kernel
theorem dX1_spotAt_6 : decode cX1_spotAt 6 = .ok (.if_icmp .ge 22, 3) := by decide +kernel
theorem dX1_spotAt_9 : decode cX1_spotAt 9 = .ok (.iload_n 1, 1) := by decide +kernel
theorem dX1_spotAt_10 : decode cX1_spotAt 10 = .ok (.ifCond .lt 18, 3) := by decide +kernel
theorem dX1_spotAt_13 : decode cX1_spotAt 13 = .ok (.iload_n 1, 1) := by decide +kernel
theorem dX1_spotAt_14 : decode cX1_spotAt 14 = .ok (.bipush 6, 2) := by decide +kernel
theorem dX1_spotAt_16 : decode cX1_spotAt 16 = .ok (.if_icmp .ge 12, 3) := by decide +kernel
theorem dX1_spotAt_19 : decode cX1_spotAt 19 = .ok (.bipush 6, 2) := by decide +kernel
theorem dX1_spotAt_21 : decode cX1_spotAt 21 = .ok (.iload_n 0, 1) := by decide +kernel
theorem dX1_spotAt_22 : decode cX1_spotAt 22 = .ok (.imul, 1) := by decide +kernel
theorem dX1_spotAt_23 : decode cX1_spotAt 23 = .ok (.iload_n 1, 1) := by decide +kernel
theorem dX1_spotAt_24 : decode cX1_spotAt 24 = .ok (.iadd, 1) := by decide +kernel
theorem dX1_spotAt_25 : decode cX1_spotAt 25 = .ok (.goto 4, 3) := by decide +kernel
theorem dX1_spotAt_28 : decode cX1_spotAt 28 = .ok (.iconst (-1), 1) := by decide +kernel
theorem dX1_spotAt_29 : decode cX1_spotAt 29 = .ok (.ireturn, 1) := by decide +kernel
theorem dX1_numberAt_0 : decode cX1_numberAt 0 = .ok (.aload_n 0, 1) := by decide +kernel
theorem dX1_numberAt_1 : decode cX1_numberAt 1 = .ok (.getfield 15, 3) := by decide +kernel
theorem dX1_numberAt_4 : decode cX1_numberAt 4 = .ok (.iload_n 1, 1) := by decide +kernel
theorem dX1_numberAt_5 : decode cX1_numberAt 5 = .ok (.iload_n 2, 1) := by decide +kernel
theorem dX1_numberAt_6 : decode cX1_numberAt 6 = .ok (.invokestatic 60, 3) := by decide +kernel
theorem dX1_numberAt_9 : decode cX1_numberAt 9 = .ok (.invokestatic 63, 3) := by decide +kernel
theorem dX1_numberAt_12 : decode cX1_numberAt 12 = .ok (.ireturn, 1) := by decide +kernel
theorem dX1_heightAt_0 : decode cX1_heightAt 0 = .ok (.aload_n 0, 1) := by decide +kernel
theorem dX1_heightAt_1 : decode cX1_heightAt 1 = .ok (.getfield 18, 3) := by decide +kernel
theorem dX1_heightAt_4 : decode cX1_heightAt 4 = .ok (.iload_n 1, 1) := by decide +kernel
theorem dX1_heightAt_5 : decode cX1_heightAt 5 = .ok (.iload_n 2, 1) := by decide +kernel
theorem dX1_heightAt_6 : decode cX1_heightAt 6 = .ok (.invokestatic 60, 3) := by decide +kernel
theorem dX1_heightAt_9 : decode cX1_heightAt 9 = .ok (.invokestatic 63, 3) := by decide +kernel
theorem dX1_heightAt_12 : decode cX1_heightAt 12 = .ok (.ireturn, 1) := by decide +kernel
theorem dX1_voiceAt_0 : decode cX1_voiceAt 0 = .ok (.aload_n 0, 1) := by decide +kernel
theorem dX1_voiceAt_1 : decode cX1_voiceAt 1 = .ok (.getfield 21, 3) := by decide +kernel
theorem dX1_voiceAt_4 : decode cX1_voiceAt 4 = .ok (.iload_n 1, 1) := by decide +kernel
theorem dX1_voiceAt_5 : decode cX1_voiceAt 5 = .ok (.iload_n 2, 1) := by decide +kernel
theorem dX1_voiceAt_6 : decode cX1_voiceAt 6 = .ok (.invokestatic 60, 3) := by decide +kernel
theorem dX1_voiceAt_9 : decode cX1_voiceAt 9 = .ok (.invokestatic 63, 3) := by decide +kernel
theorem dX1_voiceAt_12 : decode cX1_voiceAt 12 = .ok (.ireturn, 1) := by decide +kernel
theorem dX1_spotOfNumber_0 : decode cX1_spotOfNumber 0 = .ok (.iconst 0, 1) := by decide +kernel
theorem dX1_spotOfNumber_1 : decode cX1_spotOfNumber 1 = .ok (.istore_n 2, 1) := by decide +kernel
theorem dX1_spotOfNumber_2 : decode cX1_spotOfNumber 2 = .ok (.iload_n 2, 1) := by decide +kernel
theorem dX1_spotOfNumber_3 : decode cX1_spotOfNumber 3 = .ok (.iconst 4, 1) := by decide +kernel
theorem dX1_spotOfNumber_4 : decode cX1_spotOfNumber 4 = .ok (.if_icmp .ge 43, 3) := by decide +kernel
theorem dX1_spotOfNumber_7 : decode cX1_spotOfNumber 7 = .ok (.iconst 0, 1) := by decide +kernel
theorem dX1_spotOfNumber_8 : decode cX1_spotOfNumber 8 = .ok (.istore_n 3, 1) := by decide +kernel
theorem dX1_spotOfNumber_9 : decode cX1_spotOfNumber 9 = .ok (.iload_n 3, 1) := by decide +kernel
theorem dX1_spotOfNumber_10 : decode cX1_spotOfNumber 10 = .ok (.aload_n 0, 1) := by decide +kernel
theorem dX1_spotOfNumber_11 : decode cX1_spotOfNumber 11 = .ok (.iload_n 2, 1) := by decide +kernel
theorem dX1_spotOfNumber_12 : decode cX1_spotOfNumber 12 = .ok (.invokevirtual 56, 3) := by decide +kernel
theorem dX1_spotOfNumber_15 : decode cX1_spotOfNumber 15 = .ok (.if_icmp .ge 26, 3) := by decide +kernel
theorem dX1_spotOfNumber_18 : decode cX1_spotOfNumber 18 = .ok (.aload_n 0, 1) := by decide +kernel
theorem dX1_spotOfNumber_19 : decode cX1_spotOfNumber 19 = .ok (.iload_n 2, 1) := by decide +kernel
theorem dX1_spotOfNumber_20 : decode cX1_spotOfNumber 20 = .ok (.iload_n 3, 1) := by decide +kernel
theorem dX1_spotOfNumber_21 : decode cX1_spotOfNumber 21 = .ok (.invokevirtual 67, 3) := by decide +kernel
theorem dX1_spotOfNumber_24 : decode cX1_spotOfNumber 24 = .ok (.iload_n 1, 1) := by decide +kernel
theorem dX1_spotOfNumber_25 : decode cX1_spotOfNumber 25 = .ok (.if_icmp .ne 10, 3) := by decide +kernel
theorem dX1_spotOfNumber_28 : decode cX1_spotOfNumber 28 = .ok (.bipush 6, 2) := by decide +kernel
theorem dX1_spotOfNumber_30 : decode cX1_spotOfNumber 30 = .ok (.iload_n 2, 1) := by decide +kernel
theorem dX1_spotOfNumber_31 : decode cX1_spotOfNumber 31 = .ok (.imul, 1) := by decide +kernel
theorem dX1_spotOfNumber_32 : decode cX1_spotOfNumber 32 = .ok (.iload_n 3, 1) := by decide +kernel
theorem dX1_spotOfNumber_33 : decode cX1_spotOfNumber 33 = .ok (.iadd, 1) := by decide +kernel
theorem dX1_spotOfNumber_34 : decode cX1_spotOfNumber 34 = .ok (.ireturn, 1) := by decide +kernel
theorem dX1_spotOfNumber_35 : decode cX1_spotOfNumber 35 = .ok (.iinc 3 1, 3) := by decide +kernel
theorem dX1_spotOfNumber_38 : decode cX1_spotOfNumber 38 = .ok (.goto (-29), 3) := by decide +kernel
theorem dX1_spotOfNumber_41 : decode cX1_spotOfNumber 41 = .ok (.iinc 2 1, 3) := by decide +kernel
theorem dX1_spotOfNumber_44 : decode cX1_spotOfNumber 44 = .ok (.goto (-42), 3) := by decide +kernel
theorem dX1_spotOfNumber_47 : decode cX1_spotOfNumber 47 = .ok (.iconst (-1), 1) := by decide +kernel
theorem dX1_spotOfNumber_48 : decode cX1_spotOfNumber 48 = .ok (.ireturn, 1) := by decide +kernel
theorem dX1_arrive_0 : decode cX1_arrive 0 = .ok (.aload_n 0, 1) := by decide +kernel
theorem dX1_arrive_1 : decode cX1_arrive 1 = .ok (.getfield 35, 3) := by decide +kernel
theorem dX1_arrive_4 : decode cX1_arrive 4 = .ok (.istore 4, 2) := by decide +kernel
theorem dX1_arrive_6 : decode cX1_arrive 6 = .ok (.aload_n 0, 1) := by decide +kernel
theorem dX1_arrive_7 : decode cX1_arrive 7 = .ok (.iload_n 1, 1) := by decide +kernel
theorem dX1_arrive_8 : decode cX1_arrive 8 = .ok (.invokevirtual 56, 3) := by decide +kernel
theorem dX1_arrive_11 : decode cX1_arrive 11 = .ok (.istore 5, 2) := by decide +kernel
theorem dX1_arrive_13 : decode cX1_arrive 13 = .ok (.aload_n 0, 1) := by decide +kernel
theorem dX1_arrive_14 : decode cX1_arrive 14 = .ok (.dup, 1) := by decide +kernel
theorem dX1_arrive_15 : decode cX1_arrive 15 = .ok (.getfield 35, 3) := by decide +kernel
theorem dX1_arrive_18 : decode cX1_arrive 18 = .ok (.iconst 1, 1) := by decide +kernel
theorem dX1_arrive_19 : decode cX1_arrive 19 = .ok (.iadd, 1) := by decide +kernel
theorem dX1_arrive_20 : decode cX1_arrive 20 = .ok (.putfield 35, 3) := by decide +kernel
theorem dX1_arrive_23 : decode cX1_arrive 23 = .ok (.aload_n 0, 1) := by decide +kernel
theorem dX1_arrive_24 : decode cX1_arrive 24 = .ok (.iload_n 1, 1) := by decide +kernel
theorem dX1_arrive_25 : decode cX1_arrive 25 = .ok (.iconst 1, 1) := by decide +kernel
theorem dX1_arrive_26 : decode cX1_arrive 26 = .ok (.invokevirtual 70, 3) := by decide +kernel
theorem dX1_arrive_29 : decode cX1_arrive 29 = .ok (.iload_n 1, 1) := by decide +kernel
theorem dX1_arrive_30 : decode cX1_arrive 30 = .ok (.iload 5, 2) := by decide +kernel
theorem dX1_arrive_32 : decode cX1_arrive 32 = .ok (.invokestatic 60, 3) := by decide +kernel
theorem dX1_arrive_35 : decode cX1_arrive 35 = .ok (.istore 6, 2) := by decide +kernel
theorem dX1_arrive_37 : decode cX1_arrive 37 = .ok (.aload_n 0, 1) := by decide +kernel
theorem dX1_arrive_38 : decode cX1_arrive 38 = .ok (.getfield 15, 3) := by decide +kernel
theorem dX1_arrive_41 : decode cX1_arrive 41 = .ok (.iload 6, 2) := by decide +kernel
theorem dX1_arrive_43 : decode cX1_arrive 43 = .ok (.iload 4, 2) := by decide +kernel
theorem dX1_arrive_45 : decode cX1_arrive 45 = .ok (.invokestatic 74, 3) := by decide +kernel
theorem dX1_arrive_48 : decode cX1_arrive 48 = .ok (.aload_n 0, 1) := by decide +kernel
theorem dX1_arrive_49 : decode cX1_arrive 49 = .ok (.getfield 18, 3) := by decide +kernel
theorem dX1_arrive_52 : decode cX1_arrive 52 = .ok (.iload 6, 2) := by decide +kernel
theorem dX1_arrive_54 : decode cX1_arrive 54 = .ok (.iload_n 2, 1) := by decide +kernel
theorem dX1_arrive_55 : decode cX1_arrive 55 = .ok (.invokestatic 74, 3) := by decide +kernel
theorem dX1_arrive_58 : decode cX1_arrive 58 = .ok (.aload_n 0, 1) := by decide +kernel
theorem dX1_arrive_59 : decode cX1_arrive 59 = .ok (.getfield 21, 3) := by decide +kernel
theorem dX1_arrive_62 : decode cX1_arrive 62 = .ok (.iload 6, 2) := by decide +kernel
theorem dX1_arrive_64 : decode cX1_arrive 64 = .ok (.iload_n 3, 1) := by decide +kernel
theorem dX1_arrive_65 : decode cX1_arrive 65 = .ok (.invokestatic 74, 3) := by decide +kernel
theorem dX1_arrive_68 : decode cX1_arrive 68 = .ok (.iload 4, 2) := by decide +kernel
theorem dX1_arrive_70 : decode cX1_arrive 70 = .ok (.ireturn, 1) := by decide +kernel
theorem dX1_dismiss_0 : decode cX1_dismiss 0 = .ok (.aload_n 0, 1) := by decide +kernel
theorem dX1_dismiss_1 : decode cX1_dismiss 1 = .ok (.iload_n 1, 1) := by decide +kernel
theorem dX1_dismiss_2 : decode cX1_dismiss 2 = .ok (.iload_n 2, 1) := by decide +kernel
theorem dX1_dismiss_3 : decode cX1_dismiss 3 = .ok (.invokevirtual 67, 3) := by decide +kernel
theorem dX1_dismiss_6 : decode cX1_dismiss 6 = .ok (.istore_n 3, 1) := by decide +kernel
theorem dX1_dismiss_7 : decode cX1_dismiss 7 = .ok (.aload_n 0, 1) := by decide +kernel
theorem dX1_dismiss_8 : decode cX1_dismiss 8 = .ok (.iload_n 1, 1) := by decide +kernel
theorem dX1_dismiss_9 : decode cX1_dismiss 9 = .ok (.iload_n 2, 1) := by decide +kernel
theorem dX1_dismiss_10 : decode cX1_dismiss 10 = .ok (.invokevirtual 78, 3) := by decide +kernel
theorem dX1_dismiss_13 : decode cX1_dismiss 13 = .ok (.aload_n 0, 1) := by decide +kernel
theorem dX1_dismiss_14 : decode cX1_dismiss 14 = .ok (.iload_n 1, 1) := by decide +kernel
theorem dX1_dismiss_15 : decode cX1_dismiss 15 = .ok (.iconst (-1), 1) := by decide +kernel
theorem dX1_dismiss_16 : decode cX1_dismiss 16 = .ok (.invokevirtual 70, 3) := by decide +kernel
theorem dX1_dismiss_19 : decode cX1_dismiss 19 = .ok (.aload_n 0, 1) := by decide +kernel
theorem dX1_dismiss_20 : decode cX1_dismiss 20 = .ok (.dup, 1) := by decide +kernel
theorem dX1_dismiss_21 : decode cX1_dismiss 21 = .ok (.getfield 38, 3) := by decide +kernel
theorem dX1_dismiss_24 : decode cX1_dismiss 24 = .ok (.iconst 1, 1) := by decide +kernel
theorem dX1_dismiss_25 : decode cX1_dismiss 25 = .ok (.iadd, 1) := by decide +kernel
theorem dX1_dismiss_26 : decode cX1_dismiss 26 = .ok (.putfield 38, 3) := by decide +kernel
theorem dX1_dismiss_29 : decode cX1_dismiss 29 = .ok (.iload_n 3, 1) := by decide +kernel
theorem dX1_dismiss_30 : decode cX1_dismiss 30 = .ok (.ireturn, 1) := by decide +kernel
theorem dX1_moveOver_0 : decode cX1_moveOver 0 = .ok (.aload_n 0, 1) := by decide +kernel
theorem dX1_moveOver_1 : decode cX1_moveOver 1 = .ok (.iload_n 1, 1) := by decide +kernel
theorem dX1_moveOver_2 : decode cX1_moveOver 2 = .ok (.iload_n 2, 1) := by decide +kernel
theorem dX1_moveOver_3 : decode cX1_moveOver 3 = .ok (.invokevirtual 78, 3) := by decide +kernel
theorem dX1_moveOver_6 : decode cX1_moveOver 6 = .ok (.aload_n 0, 1) := by decide +kernel
theorem dX1_moveOver_7 : decode cX1_moveOver 7 = .ok (.iload_n 3, 1) := by decide +kernel
theorem dX1_moveOver_8 : decode cX1_moveOver 8 = .ok (.invokevirtual 56, 3) := by decide +kernel
theorem dX1_moveOver_11 : decode cX1_moveOver 11 = .ok (.istore 4, 2) := by decide +kernel
theorem dX1_moveOver_13 : decode cX1_moveOver 13 = .ok (.aload_n 0, 1) := by decide +kernel
theorem dX1_moveOver_14 : decode cX1_moveOver 14 = .ok (.iload_n 3, 1) := by decide +kernel
theorem dX1_moveOver_15 : decode cX1_moveOver 15 = .ok (.iconst 1, 1) := by decide +kernel
theorem dX1_moveOver_16 : decode cX1_moveOver 16 = .ok (.invokevirtual 70, 3) := by decide +kernel
theorem dX1_moveOver_19 : decode cX1_moveOver 19 = .ok (.aload_n 0, 1) := by decide +kernel
theorem dX1_moveOver_20 : decode cX1_moveOver 20 = .ok (.iload_n 1, 1) := by decide +kernel
theorem dX1_moveOver_21 : decode cX1_moveOver 21 = .ok (.aload_n 0, 1) := by decide +kernel
theorem dX1_moveOver_22 : decode cX1_moveOver 22 = .ok (.iload_n 1, 1) := by decide +kernel
theorem dX1_moveOver_23 : decode cX1_moveOver 23 = .ok (.invokevirtual 56, 3) := by decide +kernel
theorem dX1_moveOver_26 : decode cX1_moveOver 26 = .ok (.iconst 1, 1) := by decide +kernel
theorem dX1_moveOver_27 : decode cX1_moveOver 27 = .ok (.isub, 1) := by decide +kernel
theorem dX1_moveOver_28 : decode cX1_moveOver 28 = .ok (.iload_n 3, 1) := by decide +kernel
theorem dX1_moveOver_29 : decode cX1_moveOver 29 = .ok (.iload 4, 2) := by decide +kernel
theorem dX1_moveOver_31 : decode cX1_moveOver 31 = .ok (.invokevirtual 81, 3) := by decide +kernel
theorem dX1_moveOver_34 : decode cX1_moveOver 34 = .ok (.aload_n 0, 1) := by decide +kernel
theorem dX1_moveOver_35 : decode cX1_moveOver 35 = .ok (.iload_n 1, 1) := by decide +kernel
theorem dX1_moveOver_36 : decode cX1_moveOver 36 = .ok (.iconst (-1), 1) := by decide +kernel
theorem dX1_moveOver_37 : decode cX1_moveOver 37 = .ok (.invokevirtual 70, 3) := by decide +kernel
theorem dX1_moveOver_40 : decode cX1_moveOver 40 = .ok (.iload 4, 2) := by decide +kernel
theorem dX1_moveOver_42 : decode cX1_moveOver 42 = .ok (.ireturn, 1) := by decide +kernel
theorem dX1_moveToRightEnd_0 : decode cX1_moveToRightEnd 0 = .ok (.iload_n 2, 1) := by decide +kernel
theorem dX1_moveToRightEnd_1 : decode cX1_moveToRightEnd 1 = .ok (.istore_n 3, 1) := by decide +kernel
theorem dX1_moveToRightEnd_2 : decode cX1_moveToRightEnd 2 = .ok (.iload_n 3, 1) := by decide +kernel
theorem dX1_moveToRightEnd_3 : decode cX1_moveToRightEnd 3 = .ok (.aload_n 0, 1) := by decide +kernel
theorem dX1_moveToRightEnd_4 : decode cX1_moveToRightEnd 4 = .ok (.iload_n 1, 1) := by decide +kernel
theorem dX1_moveToRightEnd_5 : decode cX1_moveToRightEnd 5 = .ok (.invokevirtual 56, 3) := by decide +kernel
theorem dX1_moveToRightEnd_8 : decode cX1_moveToRightEnd 8 = .ok (.iconst 1, 1) := by decide +kernel
theorem dX1_moveToRightEnd_9 : decode cX1_moveToRightEnd 9 = .ok (.isub, 1) := by decide +kernel
theorem dX1_moveToRightEnd_10 : decode cX1_moveToRightEnd 10 = .ok (.if_icmp .ge 19, 3) := by decide +kernel
theorem dX1_moveToRightEnd_13 : decode cX1_moveToRightEnd 13 = .ok (.aload_n 0, 1) := by decide +kernel
theorem dX1_moveToRightEnd_14 : decode cX1_moveToRightEnd 14 = .ok (.iload_n 1, 1) := by decide +kernel
theorem dX1_moveToRightEnd_15 : decode cX1_moveToRightEnd 15 = .ok (.iload_n 3, 1) := by decide +kernel
theorem dX1_moveToRightEnd_16 : decode cX1_moveToRightEnd 16 = .ok (.iload_n 1, 1) := by decide +kernel
theorem dX1_moveToRightEnd_17 : decode cX1_moveToRightEnd 17 = .ok (.iload_n 3, 1) := by decide +kernel
theorem dX1_moveToRightEnd_18 : decode cX1_moveToRightEnd 18 = .ok (.iconst 1, 1) := by decide +kernel
theorem dX1_moveToRightEnd_19 : decode cX1_moveToRightEnd 19 = .ok (.iadd, 1) := by decide +kernel
theorem dX1_moveToRightEnd_20 : decode cX1_moveToRightEnd 20 = .ok (.invokevirtual 81, 3) := by decide +kernel
theorem dX1_moveToRightEnd_23 : decode cX1_moveToRightEnd 23 = .ok (.iinc 3 1, 3) := by decide +kernel
theorem dX1_moveToRightEnd_26 : decode cX1_moveToRightEnd 26 = .ok (.goto (-24), 3) := by decide +kernel
theorem dX1_moveToRightEnd_29 : decode cX1_moveToRightEnd 29 = .ok (.return_, 1) := by decide +kernel
theorem dX1_changeHeight_0 : decode cX1_changeHeight 0 = .ok (.aload_n 0, 1) := by decide +kernel
theorem dX1_changeHeight_1 : decode cX1_changeHeight 1 = .ok (.getfield 18, 3) := by decide +kernel
theorem dX1_changeHeight_4 : decode cX1_changeHeight 4 = .ok (.iload_n 1, 1) := by decide +kernel
theorem dX1_changeHeight_5 : decode cX1_changeHeight 5 = .ok (.iload_n 2, 1) := by decide +kernel
theorem dX1_changeHeight_6 : decode cX1_changeHeight 6 = .ok (.invokestatic 60, 3) := by decide +kernel
theorem dX1_changeHeight_9 : decode cX1_changeHeight 9 = .ok (.iload_n 3, 1) := by decide +kernel
theorem dX1_changeHeight_10 : decode cX1_changeHeight 10 = .ok (.invokestatic 74, 3) := by decide +kernel
theorem dX1_changeHeight_13 : decode cX1_changeHeight 13 = .ok (.return_, 1) := by decide +kernel
theorem dX1_swapPlaces_0 : decode cX1_swapPlaces 0 = .ok (.iload_n 1, 1) := by decide +kernel
theorem dX1_swapPlaces_1 : decode cX1_swapPlaces 1 = .ok (.iload_n 2, 1) := by decide +kernel
theorem dX1_swapPlaces_2 : decode cX1_swapPlaces 2 = .ok (.invokestatic 60, 3) := by decide +kernel
theorem dX1_swapPlaces_5 : decode cX1_swapPlaces 5 = .ok (.istore 5, 2) := by decide +kernel
theorem dX1_swapPlaces_7 : decode cX1_swapPlaces 7 = .ok (.iload_n 3, 1) := by decide +kernel
theorem dX1_swapPlaces_8 : decode cX1_swapPlaces 8 = .ok (.iload 4, 2) := by decide +kernel
theorem dX1_swapPlaces_10 : decode cX1_swapPlaces 10 = .ok (.invokestatic 60, 3) := by decide +kernel
theorem dX1_swapPlaces_13 : decode cX1_swapPlaces 13 = .ok (.istore 6, 2) := by decide +kernel
theorem dX1_swapPlaces_15 : decode cX1_swapPlaces 15 = .ok (.aload_n 0, 1) := by decide +kernel
theorem dX1_swapPlaces_16 : decode cX1_swapPlaces 16 = .ok (.getfield 15, 3) := by decide +kernel
theorem dX1_swapPlaces_19 : decode cX1_swapPlaces 19 = .ok (.iload 5, 2) := by decide +kernel
theorem dX1_swapPlaces_21 : decode cX1_swapPlaces 21 = .ok (.iload 6, 2) := by decide +kernel
theorem dX1_swapPlaces_23 : decode cX1_swapPlaces 23 = .ok (.invokestatic 85, 3) := by decide +kernel
theorem dX1_swapPlaces_26 : decode cX1_swapPlaces 26 = .ok (.aload_n 0, 1) := by decide +kernel
theorem dX1_swapPlaces_27 : decode cX1_swapPlaces 27 = .ok (.getfield 18, 3) := by decide +kernel
theorem dX1_swapPlaces_30 : decode cX1_swapPlaces 30 = .ok (.iload 5, 2) := by decide +kernel
theorem dX1_swapPlaces_32 : decode cX1_swapPlaces 32 = .ok (.iload 6, 2) := by decide +kernel
theorem dX1_swapPlaces_34 : decode cX1_swapPlaces 34 = .ok (.invokestatic 85, 3) := by decide +kernel
theorem dX1_swapPlaces_37 : decode cX1_swapPlaces 37 = .ok (.aload_n 0, 1) := by decide +kernel
theorem dX1_swapPlaces_38 : decode cX1_swapPlaces 38 = .ok (.getfield 21, 3) := by decide +kernel
theorem dX1_swapPlaces_41 : decode cX1_swapPlaces 41 = .ok (.iload 5, 2) := by decide +kernel
theorem dX1_swapPlaces_43 : decode cX1_swapPlaces 43 = .ok (.iload 6, 2) := by decide +kernel
theorem dX1_swapPlaces_45 : decode cX1_swapPlaces 45 = .ok (.invokestatic 85, 3) := by decide +kernel
theorem dX1_swapPlaces_48 : decode cX1_swapPlaces 48 = .ok (.return_, 1) := by decide +kernel
theorem dX1_swapCells_0 : decode cX1_swapCells 0 = .ok (.aload_n 0, 1) := by decide +kernel
theorem dX1_swapCells_1 : decode cX1_swapCells 1 = .ok (.iload_n 1, 1) := by decide +kernel
theorem dX1_swapCells_2 : decode cX1_swapCells 2 = .ok (.invokestatic 63, 3) := by decide +kernel
theorem dX1_swapCells_5 : decode cX1_swapCells 5 = .ok (.istore_n 3, 1) := by decide +kernel
theorem dX1_swapCells_6 : decode cX1_swapCells 6 = .ok (.aload_n 0, 1) := by decide +kernel
theorem dX1_swapCells_7 : decode cX1_swapCells 7 = .ok (.iload_n 1, 1) := by decide +kernel
theorem dX1_swapCells_8 : decode cX1_swapCells 8 = .ok (.aload_n 0, 1) := by decide +kernel
theorem dX1_swapCells_9 : decode cX1_swapCells 9 = .ok (.iload_n 2, 1) := by decide +kernel
theorem dX1_swapCells_10 : decode cX1_swapCells 10 = .ok (.invokestatic 63, 3) := by decide +kernel
theorem dX1_swapCells_13 : decode cX1_swapCells 13 = .ok (.invokestatic 74, 3) := by decide +kernel
theorem dX1_swapCells_16 : decode cX1_swapCells 16 = .ok (.aload_n 0, 1) := by decide +kernel
theorem dX1_swapCells_17 : decode cX1_swapCells 17 = .ok (.iload_n 2, 1) := by decide +kernel
theorem dX1_swapCells_18 : decode cX1_swapCells 18 = .ok (.iload_n 3, 1) := by decide +kernel
theorem dX1_swapCells_19 : decode cX1_swapCells 19 = .ok (.invokestatic 74, 3) := by decide +kernel
theorem dX1_swapCells_22 : decode cX1_swapCells 22 = .ok (.return_, 1) := by decide +kernel
theorem dX1_swapAndCount_0 : decode cX1_swapAndCount 0 = .ok (.aload_n 0, 1) := by decide +kernel
theorem dX1_swapAndCount_1 : decode cX1_swapAndCount 1 = .ok (.iload_n 1, 1) := by decide +kernel
theorem dX1_swapAndCount_2 : decode cX1_swapAndCount 2 = .ok (.iload_n 2, 1) := by decide +kernel
theorem dX1_swapAndCount_3 : decode cX1_swapAndCount 3 = .ok (.iload_n 3, 1) := by decide +kernel
theorem dX1_swapAndCount_4 : decode cX1_swapAndCount 4 = .ok (.iload 4, 2) := by decide +kernel
theorem dX1_swapAndCount_6 : decode cX1_swapAndCount 6 = .ok (.invokevirtual 81, 3) := by decide +kernel
theorem dX1_swapAndCount_9 : decode cX1_swapAndCount 9 = .ok (.aload_n 0, 1) := by decide +kernel
theorem dX1_swapAndCount_10 : decode cX1_swapAndCount 10 = .ok (.dup, 1) := by decide +kernel
theorem dX1_swapAndCount_11 : decode cX1_swapAndCount 11 = .ok (.getfield 41, 3) := by decide +kernel
theorem dX1_swapAndCount_14 : decode cX1_swapAndCount 14 = .ok (.iconst 1, 1) := by decide +kernel
theorem dX1_swapAndCount_15 : decode cX1_swapAndCount 15 = .ok (.iadd, 1) := by decide +kernel
theorem dX1_swapAndCount_16 : decode cX1_swapAndCount 16 = .ok (.putfield 41, 3) := by decide +kernel
theorem dX1_swapAndCount_19 : decode cX1_swapAndCount 19 = .ok (.return_, 1) := by decide +kernel
theorem dX1_turnRound_0 : decode cX1_turnRound 0 = .ok (.aload_n 0, 1) := by decide +kernel
theorem dX1_turnRound_1 : decode cX1_turnRound 1 = .ok (.iload_n 1, 1) := by decide +kernel
theorem dX1_turnRound_2 : decode cX1_turnRound 2 = .ok (.invokevirtual 56, 3) := by decide +kernel
theorem dX1_turnRound_5 : decode cX1_turnRound 5 = .ok (.iconst 1, 1) := by decide +kernel
theorem dX1_turnRound_6 : decode cX1_turnRound 6 = .ok (.isub, 1) := by decide +kernel
theorem dX1_turnRound_7 : decode cX1_turnRound 7 = .ok (.istore_n 2, 1) := by decide +kernel
theorem dX1_turnRound_8 : decode cX1_turnRound 8 = .ok (.iconst 0, 1) := by decide +kernel
theorem dX1_turnRound_9 : decode cX1_turnRound 9 = .ok (.istore_n 3, 1) := by decide +kernel
theorem dX1_turnRound_10 : decode cX1_turnRound 10 = .ok (.iload_n 3, 1) := by decide +kernel
theorem dX1_turnRound_11 : decode cX1_turnRound 11 = .ok (.iload_n 2, 1) := by decide +kernel
theorem dX1_turnRound_12 : decode cX1_turnRound 12 = .ok (.iload_n 3, 1) := by decide +kernel
theorem dX1_turnRound_13 : decode cX1_turnRound 13 = .ok (.isub, 1) := by decide +kernel
theorem dX1_turnRound_14 : decode cX1_turnRound 14 = .ok (.if_icmp .ge 19, 3) := by decide +kernel
theorem dX1_turnRound_17 : decode cX1_turnRound 17 = .ok (.aload_n 0, 1) := by decide +kernel
theorem dX1_turnRound_18 : decode cX1_turnRound 18 = .ok (.iload_n 1, 1) := by decide +kernel
theorem dX1_turnRound_19 : decode cX1_turnRound 19 = .ok (.iload_n 3, 1) := by decide +kernel
theorem dX1_turnRound_20 : decode cX1_turnRound 20 = .ok (.iload_n 1, 1) := by decide +kernel
theorem dX1_turnRound_21 : decode cX1_turnRound 21 = .ok (.iload_n 2, 1) := by decide +kernel
theorem dX1_turnRound_22 : decode cX1_turnRound 22 = .ok (.iload_n 3, 1) := by decide +kernel
theorem dX1_turnRound_23 : decode cX1_turnRound 23 = .ok (.isub, 1) := by decide +kernel
theorem dX1_turnRound_24 : decode cX1_turnRound 24 = .ok (.invokevirtual 81, 3) := by decide +kernel
theorem dX1_turnRound_27 : decode cX1_turnRound 27 = .ok (.iinc 3 1, 3) := by decide +kernel
theorem dX1_turnRound_30 : decode cX1_turnRound 30 = .ok (.goto (-20), 3) := by decide +kernel
theorem dX1_turnRound_33 : decode cX1_turnRound 33 = .ok (.return_, 1) := by decide +kernel
theorem dX1_putInOrder_0 : decode cX1_putInOrder 0 = .ok (.iconst 1, 1) := by decide +kernel
theorem dX1_putInOrder_1 : decode cX1_putInOrder 1 = .ok (.istore_n 3, 1) := by decide +kernel
theorem dX1_putInOrder_2 : decode cX1_putInOrder 2 = .ok (.iload_n 3, 1) := by decide +kernel
theorem dX1_putInOrder_3 : decode cX1_putInOrder 3 = .ok (.aload_n 0, 1) := by decide +kernel
theorem dX1_putInOrder_4 : decode cX1_putInOrder 4 = .ok (.iload_n 1, 1) := by decide +kernel
theorem dX1_putInOrder_5 : decode cX1_putInOrder 5 = .ok (.invokevirtual 56, 3) := by decide +kernel
theorem dX1_putInOrder_8 : decode cX1_putInOrder 8 = .ok (.if_icmp .ge 56, 3) := by decide +kernel
theorem dX1_putInOrder_11 : decode cX1_putInOrder 11 = .ok (.iload_n 3, 1) := by decide +kernel
theorem dX1_putInOrder_12 : decode cX1_putInOrder 12 = .ok (.istore 4, 2) := by decide +kernel
theorem dX1_putInOrder_14 : decode cX1_putInOrder 14 = .ok (.iload 4, 2) := by decide +kernel
theorem dX1_putInOrder_16 : decode cX1_putInOrder 16 = .ok (.ifCond .le 42, 3) := by decide +kernel
theorem dX1_putInOrder_19 : decode cX1_putInOrder 19 = .ok (.aload_n 0, 1) := by decide +kernel
theorem dX1_putInOrder_20 : decode cX1_putInOrder 20 = .ok (.iload_n 1, 1) := by decide +kernel
theorem dX1_putInOrder_21 : decode cX1_putInOrder 21 = .ok (.iload 4, 2) := by decide +kernel
theorem dX1_putInOrder_23 : decode cX1_putInOrder 23 = .ok (.iload_n 2, 1) := by decide +kernel
theorem dX1_putInOrder_24 : decode cX1_putInOrder 24 = .ok (.invokevirtual 88, 3) := by decide +kernel
theorem dX1_putInOrder_27 : decode cX1_putInOrder 27 = .ok (.aload_n 0, 1) := by decide +kernel
theorem dX1_putInOrder_28 : decode cX1_putInOrder 28 = .ok (.iload_n 1, 1) := by decide +kernel
theorem dX1_putInOrder_29 : decode cX1_putInOrder 29 = .ok (.iload 4, 2) := by decide +kernel
theorem dX1_putInOrder_31 : decode cX1_putInOrder 31 = .ok (.iconst 1, 1) := by decide +kernel
theorem dX1_putInOrder_32 : decode cX1_putInOrder 32 = .ok (.isub, 1) := by decide +kernel
theorem dX1_putInOrder_33 : decode cX1_putInOrder 33 = .ok (.iload_n 2, 1) := by decide +kernel
theorem dX1_putInOrder_34 : decode cX1_putInOrder 34 = .ok (.invokevirtual 88, 3) := by decide +kernel
theorem dX1_putInOrder_37 : decode cX1_putInOrder 37 = .ok (.if_icmp .ge 21, 3) := by decide +kernel
theorem dX1_putInOrder_40 : decode cX1_putInOrder 40 = .ok (.aload_n 0, 1) := by decide +kernel
theorem dX1_putInOrder_41 : decode cX1_putInOrder 41 = .ok (.iload_n 1, 1) := by decide +kernel
theorem dX1_putInOrder_42 : decode cX1_putInOrder 42 = .ok (.iload 4, 2) := by decide +kernel
theorem dX1_putInOrder_44 : decode cX1_putInOrder 44 = .ok (.iconst 1, 1) := by decide +kernel
theorem dX1_putInOrder_45 : decode cX1_putInOrder 45 = .ok (.isub, 1) := by decide +kernel
theorem dX1_putInOrder_46 : decode cX1_putInOrder 46 = .ok (.iload_n 1, 1) := by decide +kernel
theorem dX1_putInOrder_47 : decode cX1_putInOrder 47 = .ok (.iload 4, 2) := by decide +kernel
theorem dX1_putInOrder_49 : decode cX1_putInOrder 49 = .ok (.invokevirtual 81, 3) := by decide +kernel
theorem dX1_putInOrder_52 : decode cX1_putInOrder 52 = .ok (.iinc 4 (-1), 3) := by decide +kernel
theorem dX1_putInOrder_55 : decode cX1_putInOrder 55 = .ok (.goto (-41), 3) := by decide +kernel
theorem dX1_putInOrder_58 : decode cX1_putInOrder 58 = .ok (.iinc 3 1, 3) := by decide +kernel
theorem dX1_putInOrder_61 : decode cX1_putInOrder 61 = .ok (.goto (-59), 3) := by decide +kernel
theorem dX1_putInOrder_64 : decode cX1_putInOrder 64 = .ok (.return_, 1) := by decide +kernel
theorem dX1_rankAt_0 : decode cX1_rankAt 0 = .ok (.iload_n 3, 1) := by decide +kernel
theorem dX1_rankAt_1 : decode cX1_rankAt 1 = .ok (.lookupswitch 42 #[(0, 27), (1, 34)], 27) := by decide +kernel
theorem dX1_rankAt_28 : decode cX1_rankAt 28 = .ok (.aload_n 0, 1) := by decide +kernel
theorem dX1_rankAt_29 : decode cX1_rankAt 29 = .ok (.iload_n 1, 1) := by decide +kernel
theorem dX1_rankAt_30 : decode cX1_rankAt 30 = .ok (.iload_n 2, 1) := by decide +kernel
theorem dX1_rankAt_31 : decode cX1_rankAt 31 = .ok (.invokevirtual 92, 3) := by decide +kernel
theorem dX1_rankAt_34 : decode cX1_rankAt 34 = .ok (.ireturn, 1) := by decide +kernel
theorem dX1_rankAt_35 : decode cX1_rankAt 35 = .ok (.aload_n 0, 1) := by decide +kernel
theorem dX1_rankAt_36 : decode cX1_rankAt 36 = .ok (.iload_n 1, 1) := by decide +kernel
theorem dX1_rankAt_37 : decode cX1_rankAt 37 = .ok (.iload_n 2, 1) := by decide +kernel
theorem dX1_rankAt_38 : decode cX1_rankAt 38 = .ok (.invokevirtual 92, 3) := by decide +kernel
theorem dX1_rankAt_41 : decode cX1_rankAt 41 = .ok (.ineg, 1) := by decide +kernel
theorem dX1_rankAt_42 : decode cX1_rankAt 42 = .ok (.ireturn, 1) := by decide +kernel
theorem dX1_rankAt_43 : decode cX1_rankAt 43 = .ok (.aload_n 0, 1) := by decide +kernel
theorem dX1_rankAt_44 : decode cX1_rankAt 44 = .ok (.iload_n 1, 1) := by decide +kernel
theorem dX1_rankAt_45 : decode cX1_rankAt 45 = .ok (.iload_n 2, 1) := by decide +kernel
theorem dX1_rankAt_46 : decode cX1_rankAt 46 = .ok (.invokevirtual 95, 3) := by decide +kernel
theorem dX1_rankAt_49 : decode cX1_rankAt 49 = .ok (.ireturn, 1) := by decide +kernel
theorem dX1_highestOf_0 : decode cX1_highestOf 0 = .ok (.iconst (-1), 1) := by decide +kernel
theorem dX1_highestOf_1 : decode cX1_highestOf 1 = .ok (.istore_n 2, 1) := by decide +kernel
theorem dX1_highestOf_2 : decode cX1_highestOf 2 = .ok (.iconst 0, 1) := by decide +kernel
theorem dX1_highestOf_3 : decode cX1_highestOf 3 = .ok (.istore_n 3, 1) := by decide +kernel
theorem dX1_highestOf_4 : decode cX1_highestOf 4 = .ok (.iload_n 3, 1) := by decide +kernel
theorem dX1_highestOf_5 : decode cX1_highestOf 5 = .ok (.aload_n 0, 1) := by decide +kernel
theorem dX1_highestOf_6 : decode cX1_highestOf 6 = .ok (.iload_n 1, 1) := by decide +kernel
theorem dX1_highestOf_7 : decode cX1_highestOf 7 = .ok (.invokevirtual 56, 3) := by decide +kernel
theorem dX1_highestOf_10 : decode cX1_highestOf 10 = .ok (.if_icmp .ge 20, 3) := by decide +kernel
theorem dX1_highestOf_13 : decode cX1_highestOf 13 = .ok (.iload_n 2, 1) := by decide +kernel
theorem dX1_highestOf_14 : decode cX1_highestOf 14 = .ok (.aload_n 0, 1) := by decide +kernel
theorem dX1_highestOf_15 : decode cX1_highestOf 15 = .ok (.iload_n 1, 1) := by decide +kernel
theorem dX1_highestOf_16 : decode cX1_highestOf 16 = .ok (.iload_n 3, 1) := by decide +kernel
theorem dX1_highestOf_17 : decode cX1_highestOf 17 = .ok (.invokevirtual 92, 3) := by decide +kernel
theorem dX1_highestOf_20 : decode cX1_highestOf 20 = .ok (.invokestatic 98, 3) := by decide +kernel
theorem dX1_highestOf_23 : decode cX1_highestOf 23 = .ok (.istore_n 2, 1) := by decide +kernel
theorem dX1_highestOf_24 : decode cX1_highestOf 24 = .ok (.iinc 3 1, 3) := by decide +kernel
theorem dX1_highestOf_27 : decode cX1_highestOf 27 = .ok (.goto (-23), 3) := by decide +kernel
theorem dX1_highestOf_30 : decode cX1_highestOf 30 = .ok (.iload_n 2, 1) := by decide +kernel
theorem dX1_highestOf_31 : decode cX1_highestOf 31 = .ok (.ireturn, 1) := by decide +kernel
theorem dX1_discordOf_0 : decode cX1_discordOf 0 = .ok (.iconst 0, 1) := by decide +kernel
theorem dX1_discordOf_1 : decode cX1_discordOf 1 = .ok (.istore_n 2, 1) := by decide +kernel
theorem dX1_discordOf_2 : decode cX1_discordOf 2 = .ok (.iconst 0, 1) := by decide +kernel
theorem dX1_discordOf_3 : decode cX1_discordOf 3 = .ok (.istore_n 3, 1) := by decide +kernel
theorem dX1_discordOf_4 : decode cX1_discordOf 4 = .ok (.iload_n 3, 1) := by decide +kernel
theorem dX1_discordOf_5 : decode cX1_discordOf 5 = .ok (.aload_n 0, 1) := by decide +kernel
theorem dX1_discordOf_6 : decode cX1_discordOf 6 = .ok (.iload_n 1, 1) := by decide +kernel
theorem dX1_discordOf_7 : decode cX1_discordOf 7 = .ok (.invokevirtual 56, 3) := by decide +kernel
theorem dX1_discordOf_10 : decode cX1_discordOf 10 = .ok (.if_icmp .ge 27, 3) := by decide +kernel
theorem dX1_discordOf_13 : decode cX1_discordOf 13 = .ok (.iload_n 2, 1) := by decide +kernel
theorem dX1_discordOf_14 : decode cX1_discordOf 14 = .ok (.aload_n 0, 1) := by decide +kernel
theorem dX1_discordOf_15 : decode cX1_discordOf 15 = .ok (.iload_n 1, 1) := by decide +kernel
theorem dX1_discordOf_16 : decode cX1_discordOf 16 = .ok (.iconst 0, 1) := by decide +kernel
theorem dX1_discordOf_17 : decode cX1_discordOf 17 = .ok (.iload_n 3, 1) := by decide +kernel
theorem dX1_discordOf_18 : decode cX1_discordOf 18 = .ok (.iconst 1, 1) := by decide +kernel
theorem dX1_discordOf_19 : decode cX1_discordOf 19 = .ok (.isub, 1) := by decide +kernel
theorem dX1_discordOf_20 : decode cX1_discordOf 20 = .ok (.aload_n 0, 1) := by decide +kernel
theorem dX1_discordOf_21 : decode cX1_discordOf 21 = .ok (.iload_n 1, 1) := by decide +kernel
theorem dX1_discordOf_22 : decode cX1_discordOf 22 = .ok (.iload_n 3, 1) := by decide +kernel
theorem dX1_discordOf_23 : decode cX1_discordOf 23 = .ok (.invokevirtual 92, 3) := by decide +kernel
theorem dX1_discordOf_26 : decode cX1_discordOf 26 = .ok (.invokevirtual 101, 3) := by decide +kernel
theorem dX1_discordOf_29 : decode cX1_discordOf 29 = .ok (.iadd, 1) := by decide +kernel
theorem dX1_discordOf_30 : decode cX1_discordOf 30 = .ok (.istore_n 2, 1) := by decide +kernel
theorem dX1_discordOf_31 : decode cX1_discordOf 31 = .ok (.iinc 3 1, 3) := by decide +kernel
theorem dX1_discordOf_34 : decode cX1_discordOf 34 = .ok (.goto (-30), 3) := by decide +kernel
theorem dX1_discordOf_37 : decode cX1_discordOf 37 = .ok (.iload_n 2, 1) := by decide +kernel
theorem dX1_discordOf_38 : decode cX1_discordOf 38 = .ok (.ireturn, 1) := by decide +kernel
theorem dX1_discordOfAll_0 : decode cX1_discordOfAll 0 = .ok (.iconst 0, 1) := by decide +kernel
theorem dX1_discordOfAll_1 : decode cX1_discordOfAll 1 = .ok (.istore_n 1, 1) := by decide +kernel
theorem dX1_discordOfAll_2 : decode cX1_discordOfAll 2 = .ok (.iconst 0, 1) := by decide +kernel
theorem dX1_discordOfAll_3 : decode cX1_discordOfAll 3 = .ok (.istore_n 2, 1) := by decide +kernel
theorem dX1_discordOfAll_4 : decode cX1_discordOfAll 4 = .ok (.iload_n 2, 1) := by decide +kernel
theorem dX1_discordOfAll_5 : decode cX1_discordOfAll 5 = .ok (.iconst 4, 1) := by decide +kernel
theorem dX1_discordOfAll_6 : decode cX1_discordOfAll 6 = .ok (.if_icmp .ge 17, 3) := by decide +kernel
theorem dX1_discordOfAll_9 : decode cX1_discordOfAll 9 = .ok (.iload_n 1, 1) := by decide +kernel
theorem dX1_discordOfAll_10 : decode cX1_discordOfAll 10 = .ok (.aload_n 0, 1) := by decide +kernel
theorem dX1_discordOfAll_11 : decode cX1_discordOfAll 11 = .ok (.iload_n 2, 1) := by decide +kernel
theorem dX1_discordOfAll_12 : decode cX1_discordOfAll 12 = .ok (.invokevirtual 105, 3) := by decide +kernel
theorem dX1_discordOfAll_15 : decode cX1_discordOfAll 15 = .ok (.iadd, 1) := by decide +kernel
theorem dX1_discordOfAll_16 : decode cX1_discordOfAll 16 = .ok (.istore_n 1, 1) := by decide +kernel
theorem dX1_discordOfAll_17 : decode cX1_discordOfAll 17 = .ok (.iinc 2 1, 3) := by decide +kernel
theorem dX1_discordOfAll_20 : decode cX1_discordOfAll 20 = .ok (.goto (-16), 3) := by decide +kernel
theorem dX1_discordOfAll_23 : decode cX1_discordOfAll 23 = .ok (.iload_n 1, 1) := by decide +kernel
theorem dX1_discordOfAll_24 : decode cX1_discordOfAll 24 = .ok (.ireturn, 1) := by decide +kernel
theorem dX1_rowBehind_0 : decode cX1_rowBehind 0 = .ok (.aload_n 0, 1) := by decide +kernel
theorem dX1_rowBehind_1 : decode cX1_rowBehind 1 = .ok (.getfield 28, 3) := by decide +kernel
theorem dX1_rowBehind_4 : decode cX1_rowBehind 4 = .ok (.iconst 1, 1) := by decide +kernel
theorem dX1_rowBehind_5 : decode cX1_rowBehind 5 = .ok (.if_icmp .ne 9, 3) := by decide +kernel
theorem dX1_rowBehind_8 : decode cX1_rowBehind 8 = .ok (.iload_n 1, 1) := by decide +kernel
theorem dX1_rowBehind_9 : decode cX1_rowBehind 9 = .ok (.iconst 1, 1) := by decide +kernel
theorem dX1_rowBehind_10 : decode cX1_rowBehind 10 = .ok (.iadd, 1) := by decide +kernel
theorem dX1_rowBehind_11 : decode cX1_rowBehind 11 = .ok (.goto 4, 3) := by decide +kernel
theorem dX1_rowBehind_14 : decode cX1_rowBehind 14 = .ok (.iconst (-1), 1) := by decide +kernel
theorem dX1_rowBehind_15 : decode cX1_rowBehind 15 = .ok (.ireturn, 1) := by decide +kernel
theorem dX1_rowBefore_0 : decode cX1_rowBefore 0 = .ok (.aload_n 0, 1) := by decide +kernel
theorem dX1_rowBefore_1 : decode cX1_rowBefore 1 = .ok (.getfield 28, 3) := by decide +kernel
theorem dX1_rowBefore_4 : decode cX1_rowBefore 4 = .ok (.iconst 1, 1) := by decide +kernel
theorem dX1_rowBefore_5 : decode cX1_rowBefore 5 = .ok (.if_icmp .ne 9, 3) := by decide +kernel
theorem dX1_rowBefore_8 : decode cX1_rowBefore 8 = .ok (.iload_n 1, 1) := by decide +kernel
theorem dX1_rowBefore_9 : decode cX1_rowBefore 9 = .ok (.iconst 1, 1) := by decide +kernel
theorem dX1_rowBefore_10 : decode cX1_rowBefore 10 = .ok (.isub, 1) := by decide +kernel
theorem dX1_rowBefore_11 : decode cX1_rowBefore 11 = .ok (.goto 4, 3) := by decide +kernel
theorem dX1_rowBefore_14 : decode cX1_rowBefore 14 = .ok (.iconst (-1), 1) := by decide +kernel
theorem dX1_rowBefore_15 : decode cX1_rowBefore 15 = .ok (.ireturn, 1) := by decide +kernel
theorem dX1_heardBy_0 : decode cX1_heardBy 0 = .ok (.aload_n 0, 1) := by decide +kernel
theorem dX1_heardBy_1 : decode cX1_heardBy 1 = .ok (.iload_n 1, 1) := by decide +kernel
theorem dX1_heardBy_2 : decode cX1_heardBy 2 = .ok (.iload_n 2, 1) := by decide +kernel
theorem dX1_heardBy_3 : decode cX1_heardBy 3 = .ok (.aload_n 0, 1) := by decide +kernel
theorem dX1_heardBy_4 : decode cX1_heardBy 4 = .ok (.getfield 24, 3) := by decide +kernel
theorem dX1_heardBy_7 : decode cX1_heardBy 7 = .ok (.isub, 1) := by decide +kernel
theorem dX1_heardBy_8 : decode cX1_heardBy 8 = .ok (.iload_n 2, 1) := by decide +kernel
theorem dX1_heardBy_9 : decode cX1_heardBy 9 = .ok (.iconst 1, 1) := by decide +kernel
theorem dX1_heardBy_10 : decode cX1_heardBy 10 = .ok (.isub, 1) := by decide +kernel
theorem dX1_heardBy_11 : decode cX1_heardBy 11 = .ok (.invokevirtual 108, 3) := by decide +kernel
theorem dX1_heardBy_14 : decode cX1_heardBy 14 = .ok (.aload_n 0, 1) := by decide +kernel
theorem dX1_heardBy_15 : decode cX1_heardBy 15 = .ok (.aload_n 0, 1) := by decide +kernel
theorem dX1_heardBy_16 : decode cX1_heardBy 16 = .ok (.iload_n 1, 1) := by decide +kernel
theorem dX1_heardBy_17 : decode cX1_heardBy 17 = .ok (.invokevirtual 111, 3) := by decide +kernel
theorem dX1_heardBy_20 : decode cX1_heardBy 20 = .ok (.iload_n 2, 1) := by decide +kernel
theorem dX1_heardBy_21 : decode cX1_heardBy 21 = .ok (.aload_n 0, 1) := by decide +kernel
theorem dX1_heardBy_22 : decode cX1_heardBy 22 = .ok (.getfield 24, 3) := by decide +kernel
theorem dX1_heardBy_25 : decode cX1_heardBy 25 = .ok (.isub, 1) := by decide +kernel
theorem dX1_heardBy_26 : decode cX1_heardBy 26 = .ok (.iload_n 2, 1) := by decide +kernel
theorem dX1_heardBy_27 : decode cX1_heardBy 27 = .ok (.invokevirtual 108, 3) := by decide +kernel
theorem dX1_heardBy_30 : decode cX1_heardBy 30 = .ok (.iadd, 1) := by decide +kernel
theorem dX1_heardBy_31 : decode cX1_heardBy 31 = .ok (.ireturn, 1) := by decide +kernel
theorem dX1_hearersOf_0 : decode cX1_hearersOf 0 = .ok (.aload_n 0, 1) := by decide +kernel
theorem dX1_hearersOf_1 : decode cX1_hearersOf 1 = .ok (.iload_n 1, 1) := by decide +kernel
theorem dX1_hearersOf_2 : decode cX1_hearersOf 2 = .ok (.iload_n 2, 1) := by decide +kernel
theorem dX1_hearersOf_3 : decode cX1_hearersOf 3 = .ok (.iconst 1, 1) := by decide +kernel
theorem dX1_hearersOf_4 : decode cX1_hearersOf 4 = .ok (.iadd, 1) := by decide +kernel
theorem dX1_hearersOf_5 : decode cX1_hearersOf 5 = .ok (.iload_n 2, 1) := by decide +kernel
theorem dX1_hearersOf_6 : decode cX1_hearersOf 6 = .ok (.aload_n 0, 1) := by decide +kernel
theorem dX1_hearersOf_7 : decode cX1_hearersOf 7 = .ok (.getfield 24, 3) := by decide +kernel
theorem dX1_hearersOf_10 : decode cX1_hearersOf 10 = .ok (.iadd, 1) := by decide +kernel
theorem dX1_hearersOf_11 : decode cX1_hearersOf 11 = .ok (.invokevirtual 108, 3) := by decide +kernel
theorem dX1_hearersOf_14 : decode cX1_hearersOf 14 = .ok (.aload_n 0, 1) := by decide +kernel
theorem dX1_hearersOf_15 : decode cX1_hearersOf 15 = .ok (.aload_n 0, 1) := by decide +kernel
theorem dX1_hearersOf_16 : decode cX1_hearersOf 16 = .ok (.iload_n 1, 1) := by decide +kernel
theorem dX1_hearersOf_17 : decode cX1_hearersOf 17 = .ok (.invokevirtual 114, 3) := by decide +kernel
theorem dX1_hearersOf_20 : decode cX1_hearersOf 20 = .ok (.iload_n 2, 1) := by decide +kernel
theorem dX1_hearersOf_21 : decode cX1_hearersOf 21 = .ok (.iload_n 2, 1) := by decide +kernel
theorem dX1_hearersOf_22 : decode cX1_hearersOf 22 = .ok (.aload_n 0, 1) := by decide +kernel
theorem dX1_hearersOf_23 : decode cX1_hearersOf 23 = .ok (.getfield 24, 3) := by decide +kernel
theorem dX1_hearersOf_26 : decode cX1_hearersOf 26 = .ok (.iadd, 1) := by decide +kernel
theorem dX1_hearersOf_27 : decode cX1_hearersOf 27 = .ok (.invokevirtual 108, 3) := by decide +kernel
theorem dX1_hearersOf_30 : decode cX1_hearersOf 30 = .ok (.iadd, 1) := by decide +kernel
theorem dX1_hearersOf_31 : decode cX1_hearersOf 31 = .ok (.ireturn, 1) := by decide +kernel
theorem dX1_higherHeardBy_0 : decode cX1_higherHeardBy 0 = .ok (.aload_n 0, 1) := by decide +kernel
theorem dX1_higherHeardBy_1 : decode cX1_higherHeardBy 1 = .ok (.iload_n 1, 1) := by decide +kernel
theorem dX1_higherHeardBy_2 : decode cX1_higherHeardBy 2 = .ok (.iload_n 2, 1) := by decide +kernel
theorem dX1_higherHeardBy_3 : decode cX1_higherHeardBy 3 = .ok (.invokevirtual 92, 3) := by decide +kernel
theorem dX1_higherHeardBy_6 : decode cX1_higherHeardBy 6 = .ok (.istore_n 3, 1) := by decide +kernel
theorem dX1_higherHeardBy_7 : decode cX1_higherHeardBy 7 = .ok (.aload_n 0, 1) := by decide +kernel
theorem dX1_higherHeardBy_8 : decode cX1_higherHeardBy 8 = .ok (.iload_n 1, 1) := by decide +kernel
theorem dX1_higherHeardBy_9 : decode cX1_higherHeardBy 9 = .ok (.iload_n 2, 1) := by decide +kernel
theorem dX1_higherHeardBy_10 : decode cX1_higherHeardBy 10 = .ok (.aload_n 0, 1) := by decide +kernel
theorem dX1_higherHeardBy_11 : decode cX1_higherHeardBy 11 = .ok (.getfield 24, 3) := by decide +kernel
theorem dX1_higherHeardBy_14 : decode cX1_higherHeardBy 14 = .ok (.isub, 1) := by decide +kernel
theorem dX1_higherHeardBy_15 : decode cX1_higherHeardBy 15 = .ok (.iload_n 2, 1) := by decide +kernel
theorem dX1_higherHeardBy_16 : decode cX1_higherHeardBy 16 = .ok (.iconst 1, 1) := by decide +kernel
theorem dX1_higherHeardBy_17 : decode cX1_higherHeardBy 17 = .ok (.isub, 1) := by decide +kernel
theorem dX1_higherHeardBy_18 : decode cX1_higherHeardBy 18 = .ok (.iload_n 3, 1) := by decide +kernel
theorem dX1_higherHeardBy_19 : decode cX1_higherHeardBy 19 = .ok (.invokevirtual 101, 3) := by decide +kernel
theorem dX1_higherHeardBy_22 : decode cX1_higherHeardBy 22 = .ok (.aload_n 0, 1) := by decide +kernel
theorem dX1_higherHeardBy_23 : decode cX1_higherHeardBy 23 = .ok (.aload_n 0, 1) := by decide +kernel
theorem dX1_higherHeardBy_24 : decode cX1_higherHeardBy 24 = .ok (.iload_n 1, 1) := by decide +kernel
theorem dX1_higherHeardBy_25 : decode cX1_higherHeardBy 25 = .ok (.invokevirtual 111, 3) := by decide +kernel
theorem dX1_higherHeardBy_28 : decode cX1_higherHeardBy 28 = .ok (.iload_n 2, 1) := by decide +kernel
theorem dX1_higherHeardBy_29 : decode cX1_higherHeardBy 29 = .ok (.aload_n 0, 1) := by decide +kernel
theorem dX1_higherHeardBy_30 : decode cX1_higherHeardBy 30 = .ok (.getfield 24, 3) := by decide +kernel
theorem dX1_higherHeardBy_33 : decode cX1_higherHeardBy 33 = .ok (.isub, 1) := by decide +kernel
theorem dX1_higherHeardBy_34 : decode cX1_higherHeardBy 34 = .ok (.iload_n 2, 1) := by decide +kernel
theorem dX1_higherHeardBy_35 : decode cX1_higherHeardBy 35 = .ok (.iload_n 3, 1) := by decide +kernel
theorem dX1_higherHeardBy_36 : decode cX1_higherHeardBy 36 = .ok (.invokevirtual 101, 3) := by decide +kernel
theorem dX1_higherHeardBy_39 : decode cX1_higherHeardBy 39 = .ok (.iadd, 1) := by decide +kernel
theorem dX1_higherHeardBy_40 : decode cX1_higherHeardBy 40 = .ok (.ireturn, 1) := by decide +kernel
theorem dX1_higherBehind_0 : decode cX1_higherBehind 0 = .ok (.aload_n 0, 1) := by decide +kernel
theorem dX1_higherBehind_1 : decode cX1_higherBehind 1 = .ok (.aload_n 0, 1) := by decide +kernel
theorem dX1_higherBehind_2 : decode cX1_higherBehind 2 = .ok (.iload_n 1, 1) := by decide +kernel
theorem dX1_higherBehind_3 : decode cX1_higherBehind 3 = .ok (.invokevirtual 111, 3) := by decide +kernel
theorem dX1_higherBehind_6 : decode cX1_higherBehind 6 = .ok (.iload_n 2, 1) := by decide +kernel
theorem dX1_higherBehind_7 : decode cX1_higherBehind 7 = .ok (.aload_n 0, 1) := by decide +kernel
theorem dX1_higherBehind_8 : decode cX1_higherBehind 8 = .ok (.getfield 24, 3) := by decide +kernel
theorem dX1_higherBehind_11 : decode cX1_higherBehind 11 = .ok (.isub, 1) := by decide +kernel
theorem dX1_higherBehind_12 : decode cX1_higherBehind 12 = .ok (.iload_n 2, 1) := by decide +kernel
theorem dX1_higherBehind_13 : decode cX1_higherBehind 13 = .ok (.iload_n 3, 1) := by decide +kernel
theorem dX1_higherBehind_14 : decode cX1_higherBehind 14 = .ok (.invokevirtual 101, 3) := by decide +kernel
theorem dX1_higherBehind_17 : decode cX1_higherBehind 17 = .ok (.ireturn, 1) := by decide +kernel
theorem dX1_higherByTree_0 : decode cX1_higherByTree 0 = .ok (.aload_n 1, 1) := by decide +kernel
theorem dX1_higherByTree_1 : decode cX1_higherByTree 1 = .ok (.invokevirtual 117, 3) := by decide +kernel
theorem dX1_higherByTree_4 : decode cX1_higherByTree 4 = .ok (.aload_n 0, 1) := by decide +kernel
theorem dX1_higherByTree_5 : decode cX1_higherByTree 5 = .ok (.aload_n 1, 1) := by decide +kernel
theorem dX1_higherByTree_6 : decode cX1_higherByTree 6 = .ok (.iload_n 2, 1) := by decide +kernel
theorem dX1_higherByTree_7 : decode cX1_higherByTree 7 = .ok (.iload_n 3, 1) := by decide +kernel
theorem dX1_higherByTree_8 : decode cX1_higherByTree 8 = .ok (.aload_n 0, 1) := by decide +kernel
theorem dX1_higherByTree_9 : decode cX1_higherByTree 9 = .ok (.getfield 24, 3) := by decide +kernel
theorem dX1_higherByTree_12 : decode cX1_higherByTree 12 = .ok (.isub, 1) := by decide +kernel
theorem dX1_higherByTree_13 : decode cX1_higherByTree 13 = .ok (.iload_n 3, 1) := by decide +kernel
theorem dX1_higherByTree_14 : decode cX1_higherByTree 14 = .ok (.iconst 1, 1) := by decide +kernel
theorem dX1_higherByTree_15 : decode cX1_higherByTree 15 = .ok (.isub, 1) := by decide +kernel
theorem dX1_higherByTree_16 : decode cX1_higherByTree 16 = .ok (.invokevirtual 122, 3) := by decide +kernel
theorem dX1_higherByTree_19 : decode cX1_higherByTree 19 = .ok (.aload_n 0, 1) := by decide +kernel
theorem dX1_higherByTree_20 : decode cX1_higherByTree 20 = .ok (.aload_n 1, 1) := by decide +kernel
theorem dX1_higherByTree_21 : decode cX1_higherByTree 21 = .ok (.aload_n 0, 1) := by decide +kernel
theorem dX1_higherByTree_22 : decode cX1_higherByTree 22 = .ok (.iload_n 2, 1) := by decide +kernel
theorem dX1_higherByTree_23 : decode cX1_higherByTree 23 = .ok (.invokevirtual 111, 3) := by decide +kernel
theorem dX1_higherByTree_26 : decode cX1_higherByTree 26 = .ok (.iload_n 3, 1) := by decide +kernel
theorem dX1_higherByTree_27 : decode cX1_higherByTree 27 = .ok (.aload_n 0, 1) := by decide +kernel
theorem dX1_higherByTree_28 : decode cX1_higherByTree 28 = .ok (.getfield 24, 3) := by decide +kernel
theorem dX1_higherByTree_31 : decode cX1_higherByTree 31 = .ok (.isub, 1) := by decide +kernel
theorem dX1_higherByTree_32 : decode cX1_higherByTree 32 = .ok (.iload_n 3, 1) := by decide +kernel
theorem dX1_higherByTree_33 : decode cX1_higherByTree 33 = .ok (.invokevirtual 122, 3) := by decide +kernel
theorem dX1_higherByTree_36 : decode cX1_higherByTree 36 = .ok (.aload_n 1, 1) := by decide +kernel
theorem dX1_higherByTree_37 : decode cX1_higherByTree 37 = .ok (.aload_n 0, 1) := by decide +kernel
theorem dX1_higherByTree_38 : decode cX1_higherByTree 38 = .ok (.iload_n 2, 1) := by decide +kernel
theorem dX1_higherByTree_39 : decode cX1_higherByTree 39 = .ok (.iload_n 3, 1) := by decide +kernel
theorem dX1_higherByTree_40 : decode cX1_higherByTree 40 = .ok (.invokevirtual 92, 3) := by decide +kernel
theorem dX1_higherByTree_43 : decode cX1_higherByTree 43 = .ok (.invokevirtual 126, 3) := by decide +kernel
theorem dX1_higherByTree_46 : decode cX1_higherByTree 46 = .ok (.ireturn, 1) := by decide +kernel
theorem dX1_singersBetween_0 : decode cX1_singersBetween 0 = .ok (.iconst 0, 1) := by decide +kernel
theorem dX1_singersBetween_1 : decode cX1_singersBetween 1 = .ok (.iload_n 3, 1) := by decide +kernel
theorem dX1_singersBetween_2 : decode cX1_singersBetween 2 = .ok (.aload_n 0, 1) := by decide +kernel
theorem dX1_singersBetween_3 : decode cX1_singersBetween 3 = .ok (.iload_n 1, 1) := by decide +kernel
theorem dX1_singersBetween_4 : decode cX1_singersBetween 4 = .ok (.invokevirtual 56, 3) := by decide +kernel
theorem dX1_singersBetween_7 : decode cX1_singersBetween 7 = .ok (.iconst 1, 1) := by decide +kernel
theorem dX1_singersBetween_8 : decode cX1_singersBetween 8 = .ok (.isub, 1) := by decide +kernel
theorem dX1_singersBetween_9 : decode cX1_singersBetween 9 = .ok (.invokestatic 44, 3) := by decide +kernel
theorem dX1_singersBetween_12 : decode cX1_singersBetween 12 = .ok (.iload_n 2, 1) := by decide +kernel
theorem dX1_singersBetween_13 : decode cX1_singersBetween 13 = .ok (.iconst 0, 1) := by decide +kernel
theorem dX1_singersBetween_14 : decode cX1_singersBetween 14 = .ok (.invokestatic 98, 3) := by decide +kernel
theorem dX1_singersBetween_17 : decode cX1_singersBetween 17 = .ok (.isub, 1) := by decide +kernel
theorem dX1_singersBetween_18 : decode cX1_singersBetween 18 = .ok (.iconst 1, 1) := by decide +kernel
theorem dX1_singersBetween_19 : decode cX1_singersBetween 19 = .ok (.iadd, 1) := by decide +kernel
theorem dX1_singersBetween_20 : decode cX1_singersBetween 20 = .ok (.invokestatic 98, 3) := by decide +kernel
theorem dX1_singersBetween_23 : decode cX1_singersBetween 23 = .ok (.ireturn, 1) := by decide +kernel
theorem dX1_higherBetween_0 : decode cX1_higherBetween 0 = .ok (.iconst 0, 1) := by decide +kernel
theorem dX1_higherBetween_1 : decode cX1_higherBetween 1 = .ok (.istore 5, 2) := by decide +kernel
theorem dX1_higherBetween_3 : decode cX1_higherBetween 3 = .ok (.iload_n 3, 1) := by decide +kernel
theorem dX1_higherBetween_4 : decode cX1_higherBetween 4 = .ok (.aload_n 0, 1) := by decide +kernel
theorem dX1_higherBetween_5 : decode cX1_higherBetween 5 = .ok (.iload_n 1, 1) := by decide +kernel
theorem dX1_higherBetween_6 : decode cX1_higherBetween 6 = .ok (.invokevirtual 56, 3) := by decide +kernel
theorem dX1_higherBetween_9 : decode cX1_higherBetween 9 = .ok (.iconst 1, 1) := by decide +kernel
theorem dX1_higherBetween_10 : decode cX1_higherBetween 10 = .ok (.isub, 1) := by decide +kernel
theorem dX1_higherBetween_11 : decode cX1_higherBetween 11 = .ok (.invokestatic 44, 3) := by decide +kernel
theorem dX1_higherBetween_14 : decode cX1_higherBetween 14 = .ok (.istore 6, 2) := by decide +kernel
theorem dX1_higherBetween_16 : decode cX1_higherBetween 16 = .ok (.iload_n 2, 1) := by decide +kernel
theorem dX1_higherBetween_17 : decode cX1_higherBetween 17 = .ok (.iconst 0, 1) := by decide +kernel
theorem dX1_higherBetween_18 : decode cX1_higherBetween 18 = .ok (.invokestatic 98, 3) := by decide +kernel
theorem dX1_higherBetween_21 : decode cX1_higherBetween 21 = .ok (.istore 7, 2) := by decide +kernel
theorem dX1_higherBetween_23 : decode cX1_higherBetween 23 = .ok (.iload 7, 2) := by decide +kernel
theorem dX1_higherBetween_25 : decode cX1_higherBetween 25 = .ok (.iload 6, 2) := by decide +kernel
theorem dX1_higherBetween_27 : decode cX1_higherBetween 27 = .ok (.if_icmp .gt 31, 3) := by decide +kernel
theorem dX1_higherBetween_30 : decode cX1_higherBetween 30 = .ok (.aload_n 0, 1) := by decide +kernel
theorem dX1_higherBetween_31 : decode cX1_higherBetween 31 = .ok (.getfield 18, 3) := by decide +kernel
theorem dX1_higherBetween_34 : decode cX1_higherBetween 34 = .ok (.bipush 6, 2) := by decide +kernel
theorem dX1_higherBetween_36 : decode cX1_higherBetween 36 = .ok (.iload_n 1, 1) := by decide +kernel
theorem dX1_higherBetween_37 : decode cX1_higherBetween 37 = .ok (.imul, 1) := by decide +kernel
theorem dX1_higherBetween_38 : decode cX1_higherBetween 38 = .ok (.iload 7, 2) := by decide +kernel
theorem dX1_higherBetween_40 : decode cX1_higherBetween 40 = .ok (.iadd, 1) := by decide +kernel
theorem dX1_higherBetween_41 : decode cX1_higherBetween 41 = .ok (.invokestatic 63, 3) := by decide +kernel
theorem dX1_higherBetween_44 : decode cX1_higherBetween 44 = .ok (.iload 4, 2) := by decide +kernel
theorem dX1_higherBetween_46 : decode cX1_higherBetween 46 = .ok (.if_icmp .le 6, 3) := by decide +kernel
theorem dX1_higherBetween_49 : decode cX1_higherBetween 49 = .ok (.iinc 5 1, 3) := by decide +kernel
theorem dX1_higherBetween_52 : decode cX1_higherBetween 52 = .ok (.iinc 7 1, 3) := by decide +kernel
theorem dX1_higherBetween_55 : decode cX1_higherBetween 55 = .ok (.goto (-32), 3) := by decide +kernel
theorem dX1_higherBetween_58 : decode cX1_higherBetween 58 = .ok (.iload 5, 2) := by decide +kernel
theorem dX1_higherBetween_60 : decode cX1_higherBetween 60 = .ok (.ireturn, 1) := by decide +kernel
theorem dX1_putBetween_0 : decode cX1_putBetween 0 = .ok (.iload 4, 2) := by decide +kernel
theorem dX1_putBetween_2 : decode cX1_putBetween 2 = .ok (.aload_n 0, 1) := by decide +kernel
theorem dX1_putBetween_3 : decode cX1_putBetween 3 = .ok (.iload_n 2, 1) := by decide +kernel
theorem dX1_putBetween_4 : decode cX1_putBetween 4 = .ok (.invokevirtual 56, 3) := by decide +kernel
theorem dX1_putBetween_7 : decode cX1_putBetween 7 = .ok (.iconst 1, 1) := by decide +kernel
theorem dX1_putBetween_8 : decode cX1_putBetween 8 = .ok (.isub, 1) := by decide +kernel
theorem dX1_putBetween_9 : decode cX1_putBetween 9 = .ok (.invokestatic 44, 3) := by decide +kernel
theorem dX1_putBetween_12 : decode cX1_putBetween 12 = .ok (.istore 5, 2) := by decide +kernel
theorem dX1_putBetween_14 : decode cX1_putBetween 14 = .ok (.iload_n 3, 1) := by decide +kernel
theorem dX1_putBetween_15 : decode cX1_putBetween 15 = .ok (.iconst 0, 1) := by decide +kernel
theorem dX1_putBetween_16 : decode cX1_putBetween 16 = .ok (.invokestatic 98, 3) := by decide +kernel
theorem dX1_putBetween_19 : decode cX1_putBetween 19 = .ok (.istore 6, 2) := by decide +kernel
theorem dX1_putBetween_21 : decode cX1_putBetween 21 = .ok (.iload 6, 2) := by decide +kernel
theorem dX1_putBetween_23 : decode cX1_putBetween 23 = .ok (.iload 5, 2) := by decide +kernel
theorem dX1_putBetween_25 : decode cX1_putBetween 25 = .ok (.if_icmp .gt 20, 3) := by decide +kernel
theorem dX1_putBetween_28 : decode cX1_putBetween 28 = .ok (.aload_n 1, 1) := by decide +kernel
theorem dX1_putBetween_29 : decode cX1_putBetween 29 = .ok (.aload_n 0, 1) := by decide +kernel
theorem dX1_putBetween_30 : decode cX1_putBetween 30 = .ok (.iload_n 2, 1) := by decide +kernel
theorem dX1_putBetween_31 : decode cX1_putBetween 31 = .ok (.iload 6, 2) := by decide +kernel
theorem dX1_putBetween_33 : decode cX1_putBetween 33 = .ok (.invokevirtual 92, 3) := by decide +kernel
theorem dX1_putBetween_36 : decode cX1_putBetween 36 = .ok (.invokevirtual 129, 3) := by decide +kernel
theorem dX1_putBetween_39 : decode cX1_putBetween 39 = .ok (.iinc 6 1, 3) := by decide +kernel
theorem dX1_putBetween_42 : decode cX1_putBetween 42 = .ok (.goto (-21), 3) := by decide +kernel
theorem dX1_putBetween_45 : decode cX1_putBetween 45 = .ok (.return_, 1) := by decide +kernel
theorem dX1_oddIn_0 : decode cX1_oddIn 0 = .ok (.iconst 0, 1) := by decide +kernel
theorem dX1_oddIn_1 : decode cX1_oddIn 1 = .ok (.istore_n 2, 1) := by decide +kernel
theorem dX1_oddIn_2 : decode cX1_oddIn 2 = .ok (.iconst 0, 1) := by decide +kernel
theorem dX1_oddIn_3 : decode cX1_oddIn 3 = .ok (.istore_n 3, 1) := by decide +kernel
theorem dX1_oddIn_4 : decode cX1_oddIn 4 = .ok (.iload_n 3, 1) := by decide +kernel
theorem dX1_oddIn_5 : decode cX1_oddIn 5 = .ok (.aload_n 0, 1) := by decide +kernel
theorem dX1_oddIn_6 : decode cX1_oddIn 6 = .ok (.iload_n 1, 1) := by decide +kernel
theorem dX1_oddIn_7 : decode cX1_oddIn 7 = .ok (.invokevirtual 56, 3) := by decide +kernel
theorem dX1_oddIn_10 : decode cX1_oddIn 10 = .ok (.if_icmp .ge 20, 3) := by decide +kernel
theorem dX1_oddIn_13 : decode cX1_oddIn 13 = .ok (.iload_n 2, 1) := by decide +kernel
theorem dX1_oddIn_14 : decode cX1_oddIn 14 = .ok (.aload_n 0, 1) := by decide +kernel
theorem dX1_oddIn_15 : decode cX1_oddIn 15 = .ok (.iload_n 1, 1) := by decide +kernel
theorem dX1_oddIn_16 : decode cX1_oddIn 16 = .ok (.iload_n 3, 1) := by decide +kernel
theorem dX1_oddIn_17 : decode cX1_oddIn 17 = .ok (.invokevirtual 133, 3) := by decide +kernel
theorem dX1_oddIn_20 : decode cX1_oddIn 20 = .ok (.iconst 1, 1) := by decide +kernel
theorem dX1_oddIn_21 : decode cX1_oddIn 21 = .ok (.iand, 1) := by decide +kernel
theorem dX1_oddIn_22 : decode cX1_oddIn 22 = .ok (.iadd, 1) := by decide +kernel
theorem dX1_oddIn_23 : decode cX1_oddIn 23 = .ok (.istore_n 2, 1) := by decide +kernel
theorem dX1_oddIn_24 : decode cX1_oddIn 24 = .ok (.iinc 3 1, 3) := by decide +kernel
theorem dX1_oddIn_27 : decode cX1_oddIn 27 = .ok (.goto (-23), 3) := by decide +kernel
theorem dX1_oddIn_30 : decode cX1_oddIn 30 = .ok (.iload_n 2, 1) := by decide +kernel
theorem dX1_oddIn_31 : decode cX1_oddIn 31 = .ok (.ireturn, 1) := by decide +kernel
theorem dX1_oddOfAll_0 : decode cX1_oddOfAll 0 = .ok (.iconst 0, 1) := by decide +kernel
theorem dX1_oddOfAll_1 : decode cX1_oddOfAll 1 = .ok (.istore_n 1, 1) := by decide +kernel
theorem dX1_oddOfAll_2 : decode cX1_oddOfAll 2 = .ok (.iconst 0, 1) := by decide +kernel
theorem dX1_oddOfAll_3 : decode cX1_oddOfAll 3 = .ok (.istore_n 2, 1) := by decide +kernel
theorem dX1_oddOfAll_4 : decode cX1_oddOfAll 4 = .ok (.iload_n 2, 1) := by decide +kernel
theorem dX1_oddOfAll_5 : decode cX1_oddOfAll 5 = .ok (.iconst 4, 1) := by decide +kernel
theorem dX1_oddOfAll_6 : decode cX1_oddOfAll 6 = .ok (.if_icmp .ge 17, 3) := by decide +kernel
theorem dX1_oddOfAll_9 : decode cX1_oddOfAll 9 = .ok (.iload_n 1, 1) := by decide +kernel
theorem dX1_oddOfAll_10 : decode cX1_oddOfAll 10 = .ok (.aload_n 0, 1) := by decide +kernel
theorem dX1_oddOfAll_11 : decode cX1_oddOfAll 11 = .ok (.iload_n 2, 1) := by decide +kernel
theorem dX1_oddOfAll_12 : decode cX1_oddOfAll 12 = .ok (.invokevirtual 136, 3) := by decide +kernel
theorem dX1_oddOfAll_15 : decode cX1_oddOfAll 15 = .ok (.iadd, 1) := by decide +kernel
theorem dX1_oddOfAll_16 : decode cX1_oddOfAll 16 = .ok (.istore_n 1, 1) := by decide +kernel
theorem dX1_oddOfAll_17 : decode cX1_oddOfAll 17 = .ok (.iinc 2 1, 3) := by decide +kernel
theorem dX1_oddOfAll_20 : decode cX1_oddOfAll 20 = .ok (.goto (-16), 3) := by decide +kernel
theorem dX1_oddOfAll_23 : decode cX1_oddOfAll 23 = .ok (.iload_n 1, 1) := by decide +kernel
theorem dX1_oddOfAll_24 : decode cX1_oddOfAll 24 = .ok (.ireturn, 1) := by decide +kernel
theorem dX1_writtenLength_0 : decode cX1_writtenLength 0 = .ok (.iconst 0, 1) := by decide +kernel
theorem dX1_writtenLength_1 : decode cX1_writtenLength 1 = .ok (.iconst 5, 1) := by decide +kernel
theorem dX1_writtenLength_2 : decode cX1_writtenLength 2 = .ok (.aload_n 0, 1) := by decide +kernel
theorem dX1_writtenLength_3 : decode cX1_writtenLength 3 = .ok (.iload_n 1, 1) := by decide +kernel
theorem dX1_writtenLength_4 : decode cX1_writtenLength 4 = .ok (.invokevirtual 56, 3) := by decide +kernel
theorem dX1_writtenLength_7 : decode cX1_writtenLength 7 = .ok (.imul, 1) := by decide +kernel
theorem dX1_writtenLength_8 : decode cX1_writtenLength 8 = .ok (.iconst 1, 1) := by decide +kernel
theorem dX1_writtenLength_9 : decode cX1_writtenLength 9 = .ok (.isub, 1) := by decide +kernel
theorem dX1_writtenLength_10 : decode cX1_writtenLength 10 = .ok (.invokestatic 98, 3) := by decide +kernel
theorem dX1_writtenLength_13 : decode cX1_writtenLength 13 = .ok (.ireturn, 1) := by decide +kernel
theorem dX1_writtenCode_0 : decode cX1_writtenCode 0 = .ok (.iload_n 2, 1) := by decide +kernel
theorem dX1_writtenCode_1 : decode cX1_writtenCode 1 = .ok (.ifCond .lt 12, 3) := by decide +kernel
theorem dX1_writtenCode_4 : decode cX1_writtenCode 4 = .ok (.iload_n 2, 1) := by decide +kernel
theorem dX1_writtenCode_5 : decode cX1_writtenCode 5 = .ok (.aload_n 0, 1) := by decide +kernel
theorem dX1_writtenCode_6 : decode cX1_writtenCode 6 = .ok (.iload_n 1, 1) := by decide +kernel
theorem dX1_writtenCode_7 : decode cX1_writtenCode 7 = .ok (.invokevirtual 139, 3) := by decide +kernel
theorem dX1_writtenCode_10 : decode cX1_writtenCode 10 = .ok (.if_icmp .lt 5, 3) := by decide +kernel
theorem dX1_writtenCode_13 : decode cX1_writtenCode 13 = .ok (.iconst (-1), 1) := by decide +kernel
theorem dX1_writtenCode_14 : decode cX1_writtenCode 14 = .ok (.ireturn, 1) := by decide +kernel
theorem dX1_writtenCode_15 : decode cX1_writtenCode 15 = .ok (.iload_n 2, 1) := by decide +kernel
theorem dX1_writtenCode_16 : decode cX1_writtenCode 16 = .ok (.iconst 5, 1) := by decide +kernel
theorem dX1_writtenCode_17 : decode cX1_writtenCode 17 = .ok (.idiv, 1) := by decide +kernel
theorem dX1_writtenCode_18 : decode cX1_writtenCode 18 = .ok (.istore_n 3, 1) := by decide +kernel
theorem dX1_writtenCode_19 : decode cX1_writtenCode 19 = .ok (.aload_n 0, 1) := by decide +kernel
theorem dX1_writtenCode_20 : decode cX1_writtenCode 20 = .ok (.iload_n 1, 1) := by decide +kernel
theorem dX1_writtenCode_21 : decode cX1_writtenCode 21 = .ok (.iload_n 3, 1) := by decide +kernel
theorem dX1_writtenCode_22 : decode cX1_writtenCode 22 = .ok (.invokevirtual 92, 3) := by decide +kernel
theorem dX1_writtenCode_25 : decode cX1_writtenCode 25 = .ok (.istore 4, 2) := by decide +kernel
theorem dX1_writtenCode_27 : decode cX1_writtenCode 27 = .ok (.iload_n 2, 1) := by decide +kernel
theorem dX1_writtenCode_28 : decode cX1_writtenCode 28 = .ok (.iconst 5, 1) := by decide +kernel
theorem dX1_writtenCode_29 : decode cX1_writtenCode 29 = .ok (.irem, 1) := by decide +kernel
theorem dX1_writtenCode_30 : decode cX1_writtenCode 30 = .ok (.tableswitch 70 0 3 #[30, 39, 51, 60], 30) := by decide +kernel
theorem dX1_writtenCode_60 : decode cX1_writtenCode 60 = .ok (.bipush 48, 2) := by decide +kernel
theorem dX1_writtenCode_62 : decode cX1_writtenCode 62 = .ok (.iload 4, 2) := by decide +kernel
theorem dX1_writtenCode_64 : decode cX1_writtenCode 64 = .ok (.bipush 100, 2) := by decide +kernel
theorem dX1_writtenCode_66 : decode cX1_writtenCode 66 = .ok (.idiv, 1) := by decide +kernel
theorem dX1_writtenCode_67 : decode cX1_writtenCode 67 = .ok (.iadd, 1) := by decide +kernel
theorem dX1_writtenCode_68 : decode cX1_writtenCode 68 = .ok (.ireturn, 1) := by decide +kernel
theorem dX1_writtenCode_69 : decode cX1_writtenCode 69 = .ok (.bipush 48, 2) := by decide +kernel
theorem dX1_writtenCode_71 : decode cX1_writtenCode 71 = .ok (.iload 4, 2) := by decide +kernel
theorem dX1_writtenCode_73 : decode cX1_writtenCode 73 = .ok (.bipush 10, 2) := by decide +kernel
theorem dX1_writtenCode_75 : decode cX1_writtenCode 75 = .ok (.idiv, 1) := by decide +kernel
theorem dX1_writtenCode_76 : decode cX1_writtenCode 76 = .ok (.bipush 10, 2) := by decide +kernel
theorem dX1_writtenCode_78 : decode cX1_writtenCode 78 = .ok (.irem, 1) := by decide +kernel
theorem dX1_writtenCode_79 : decode cX1_writtenCode 79 = .ok (.iadd, 1) := by decide +kernel
theorem dX1_writtenCode_80 : decode cX1_writtenCode 80 = .ok (.ireturn, 1) := by decide +kernel
theorem dX1_writtenCode_81 : decode cX1_writtenCode 81 = .ok (.bipush 48, 2) := by decide +kernel
theorem dX1_writtenCode_83 : decode cX1_writtenCode 83 = .ok (.iload 4, 2) := by decide +kernel
theorem dX1_writtenCode_85 : decode cX1_writtenCode 85 = .ok (.bipush 10, 2) := by decide +kernel
theorem dX1_writtenCode_87 : decode cX1_writtenCode 87 = .ok (.irem, 1) := by decide +kernel
theorem dX1_writtenCode_88 : decode cX1_writtenCode 88 = .ok (.iadd, 1) := by decide +kernel
theorem dX1_writtenCode_89 : decode cX1_writtenCode 89 = .ok (.ireturn, 1) := by decide +kernel
theorem dX1_writtenCode_90 : decode cX1_writtenCode 90 = .ok (.aload_n 0, 1) := by decide +kernel
theorem dX1_writtenCode_91 : decode cX1_writtenCode 91 = .ok (.iload_n 1, 1) := by decide +kernel
theorem dX1_writtenCode_92 : decode cX1_writtenCode 92 = .ok (.iload_n 3, 1) := by decide +kernel
theorem dX1_writtenCode_93 : decode cX1_writtenCode 93 = .ok (.invokevirtual 95, 3) := by decide +kernel
theorem dX1_writtenCode_96 : decode cX1_writtenCode 96 = .ok (.invokestatic 142, 3) := by decide +kernel
theorem dX1_writtenCode_99 : decode cX1_writtenCode 99 = .ok (.ireturn, 1) := by decide +kernel
theorem dX1_writtenCode_100 : decode cX1_writtenCode 100 = .ok (.bipush 32, 2) := by decide +kernel
theorem dX1_writtenCode_102 : decode cX1_writtenCode 102 = .ok (.ireturn, 1) := by decide +kernel
theorem dX1_letterOf_0 : decode cX1_letterOf 0 = .ok (.iload_n 0, 1) := by decide +kernel
theorem dX1_letterOf_1 : decode cX1_letterOf 1 = .ok (.ifCond .lt 21, 3) := by decide +kernel
theorem dX1_letterOf_4 : decode cX1_letterOf 4 = .ok (.iload_n 0, 1) := by decide +kernel
theorem dX1_letterOf_5 : decode cX1_letterOf 5 = .ok (.ldc 145, 2) := by decide +kernel
theorem dX1_letterOf_7 : decode cX1_letterOf 7 = .ok (.invokevirtual 147, 3) := by decide +kernel
theorem dX1_letterOf_10 : decode cX1_letterOf 10 = .ok (.if_icmp .ge 12, 3) := by decide +kernel
theorem dX1_letterOf_13 : decode cX1_letterOf 13 = .ok (.ldc 145, 2) := by decide +kernel
theorem dX1_letterOf_15 : decode cX1_letterOf 15 = .ok (.iload_n 0, 1) := by decide +kernel
theorem dX1_letterOf_16 : decode cX1_letterOf 16 = .ok (.invokevirtual 153, 3) := by decide +kernel
theorem dX1_letterOf_19 : decode cX1_letterOf 19 = .ok (.goto 4, 3) := by decide +kernel
theorem dX1_letterOf_22 : decode cX1_letterOf 22 = .ok (.iconst (-1), 1) := by decide +kernel
theorem dX1_letterOf_23 : decode cX1_letterOf 23 = .ok (.ireturn, 1) := by decide +kernel
theorem dX2_init_0 : decode cX2_init 0 = .ok (.aload_n 0, 1) := by decide +kernel
theorem dX2_init_1 : decode cX2_init 1 = .ok (.invokespecial 3, 3) := by decide +kernel
theorem dX2_init_4 : decode cX2_init 4 = .ok (.aload_n 0, 1) := by decide +kernel
theorem dX2_init_5 : decode cX2_init 5 = .ok (.bipush 12, 2) := by decide +kernel
theorem dX2_init_7 : decode cX2_init 7 = .ok (.anewarray 9, 3) := by decide +kernel
theorem dX2_init_10 : decode cX2_init 10 = .ok (.putfield 11, 3) := by decide +kernel
theorem dX2_init_13 : decode cX2_init 13 = .ok (.iconst 0, 1) := by decide +kernel
theorem dX2_init_14 : decode cX2_init 14 = .ok (.istore_n 1, 1) := by decide +kernel
theorem dX2_init_15 : decode cX2_init 15 = .ok (.iload_n 1, 1) := by decide +kernel
theorem dX2_init_16 : decode cX2_init 16 = .ok (.aload_n 0, 1) := by decide +kernel
theorem dX2_init_17 : decode cX2_init 17 = .ok (.getfield 11, 3) := by decide +kernel
theorem dX2_init_20 : decode cX2_init 20 = .ok (.arraylength, 1) := by decide +kernel
theorem dX2_init_21 : decode cX2_init 21 = .ok (.if_icmp .ge 22, 3) := by decide +kernel
theorem dX2_init_24 : decode cX2_init 24 = .ok (.aload_n 0, 1) := by decide +kernel
theorem dX2_init_25 : decode cX2_init 25 = .ok (.getfield 11, 3) := by decide +kernel
theorem dX2_init_28 : decode cX2_init 28 = .ok (.iload_n 1, 1) := by decide +kernel
theorem dX2_init_29 : decode cX2_init 29 = .ok (.new 9, 3) := by decide +kernel
theorem dX2_init_32 : decode cX2_init 32 = .ok (.dup, 1) := by decide +kernel
theorem dX2_init_33 : decode cX2_init 33 = .ok (.invokespecial 17, 3) := by decide +kernel
theorem dX2_init_36 : decode cX2_init 36 = .ok (.aastore, 1) := by decide +kernel
theorem dX2_init_37 : decode cX2_init 37 = .ok (.iinc 1 1, 3) := by decide +kernel
theorem dX2_init_40 : decode cX2_init 40 = .ok (.goto (-25), 3) := by decide +kernel
theorem dX2_init_43 : decode cX2_init 43 = .ok (.return_, 1) := by decide +kernel
theorem dX2_fell_0 : decode cX2_fell 0 = .ok (.aload_n 0, 1) := by decide +kernel
theorem dX2_fell_1 : decode cX2_fell 1 = .ok (.aconst_null, 1) := by decide +kernel
theorem dX2_fell_2 : decode cX2_fell 2 = .ok (.putfield 18, 3) := by decide +kernel
theorem dX2_fell_5 : decode cX2_fell 5 = .ok (.aload_n 0, 1) := by decide +kernel
theorem dX2_fell_6 : decode cX2_fell 6 = .ok (.iconst 0, 1) := by decide +kernel
theorem dX2_fell_7 : decode cX2_fell 7 = .ok (.putfield 22, 3) := by decide +kernel
theorem dX2_fell_10 : decode cX2_fell 10 = .ok (.return_, 1) := by decide +kernel
theorem dX2_put_0 : decode cX2_put 0 = .ok (.aconst_null, 1) := by decide +kernel
theorem dX2_put_1 : decode cX2_put 1 = .ok (.astore_n 2, 1) := by decide +kernel
theorem dX2_put_2 : decode cX2_put 2 = .ok (.aload_n 0, 1) := by decide +kernel
theorem dX2_put_3 : decode cX2_put 3 = .ok (.getfield 18, 3) := by decide +kernel
theorem dX2_put_6 : decode cX2_put 6 = .ok (.astore_n 3, 1) := by decide +kernel
theorem dX2_put_7 : decode cX2_put 7 = .ok (.iconst 0, 1) := by decide +kernel
theorem dX2_put_8 : decode cX2_put 8 = .ok (.istore 4, 2) := by decide +kernel
theorem dX2_put_10 : decode cX2_put 10 = .ok (.iload 4, 2) := by decide +kernel
theorem dX2_put_12 : decode cX2_put 12 = .ok (.bipush 12, 2) := by decide +kernel
theorem dX2_put_14 : decode cX2_put 14 = .ok (.if_icmp .ge 54, 3) := by decide +kernel
theorem dX2_put_17 : decode cX2_put 17 = .ok (.aload_n 3, 1) := by decide +kernel
theorem dX2_put_18 : decode cX2_put 18 = .ok (.ifnull 50, 3) := by decide +kernel
theorem dX2_put_21 : decode cX2_put 21 = .ok (.aload_n 3, 1) := by decide +kernel
theorem dX2_put_22 : decode cX2_put 22 = .ok (.getfield 26, 3) := by decide +kernel
theorem dX2_put_25 : decode cX2_put 25 = .ok (.iload_n 1, 1) := by decide +kernel
theorem dX2_put_26 : decode cX2_put 26 = .ok (.if_icmp .ne 14, 3) := by decide +kernel
theorem dX2_put_29 : decode cX2_put 29 = .ok (.aload_n 3, 1) := by decide +kernel
theorem dX2_put_30 : decode cX2_put 30 = .ok (.dup, 1) := by decide +kernel
theorem dX2_put_31 : decode cX2_put 31 = .ok (.getfield 29, 3) := by decide +kernel
theorem dX2_put_34 : decode cX2_put 34 = .ok (.iconst 1, 1) := by decide +kernel
theorem dX2_put_35 : decode cX2_put 35 = .ok (.iadd, 1) := by decide +kernel
theorem dX2_put_36 : decode cX2_put 36 = .ok (.putfield 29, 3) := by decide +kernel
theorem dX2_put_39 : decode cX2_put 39 = .ok (.return_, 1) := by decide +kernel
theorem dX2_put_40 : decode cX2_put 40 = .ok (.aload_n 3, 1) := by decide +kernel
theorem dX2_put_41 : decode cX2_put 41 = .ok (.astore_n 2, 1) := by decide +kernel
theorem dX2_put_42 : decode cX2_put 42 = .ok (.iload_n 1, 1) := by decide +kernel
theorem dX2_put_43 : decode cX2_put 43 = .ok (.aload_n 3, 1) := by decide +kernel
theorem dX2_put_44 : decode cX2_put 44 = .ok (.getfield 26, 3) := by decide +kernel
theorem dX2_put_47 : decode cX2_put 47 = .ok (.if_icmp .le 10, 3) := by decide +kernel
theorem dX2_put_50 : decode cX2_put 50 = .ok (.aload_n 3, 1) := by decide +kernel
theorem dX2_put_51 : decode cX2_put 51 = .ok (.getfield 32, 3) := by decide +kernel
theorem dX2_put_54 : decode cX2_put 54 = .ok (.goto 7, 3) := by decide +kernel
theorem dX2_put_57 : decode cX2_put 57 = .ok (.aload_n 3, 1) := by decide +kernel
theorem dX2_put_58 : decode cX2_put 58 = .ok (.getfield 35, 3) := by decide +kernel
theorem dX2_put_61 : decode cX2_put 61 = .ok (.astore_n 3, 1) := by decide +kernel
theorem dX2_put_62 : decode cX2_put 62 = .ok (.iinc 4 1, 3) := by decide +kernel
theorem dX2_put_65 : decode cX2_put 65 = .ok (.goto (-55), 3) := by decide +kernel
theorem dX2_put_68 : decode cX2_put 68 = .ok (.aload_n 0, 1) := by decide +kernel
theorem dX2_put_69 : decode cX2_put 69 = .ok (.iload_n 1, 1) := by decide +kernel
theorem dX2_put_70 : decode cX2_put 70 = .ok (.invokevirtual 38, 3) := by decide +kernel
theorem dX2_put_73 : decode cX2_put 73 = .ok (.astore 4, 2) := by decide +kernel
theorem dX2_put_75 : decode cX2_put 75 = .ok (.aload_n 2, 1) := by decide +kernel
theorem dX2_put_76 : decode cX2_put 76 = .ok (.ifnonnull 12, 3) := by decide +kernel
theorem dX2_put_79 : decode cX2_put 79 = .ok (.aload_n 0, 1) := by decide +kernel
theorem dX2_put_80 : decode cX2_put 80 = .ok (.aload 4, 2) := by decide +kernel
theorem dX2_put_82 : decode cX2_put 82 = .ok (.putfield 18, 3) := by decide +kernel
theorem dX2_put_85 : decode cX2_put 85 = .ok (.goto 26, 3) := by decide +kernel
theorem dX2_put_88 : decode cX2_put 88 = .ok (.iload_n 1, 1) := by decide +kernel
theorem dX2_put_89 : decode cX2_put 89 = .ok (.aload_n 2, 1) := by decide +kernel
theorem dX2_put_90 : decode cX2_put 90 = .ok (.getfield 26, 3) := by decide +kernel
theorem dX2_put_93 : decode cX2_put 93 = .ok (.if_icmp .le 12, 3) := by decide +kernel
theorem dX2_put_96 : decode cX2_put 96 = .ok (.aload_n 2, 1) := by decide +kernel
theorem dX2_put_97 : decode cX2_put 97 = .ok (.aload 4, 2) := by decide +kernel
theorem dX2_put_99 : decode cX2_put 99 = .ok (.putfield 32, 3) := by decide +kernel
theorem dX2_put_102 : decode cX2_put 102 = .ok (.goto 9, 3) := by decide +kernel
theorem dX2_put_105 : decode cX2_put 105 = .ok (.aload_n 2, 1) := by decide +kernel
theorem dX2_put_106 : decode cX2_put 106 = .ok (.aload 4, 2) := by decide +kernel
theorem dX2_put_108 : decode cX2_put 108 = .ok (.putfield 35, 3) := by decide +kernel
theorem dX2_put_111 : decode cX2_put 111 = .ok (.return_, 1) := by decide +kernel
theorem dX2_freshNode_0 : decode cX2_freshNode 0 = .ok (.aload_n 0, 1) := by decide +kernel
theorem dX2_freshNode_1 : decode cX2_freshNode 1 = .ok (.getfield 22, 3) := by decide +kernel
theorem dX2_freshNode_4 : decode cX2_freshNode 4 = .ok (.ifCond .lt 27, 3) := by decide +kernel
theorem dX2_freshNode_7 : decode cX2_freshNode 7 = .ok (.aload_n 0, 1) := by decide +kernel
theorem dX2_freshNode_8 : decode cX2_freshNode 8 = .ok (.getfield 22, 3) := by decide +kernel
theorem dX2_freshNode_11 : decode cX2_freshNode 11 = .ok (.aload_n 0, 1) := by decide +kernel
theorem dX2_freshNode_12 : decode cX2_freshNode 12 = .ok (.getfield 11, 3) := by decide +kernel
theorem dX2_freshNode_15 : decode cX2_freshNode 15 = .ok (.arraylength, 1) := by decide +kernel
theorem dX2_freshNode_16 : decode cX2_freshNode 16 = .ok (.if_icmp .ge 15, 3) := by decide +kernel
theorem dX2_freshNode_19 : decode cX2_freshNode 19 = .ok (.aload_n 0, 1) := by decide +kernel
theorem dX2_freshNode_20 : decode cX2_freshNode 20 = .ok (.getfield 11, 3) := by decide +kernel
theorem dX2_freshNode_23 : decode cX2_freshNode 23 = .ok (.aload_n 0, 1) := by decide +kernel
theorem dX2_freshNode_24 : decode cX2_freshNode 24 = .ok (.getfield 22, 3) := by decide +kernel
theorem dX2_freshNode_27 : decode cX2_freshNode 27 = .ok (.aaload, 1) := by decide +kernel
theorem dX2_freshNode_28 : decode cX2_freshNode 28 = .ok (.goto 4, 3) := by decide +kernel
theorem dX2_freshNode_31 : decode cX2_freshNode 31 = .ok (.aconst_null, 1) := by decide +kernel
theorem dX2_freshNode_32 : decode cX2_freshNode 32 = .ok (.astore_n 2, 1) := by decide +kernel
theorem dX2_freshNode_33 : decode cX2_freshNode 33 = .ok (.aload_n 2, 1) := by decide +kernel
theorem dX2_freshNode_34 : decode cX2_freshNode 34 = .ok (.ifnull 33, 3) := by decide +kernel
theorem dX2_freshNode_37 : decode cX2_freshNode 37 = .ok (.aload_n 0, 1) := by decide +kernel
theorem dX2_freshNode_38 : decode cX2_freshNode 38 = .ok (.dup, 1) := by decide +kernel
theorem dX2_freshNode_39 : decode cX2_freshNode 39 = .ok (.getfield 22, 3) := by decide +kernel
theorem dX2_freshNode_42 : decode cX2_freshNode 42 = .ok (.iconst 1, 1) := by decide +kernel
theorem dX2_freshNode_43 : decode cX2_freshNode 43 = .ok (.iadd, 1) := by decide +kernel
theorem dX2_freshNode_44 : decode cX2_freshNode 44 = .ok (.putfield 22, 3) := by decide +kernel
theorem dX2_freshNode_47 : decode cX2_freshNode 47 = .ok (.aload_n 2, 1) := by decide +kernel
theorem dX2_freshNode_48 : decode cX2_freshNode 48 = .ok (.iload_n 1, 1) := by decide +kernel
theorem dX2_freshNode_49 : decode cX2_freshNode 49 = .ok (.putfield 26, 3) := by decide +kernel
theorem dX2_freshNode_52 : decode cX2_freshNode 52 = .ok (.aload_n 2, 1) := by decide +kernel
theorem dX2_freshNode_53 : decode cX2_freshNode 53 = .ok (.iconst 1, 1) := by decide +kernel
theorem dX2_freshNode_54 : decode cX2_freshNode 54 = .ok (.putfield 29, 3) := by decide +kernel
theorem dX2_freshNode_57 : decode cX2_freshNode 57 = .ok (.aload_n 2, 1) := by decide +kernel
theorem dX2_freshNode_58 : decode cX2_freshNode 58 = .ok (.aconst_null, 1) := by decide +kernel
theorem dX2_freshNode_59 : decode cX2_freshNode 59 = .ok (.putfield 35, 3) := by decide +kernel
theorem dX2_freshNode_62 : decode cX2_freshNode 62 = .ok (.aload_n 2, 1) := by decide +kernel
theorem dX2_freshNode_63 : decode cX2_freshNode 63 = .ok (.aconst_null, 1) := by decide +kernel
theorem dX2_freshNode_64 : decode cX2_freshNode 64 = .ok (.putfield 32, 3) := by decide +kernel
theorem dX2_freshNode_67 : decode cX2_freshNode 67 = .ok (.aload_n 2, 1) := by decide +kernel
theorem dX2_freshNode_68 : decode cX2_freshNode 68 = .ok (.areturn, 1) := by decide +kernel
theorem dX2_higherThan_0 : decode cX2_higherThan 0 = .ok (.iconst 0, 1) := by decide +kernel
theorem dX2_higherThan_1 : decode cX2_higherThan 1 = .ok (.istore_n 2, 1) := by decide +kernel
theorem dX2_higherThan_2 : decode cX2_higherThan 2 = .ok (.aload_n 0, 1) := by decide +kernel
theorem dX2_higherThan_3 : decode cX2_higherThan 3 = .ok (.getfield 18, 3) := by decide +kernel
theorem dX2_higherThan_6 : decode cX2_higherThan 6 = .ok (.astore_n 3, 1) := by decide +kernel
theorem dX2_higherThan_7 : decode cX2_higherThan 7 = .ok (.iconst 0, 1) := by decide +kernel
theorem dX2_higherThan_8 : decode cX2_higherThan 8 = .ok (.istore 4, 2) := by decide +kernel
theorem dX2_higherThan_10 : decode cX2_higherThan 10 = .ok (.iload 4, 2) := by decide +kernel
theorem dX2_higherThan_12 : decode cX2_higherThan 12 = .ok (.bipush 12, 2) := by decide +kernel
theorem dX2_higherThan_14 : decode cX2_higherThan 14 = .ok (.if_icmp .ge 50, 3) := by decide +kernel
theorem dX2_higherThan_17 : decode cX2_higherThan 17 = .ok (.aload_n 3, 1) := by decide +kernel
theorem dX2_higherThan_18 : decode cX2_higherThan 18 = .ok (.ifnull 46, 3) := by decide +kernel
theorem dX2_higherThan_21 : decode cX2_higherThan 21 = .ok (.aload_n 3, 1) := by decide +kernel
theorem dX2_higherThan_22 : decode cX2_higherThan 22 = .ok (.getfield 26, 3) := by decide +kernel
theorem dX2_higherThan_25 : decode cX2_higherThan 25 = .ok (.iload_n 1, 1) := by decide +kernel
theorem dX2_higherThan_26 : decode cX2_higherThan 26 = .ok (.if_icmp .le 27, 3) := by decide +kernel
theorem dX2_higherThan_29 : decode cX2_higherThan 29 = .ok (.iload_n 2, 1) := by decide +kernel
theorem dX2_higherThan_30 : decode cX2_higherThan 30 = .ok (.aload_n 3, 1) := by decide +kernel
theorem dX2_higherThan_31 : decode cX2_higherThan 31 = .ok (.getfield 29, 3) := by decide +kernel
theorem dX2_higherThan_34 : decode cX2_higherThan 34 = .ok (.aload_n 3, 1) := by decide +kernel
theorem dX2_higherThan_35 : decode cX2_higherThan 35 = .ok (.getfield 32, 3) := by decide +kernel
theorem dX2_higherThan_38 : decode cX2_higherThan 38 = .ok (.iconst 1, 1) := by decide +kernel
theorem dX2_higherThan_39 : decode cX2_higherThan 39 = .ok (.invokestatic 42, 3) := by decide +kernel
theorem dX2_higherThan_42 : decode cX2_higherThan 42 = .ok (.iadd, 1) := by decide +kernel
theorem dX2_higherThan_43 : decode cX2_higherThan 43 = .ok (.iadd, 1) := by decide +kernel
theorem dX2_higherThan_44 : decode cX2_higherThan 44 = .ok (.istore_n 2, 1) := by decide +kernel
theorem dX2_higherThan_45 : decode cX2_higherThan 45 = .ok (.aload_n 3, 1) := by decide +kernel
theorem dX2_higherThan_46 : decode cX2_higherThan 46 = .ok (.getfield 35, 3) := by decide +kernel
theorem dX2_higherThan_49 : decode cX2_higherThan 49 = .ok (.astore_n 3, 1) := by decide +kernel
theorem dX2_higherThan_50 : decode cX2_higherThan 50 = .ok (.goto 8, 3) := by decide +kernel
theorem dX2_higherThan_53 : decode cX2_higherThan 53 = .ok (.aload_n 3, 1) := by decide +kernel
theorem dX2_higherThan_54 : decode cX2_higherThan 54 = .ok (.getfield 32, 3) := by decide +kernel
theorem dX2_higherThan_57 : decode cX2_higherThan 57 = .ok (.astore_n 3, 1) := by decide +kernel
theorem dX2_higherThan_58 : decode cX2_higherThan 58 = .ok (.iinc 4 1, 3) := by decide +kernel
theorem dX2_higherThan_61 : decode cX2_higherThan 61 = .ok (.goto (-51), 3) := by decide +kernel
theorem dX2_higherThan_64 : decode cX2_higherThan 64 = .ok (.iload_n 2, 1) := by decide +kernel
theorem dX2_higherThan_65 : decode cX2_higherThan 65 = .ok (.ireturn, 1) := by decide +kernel
theorem dX2_allBelow_0 : decode cX2_allBelow 0 = .ok (.aload_n 0, 1) := by decide +kernel
theorem dX2_allBelow_1 : decode cX2_allBelow 1 = .ok (.ifnull 9, 3) := by decide +kernel
theorem dX2_allBelow_4 : decode cX2_allBelow 4 = .ok (.iload_n 1, 1) := by decide +kernel
theorem dX2_allBelow_5 : decode cX2_allBelow 5 = .ok (.bipush 12, 2) := by decide +kernel
theorem dX2_allBelow_7 : decode cX2_allBelow 7 = .ok (.if_icmp .le 5, 3) := by decide +kernel
theorem dX2_allBelow_10 : decode cX2_allBelow 10 = .ok (.iconst 0, 1) := by decide +kernel
theorem dX2_allBelow_11 : decode cX2_allBelow 11 = .ok (.ireturn, 1) := by decide +kernel
theorem dX2_allBelow_12 : decode cX2_allBelow 12 = .ok (.aload_n 0, 1) := by decide +kernel
theorem dX2_allBelow_13 : decode cX2_allBelow 13 = .ok (.getfield 29, 3) := by decide +kernel
theorem dX2_allBelow_16 : decode cX2_allBelow 16 = .ok (.aload_n 0, 1) := by decide +kernel
theorem dX2_allBelow_17 : decode cX2_allBelow 17 = .ok (.getfield 35, 3) := by decide +kernel
theorem dX2_allBelow_20 : decode cX2_allBelow 20 = .ok (.iload_n 1, 1) := by decide +kernel
theorem dX2_allBelow_21 : decode cX2_allBelow 21 = .ok (.iconst 1, 1) := by decide +kernel
theorem dX2_allBelow_22 : decode cX2_allBelow 22 = .ok (.iadd, 1) := by decide +kernel
theorem dX2_allBelow_23 : decode cX2_allBelow 23 = .ok (.invokestatic 42, 3) := by decide +kernel
theorem dX2_allBelow_26 : decode cX2_allBelow 26 = .ok (.iadd, 1) := by decide +kernel
theorem dX2_allBelow_27 : decode cX2_allBelow 27 = .ok (.aload_n 0, 1) := by decide +kernel
theorem dX2_allBelow_28 : decode cX2_allBelow 28 = .ok (.getfield 32, 3) := by decide +kernel
theorem dX2_allBelow_31 : decode cX2_allBelow 31 = .ok (.iload_n 1, 1) := by decide +kernel
theorem dX2_allBelow_32 : decode cX2_allBelow 32 = .ok (.iconst 1, 1) := by decide +kernel
theorem dX2_allBelow_33 : decode cX2_allBelow 33 = .ok (.iadd, 1) := by decide +kernel
theorem dX2_allBelow_34 : decode cX2_allBelow 34 = .ok (.invokestatic 42, 3) := by decide +kernel
theorem dX2_allBelow_37 : decode cX2_allBelow 37 = .ok (.iadd, 1) := by decide +kernel
theorem dX2_allBelow_38 : decode cX2_allBelow 38 = .ok (.ireturn, 1) := by decide +kernel
theorem dX3_init_0 : decode cX3_init 0 = .ok (.aload_n 0, 1) := by decide +kernel
theorem dX3_init_1 : decode cX3_init 1 = .ok (.invokespecial 3, 3) := by decide +kernel
theorem dX3_init_4 : decode cX3_init 4 = .ok (.aload_n 0, 1) := by decide +kernel
theorem dX3_init_5 : decode cX3_init 5 = .ok (.bipush 6, 2) := by decide +kernel
theorem dX3_init_7 : decode cX3_init 7 = .ok (.anewarray 9, 3) := by decide +kernel
theorem dX3_init_10 : decode cX3_init 10 = .ok (.putfield 11, 3) := by decide +kernel
theorem dX3_init_13 : decode cX3_init 13 = .ok (.iconst 0, 1) := by decide +kernel
theorem dX3_init_14 : decode cX3_init 14 = .ok (.istore_n 1, 1) := by decide +kernel
theorem dX3_init_15 : decode cX3_init 15 = .ok (.iload_n 1, 1) := by decide +kernel
theorem dX3_init_16 : decode cX3_init 16 = .ok (.aload_n 0, 1) := by decide +kernel
theorem dX3_init_17 : decode cX3_init 17 = .ok (.getfield 11, 3) := by decide +kernel
theorem dX3_init_20 : decode cX3_init 20 = .ok (.arraylength, 1) := by decide +kernel
theorem dX3_init_21 : decode cX3_init 21 = .ok (.if_icmp .ge 22, 3) := by decide +kernel
theorem dX3_init_24 : decode cX3_init 24 = .ok (.aload_n 0, 1) := by decide +kernel
theorem dX3_init_25 : decode cX3_init 25 = .ok (.getfield 11, 3) := by decide +kernel
theorem dX3_init_28 : decode cX3_init 28 = .ok (.iload_n 1, 1) := by decide +kernel
theorem dX3_init_29 : decode cX3_init 29 = .ok (.new 9, 3) := by decide +kernel
theorem dX3_init_32 : decode cX3_init 32 = .ok (.dup, 1) := by decide +kernel
theorem dX3_init_33 : decode cX3_init 33 = .ok (.invokespecial 17, 3) := by decide +kernel
theorem dX3_init_36 : decode cX3_init 36 = .ok (.aastore, 1) := by decide +kernel
theorem dX3_init_37 : decode cX3_init 37 = .ok (.iinc 1 1, 3) := by decide +kernel
theorem dX3_init_40 : decode cX3_init 40 = .ok (.goto (-25), 3) := by decide +kernel
theorem dX3_init_43 : decode cX3_init 43 = .ok (.return_, 1) := by decide +kernel
theorem dX3_size_0 : decode cX3_size 0 = .ok (.aload_n 0, 1) := by decide +kernel
theorem dX3_size_1 : decode cX3_size 1 = .ok (.getfield 18, 3) := by decide +kernel
theorem dX3_size_4 : decode cX3_size 4 = .ok (.ireturn, 1) := by decide +kernel
theorem dX3_save_0 : decode cX3_save 0 = .ok (.aload_n 0, 1) := by decide +kernel
theorem dX3_save_1 : decode cX3_save 1 = .ok (.getfield 18, 3) := by decide +kernel
theorem dX3_save_4 : decode cX3_save 4 = .ok (.bipush 6, 2) := by decide +kernel
theorem dX3_save_6 : decode cX3_save 6 = .ok (.if_icmp .lt 26, 3) := by decide +kernel
theorem dX3_save_9 : decode cX3_save 9 = .ok (.aload_n 0, 1) := by decide +kernel
theorem dX3_save_10 : decode cX3_save 10 = .ok (.aload_n 0, 1) := by decide +kernel
theorem dX3_save_11 : decode cX3_save 11 = .ok (.getfield 22, 3) := by decide +kernel
theorem dX3_save_14 : decode cX3_save 14 = .ok (.iconst 1, 1) := by decide +kernel
theorem dX3_save_15 : decode cX3_save 15 = .ok (.iadd, 1) := by decide +kernel
theorem dX3_save_16 : decode cX3_save 16 = .ok (.bipush 6, 2) := by decide +kernel
theorem dX3_save_18 : decode cX3_save 18 = .ok (.irem, 1) := by decide +kernel
theorem dX3_save_19 : decode cX3_save 19 = .ok (.putfield 22, 3) := by decide +kernel
theorem dX3_save_22 : decode cX3_save 22 = .ok (.aload_n 0, 1) := by decide +kernel
theorem dX3_save_23 : decode cX3_save 23 = .ok (.dup, 1) := by decide +kernel
theorem dX3_save_24 : decode cX3_save 24 = .ok (.getfield 18, 3) := by decide +kernel
theorem dX3_save_27 : decode cX3_save 27 = .ok (.iconst 1, 1) := by decide +kernel
theorem dX3_save_28 : decode cX3_save 28 = .ok (.isub, 1) := by decide +kernel
theorem dX3_save_29 : decode cX3_save 29 = .ok (.putfield 18, 3) := by decide +kernel
theorem dX3_save_32 : decode cX3_save 32 = .ok (.aload_n 0, 1) := by decide +kernel
theorem dX3_save_33 : decode cX3_save 33 = .ok (.aload_n 0, 1) := by decide +kernel
theorem dX3_save_34 : decode cX3_save 34 = .ok (.getfield 18, 3) := by decide +kernel
theorem dX3_save_37 : decode cX3_save 37 = .ok (.invokevirtual 25, 3) := by decide +kernel
theorem dX3_save_40 : decode cX3_save 40 = .ok (.astore_n 2, 1) := by decide +kernel
theorem dX3_save_41 : decode cX3_save 41 = .ok (.aload_n 2, 1) := by decide +kernel
theorem dX3_save_42 : decode cX3_save 42 = .ok (.ifnull 18, 3) := by decide +kernel
theorem dX3_save_45 : decode cX3_save 45 = .ok (.aload_n 2, 1) := by decide +kernel
theorem dX3_save_46 : decode cX3_save 46 = .ok (.aload_n 1, 1) := by decide +kernel
theorem dX3_save_47 : decode cX3_save 47 = .ok (.invokevirtual 29, 3) := by decide +kernel
theorem dX3_save_50 : decode cX3_save 50 = .ok (.aload_n 0, 1) := by decide +kernel
theorem dX3_save_51 : decode cX3_save 51 = .ok (.dup, 1) := by decide +kernel
theorem dX3_save_52 : decode cX3_save 52 = .ok (.getfield 18, 3) := by decide +kernel
theorem dX3_save_55 : decode cX3_save 55 = .ok (.iconst 1, 1) := by decide +kernel
theorem dX3_save_56 : decode cX3_save 56 = .ok (.iadd, 1) := by decide +kernel
theorem dX3_save_57 : decode cX3_save 57 = .ok (.putfield 18, 3) := by decide +kernel
theorem dX3_save_60 : decode cX3_save 60 = .ok (.return_, 1) := by decide +kernel
theorem dX3_slotAt_0 : decode cX3_slotAt 0 = .ok (.aload_n 0, 1) := by decide +kernel
theorem dX3_slotAt_1 : decode cX3_slotAt 1 = .ok (.getfield 22, 3) := by decide +kernel
theorem dX3_slotAt_4 : decode cX3_slotAt 4 = .ok (.iload_n 1, 1) := by decide +kernel
theorem dX3_slotAt_5 : decode cX3_slotAt 5 = .ok (.iadd, 1) := by decide +kernel
theorem dX3_slotAt_6 : decode cX3_slotAt 6 = .ok (.bipush 6, 2) := by decide +kernel
theorem dX3_slotAt_8 : decode cX3_slotAt 8 = .ok (.invokestatic 33, 3) := by decide +kernel
theorem dX3_slotAt_11 : decode cX3_slotAt 11 = .ok (.istore_n 2, 1) := by decide +kernel
theorem dX3_slotAt_12 : decode cX3_slotAt 12 = .ok (.iload_n 2, 1) := by decide +kernel
theorem dX3_slotAt_13 : decode cX3_slotAt 13 = .ok (.ifCond .lt 21, 3) := by decide +kernel
theorem dX3_slotAt_16 : decode cX3_slotAt 16 = .ok (.iload_n 2, 1) := by decide +kernel
theorem dX3_slotAt_17 : decode cX3_slotAt 17 = .ok (.aload_n 0, 1) := by decide +kernel
theorem dX3_slotAt_18 : decode cX3_slotAt 18 = .ok (.getfield 11, 3) := by decide +kernel
theorem dX3_slotAt_21 : decode cX3_slotAt 21 = .ok (.arraylength, 1) := by decide +kernel
theorem dX3_slotAt_22 : decode cX3_slotAt 22 = .ok (.if_icmp .ge 12, 3) := by decide +kernel
theorem dX3_slotAt_25 : decode cX3_slotAt 25 = .ok (.aload_n 0, 1) := by decide +kernel
theorem dX3_slotAt_26 : decode cX3_slotAt 26 = .ok (.getfield 11, 3) := by decide +kernel
theorem dX3_slotAt_29 : decode cX3_slotAt 29 = .ok (.iload_n 2, 1) := by decide +kernel
theorem dX3_slotAt_30 : decode cX3_slotAt 30 = .ok (.aaload, 1) := by decide +kernel
theorem dX3_slotAt_31 : decode cX3_slotAt 31 = .ok (.goto 4, 3) := by decide +kernel
theorem dX3_slotAt_34 : decode cX3_slotAt 34 = .ok (.aconst_null, 1) := by decide +kernel
theorem dX3_slotAt_35 : decode cX3_slotAt 35 = .ok (.areturn, 1) := by decide +kernel
theorem dX4_init_0 : decode cX4_init 0 = .ok (.aload_n 0, 1) := by decide +kernel
theorem dX4_init_1 : decode cX4_init 1 = .ok (.invokespecial 1, 3) := by decide +kernel
theorem dX4_init_4 : decode cX4_init 4 = .ok (.return_, 1) := by decide +kernel
theorem dX5_init_0 : decode cX5_init 0 = .ok (.aload_n 0, 1) := by decide +kernel
theorem dX5_init_1 : decode cX5_init 1 = .ok (.invokespecial 3, 3) := by decide +kernel
theorem dX5_init_4 : decode cX5_init 4 = .ok (.aload_n 0, 1) := by decide +kernel
theorem dX5_init_5 : decode cX5_init 5 = .ok (.bipush 6, 2) := by decide +kernel
theorem dX5_init_7 : decode cX5_init 7 = .ok (.newarray .int, 2) := by decide +kernel
theorem dX5_init_9 : decode cX5_init 9 = .ok (.putfield 9, 3) := by decide +kernel
theorem dX5_init_12 : decode cX5_init 12 = .ok (.aload_n 0, 1) := by decide +kernel
theorem dX5_init_13 : decode cX5_init 13 = .ok (.bipush 6, 2) := by decide +kernel
theorem dX5_init_15 : decode cX5_init 15 = .ok (.newarray .int, 2) := by decide +kernel
theorem dX5_init_17 : decode cX5_init 17 = .ok (.putfield 15, 3) := by decide +kernel
theorem dX5_init_20 : decode cX5_init 20 = .ok (.aload_n 0, 1) := by decide +kernel
theorem dX5_init_21 : decode cX5_init 21 = .ok (.bipush 6, 2) := by decide +kernel
theorem dX5_init_23 : decode cX5_init 23 = .ok (.newarray .int, 2) := by decide +kernel
theorem dX5_init_25 : decode cX5_init 25 = .ok (.putfield 18, 3) := by decide +kernel
theorem dX5_init_28 : decode cX5_init 28 = .ok (.return_, 1) := by decide +kernel
theorem dX5_goThrough_0 : decode cX5_goThrough 0 = .ok (.aload_n 0, 1) := by decide +kernel
theorem dX5_goThrough_1 : decode cX5_goThrough 1 = .ok (.aload_n 1, 1) := by decide +kernel
theorem dX5_goThrough_2 : decode cX5_goThrough 2 = .ok (.iload_n 2, 1) := by decide +kernel
theorem dX5_goThrough_3 : decode cX5_goThrough 3 = .ok (.invokevirtual 21, 3) := by decide +kernel
theorem dX5_goThrough_6 : decode cX5_goThrough 6 = .ok (.bipush 6, 2) := by decide +kernel
theorem dX5_goThrough_8 : decode cX5_goThrough 8 = .ok (.invokestatic 27, 3) := by decide +kernel
theorem dX5_goThrough_11 : decode cX5_goThrough 11 = .ok (.putfield 33, 3) := by decide +kernel
theorem dX5_goThrough_14 : decode cX5_goThrough 14 = .ok (.aload_n 0, 1) := by decide +kernel
theorem dX5_goThrough_15 : decode cX5_goThrough 15 = .ok (.aload_n 1, 1) := by decide +kernel
theorem dX5_goThrough_16 : decode cX5_goThrough 16 = .ok (.iconst 0, 1) := by decide +kernel
theorem dX5_goThrough_17 : decode cX5_goThrough 17 = .ok (.invokevirtual 37, 3) := by decide +kernel
theorem dX5_goThrough_20 : decode cX5_goThrough 20 = .ok (.putfield 40, 3) := by decide +kernel
theorem dX5_goThrough_23 : decode cX5_goThrough 23 = .ok (.iconst 0, 1) := by decide +kernel
theorem dX5_goThrough_24 : decode cX5_goThrough 24 = .ok (.istore_n 3, 1) := by decide +kernel
theorem dX5_goThrough_25 : decode cX5_goThrough 25 = .ok (.iload_n 3, 1) := by decide +kernel
theorem dX5_goThrough_26 : decode cX5_goThrough 26 = .ok (.aload_n 0, 1) := by decide +kernel
theorem dX5_goThrough_27 : decode cX5_goThrough 27 = .ok (.getfield 33, 3) := by decide +kernel
theorem dX5_goThrough_30 : decode cX5_goThrough 30 = .ok (.if_icmp .ge 16, 3) := by decide +kernel
theorem dX5_goThrough_33 : decode cX5_goThrough 33 = .ok (.aload_n 0, 1) := by decide +kernel
theorem dX5_goThrough_34 : decode cX5_goThrough 34 = .ok (.aload_n 1, 1) := by decide +kernel
theorem dX5_goThrough_35 : decode cX5_goThrough 35 = .ok (.iload_n 2, 1) := by decide +kernel
theorem dX5_goThrough_36 : decode cX5_goThrough 36 = .ok (.iload_n 3, 1) := by decide +kernel
theorem dX5_goThrough_37 : decode cX5_goThrough 37 = .ok (.invokevirtual 43, 3) := by decide +kernel
theorem dX5_goThrough_40 : decode cX5_goThrough 40 = .ok (.iinc 3 1, 3) := by decide +kernel
theorem dX5_goThrough_43 : decode cX5_goThrough 43 = .ok (.goto (-18), 3) := by decide +kernel
theorem dX5_goThrough_46 : decode cX5_goThrough 46 = .ok (.aload_n 0, 1) := by decide +kernel
theorem dX5_goThrough_47 : decode cX5_goThrough 47 = .ok (.iconst (-1), 1) := by decide +kernel
theorem dX5_goThrough_48 : decode cX5_goThrough 48 = .ok (.putfield 47, 3) := by decide +kernel
theorem dX5_goThrough_51 : decode cX5_goThrough 51 = .ok (.aload_n 0, 1) := by decide +kernel
theorem dX5_goThrough_52 : decode cX5_goThrough 52 = .ok (.iconst 0, 1) := by decide +kernel
theorem dX5_goThrough_53 : decode cX5_goThrough 53 = .ok (.putfield 50, 3) := by decide +kernel
theorem dX5_goThrough_56 : decode cX5_goThrough 56 = .ok (.aload_n 0, 1) := by decide +kernel
theorem dX5_goThrough_57 : decode cX5_goThrough 57 = .ok (.iconst 0, 1) := by decide +kernel
theorem dX5_goThrough_58 : decode cX5_goThrough 58 = .ok (.iconst 0, 1) := by decide +kernel
theorem dX5_goThrough_59 : decode cX5_goThrough 59 = .ok (.iconst 0, 1) := by decide +kernel
theorem dX5_goThrough_60 : decode cX5_goThrough 60 = .ok (.iconst 0, 1) := by decide +kernel
theorem dX5_goThrough_61 : decode cX5_goThrough 61 = .ok (.invokevirtual 53, 3) := by decide +kernel
theorem dX5_goThrough_64 : decode cX5_goThrough 64 = .ok (.return_, 1) := by decide +kernel
theorem dX5_noteSinger_0 : decode cX5_noteSinger 0 = .ok (.aload_n 1, 1) := by decide +kernel
theorem dX5_noteSinger_1 : decode cX5_noteSinger 1 = .ok (.iload_n 2, 1) := by decide +kernel
theorem dX5_noteSinger_2 : decode cX5_noteSinger 2 = .ok (.iload_n 3, 1) := by decide +kernel
theorem dX5_noteSinger_3 : decode cX5_noteSinger 3 = .ok (.invokevirtual 57, 3) := by decide +kernel
theorem dX5_noteSinger_6 : decode cX5_noteSinger 6 = .ok (.istore 4, 2) := by decide +kernel
theorem dX5_noteSinger_8 : decode cX5_noteSinger 8 = .ok (.iconst 0, 1) := by decide +kernel
theorem dX5_noteSinger_9 : decode cX5_noteSinger 9 = .ok (.istore 5, 2) := by decide +kernel
theorem dX5_noteSinger_11 : decode cX5_noteSinger 11 = .ok (.iconst 0, 1) := by decide +kernel
theorem dX5_noteSinger_12 : decode cX5_noteSinger 12 = .ok (.istore 6, 2) := by decide +kernel
theorem dX5_noteSinger_14 : decode cX5_noteSinger 14 = .ok (.iconst 0, 1) := by decide +kernel
theorem dX5_noteSinger_15 : decode cX5_noteSinger 15 = .ok (.istore 7, 2) := by decide +kernel
theorem dX5_noteSinger_17 : decode cX5_noteSinger 17 = .ok (.iload 7, 2) := by decide +kernel
theorem dX5_noteSinger_19 : decode cX5_noteSinger 19 = .ok (.aload_n 0, 1) := by decide +kernel
theorem dX5_noteSinger_20 : decode cX5_noteSinger 20 = .ok (.getfield 33, 3) := by decide +kernel
theorem dX5_noteSinger_23 : decode cX5_noteSinger 23 = .ok (.if_icmp .ge 49, 3) := by decide +kernel
theorem dX5_noteSinger_26 : decode cX5_noteSinger 26 = .ok (.aload_n 1, 1) := by decide +kernel
theorem dX5_noteSinger_27 : decode cX5_noteSinger 27 = .ok (.iload_n 2, 1) := by decide +kernel
theorem dX5_noteSinger_28 : decode cX5_noteSinger 28 = .ok (.iload 7, 2) := by decide +kernel
theorem dX5_noteSinger_30 : decode cX5_noteSinger 30 = .ok (.invokevirtual 57, 3) := by decide +kernel
theorem dX5_noteSinger_33 : decode cX5_noteSinger 33 = .ok (.iload 4, 2) := by decide +kernel
theorem dX5_noteSinger_35 : decode cX5_noteSinger 35 = .ok (.if_icmp .le 12, 3) := by decide +kernel
theorem dX5_noteSinger_38 : decode cX5_noteSinger 38 = .ok (.iload 5, 2) := by decide +kernel
theorem dX5_noteSinger_40 : decode cX5_noteSinger 40 = .ok (.iconst 1, 1) := by decide +kernel
theorem dX5_noteSinger_41 : decode cX5_noteSinger 41 = .ok (.iload 7, 2) := by decide +kernel
theorem dX5_noteSinger_43 : decode cX5_noteSinger 43 = .ok (.ishl, 1) := by decide +kernel
theorem dX5_noteSinger_44 : decode cX5_noteSinger 44 = .ok (.ior, 1) := by decide +kernel
theorem dX5_noteSinger_45 : decode cX5_noteSinger 45 = .ok (.istore 5, 2) := by decide +kernel
theorem dX5_noteSinger_47 : decode cX5_noteSinger 47 = .ok (.iload 6, 2) := by decide +kernel
theorem dX5_noteSinger_49 : decode cX5_noteSinger 49 = .ok (.aload_n 1, 1) := by decide +kernel
theorem dX5_noteSinger_50 : decode cX5_noteSinger 50 = .ok (.iload_n 2, 1) := by decide +kernel
theorem dX5_noteSinger_51 : decode cX5_noteSinger 51 = .ok (.iload 7, 2) := by decide +kernel
theorem dX5_noteSinger_53 : decode cX5_noteSinger 53 = .ok (.iload 4, 2) := by decide +kernel
theorem dX5_noteSinger_55 : decode cX5_noteSinger 55 = .ok (.invokevirtual 60, 3) := by decide +kernel
theorem dX5_noteSinger_58 : decode cX5_noteSinger 58 = .ok (.iconst 1, 1) := by decide +kernel
theorem dX5_noteSinger_59 : decode cX5_noteSinger 59 = .ok (.iand, 1) := by decide +kernel
theorem dX5_noteSinger_60 : decode cX5_noteSinger 60 = .ok (.iload 7, 2) := by decide +kernel
theorem dX5_noteSinger_62 : decode cX5_noteSinger 62 = .ok (.ishl, 1) := by decide +kernel
theorem dX5_noteSinger_63 : decode cX5_noteSinger 63 = .ok (.ior, 1) := by decide +kernel
theorem dX5_noteSinger_64 : decode cX5_noteSinger 64 = .ok (.istore 6, 2) := by decide +kernel
theorem dX5_noteSinger_66 : decode cX5_noteSinger 66 = .ok (.iinc 7 1, 3) := by decide +kernel
theorem dX5_noteSinger_69 : decode cX5_noteSinger 69 = .ok (.goto (-52), 3) := by decide +kernel
theorem dX5_noteSinger_72 : decode cX5_noteSinger 72 = .ok (.aload_n 0, 1) := by decide +kernel
theorem dX5_noteSinger_73 : decode cX5_noteSinger 73 = .ok (.getfield 9, 3) := by decide +kernel
theorem dX5_noteSinger_76 : decode cX5_noteSinger 76 = .ok (.iload_n 3, 1) := by decide +kernel
theorem dX5_noteSinger_77 : decode cX5_noteSinger 77 = .ok (.iload 5, 2) := by decide +kernel
theorem dX5_noteSinger_79 : decode cX5_noteSinger 79 = .ok (.invokestatic 64, 3) := by decide +kernel
theorem dX5_noteSinger_82 : decode cX5_noteSinger 82 = .ok (.aload_n 0, 1) := by decide +kernel
theorem dX5_noteSinger_83 : decode cX5_noteSinger 83 = .ok (.getfield 15, 3) := by decide +kernel
theorem dX5_noteSinger_86 : decode cX5_noteSinger 86 = .ok (.iload_n 3, 1) := by decide +kernel
theorem dX5_noteSinger_87 : decode cX5_noteSinger 87 = .ok (.iload 6, 2) := by decide +kernel
theorem dX5_noteSinger_89 : decode cX5_noteSinger 89 = .ok (.invokestatic 64, 3) := by decide +kernel
theorem dX5_noteSinger_92 : decode cX5_noteSinger 92 = .ok (.return_, 1) := by decide +kernel
theorem dX5_choose_0 : decode cX5_choose 0 = .ok (.aload_n 0, 1) := by decide +kernel
theorem dX5_choose_1 : decode cX5_choose 1 = .ok (.iload_n 3, 1) := by decide +kernel
theorem dX5_choose_2 : decode cX5_choose 2 = .ok (.aload_n 0, 1) := by decide +kernel
theorem dX5_choose_3 : decode cX5_choose 3 = .ok (.getfield 33, 3) := by decide +kernel
theorem dX5_choose_6 : decode cX5_choose 6 = .ok (.iadd, 1) := by decide +kernel
theorem dX5_choose_7 : decode cX5_choose 7 = .ok (.iload_n 1, 1) := by decide +kernel
theorem dX5_choose_8 : decode cX5_choose 8 = .ok (.isub, 1) := by decide +kernel
theorem dX5_choose_9 : decode cX5_choose 9 = .ok (.iload 4, 2) := by decide +kernel
theorem dX5_choose_11 : decode cX5_choose 11 = .ok (.invokevirtual 68, 3) := by decide +kernel
theorem dX5_choose_14 : decode cX5_choose 14 = .ok (.ifCond .eq 4, 3) := by decide +kernel
theorem dX5_choose_17 : decode cX5_choose 17 = .ok (.return_, 1) := by decide +kernel
theorem dX5_choose_18 : decode cX5_choose 18 = .ok (.iload_n 1, 1) := by decide +kernel
theorem dX5_choose_19 : decode cX5_choose 19 = .ok (.aload_n 0, 1) := by decide +kernel
theorem dX5_choose_20 : decode cX5_choose 20 = .ok (.getfield 33, 3) := by decide +kernel
theorem dX5_choose_23 : decode cX5_choose 23 = .ok (.if_icmp .lt 15, 3) := by decide +kernel
theorem dX5_choose_26 : decode cX5_choose 26 = .ok (.aload_n 0, 1) := by decide +kernel
theorem dX5_choose_27 : decode cX5_choose 27 = .ok (.iload_n 3, 1) := by decide +kernel
theorem dX5_choose_28 : decode cX5_choose 28 = .ok (.putfield 47, 3) := by decide +kernel
theorem dX5_choose_31 : decode cX5_choose 31 = .ok (.aload_n 0, 1) := by decide +kernel
theorem dX5_choose_32 : decode cX5_choose 32 = .ok (.iload 4, 2) := by decide +kernel
theorem dX5_choose_34 : decode cX5_choose 34 = .ok (.putfield 50, 3) := by decide +kernel
theorem dX5_choose_37 : decode cX5_choose 37 = .ok (.return_, 1) := by decide +kernel
theorem dX5_choose_38 : decode cX5_choose 38 = .ok (.aload_n 0, 1) := by decide +kernel
theorem dX5_choose_39 : decode cX5_choose 39 = .ok (.iload_n 1, 1) := by decide +kernel
theorem dX5_choose_40 : decode cX5_choose 40 = .ok (.iload_n 2, 1) := by decide +kernel
theorem dX5_choose_41 : decode cX5_choose 41 = .ok (.invokevirtual 72, 3) := by decide +kernel
theorem dX5_choose_44 : decode cX5_choose 44 = .ok (.istore 5, 2) := by decide +kernel
theorem dX5_choose_46 : decode cX5_choose 46 = .ok (.iconst 0, 1) := by decide +kernel
theorem dX5_choose_47 : decode cX5_choose 47 = .ok (.istore 6, 2) := by decide +kernel
theorem dX5_choose_49 : decode cX5_choose 49 = .ok (.iload 6, 2) := by decide +kernel
theorem dX5_choose_51 : decode cX5_choose 51 = .ok (.aload_n 0, 1) := by decide +kernel
theorem dX5_choose_52 : decode cX5_choose 52 = .ok (.getfield 33, 3) := by decide +kernel
theorem dX5_choose_55 : decode cX5_choose 55 = .ok (.if_icmp .ge 68, 3) := by decide +kernel
theorem dX5_choose_58 : decode cX5_choose 58 = .ok (.iconst 1, 1) := by decide +kernel
theorem dX5_choose_59 : decode cX5_choose 59 = .ok (.iload 6, 2) := by decide +kernel
theorem dX5_choose_61 : decode cX5_choose 61 = .ok (.ishl, 1) := by decide +kernel
theorem dX5_choose_62 : decode cX5_choose 62 = .ok (.istore 7, 2) := by decide +kernel
theorem dX5_choose_64 : decode cX5_choose 64 = .ok (.iload_n 2, 1) := by decide +kernel
theorem dX5_choose_65 : decode cX5_choose 65 = .ok (.iload 7, 2) := by decide +kernel
theorem dX5_choose_67 : decode cX5_choose 67 = .ok (.iand, 1) := by decide +kernel
theorem dX5_choose_68 : decode cX5_choose 68 = .ok (.ifCond .ne 49, 3) := by decide +kernel
theorem dX5_choose_71 : decode cX5_choose 71 = .ok (.aload_n 0, 1) := by decide +kernel
theorem dX5_choose_72 : decode cX5_choose 72 = .ok (.getfield 18, 3) := by decide +kernel
theorem dX5_choose_75 : decode cX5_choose 75 = .ok (.iload_n 1, 1) := by decide +kernel
theorem dX5_choose_76 : decode cX5_choose 76 = .ok (.iload 7, 2) := by decide +kernel
theorem dX5_choose_78 : decode cX5_choose 78 = .ok (.invokestatic 64, 3) := by decide +kernel
theorem dX5_choose_81 : decode cX5_choose 81 = .ok (.iload_n 2, 1) := by decide +kernel
theorem dX5_choose_82 : decode cX5_choose 82 = .ok (.iload 6, 2) := by decide +kernel
theorem dX5_choose_84 : decode cX5_choose 84 = .ok (.ishr, 1) := by decide +kernel
theorem dX5_choose_85 : decode cX5_choose 85 = .ok (.invokestatic 75, 3) := by decide +kernel
theorem dX5_choose_88 : decode cX5_choose 88 = .ok (.istore 8, 2) := by decide +kernel
theorem dX5_choose_90 : decode cX5_choose 90 = .ok (.aload_n 0, 1) := by decide +kernel
theorem dX5_choose_91 : decode cX5_choose 91 = .ok (.iload_n 1, 1) := by decide +kernel
theorem dX5_choose_92 : decode cX5_choose 92 = .ok (.iconst 1, 1) := by decide +kernel
theorem dX5_choose_93 : decode cX5_choose 93 = .ok (.iadd, 1) := by decide +kernel
theorem dX5_choose_94 : decode cX5_choose 94 = .ok (.iload_n 2, 1) := by decide +kernel
theorem dX5_choose_95 : decode cX5_choose 95 = .ok (.iload 7, 2) := by decide +kernel
theorem dX5_choose_97 : decode cX5_choose 97 = .ok (.ior, 1) := by decide +kernel
theorem dX5_choose_98 : decode cX5_choose 98 = .ok (.iload_n 3, 1) := by decide +kernel
theorem dX5_choose_99 : decode cX5_choose 99 = .ok (.aload_n 0, 1) := by decide +kernel
theorem dX5_choose_100 : decode cX5_choose 100 = .ok (.iload 6, 2) := by decide +kernel
theorem dX5_choose_102 : decode cX5_choose 102 = .ok (.iload_n 1, 1) := by decide +kernel
theorem dX5_choose_103 : decode cX5_choose 103 = .ok (.iload 5, 2) := by decide +kernel
theorem dX5_choose_105 : decode cX5_choose 105 = .ok (.invokevirtual 80, 3) := by decide +kernel
theorem dX5_choose_108 : decode cX5_choose 108 = .ok (.iadd, 1) := by decide +kernel
theorem dX5_choose_109 : decode cX5_choose 109 = .ok (.iload 4, 2) := by decide +kernel
theorem dX5_choose_111 : decode cX5_choose 111 = .ok (.iload 8, 2) := by decide +kernel
theorem dX5_choose_113 : decode cX5_choose 113 = .ok (.iadd, 1) := by decide +kernel
theorem dX5_choose_114 : decode cX5_choose 114 = .ok (.invokevirtual 53, 3) := by decide +kernel
theorem dX5_choose_117 : decode cX5_choose 117 = .ok (.iinc 6 1, 3) := by decide +kernel
theorem dX5_choose_120 : decode cX5_choose 120 = .ok (.goto (-71), 3) := by decide +kernel
theorem dX5_choose_123 : decode cX5_choose 123 = .ok (.return_, 1) := by decide +kernel
theorem dX5_cannotBeBetter_0 : decode cX5_cannotBeBetter 0 = .ok (.iload_n 1, 1) := by decide +kernel
theorem dX5_cannotBeBetter_1 : decode cX5_cannotBeBetter 1 = .ok (.aload_n 0, 1) := by decide +kernel
theorem dX5_cannotBeBetter_2 : decode cX5_cannotBeBetter 2 = .ok (.getfield 47, 3) := by decide +kernel
theorem dX5_cannotBeBetter_5 : decode cX5_cannotBeBetter 5 = .ok (.if_icmp .lt 19, 3) := by decide +kernel
theorem dX5_cannotBeBetter_8 : decode cX5_cannotBeBetter 8 = .ok (.iload_n 1, 1) := by decide +kernel
theorem dX5_cannotBeBetter_9 : decode cX5_cannotBeBetter 9 = .ok (.aload_n 0, 1) := by decide +kernel
theorem dX5_cannotBeBetter_10 : decode cX5_cannotBeBetter 10 = .ok (.getfield 47, 3) := by decide +kernel
theorem dX5_cannotBeBetter_13 : decode cX5_cannotBeBetter 13 = .ok (.if_icmp .ne 15, 3) := by decide +kernel
theorem dX5_cannotBeBetter_16 : decode cX5_cannotBeBetter 16 = .ok (.iload_n 2, 1) := by decide +kernel
theorem dX5_cannotBeBetter_17 : decode cX5_cannotBeBetter 17 = .ok (.aload_n 0, 1) := by decide +kernel
theorem dX5_cannotBeBetter_18 : decode cX5_cannotBeBetter 18 = .ok (.getfield 50, 3) := by decide +kernel
theorem dX5_cannotBeBetter_21 : decode cX5_cannotBeBetter 21 = .ok (.if_icmp .lt 7, 3) := by decide +kernel
theorem dX5_cannotBeBetter_24 : decode cX5_cannotBeBetter 24 = .ok (.iconst 1, 1) := by decide +kernel
theorem dX5_cannotBeBetter_25 : decode cX5_cannotBeBetter 25 = .ok (.goto 4, 3) := by decide +kernel
theorem dX5_cannotBeBetter_28 : decode cX5_cannotBeBetter 28 = .ok (.iconst 0, 1) := by decide +kernel
theorem dX5_cannotBeBetter_29 : decode cX5_cannotBeBetter 29 = .ok (.ireturn, 1) := by decide +kernel
theorem dX5_heardAt_0 : decode cX5_heardAt 0 = .ok (.iload_n 2, 1) := by decide +kernel
theorem dX5_heardAt_1 : decode cX5_heardAt 1 = .ok (.istore_n 3, 1) := by decide +kernel
theorem dX5_heardAt_2 : decode cX5_heardAt 2 = .ok (.iconst 0, 1) := by decide +kernel
theorem dX5_heardAt_3 : decode cX5_heardAt 3 = .ok (.istore 4, 2) := by decide +kernel
theorem dX5_heardAt_5 : decode cX5_heardAt 5 = .ok (.iload 4, 2) := by decide +kernel
theorem dX5_heardAt_7 : decode cX5_heardAt 7 = .ok (.iload_n 1, 1) := by decide +kernel
theorem dX5_heardAt_8 : decode cX5_heardAt 8 = .ok (.aload_n 0, 1) := by decide +kernel
theorem dX5_heardAt_9 : decode cX5_heardAt 9 = .ok (.getfield 40, 3) := by decide +kernel
theorem dX5_heardAt_12 : decode cX5_heardAt 12 = .ok (.isub, 1) := by decide +kernel
theorem dX5_heardAt_13 : decode cX5_heardAt 13 = .ok (.if_icmp .ge 23, 3) := by decide +kernel
theorem dX5_heardAt_16 : decode cX5_heardAt 16 = .ok (.iload_n 3, 1) := by decide +kernel
theorem dX5_heardAt_17 : decode cX5_heardAt 17 = .ok (.aload_n 0, 1) := by decide +kernel
theorem dX5_heardAt_18 : decode cX5_heardAt 18 = .ok (.getfield 18, 3) := by decide +kernel
theorem dX5_heardAt_21 : decode cX5_heardAt 21 = .ok (.iload 4, 2) := by decide +kernel
theorem dX5_heardAt_23 : decode cX5_heardAt 23 = .ok (.invokestatic 83, 3) := by decide +kernel
theorem dX5_heardAt_26 : decode cX5_heardAt 26 = .ok (.iconst (-1), 1) := by decide +kernel
theorem dX5_heardAt_27 : decode cX5_heardAt 27 = .ok (.ixor, 1) := by decide +kernel
theorem dX5_heardAt_28 : decode cX5_heardAt 28 = .ok (.iand, 1) := by decide +kernel
theorem dX5_heardAt_29 : decode cX5_heardAt 29 = .ok (.istore_n 3, 1) := by decide +kernel
theorem dX5_heardAt_30 : decode cX5_heardAt 30 = .ok (.iinc 4 1, 3) := by decide +kernel
theorem dX5_heardAt_33 : decode cX5_heardAt 33 = .ok (.goto (-28), 3) := by decide +kernel
theorem dX5_heardAt_36 : decode cX5_heardAt 36 = .ok (.iload_n 3, 1) := by decide +kernel
theorem dX5_heardAt_37 : decode cX5_heardAt 37 = .ok (.ireturn, 1) := by decide +kernel
theorem dX5_parityOf_0 : decode cX5_parityOf 0 = .ok (.aload_n 0, 1) := by decide +kernel
theorem dX5_parityOf_1 : decode cX5_parityOf 1 = .ok (.getfield 9, 3) := by decide +kernel
theorem dX5_parityOf_4 : decode cX5_parityOf 4 = .ok (.iload_n 1, 1) := by decide +kernel
theorem dX5_parityOf_5 : decode cX5_parityOf 5 = .ok (.invokestatic 83, 3) := by decide +kernel
theorem dX5_parityOf_8 : decode cX5_parityOf 8 = .ok (.iload_n 3, 1) := by decide +kernel
theorem dX5_parityOf_9 : decode cX5_parityOf 9 = .ok (.iand, 1) := by decide +kernel
theorem dX5_parityOf_10 : decode cX5_parityOf 10 = .ok (.invokestatic 75, 3) := by decide +kernel
theorem dX5_parityOf_13 : decode cX5_parityOf 13 = .ok (.istore 4, 2) := by decide +kernel
theorem dX5_parityOf_15 : decode cX5_parityOf 15 = .ok (.iload 4, 2) := by decide +kernel
theorem dX5_parityOf_17 : decode cX5_parityOf 17 = .ok (.aload_n 0, 1) := by decide +kernel
theorem dX5_parityOf_18 : decode cX5_parityOf 18 = .ok (.getfield 15, 3) := by decide +kernel
theorem dX5_parityOf_21 : decode cX5_parityOf 21 = .ok (.iload_n 1, 1) := by decide +kernel
theorem dX5_parityOf_22 : decode cX5_parityOf 22 = .ok (.invokestatic 83, 3) := by decide +kernel
theorem dX5_parityOf_25 : decode cX5_parityOf 25 = .ok (.iload_n 2, 1) := by decide +kernel
theorem dX5_parityOf_26 : decode cX5_parityOf 26 = .ok (.ishr, 1) := by decide +kernel
theorem dX5_parityOf_27 : decode cX5_parityOf 27 = .ok (.iadd, 1) := by decide +kernel
theorem dX5_parityOf_28 : decode cX5_parityOf 28 = .ok (.iconst 1, 1) := by decide +kernel
theorem dX5_parityOf_29 : decode cX5_parityOf 29 = .ok (.iand, 1) := by decide +kernel
theorem dX5_parityOf_30 : decode cX5_parityOf 30 = .ok (.ireturn, 1) := by decide +kernel
theorem dX6_init_0 : decode cX6_init 0 = .ok (.aload_n 0, 1) := by decide +kernel
theorem dX6_init_1 : decode cX6_init 1 = .ok (.invokespecial 3, 3) := by decide +kernel
theorem dX6_init_4 : decode cX6_init 4 = .ok (.aload_n 0, 1) := by decide +kernel
theorem dX6_init_5 : decode cX6_init 5 = .ok (.new 9, 3) := by decide +kernel
theorem dX6_init_8 : decode cX6_init 8 = .ok (.dup, 1) := by decide +kernel
theorem dX6_init_9 : decode cX6_init 9 = .ok (.invokespecial 11, 3) := by decide +kernel
theorem dX6_init_12 : decode cX6_init 12 = .ok (.putfield 12, 3) := by decide +kernel
theorem dX6_init_15 : decode cX6_init 15 = .ok (.aload_n 0, 1) := by decide +kernel
theorem dX6_init_16 : decode cX6_init 16 = .ok (.new 9, 3) := by decide +kernel
theorem dX6_init_19 : decode cX6_init 19 = .ok (.dup, 1) := by decide +kernel
theorem dX6_init_20 : decode cX6_init 20 = .ok (.invokespecial 11, 3) := by decide +kernel
theorem dX6_init_23 : decode cX6_init 23 = .ok (.putfield 16, 3) := by decide +kernel
theorem dX6_init_26 : decode cX6_init 26 = .ok (.aload_n 0, 1) := by decide +kernel
theorem dX6_init_27 : decode cX6_init 27 = .ok (.new 9, 3) := by decide +kernel
theorem dX6_init_30 : decode cX6_init 30 = .ok (.dup, 1) := by decide +kernel
theorem dX6_init_31 : decode cX6_init 31 = .ok (.invokespecial 11, 3) := by decide +kernel
theorem dX6_init_34 : decode cX6_init 34 = .ok (.putfield 19, 3) := by decide +kernel
theorem dX6_init_37 : decode cX6_init 37 = .ok (.aload_n 0, 1) := by decide +kernel
theorem dX6_init_38 : decode cX6_init 38 = .ok (.iconst 0, 1) := by decide +kernel
theorem dX6_init_39 : decode cX6_init 39 = .ok (.putfield 22, 3) := by decide +kernel
theorem dX6_init_42 : decode cX6_init 42 = .ok (.aload_n 0, 1) := by decide +kernel
theorem dX6_init_43 : decode cX6_init 43 = .ok (.new 26, 3) := by decide +kernel
theorem dX6_init_46 : decode cX6_init 46 = .ok (.dup, 1) := by decide +kernel
theorem dX6_init_47 : decode cX6_init 47 = .ok (.invokespecial 28, 3) := by decide +kernel
theorem dX6_init_50 : decode cX6_init 50 = .ok (.putfield 29, 3) := by decide +kernel
theorem dX6_init_53 : decode cX6_init 53 = .ok (.aload_n 0, 1) := by decide +kernel
theorem dX6_init_54 : decode cX6_init 54 = .ok (.new 33, 3) := by decide +kernel
theorem dX6_init_57 : decode cX6_init 57 = .ok (.dup, 1) := by decide +kernel
theorem dX6_init_58 : decode cX6_init 58 = .ok (.invokespecial 35, 3) := by decide +kernel
theorem dX6_init_61 : decode cX6_init 61 = .ok (.putfield 36, 3) := by decide +kernel
theorem dX6_init_64 : decode cX6_init 64 = .ok (.aload_n 0, 1) := by decide +kernel
theorem dX6_init_65 : decode cX6_init 65 = .ok (.new 40, 3) := by decide +kernel
theorem dX6_init_68 : decode cX6_init 68 = .ok (.dup, 1) := by decide +kernel
theorem dX6_init_69 : decode cX6_init 69 = .ok (.invokespecial 42, 3) := by decide +kernel
theorem dX6_init_72 : decode cX6_init 72 = .ok (.putfield 43, 3) := by decide +kernel
theorem dX6_init_75 : decode cX6_init 75 = .ok (.aload_n 0, 1) := by decide +kernel
theorem dX6_init_76 : decode cX6_init 76 = .ok (.new 47, 3) := by decide +kernel
theorem dX6_init_79 : decode cX6_init 79 = .ok (.dup, 1) := by decide +kernel
theorem dX6_init_80 : decode cX6_init 80 = .ok (.invokespecial 49, 3) := by decide +kernel
theorem dX6_init_83 : decode cX6_init 83 = .ok (.putfield 50, 3) := by decide +kernel
theorem dX6_init_86 : decode cX6_init 86 = .ok (.return_, 1) := by decide +kernel
theorem dX6_join_0 : decode cX6_join 0 = .ok (.iload_n 1, 1) := by decide +kernel
theorem dX6_join_1 : decode cX6_join 1 = .ok (.invokestatic 54, 3) := by decide +kernel
theorem dX6_join_4 : decode cX6_join 4 = .ok (.iload_n 2, 1) := by decide +kernel
theorem dX6_join_5 : decode cX6_join 5 = .ok (.invokestatic 58, 3) := by decide +kernel
theorem dX6_join_8 : decode cX6_join 8 = .ok (.iload_n 3, 1) := by decide +kernel
theorem dX6_join_9 : decode cX6_join 9 = .ok (.iconst 0, 1) := by decide +kernel
theorem dX6_join_10 : decode cX6_join 10 = .ok (.iconst 3, 1) := by decide +kernel
theorem dX6_join_11 : decode cX6_join 11 = .ok (.invokestatic 61, 3) := by decide +kernel
theorem dX6_join_14 : decode cX6_join 14 = .ok (.invokestatic 65, 3) := by decide +kernel
theorem dX6_join_17 : decode cX6_join 17 = .ok (.aload_n 0, 1) := by decide +kernel
theorem dX6_join_18 : decode cX6_join 18 = .ok (.getfield 12, 3) := by decide +kernel
theorem dX6_join_21 : decode cX6_join 21 = .ok (.iload_n 1, 1) := by decide +kernel
theorem dX6_join_22 : decode cX6_join 22 = .ok (.invokevirtual 69, 3) := by decide +kernel
theorem dX6_join_25 : decode cX6_join 25 = .ok (.invokestatic 73, 3) := by decide +kernel
theorem dX6_join_28 : decode cX6_join 28 = .ok (.aload_n 0, 1) := by decide +kernel
theorem dX6_join_29 : decode cX6_join 29 = .ok (.getfield 29, 3) := by decide +kernel
theorem dX6_join_32 : decode cX6_join 32 = .ok (.aload_n 0, 1) := by decide +kernel
theorem dX6_join_33 : decode cX6_join 33 = .ok (.getfield 12, 3) := by decide +kernel
theorem dX6_join_36 : decode cX6_join 36 = .ok (.invokevirtual 76, 3) := by decide +kernel
theorem dX6_join_39 : decode cX6_join 39 = .ok (.aload_n 0, 1) := by decide +kernel
theorem dX6_join_40 : decode cX6_join 40 = .ok (.getfield 12, 3) := by decide +kernel
theorem dX6_join_43 : decode cX6_join 43 = .ok (.iload_n 1, 1) := by decide +kernel
theorem dX6_join_44 : decode cX6_join 44 = .ok (.iload_n 2, 1) := by decide +kernel
theorem dX6_join_45 : decode cX6_join 45 = .ok (.iload_n 3, 1) := by decide +kernel
theorem dX6_join_46 : decode cX6_join 46 = .ok (.invokevirtual 80, 3) := by decide +kernel
theorem dX6_join_49 : decode cX6_join 49 = .ok (.ireturn, 1) := by decide +kernel
theorem dX6_leave_0 : decode cX6_leave 0 = .ok (.aload_n 0, 1) := by decide +kernel
theorem dX6_leave_1 : decode cX6_leave 1 = .ok (.iload_n 1, 1) := by decide +kernel
theorem dX6_leave_2 : decode cX6_leave 2 = .ok (.iload_n 2, 1) := by decide +kernel
theorem dX6_leave_3 : decode cX6_leave 3 = .ok (.invokevirtual 84, 3) := by decide +kernel
theorem dX6_leave_6 : decode cX6_leave 6 = .ok (.aload_n 0, 1) := by decide +kernel
theorem dX6_leave_7 : decode cX6_leave 7 = .ok (.getfield 29, 3) := by decide +kernel
theorem dX6_leave_10 : decode cX6_leave 10 = .ok (.aload_n 0, 1) := by decide +kernel
theorem dX6_leave_11 : decode cX6_leave 11 = .ok (.getfield 12, 3) := by decide +kernel
theorem dX6_leave_14 : decode cX6_leave 14 = .ok (.invokevirtual 76, 3) := by decide +kernel
theorem dX6_leave_17 : decode cX6_leave 17 = .ok (.aload_n 0, 1) := by decide +kernel
theorem dX6_leave_18 : decode cX6_leave 18 = .ok (.getfield 12, 3) := by decide +kernel
theorem dX6_leave_21 : decode cX6_leave 21 = .ok (.iload_n 1, 1) := by decide +kernel
theorem dX6_leave_22 : decode cX6_leave 22 = .ok (.iload_n 2, 1) := by decide +kernel
theorem dX6_leave_23 : decode cX6_leave 23 = .ok (.invokevirtual 88, 3) := by decide +kernel
theorem dX6_leave_26 : decode cX6_leave 26 = .ok (.ireturn, 1) := by decide +kernel
theorem dX6_grow_0 : decode cX6_grow 0 = .ok (.aload_n 0, 1) := by decide +kernel
theorem dX6_grow_1 : decode cX6_grow 1 = .ok (.iload_n 1, 1) := by decide +kernel
theorem dX6_grow_2 : decode cX6_grow 2 = .ok (.iload_n 2, 1) := by decide +kernel
theorem dX6_grow_3 : decode cX6_grow 3 = .ok (.invokevirtual 84, 3) := by decide +kernel
theorem dX6_grow_6 : decode cX6_grow 6 = .ok (.iload_n 3, 1) := by decide +kernel
theorem dX6_grow_7 : decode cX6_grow 7 = .ok (.invokestatic 58, 3) := by decide +kernel
theorem dX6_grow_10 : decode cX6_grow 10 = .ok (.aload_n 0, 1) := by decide +kernel
theorem dX6_grow_11 : decode cX6_grow 11 = .ok (.getfield 29, 3) := by decide +kernel
theorem dX6_grow_14 : decode cX6_grow 14 = .ok (.aload_n 0, 1) := by decide +kernel
theorem dX6_grow_15 : decode cX6_grow 15 = .ok (.getfield 12, 3) := by decide +kernel
theorem dX6_grow_18 : decode cX6_grow 18 = .ok (.invokevirtual 76, 3) := by decide +kernel
theorem dX6_grow_21 : decode cX6_grow 21 = .ok (.aload_n 0, 1) := by decide +kernel
theorem dX6_grow_22 : decode cX6_grow 22 = .ok (.getfield 12, 3) := by decide +kernel
theorem dX6_grow_25 : decode cX6_grow 25 = .ok (.iload_n 1, 1) := by decide +kernel
theorem dX6_grow_26 : decode cX6_grow 26 = .ok (.iload_n 2, 1) := by decide +kernel
theorem dX6_grow_27 : decode cX6_grow 27 = .ok (.invokevirtual 92, 3) := by decide +kernel
theorem dX6_grow_30 : decode cX6_grow 30 = .ok (.istore 4, 2) := by decide +kernel
theorem dX6_grow_32 : decode cX6_grow 32 = .ok (.aload_n 0, 1) := by decide +kernel
theorem dX6_grow_33 : decode cX6_grow 33 = .ok (.getfield 12, 3) := by decide +kernel
theorem dX6_grow_36 : decode cX6_grow 36 = .ok (.iload_n 1, 1) := by decide +kernel
theorem dX6_grow_37 : decode cX6_grow 37 = .ok (.iload_n 2, 1) := by decide +kernel
theorem dX6_grow_38 : decode cX6_grow 38 = .ok (.iload_n 3, 1) := by decide +kernel
theorem dX6_grow_39 : decode cX6_grow 39 = .ok (.invokevirtual 95, 3) := by decide +kernel
theorem dX6_grow_42 : decode cX6_grow 42 = .ok (.iload 4, 2) := by decide +kernel
theorem dX6_grow_44 : decode cX6_grow 44 = .ok (.ireturn, 1) := by decide +kernel
theorem dX6_swap_0 : decode cX6_swap 0 = .ok (.aload_n 0, 1) := by decide +kernel
theorem dX6_swap_1 : decode cX6_swap 1 = .ok (.iload_n 1, 1) := by decide +kernel
theorem dX6_swap_2 : decode cX6_swap 2 = .ok (.iload_n 2, 1) := by decide +kernel
theorem dX6_swap_3 : decode cX6_swap 3 = .ok (.invokevirtual 84, 3) := by decide +kernel
theorem dX6_swap_6 : decode cX6_swap 6 = .ok (.aload_n 0, 1) := by decide +kernel
theorem dX6_swap_7 : decode cX6_swap 7 = .ok (.iload_n 3, 1) := by decide +kernel
theorem dX6_swap_8 : decode cX6_swap 8 = .ok (.iload 4, 2) := by decide +kernel
theorem dX6_swap_10 : decode cX6_swap 10 = .ok (.invokevirtual 84, 3) := by decide +kernel
theorem dX6_swap_13 : decode cX6_swap 13 = .ok (.aload_n 0, 1) := by decide +kernel
theorem dX6_swap_14 : decode cX6_swap 14 = .ok (.getfield 29, 3) := by decide +kernel
theorem dX6_swap_17 : decode cX6_swap 17 = .ok (.aload_n 0, 1) := by decide +kernel
theorem dX6_swap_18 : decode cX6_swap 18 = .ok (.getfield 12, 3) := by decide +kernel
theorem dX6_swap_21 : decode cX6_swap 21 = .ok (.invokevirtual 76, 3) := by decide +kernel
theorem dX6_swap_24 : decode cX6_swap 24 = .ok (.aload_n 0, 1) := by decide +kernel
theorem dX6_swap_25 : decode cX6_swap 25 = .ok (.getfield 12, 3) := by decide +kernel
theorem dX6_swap_28 : decode cX6_swap 28 = .ok (.iload_n 1, 1) := by decide +kernel
theorem dX6_swap_29 : decode cX6_swap 29 = .ok (.iload_n 2, 1) := by decide +kernel
theorem dX6_swap_30 : decode cX6_swap 30 = .ok (.iload_n 3, 1) := by decide +kernel
theorem dX6_swap_31 : decode cX6_swap 31 = .ok (.iload 4, 2) := by decide +kernel
theorem dX6_swap_33 : decode cX6_swap 33 = .ok (.invokevirtual 99, 3) := by decide +kernel
theorem dX6_swap_36 : decode cX6_swap 36 = .ok (.aload_n 0, 1) := by decide +kernel
theorem dX6_swap_37 : decode cX6_swap 37 = .ok (.getfield 12, 3) := by decide +kernel
theorem dX6_swap_40 : decode cX6_swap 40 = .ok (.invokevirtual 103, 3) := by decide +kernel
theorem dX6_swap_43 : decode cX6_swap 43 = .ok (.ireturn, 1) := by decide +kernel
theorem dX6_cross_0 : decode cX6_cross 0 = .ok (.aload_n 0, 1) := by decide +kernel
theorem dX6_cross_1 : decode cX6_cross 1 = .ok (.iload_n 1, 1) := by decide +kernel
theorem dX6_cross_2 : decode cX6_cross 2 = .ok (.iload_n 2, 1) := by decide +kernel
theorem dX6_cross_3 : decode cX6_cross 3 = .ok (.invokevirtual 84, 3) := by decide +kernel
theorem dX6_cross_6 : decode cX6_cross 6 = .ok (.iload_n 3, 1) := by decide +kernel
theorem dX6_cross_7 : decode cX6_cross 7 = .ok (.invokestatic 54, 3) := by decide +kernel
theorem dX6_cross_10 : decode cX6_cross 10 = .ok (.iload_n 1, 1) := by decide +kernel
theorem dX6_cross_11 : decode cX6_cross 11 = .ok (.iload_n 3, 1) := by decide +kernel
theorem dX6_cross_12 : decode cX6_cross 12 = .ok (.if_icmp .eq 20, 3) := by decide +kernel
theorem dX6_cross_15 : decode cX6_cross 15 = .ok (.aload_n 0, 1) := by decide +kernel
theorem dX6_cross_16 : decode cX6_cross 16 = .ok (.getfield 12, 3) := by decide +kernel
theorem dX6_cross_19 : decode cX6_cross 19 = .ok (.iload_n 3, 1) := by decide +kernel
theorem dX6_cross_20 : decode cX6_cross 20 = .ok (.invokevirtual 107, 3) := by decide +kernel
theorem dX6_cross_23 : decode cX6_cross 23 = .ok (.bipush 6, 2) := by decide +kernel
theorem dX6_cross_25 : decode cX6_cross 25 = .ok (.if_icmp .ge 7, 3) := by decide +kernel
theorem dX6_cross_28 : decode cX6_cross 28 = .ok (.iconst 1, 1) := by decide +kernel
theorem dX6_cross_29 : decode cX6_cross 29 = .ok (.goto 4, 3) := by decide +kernel
theorem dX6_cross_32 : decode cX6_cross 32 = .ok (.iconst 0, 1) := by decide +kernel
theorem dX6_cross_33 : decode cX6_cross 33 = .ok (.invokestatic 73, 3) := by decide +kernel
theorem dX6_cross_36 : decode cX6_cross 36 = .ok (.aload_n 0, 1) := by decide +kernel
theorem dX6_cross_37 : decode cX6_cross 37 = .ok (.getfield 29, 3) := by decide +kernel
theorem dX6_cross_40 : decode cX6_cross 40 = .ok (.aload_n 0, 1) := by decide +kernel
theorem dX6_cross_41 : decode cX6_cross 41 = .ok (.getfield 12, 3) := by decide +kernel
theorem dX6_cross_44 : decode cX6_cross 44 = .ok (.invokevirtual 76, 3) := by decide +kernel
theorem dX6_cross_47 : decode cX6_cross 47 = .ok (.aload_n 0, 1) := by decide +kernel
theorem dX6_cross_48 : decode cX6_cross 48 = .ok (.getfield 12, 3) := by decide +kernel
theorem dX6_cross_51 : decode cX6_cross 51 = .ok (.iload_n 1, 1) := by decide +kernel
theorem dX6_cross_52 : decode cX6_cross 52 = .ok (.iload_n 2, 1) := by decide +kernel
theorem dX6_cross_53 : decode cX6_cross 53 = .ok (.iload_n 3, 1) := by decide +kernel
theorem dX6_cross_54 : decode cX6_cross 54 = .ok (.invokevirtual 111, 3) := by decide +kernel
theorem dX6_cross_57 : decode cX6_cross 57 = .ok (.ireturn, 1) := by decide +kernel
theorem dX6_turn_0 : decode cX6_turn 0 = .ok (.iload_n 1, 1) := by decide +kernel
theorem dX6_turn_1 : decode cX6_turn 1 = .ok (.invokestatic 54, 3) := by decide +kernel
theorem dX6_turn_4 : decode cX6_turn 4 = .ok (.aload_n 0, 1) := by decide +kernel
theorem dX6_turn_5 : decode cX6_turn 5 = .ok (.getfield 29, 3) := by decide +kernel
theorem dX6_turn_8 : decode cX6_turn 8 = .ok (.aload_n 0, 1) := by decide +kernel
theorem dX6_turn_9 : decode cX6_turn 9 = .ok (.getfield 12, 3) := by decide +kernel
theorem dX6_turn_12 : decode cX6_turn 12 = .ok (.invokevirtual 76, 3) := by decide +kernel
theorem dX6_turn_15 : decode cX6_turn 15 = .ok (.aload_n 0, 1) := by decide +kernel
theorem dX6_turn_16 : decode cX6_turn 16 = .ok (.getfield 12, 3) := by decide +kernel
theorem dX6_turn_19 : decode cX6_turn 19 = .ok (.iload_n 1, 1) := by decide +kernel
theorem dX6_turn_20 : decode cX6_turn 20 = .ok (.invokevirtual 114, 3) := by decide +kernel
theorem dX6_turn_23 : decode cX6_turn 23 = .ok (.aload_n 0, 1) := by decide +kernel
theorem dX6_turn_24 : decode cX6_turn 24 = .ok (.getfield 12, 3) := by decide +kernel
theorem dX6_turn_27 : decode cX6_turn 27 = .ok (.invokevirtual 103, 3) := by decide +kernel
theorem dX6_turn_30 : decode cX6_turn 30 = .ok (.ireturn, 1) := by decide +kernel
theorem dX6_sort_0 : decode cX6_sort 0 = .ok (.iload_n 1, 1) := by decide +kernel
theorem dX6_sort_1 : decode cX6_sort 1 = .ok (.invokestatic 54, 3) := by decide +kernel
theorem dX6_sort_4 : decode cX6_sort 4 = .ok (.iload_n 2, 1) := by decide +kernel
theorem dX6_sort_5 : decode cX6_sort 5 = .ok (.iconst 0, 1) := by decide +kernel
theorem dX6_sort_6 : decode cX6_sort 6 = .ok (.iconst 2, 1) := by decide +kernel
theorem dX6_sort_7 : decode cX6_sort 7 = .ok (.invokestatic 61, 3) := by decide +kernel
theorem dX6_sort_10 : decode cX6_sort 10 = .ok (.invokestatic 65, 3) := by decide +kernel
theorem dX6_sort_13 : decode cX6_sort 13 = .ok (.aload_n 0, 1) := by decide +kernel
theorem dX6_sort_14 : decode cX6_sort 14 = .ok (.getfield 29, 3) := by decide +kernel
theorem dX6_sort_17 : decode cX6_sort 17 = .ok (.aload_n 0, 1) := by decide +kernel
theorem dX6_sort_18 : decode cX6_sort 18 = .ok (.getfield 12, 3) := by decide +kernel
theorem dX6_sort_21 : decode cX6_sort 21 = .ok (.invokevirtual 76, 3) := by decide +kernel
theorem dX6_sort_24 : decode cX6_sort 24 = .ok (.aload_n 0, 1) := by decide +kernel
theorem dX6_sort_25 : decode cX6_sort 25 = .ok (.getfield 12, 3) := by decide +kernel
theorem dX6_sort_28 : decode cX6_sort 28 = .ok (.iload_n 1, 1) := by decide +kernel
theorem dX6_sort_29 : decode cX6_sort 29 = .ok (.iload_n 2, 1) := by decide +kernel
theorem dX6_sort_30 : decode cX6_sort 30 = .ok (.invokevirtual 117, 3) := by decide +kernel
theorem dX6_sort_33 : decode cX6_sort 33 = .ok (.aload_n 0, 1) := by decide +kernel
theorem dX6_sort_34 : decode cX6_sort 34 = .ok (.getfield 12, 3) := by decide +kernel
theorem dX6_sort_37 : decode cX6_sort 37 = .ok (.iload_n 1, 1) := by decide +kernel
theorem dX6_sort_38 : decode cX6_sort 38 = .ok (.invokevirtual 120, 3) := by decide +kernel
theorem dX6_sort_41 : decode cX6_sort 41 = .ok (.ireturn, 1) := by decide +kernel
theorem dX6_set_0 : decode cX6_set 0 = .ok (.iload_n 1, 1) := by decide +kernel
theorem dX6_set_1 : decode cX6_set 1 = .ok (.iconst 0, 1) := by decide +kernel
theorem dX6_set_2 : decode cX6_set 2 = .ok (.iconst 1, 1) := by decide +kernel
theorem dX6_set_3 : decode cX6_set 3 = .ok (.invokestatic 61, 3) := by decide +kernel
theorem dX6_set_6 : decode cX6_set 6 = .ok (.invokestatic 123, 3) := by decide +kernel
theorem dX6_set_9 : decode cX6_set 9 = .ok (.iload_n 1, 1) := by decide +kernel
theorem dX6_set_10 : decode cX6_set 10 = .ok (.ifCond .ne 13, 3) := by decide +kernel
theorem dX6_set_13 : decode cX6_set 13 = .ok (.iload_n 2, 1) := by decide +kernel
theorem dX6_set_14 : decode cX6_set 14 = .ok (.iconst 1, 1) := by decide +kernel
theorem dX6_set_15 : decode cX6_set 15 = .ok (.bipush 6, 2) := by decide +kernel
theorem dX6_set_17 : decode cX6_set 17 = .ok (.invokestatic 61, 3) := by decide +kernel
theorem dX6_set_20 : decode cX6_set 20 = .ok (.goto 9, 3) := by decide +kernel
theorem dX6_set_23 : decode cX6_set 23 = .ok (.iload_n 2, 1) := by decide +kernel
theorem dX6_set_24 : decode cX6_set 24 = .ok (.iconst 0, 1) := by decide +kernel
theorem dX6_set_25 : decode cX6_set 25 = .ok (.iconst 1, 1) := by decide +kernel
theorem dX6_set_26 : decode cX6_set 26 = .ok (.invokestatic 61, 3) := by decide +kernel
theorem dX6_set_29 : decode cX6_set 29 = .ok (.invokestatic 65, 3) := by decide +kernel
theorem dX6_set_32 : decode cX6_set 32 = .ok (.aload_n 0, 1) := by decide +kernel
theorem dX6_set_33 : decode cX6_set 33 = .ok (.getfield 29, 3) := by decide +kernel
theorem dX6_set_36 : decode cX6_set 36 = .ok (.aload_n 0, 1) := by decide +kernel
theorem dX6_set_37 : decode cX6_set 37 = .ok (.getfield 12, 3) := by decide +kernel
theorem dX6_set_40 : decode cX6_set 40 = .ok (.invokevirtual 76, 3) := by decide +kernel
theorem dX6_set_43 : decode cX6_set 43 = .ok (.aload_n 0, 1) := by decide +kernel
theorem dX6_set_44 : decode cX6_set 44 = .ok (.getfield 12, 3) := by decide +kernel
theorem dX6_set_47 : decode cX6_set 47 = .ok (.iload_n 1, 1) := by decide +kernel
theorem dX6_set_48 : decode cX6_set 48 = .ok (.invokevirtual 126, 3) := by decide +kernel
theorem dX6_set_51 : decode cX6_set 51 = .ok (.istore_n 3, 1) := by decide +kernel
theorem dX6_set_52 : decode cX6_set 52 = .ok (.aload_n 0, 1) := by decide +kernel
theorem dX6_set_53 : decode cX6_set 53 = .ok (.getfield 12, 3) := by decide +kernel
theorem dX6_set_56 : decode cX6_set 56 = .ok (.iload_n 1, 1) := by decide +kernel
theorem dX6_set_57 : decode cX6_set 57 = .ok (.iload_n 2, 1) := by decide +kernel
theorem dX6_set_58 : decode cX6_set 58 = .ok (.invokevirtual 129, 3) := by decide +kernel
theorem dX6_set_61 : decode cX6_set 61 = .ok (.iload_n 3, 1) := by decide +kernel
theorem dX6_set_62 : decode cX6_set 62 = .ok (.ireturn, 1) := by decide +kernel
theorem dX6_written_0 : decode cX6_written 0 = .ok (.iload_n 1, 1) := by decide +kernel
theorem dX6_written_1 : decode cX6_written 1 = .ok (.invokestatic 54, 3) := by decide +kernel
theorem dX6_written_4 : decode cX6_written 4 = .ok (.iload_n 2, 1) := by decide +kernel
theorem dX6_written_5 : decode cX6_written 5 = .ok (.ifCond .lt 7, 3) := by decide +kernel
theorem dX6_written_8 : decode cX6_written 8 = .ok (.iconst 1, 1) := by decide +kernel
theorem dX6_written_9 : decode cX6_written 9 = .ok (.goto 4, 3) := by decide +kernel
theorem dX6_written_12 : decode cX6_written 12 = .ok (.iconst 0, 1) := by decide +kernel
theorem dX6_written_13 : decode cX6_written 13 = .ok (.invokestatic 65, 3) := by decide +kernel
theorem dX6_written_16 : decode cX6_written 16 = .ok (.aload_n 0, 1) := by decide +kernel
theorem dX6_written_17 : decode cX6_written 17 = .ok (.getfield 12, 3) := by decide +kernel
theorem dX6_written_20 : decode cX6_written 20 = .ok (.iload_n 1, 1) := by decide +kernel
theorem dX6_written_21 : decode cX6_written 21 = .ok (.iload_n 2, 1) := by decide +kernel
theorem dX6_written_22 : decode cX6_written 22 = .ok (.invokevirtual 155, 3) := by decide +kernel
theorem dX6_written_25 : decode cX6_written 25 = .ok (.ireturn, 1) := by decide +kernel
theorem dX6_singer_0 : decode cX6_singer 0 = .ok (.aload_n 0, 1) := by decide +kernel
theorem dX6_singer_1 : decode cX6_singer 1 = .ok (.iload_n 1, 1) := by decide +kernel
theorem dX6_singer_2 : decode cX6_singer 2 = .ok (.iload_n 2, 1) := by decide +kernel
theorem dX6_singer_3 : decode cX6_singer 3 = .ok (.invokevirtual 84, 3) := by decide +kernel
theorem dX6_singer_6 : decode cX6_singer 6 = .ok (.iload_n 3, 1) := by decide +kernel
theorem dX6_singer_7 : decode cX6_singer 7 = .ok (.iconst 0, 1) := by decide +kernel
theorem dX6_singer_8 : decode cX6_singer 8 = .ok (.bipush 7, 2) := by decide +kernel
theorem dX6_singer_10 : decode cX6_singer 10 = .ok (.invokestatic 61, 3) := by decide +kernel
theorem dX6_singer_13 : decode cX6_singer 13 = .ok (.invokestatic 65, 3) := by decide +kernel
theorem dX6_singer_16 : decode cX6_singer 16 = .ok (.aload_n 0, 1) := by decide +kernel
theorem dX6_singer_17 : decode cX6_singer 17 = .ok (.iload_n 1, 1) := by decide +kernel
theorem dX6_singer_18 : decode cX6_singer 18 = .ok (.iload_n 2, 1) := by decide +kernel
theorem dX6_singer_19 : decode cX6_singer 19 = .ok (.iload_n 3, 1) := by decide +kernel
theorem dX6_singer_20 : decode cX6_singer 20 = .ok (.invokevirtual 168, 3) := by decide +kernel
theorem dX6_singer_23 : decode cX6_singer 23 = .ok (.ireturn, 1) := by decide +kernel
theorem dX6_row_0 : decode cX6_row 0 = .ok (.iload_n 1, 1) := by decide +kernel
theorem dX6_row_1 : decode cX6_row 1 = .ok (.invokestatic 54, 3) := by decide +kernel
theorem dX6_row_4 : decode cX6_row 4 = .ok (.iload_n 2, 1) := by decide +kernel
theorem dX6_row_5 : decode cX6_row 5 = .ok (.iconst 0, 1) := by decide +kernel
theorem dX6_row_6 : decode cX6_row 6 = .ok (.bipush 6, 2) := by decide +kernel
theorem dX6_row_8 : decode cX6_row 8 = .ok (.invokestatic 61, 3) := by decide +kernel
theorem dX6_row_11 : decode cX6_row 11 = .ok (.invokestatic 65, 3) := by decide +kernel
theorem dX6_row_14 : decode cX6_row 14 = .ok (.aload_n 0, 1) := by decide +kernel
theorem dX6_row_15 : decode cX6_row 15 = .ok (.iload_n 1, 1) := by decide +kernel
theorem dX6_row_16 : decode cX6_row 16 = .ok (.iload_n 2, 1) := by decide +kernel
theorem dX6_row_17 : decode cX6_row 17 = .ok (.invokevirtual 171, 3) := by decide +kernel
theorem dX6_row_20 : decode cX6_row 20 = .ok (.ireturn, 1) := by decide +kernel
theorem dX6_find_0 : decode cX6_find 0 = .ok (.iload_n 1, 1) := by decide +kernel
theorem dX6_find_1 : decode cX6_find 1 = .ok (.ifCond .lt 7, 3) := by decide +kernel
theorem dX6_find_4 : decode cX6_find 4 = .ok (.iconst 1, 1) := by decide +kernel
theorem dX6_find_5 : decode cX6_find 5 = .ok (.goto 4, 3) := by decide +kernel
theorem dX6_find_8 : decode cX6_find 8 = .ok (.iconst 0, 1) := by decide +kernel
theorem dX6_find_9 : decode cX6_find 9 = .ok (.invokestatic 65, 3) := by decide +kernel
theorem dX6_find_12 : decode cX6_find 12 = .ok (.aload_n 0, 1) := by decide +kernel
theorem dX6_find_13 : decode cX6_find 13 = .ok (.getfield 12, 3) := by decide +kernel
theorem dX6_find_16 : decode cX6_find 16 = .ok (.iload_n 1, 1) := by decide +kernel
theorem dX6_find_17 : decode cX6_find 17 = .ok (.invokevirtual 174, 3) := by decide +kernel
theorem dX6_find_20 : decode cX6_find 20 = .ok (.ireturn, 1) := by decide +kernel
theorem dX6_count_0 : decode cX6_count 0 = .ok (.iload_n 1, 1) := by decide +kernel
theorem dX6_count_1 : decode cX6_count 1 = .ok (.iconst 0, 1) := by decide +kernel
theorem dX6_count_2 : decode cX6_count 2 = .ok (.bipush 8, 2) := by decide +kernel
theorem dX6_count_4 : decode cX6_count 4 = .ok (.invokestatic 61, 3) := by decide +kernel
theorem dX6_count_7 : decode cX6_count 7 = .ok (.invokestatic 65, 3) := by decide +kernel
theorem dX6_count_10 : decode cX6_count 10 = .ok (.aload_n 0, 1) := by decide +kernel
theorem dX6_count_11 : decode cX6_count 11 = .ok (.iload_n 1, 1) := by decide +kernel
theorem dX6_count_12 : decode cX6_count 12 = .ok (.invokevirtual 177, 3) := by decide +kernel
theorem dX6_count_15 : decode cX6_count 15 = .ok (.ireturn, 1) := by decide +kernel
theorem dX6_ifSwapped_0 : decode cX6_ifSwapped 0 = .ok (.aload_n 0, 1) := by decide +kernel
theorem dX6_ifSwapped_1 : decode cX6_ifSwapped 1 = .ok (.iload_n 1, 1) := by decide +kernel
theorem dX6_ifSwapped_2 : decode cX6_ifSwapped 2 = .ok (.iload_n 2, 1) := by decide +kernel
theorem dX6_ifSwapped_3 : decode cX6_ifSwapped 3 = .ok (.invokevirtual 84, 3) := by decide +kernel
theorem dX6_ifSwapped_6 : decode cX6_ifSwapped 6 = .ok (.aload_n 0, 1) := by decide +kernel
theorem dX6_ifSwapped_7 : decode cX6_ifSwapped 7 = .ok (.iload_n 3, 1) := by decide +kernel
theorem dX6_ifSwapped_8 : decode cX6_ifSwapped 8 = .ok (.iload 4, 2) := by decide +kernel
theorem dX6_ifSwapped_10 : decode cX6_ifSwapped 10 = .ok (.invokevirtual 84, 3) := by decide +kernel
theorem dX6_ifSwapped_13 : decode cX6_ifSwapped 13 = .ok (.aload_n 0, 1) := by decide +kernel
theorem dX6_ifSwapped_14 : decode cX6_ifSwapped 14 = .ok (.getfield 16, 3) := by decide +kernel
theorem dX6_ifSwapped_17 : decode cX6_ifSwapped 17 = .ok (.aload_n 0, 1) := by decide +kernel
theorem dX6_ifSwapped_18 : decode cX6_ifSwapped 18 = .ok (.getfield 12, 3) := by decide +kernel
theorem dX6_ifSwapped_21 : decode cX6_ifSwapped 21 = .ok (.invokevirtual 162, 3) := by decide +kernel
theorem dX6_ifSwapped_24 : decode cX6_ifSwapped 24 = .ok (.aload_n 0, 1) := by decide +kernel
theorem dX6_ifSwapped_25 : decode cX6_ifSwapped 25 = .ok (.getfield 16, 3) := by decide +kernel
theorem dX6_ifSwapped_28 : decode cX6_ifSwapped 28 = .ok (.iload_n 1, 1) := by decide +kernel
theorem dX6_ifSwapped_29 : decode cX6_ifSwapped 29 = .ok (.iload_n 2, 1) := by decide +kernel
theorem dX6_ifSwapped_30 : decode cX6_ifSwapped 30 = .ok (.iload_n 3, 1) := by decide +kernel
theorem dX6_ifSwapped_31 : decode cX6_ifSwapped 31 = .ok (.iload 4, 2) := by decide +kernel
theorem dX6_ifSwapped_33 : decode cX6_ifSwapped 33 = .ok (.invokevirtual 180, 3) := by decide +kernel
theorem dX6_ifSwapped_36 : decode cX6_ifSwapped 36 = .ok (.aload_n 0, 1) := by decide +kernel
theorem dX6_ifSwapped_37 : decode cX6_ifSwapped 37 = .ok (.getfield 16, 3) := by decide +kernel
theorem dX6_ifSwapped_40 : decode cX6_ifSwapped 40 = .ok (.invokevirtual 103, 3) := by decide +kernel
theorem dX6_ifSwapped_43 : decode cX6_ifSwapped 43 = .ok (.ireturn, 1) := by decide +kernel
theorem dX6_bestSwap_0 : decode cX6_bestSwap 0 = .ok (.iload_n 1, 1) := by decide +kernel
theorem dX6_bestSwap_1 : decode cX6_bestSwap 1 = .ok (.invokestatic 54, 3) := by decide +kernel
theorem dX6_bestSwap_4 : decode cX6_bestSwap 4 = .ok (.aload_n 0, 1) := by decide +kernel
theorem dX6_bestSwap_5 : decode cX6_bestSwap 5 = .ok (.iload_n 1, 1) := by decide +kernel
theorem dX6_bestSwap_6 : decode cX6_bestSwap 6 = .ok (.invokevirtual 183, 3) := by decide +kernel
theorem dX6_bestSwap_9 : decode cX6_bestSwap 9 = .ok (.ireturn, 1) := by decide +kernel
theorem dX6_bestRow_0 : decode cX6_bestRow 0 = .ok (.iload_n 1, 1) := by decide +kernel
theorem dX6_bestRow_1 : decode cX6_bestRow 1 = .ok (.invokestatic 58, 3) := by decide +kernel
theorem dX6_bestRow_4 : decode cX6_bestRow 4 = .ok (.aload_n 0, 1) := by decide +kernel
theorem dX6_bestRow_5 : decode cX6_bestRow 5 = .ok (.iload_n 1, 1) := by decide +kernel
theorem dX6_bestRow_6 : decode cX6_bestRow 6 = .ok (.invokevirtual 186, 3) := by decide +kernel
theorem dX6_bestRow_9 : decode cX6_bestRow 9 = .ok (.ireturn, 1) := by decide +kernel
theorem dX6_ifReach_0 : decode cX6_ifReach 0 = .ok (.iload_n 1, 1) := by decide +kernel
theorem dX6_ifReach_1 : decode cX6_ifReach 1 = .ok (.iconst 1, 1) := by decide +kernel
theorem dX6_ifReach_2 : decode cX6_ifReach 2 = .ok (.bipush 6, 2) := by decide +kernel
theorem dX6_ifReach_4 : decode cX6_ifReach 4 = .ok (.invokestatic 61, 3) := by decide +kernel
theorem dX6_ifReach_7 : decode cX6_ifReach 7 = .ok (.invokestatic 65, 3) := by decide +kernel
theorem dX6_ifReach_10 : decode cX6_ifReach 10 = .ok (.aload_n 0, 1) := by decide +kernel
theorem dX6_ifReach_11 : decode cX6_ifReach 11 = .ok (.iload_n 1, 1) := by decide +kernel
theorem dX6_ifReach_12 : decode cX6_ifReach 12 = .ok (.invokevirtual 189, 3) := by decide +kernel
theorem dX6_ifReach_15 : decode cX6_ifReach 15 = .ok (.ireturn, 1) := by decide +kernel
theorem dX6_oddShare_0 : decode cX6_oddShare 0 = .ok (.aload_n 0, 1) := by decide +kernel
theorem dX6_oddShare_1 : decode cX6_oddShare 1 = .ok (.getfield 12, 3) := by decide +kernel
theorem dX6_oddShare_4 : decode cX6_oddShare 4 = .ok (.invokevirtual 165, 3) := by decide +kernel
theorem dX6_oddShare_7 : decode cX6_oddShare 7 = .ok (.istore_n 1, 1) := by decide +kernel
theorem dX6_oddShare_8 : decode cX6_oddShare 8 = .ok (.iload_n 1, 1) := by decide +kernel
theorem dX6_oddShare_9 : decode cX6_oddShare 9 = .ok (.ifCond .le 17, 3) := by decide +kernel
theorem dX6_oddShare_12 : decode cX6_oddShare 12 = .ok (.aload_n 0, 1) := by decide +kernel
theorem dX6_oddShare_13 : decode cX6_oddShare 13 = .ok (.getfield 12, 3) := by decide +kernel
theorem dX6_oddShare_16 : decode cX6_oddShare 16 = .ok (.invokevirtual 103, 3) := by decide +kernel
theorem dX6_oddShare_19 : decode cX6_oddShare 19 = .ok (.i2d, 1) := by decide +kernel
theorem dX6_oddShare_20 : decode cX6_oddShare 20 = .ok (.iload_n 1, 1) := by decide +kernel
theorem dX6_oddShare_21 : decode cX6_oddShare 21 = .ok (.i2d, 1) := by decide +kernel
theorem dX6_oddShare_22 : decode cX6_oddShare 22 = .ok (.ddiv, 1) := by decide +kernel
theorem dX6_oddShare_23 : decode cX6_oddShare 23 = .ok (.goto 4, 3) := by decide +kernel
theorem dX6_oddShare_26 : decode cX6_oddShare 26 = .ok (.dconst 1, 1) := by decide +kernel
theorem dX6_oddShare_27 : decode cX6_oddShare 27 = .ok (.dreturn, 1) := by decide +kernel
theorem dX6_needIndex_0 : decode cX6_needIndex 0 = .ok (.iload_n 0, 1) := by decide +kernel
theorem dX6_needIndex_1 : decode cX6_needIndex 1 = .ok (.ifCond .ne 11, 3) := by decide +kernel
theorem dX6_needIndex_4 : decode cX6_needIndex 4 = .ok (.new 217, 3) := by decide +kernel
theorem dX6_needIndex_7 : decode cX6_needIndex 7 = .ok (.dup, 1) := by decide +kernel
theorem dX6_needIndex_8 : decode cX6_needIndex 8 = .ok (.invokespecial 219, 3) := by decide +kernel
theorem dX6_needIndex_11 : decode cX6_needIndex 11 = .ok (.athrow, 1) := by decide +kernel
theorem dX6_needIndex_12 : decode cX6_needIndex 12 = .ok (.return_, 1) := by decide +kernel
theorem dX6_needArgument_0 : decode cX6_needArgument 0 = .ok (.iload_n 0, 1) := by decide +kernel
theorem dX6_needArgument_1 : decode cX6_needArgument 1 = .ok (.ifCond .ne 11, 3) := by decide +kernel
theorem dX6_needArgument_4 : decode cX6_needArgument 4 = .ok (.new 220, 3) := by decide +kernel
theorem dX6_needArgument_7 : decode cX6_needArgument 7 = .ok (.dup, 1) := by decide +kernel
theorem dX6_needArgument_8 : decode cX6_needArgument 8 = .ok (.invokespecial 222, 3) := by decide +kernel
theorem dX6_needArgument_11 : decode cX6_needArgument 11 = .ok (.athrow, 1) := by decide +kernel
theorem dX6_needArgument_12 : decode cX6_needArgument 12 = .ok (.return_, 1) := by decide +kernel
theorem dX6_needState_0 : decode cX6_needState 0 = .ok (.iload_n 0, 1) := by decide +kernel
theorem dX6_needState_1 : decode cX6_needState 1 = .ok (.ifCond .ne 11, 3) := by decide +kernel
theorem dX6_needState_4 : decode cX6_needState 4 = .ok (.new 223, 3) := by decide +kernel
theorem dX6_needState_7 : decode cX6_needState 7 = .ok (.dup, 1) := by decide +kernel
theorem dX6_needState_8 : decode cX6_needState 8 = .ok (.invokespecial 225, 3) := by decide +kernel
theorem dX6_needState_11 : decode cX6_needState 11 = .ok (.athrow, 1) := by decide +kernel
theorem dX6_needState_12 : decode cX6_needState 12 = .ok (.return_, 1) := by decide +kernel
theorem dX6_needRow_0 : decode cX6_needRow 0 = .ok (.iload_n 0, 1) := by decide +kernel
theorem dX6_needRow_1 : decode cX6_needRow 1 = .ok (.iconst 0, 1) := by decide +kernel
theorem dX6_needRow_2 : decode cX6_needRow 2 = .ok (.iconst 3, 1) := by decide +kernel
theorem dX6_needRow_3 : decode cX6_needRow 3 = .ok (.invokestatic 61, 3) := by decide +kernel
theorem dX6_needRow_6 : decode cX6_needRow 6 = .ok (.invokestatic 123, 3) := by decide +kernel
theorem dX6_needRow_9 : decode cX6_needRow 9 = .ok (.return_, 1) := by decide +kernel
theorem dX6_needSinger_0 : decode cX6_needSinger 0 = .ok (.aload_n 0, 1) := by decide +kernel
theorem dX6_needSinger_1 : decode cX6_needSinger 1 = .ok (.getfield 12, 3) := by decide +kernel
theorem dX6_needSinger_4 : decode cX6_needSinger 4 = .ok (.iload_n 1, 1) := by decide +kernel
theorem dX6_needSinger_5 : decode cX6_needSinger 5 = .ok (.iload_n 2, 1) := by decide +kernel
theorem dX6_needSinger_6 : decode cX6_needSinger 6 = .ok (.invokevirtual 226, 3) := by decide +kernel
theorem dX6_needSinger_9 : decode cX6_needSinger 9 = .ok (.invokestatic 123, 3) := by decide +kernel
theorem dX6_needSinger_12 : decode cX6_needSinger 12 = .ok (.return_, 1) := by decide +kernel
theorem dX6_needHeight_0 : decode cX6_needHeight 0 = .ok (.iload_n 0, 1) := by decide +kernel
theorem dX6_needHeight_1 : decode cX6_needHeight 1 = .ok (.bipush 100, 2) := by decide +kernel
theorem dX6_needHeight_3 : decode cX6_needHeight 3 = .ok (.sipush 220, 3) := by decide +kernel
theorem dX6_needHeight_6 : decode cX6_needHeight 6 = .ok (.invokestatic 61, 3) := by decide +kernel
theorem dX6_needHeight_9 : decode cX6_needHeight 9 = .ok (.invokestatic 65, 3) := by decide +kernel
theorem dX6_needHeight_12 : decode cX6_needHeight 12 = .ok (.return_, 1) := by decide +kernel
theorem dX6_isBetween_0 : decode cX6_isBetween 0 = .ok (.iload_n 0, 1) := by decide +kernel
theorem dX6_isBetween_1 : decode cX6_isBetween 1 = .ok (.iload_n 1, 1) := by decide +kernel
theorem dX6_isBetween_2 : decode cX6_isBetween 2 = .ok (.if_icmp .lt 12, 3) := by decide +kernel
theorem dX6_isBetween_5 : decode cX6_isBetween 5 = .ok (.iload_n 0, 1) := by decide +kernel
theorem dX6_isBetween_6 : decode cX6_isBetween 6 = .ok (.iload_n 2, 1) := by decide +kernel
theorem dX6_isBetween_7 : decode cX6_isBetween 7 = .ok (.if_icmp .gt 7, 3) := by decide +kernel
theorem dX6_isBetween_10 : decode cX6_isBetween 10 = .ok (.iconst 1, 1) := by decide +kernel
theorem dX6_isBetween_11 : decode cX6_isBetween 11 = .ok (.goto 4, 3) := by decide +kernel
theorem dX6_isBetween_14 : decode cX6_isBetween 14 = .ok (.iconst 0, 1) := by decide +kernel
theorem dX6_isBetween_15 : decode cX6_isBetween 15 = .ok (.ireturn, 1) := by decide +kernel
theorem dX6_readCell_0 : decode cX6_readCell 0 = .ok (.iload_n 1, 1) := by decide +kernel
theorem dX6_readCell_1 : decode cX6_readCell 1 = .ok (.ifCond .lt 15, 3) := by decide +kernel
theorem dX6_readCell_4 : decode cX6_readCell 4 = .ok (.iload_n 1, 1) := by decide +kernel
theorem dX6_readCell_5 : decode cX6_readCell 5 = .ok (.aload_n 0, 1) := by decide +kernel
theorem dX6_readCell_6 : decode cX6_readCell 6 = .ok (.arraylength, 1) := by decide +kernel
theorem dX6_readCell_7 : decode cX6_readCell 7 = .ok (.if_icmp .ge 9, 3) := by decide +kernel
theorem dX6_readCell_10 : decode cX6_readCell 10 = .ok (.aload_n 0, 1) := by decide +kernel
theorem dX6_readCell_11 : decode cX6_readCell 11 = .ok (.iload_n 1, 1) := by decide +kernel
theorem dX6_readCell_12 : decode cX6_readCell 12 = .ok (.iaload, 1) := by decide +kernel
theorem dX6_readCell_13 : decode cX6_readCell 13 = .ok (.goto 4, 3) := by decide +kernel
theorem dX6_readCell_16 : decode cX6_readCell 16 = .ok (.iconst (-1), 1) := by decide +kernel
theorem dX6_readCell_17 : decode cX6_readCell 17 = .ok (.ireturn, 1) := by decide +kernel
theorem dX6_writeCell_0 : decode cX6_writeCell 0 = .ok (.iload_n 1, 1) := by decide +kernel
theorem dX6_writeCell_1 : decode cX6_writeCell 1 = .ok (.ifCond .lt 13, 3) := by decide +kernel
theorem dX6_writeCell_4 : decode cX6_writeCell 4 = .ok (.iload_n 1, 1) := by decide +kernel
theorem dX6_writeCell_5 : decode cX6_writeCell 5 = .ok (.aload_n 0, 1) := by decide +kernel
theorem dX6_writeCell_6 : decode cX6_writeCell 6 = .ok (.arraylength, 1) := by decide +kernel
theorem dX6_writeCell_7 : decode cX6_writeCell 7 = .ok (.if_icmp .ge 7, 3) := by decide +kernel
theorem dX6_writeCell_10 : decode cX6_writeCell 10 = .ok (.aload_n 0, 1) := by decide +kernel
theorem dX6_writeCell_11 : decode cX6_writeCell 11 = .ok (.iload_n 1, 1) := by decide +kernel
theorem dX6_writeCell_12 : decode cX6_writeCell 12 = .ok (.iload_n 2, 1) := by decide +kernel
theorem dX6_writeCell_13 : decode cX6_writeCell 13 = .ok (.iastore, 1) := by decide +kernel
theorem dX6_writeCell_14 : decode cX6_writeCell 14 = .ok (.return_, 1) := by decide +kernel
theorem dX6_ofSinger_0 : decode cX6_ofSinger 0 = .ok (.iload_n 3, 1) := by decide +kernel
theorem dX6_ofSinger_1 : decode cX6_ofSinger 1 = .ok (.tableswitch 119 0 6 #[43, 53, 63, 73, 83, 93, 107], 43) := by decide +kernel
theorem dX6_ofSinger_44 : decode cX6_ofSinger 44 = .ok (.aload_n 0, 1) := by decide +kernel
theorem dX6_ofSinger_45 : decode cX6_ofSinger 45 = .ok (.getfield 12, 3) := by decide +kernel
theorem dX6_ofSinger_48 : decode cX6_ofSinger 48 = .ok (.iload_n 1, 1) := by decide +kernel
theorem dX6_ofSinger_49 : decode cX6_ofSinger 49 = .ok (.iload_n 2, 1) := by decide +kernel
theorem dX6_ofSinger_50 : decode cX6_ofSinger 50 = .ok (.invokevirtual 250, 3) := by decide +kernel
theorem dX6_ofSinger_53 : decode cX6_ofSinger 53 = .ok (.ireturn, 1) := by decide +kernel
theorem dX6_ofSinger_54 : decode cX6_ofSinger 54 = .ok (.aload_n 0, 1) := by decide +kernel
theorem dX6_ofSinger_55 : decode cX6_ofSinger 55 = .ok (.getfield 12, 3) := by decide +kernel
theorem dX6_ofSinger_58 : decode cX6_ofSinger 58 = .ok (.iload_n 1, 1) := by decide +kernel
theorem dX6_ofSinger_59 : decode cX6_ofSinger 59 = .ok (.iload_n 2, 1) := by decide +kernel
theorem dX6_ofSinger_60 : decode cX6_ofSinger 60 = .ok (.invokevirtual 92, 3) := by decide +kernel
theorem dX6_ofSinger_63 : decode cX6_ofSinger 63 = .ok (.ireturn, 1) := by decide +kernel
theorem dX6_ofSinger_64 : decode cX6_ofSinger 64 = .ok (.aload_n 0, 1) := by decide +kernel
theorem dX6_ofSinger_65 : decode cX6_ofSinger 65 = .ok (.getfield 12, 3) := by decide +kernel
theorem dX6_ofSinger_68 : decode cX6_ofSinger 68 = .ok (.iload_n 1, 1) := by decide +kernel
theorem dX6_ofSinger_69 : decode cX6_ofSinger 69 = .ok (.iload_n 2, 1) := by decide +kernel
theorem dX6_ofSinger_70 : decode cX6_ofSinger 70 = .ok (.invokevirtual 253, 3) := by decide +kernel
theorem dX6_ofSinger_73 : decode cX6_ofSinger 73 = .ok (.ireturn, 1) := by decide +kernel
theorem dX6_ofSinger_74 : decode cX6_ofSinger 74 = .ok (.aload_n 0, 1) := by decide +kernel
theorem dX6_ofSinger_75 : decode cX6_ofSinger 75 = .ok (.getfield 12, 3) := by decide +kernel
theorem dX6_ofSinger_78 : decode cX6_ofSinger 78 = .ok (.iload_n 1, 1) := by decide +kernel
theorem dX6_ofSinger_79 : decode cX6_ofSinger 79 = .ok (.iload_n 2, 1) := by decide +kernel
theorem dX6_ofSinger_80 : decode cX6_ofSinger 80 = .ok (.invokevirtual 256, 3) := by decide +kernel
theorem dX6_ofSinger_83 : decode cX6_ofSinger 83 = .ok (.ireturn, 1) := by decide +kernel
theorem dX6_ofSinger_84 : decode cX6_ofSinger 84 = .ok (.aload_n 0, 1) := by decide +kernel
theorem dX6_ofSinger_85 : decode cX6_ofSinger 85 = .ok (.getfield 12, 3) := by decide +kernel
theorem dX6_ofSinger_88 : decode cX6_ofSinger 88 = .ok (.iload_n 1, 1) := by decide +kernel
theorem dX6_ofSinger_89 : decode cX6_ofSinger 89 = .ok (.iload_n 2, 1) := by decide +kernel
theorem dX6_ofSinger_90 : decode cX6_ofSinger 90 = .ok (.invokevirtual 259, 3) := by decide +kernel
theorem dX6_ofSinger_93 : decode cX6_ofSinger 93 = .ok (.ireturn, 1) := by decide +kernel
theorem dX6_ofSinger_94 : decode cX6_ofSinger 94 = .ok (.aload_n 0, 1) := by decide +kernel
theorem dX6_ofSinger_95 : decode cX6_ofSinger 95 = .ok (.getfield 12, 3) := by decide +kernel
theorem dX6_ofSinger_98 : decode cX6_ofSinger 98 = .ok (.aload_n 0, 1) := by decide +kernel
theorem dX6_ofSinger_99 : decode cX6_ofSinger 99 = .ok (.getfield 43, 3) := by decide +kernel
theorem dX6_ofSinger_102 : decode cX6_ofSinger 102 = .ok (.iload_n 1, 1) := by decide +kernel
theorem dX6_ofSinger_103 : decode cX6_ofSinger 103 = .ok (.iload_n 2, 1) := by decide +kernel
theorem dX6_ofSinger_104 : decode cX6_ofSinger 104 = .ok (.invokevirtual 262, 3) := by decide +kernel
theorem dX6_ofSinger_107 : decode cX6_ofSinger 107 = .ok (.ireturn, 1) := by decide +kernel
theorem dX6_ofSinger_108 : decode cX6_ofSinger 108 = .ok (.aload_n 0, 1) := by decide +kernel
theorem dX6_ofSinger_109 : decode cX6_ofSinger 109 = .ok (.getfield 12, 3) := by decide +kernel
theorem dX6_ofSinger_112 : decode cX6_ofSinger 112 = .ok (.iload_n 1, 1) := by decide +kernel
theorem dX6_ofSinger_113 : decode cX6_ofSinger 113 = .ok (.iload_n 2, 1) := by decide +kernel
theorem dX6_ofSinger_114 : decode cX6_ofSinger 114 = .ok (.invokevirtual 259, 3) := by decide +kernel
theorem dX6_ofSinger_117 : decode cX6_ofSinger 117 = .ok (.iconst 1, 1) := by decide +kernel
theorem dX6_ofSinger_118 : decode cX6_ofSinger 118 = .ok (.iand, 1) := by decide +kernel
theorem dX6_ofSinger_119 : decode cX6_ofSinger 119 = .ok (.ireturn, 1) := by decide +kernel
theorem dX6_ofSinger_120 : decode cX6_ofSinger 120 = .ok (.aload_n 0, 1) := by decide +kernel
theorem dX6_ofSinger_121 : decode cX6_ofSinger 121 = .ok (.getfield 12, 3) := by decide +kernel
theorem dX6_ofSinger_124 : decode cX6_ofSinger 124 = .ok (.iload_n 1, 1) := by decide +kernel
theorem dX6_ofSinger_125 : decode cX6_ofSinger 125 = .ok (.iload_n 2, 1) := by decide +kernel
theorem dX6_ofSinger_126 : decode cX6_ofSinger 126 = .ok (.invokevirtual 266, 3) := by decide +kernel
theorem dX6_ofSinger_129 : decode cX6_ofSinger 129 = .ok (.ireturn, 1) := by decide +kernel
theorem dX6_ofRow_0 : decode cX6_ofRow 0 = .ok (.iload_n 2, 1) := by decide +kernel
theorem dX6_ofRow_1 : decode cX6_ofRow 1 = .ok (.tableswitch 117 0 5 #[39, 48, 57, 66, 77, 97], 39) := by decide +kernel
theorem dX6_ofRow_40 : decode cX6_ofRow 40 = .ok (.aload_n 0, 1) := by decide +kernel
theorem dX6_ofRow_41 : decode cX6_ofRow 41 = .ok (.getfield 12, 3) := by decide +kernel
theorem dX6_ofRow_44 : decode cX6_ofRow 44 = .ok (.iload_n 1, 1) := by decide +kernel
theorem dX6_ofRow_45 : decode cX6_ofRow 45 = .ok (.invokevirtual 107, 3) := by decide +kernel
theorem dX6_ofRow_48 : decode cX6_ofRow 48 = .ok (.ireturn, 1) := by decide +kernel
theorem dX6_ofRow_49 : decode cX6_ofRow 49 = .ok (.aload_n 0, 1) := by decide +kernel
theorem dX6_ofRow_50 : decode cX6_ofRow 50 = .ok (.getfield 12, 3) := by decide +kernel
theorem dX6_ofRow_53 : decode cX6_ofRow 53 = .ok (.iload_n 1, 1) := by decide +kernel
theorem dX6_ofRow_54 : decode cX6_ofRow 54 = .ok (.invokevirtual 269, 3) := by decide +kernel
theorem dX6_ofRow_57 : decode cX6_ofRow 57 = .ok (.ireturn, 1) := by decide +kernel
theorem dX6_ofRow_58 : decode cX6_ofRow 58 = .ok (.aload_n 0, 1) := by decide +kernel
theorem dX6_ofRow_59 : decode cX6_ofRow 59 = .ok (.getfield 12, 3) := by decide +kernel
theorem dX6_ofRow_62 : decode cX6_ofRow 62 = .ok (.iload_n 1, 1) := by decide +kernel
theorem dX6_ofRow_63 : decode cX6_ofRow 63 = .ok (.invokevirtual 120, 3) := by decide +kernel
theorem dX6_ofRow_66 : decode cX6_ofRow 66 = .ok (.ireturn, 1) := by decide +kernel
theorem dX6_ofRow_67 : decode cX6_ofRow 67 = .ok (.aload_n 0, 1) := by decide +kernel
theorem dX6_ofRow_68 : decode cX6_ofRow 68 = .ok (.getfield 12, 3) := by decide +kernel
theorem dX6_ofRow_71 : decode cX6_ofRow 71 = .ok (.iload_n 1, 1) := by decide +kernel
theorem dX6_ofRow_72 : decode cX6_ofRow 72 = .ok (.invokevirtual 120, 3) := by decide +kernel
theorem dX6_ofRow_75 : decode cX6_ofRow 75 = .ok (.iconst 1, 1) := by decide +kernel
theorem dX6_ofRow_76 : decode cX6_ofRow 76 = .ok (.iand, 1) := by decide +kernel
theorem dX6_ofRow_77 : decode cX6_ofRow 77 = .ok (.ireturn, 1) := by decide +kernel
theorem dX6_ofRow_78 : decode cX6_ofRow 78 = .ok (.aload_n 0, 1) := by decide +kernel
theorem dX6_ofRow_79 : decode cX6_ofRow 79 = .ok (.getfield 50, 3) := by decide +kernel
theorem dX6_ofRow_82 : decode cX6_ofRow 82 = .ok (.aload_n 0, 1) := by decide +kernel
theorem dX6_ofRow_83 : decode cX6_ofRow 83 = .ok (.getfield 12, 3) := by decide +kernel
theorem dX6_ofRow_86 : decode cX6_ofRow 86 = .ok (.iload_n 1, 1) := by decide +kernel
theorem dX6_ofRow_87 : decode cX6_ofRow 87 = .ok (.invokevirtual 272, 3) := by decide +kernel
theorem dX6_ofRow_90 : decode cX6_ofRow 90 = .ok (.aload_n 0, 1) := by decide +kernel
theorem dX6_ofRow_91 : decode cX6_ofRow 91 = .ok (.getfield 50, 3) := by decide +kernel
theorem dX6_ofRow_94 : decode cX6_ofRow 94 = .ok (.getfield 276, 3) := by decide +kernel
theorem dX6_ofRow_97 : decode cX6_ofRow 97 = .ok (.ireturn, 1) := by decide +kernel
theorem dX6_ofRow_98 : decode cX6_ofRow 98 = .ok (.aload_n 0, 1) := by decide +kernel
theorem dX6_ofRow_99 : decode cX6_ofRow 99 = .ok (.getfield 50, 3) := by decide +kernel
theorem dX6_ofRow_102 : decode cX6_ofRow 102 = .ok (.aload_n 0, 1) := by decide +kernel
theorem dX6_ofRow_103 : decode cX6_ofRow 103 = .ok (.getfield 12, 3) := by decide +kernel
theorem dX6_ofRow_106 : decode cX6_ofRow 106 = .ok (.iload_n 1, 1) := by decide +kernel
theorem dX6_ofRow_107 : decode cX6_ofRow 107 = .ok (.invokevirtual 272, 3) := by decide +kernel
theorem dX6_ofRow_110 : decode cX6_ofRow 110 = .ok (.aload_n 0, 1) := by decide +kernel
theorem dX6_ofRow_111 : decode cX6_ofRow 111 = .ok (.getfield 50, 3) := by decide +kernel
theorem dX6_ofRow_114 : decode cX6_ofRow 114 = .ok (.getfield 280, 3) := by decide +kernel
theorem dX6_ofRow_117 : decode cX6_ofRow 117 = .ok (.ireturn, 1) := by decide +kernel
theorem dX6_ofRow_118 : decode cX6_ofRow 118 = .ok (.aload_n 0, 1) := by decide +kernel
theorem dX6_ofRow_119 : decode cX6_ofRow 119 = .ok (.getfield 12, 3) := by decide +kernel
theorem dX6_ofRow_122 : decode cX6_ofRow 122 = .ok (.iload_n 1, 1) := by decide +kernel
theorem dX6_ofRow_123 : decode cX6_ofRow 123 = .ok (.invokevirtual 283, 3) := by decide +kernel
theorem dX6_ofRow_126 : decode cX6_ofRow 126 = .ok (.ireturn, 1) := by decide +kernel
theorem dX6_ofAll_0 : decode cX6_ofAll 0 = .ok (.iload_n 1, 1) := by decide +kernel
theorem dX6_ofAll_1 : decode cX6_ofAll 1 = .ok (.tableswitch 113 0 7 #[47, 55, 63, 71, 79, 87, 95, 104], 47) := by decide +kernel
theorem dX6_ofAll_48 : decode cX6_ofAll 48 = .ok (.aload_n 0, 1) := by decide +kernel
theorem dX6_ofAll_49 : decode cX6_ofAll 49 = .ok (.getfield 12, 3) := by decide +kernel
theorem dX6_ofAll_52 : decode cX6_ofAll 52 = .ok (.invokevirtual 165, 3) := by decide +kernel
theorem dX6_ofAll_55 : decode cX6_ofAll 55 = .ok (.ireturn, 1) := by decide +kernel
theorem dX6_ofAll_56 : decode cX6_ofAll 56 = .ok (.aload_n 0, 1) := by decide +kernel
theorem dX6_ofAll_57 : decode cX6_ofAll 57 = .ok (.getfield 12, 3) := by decide +kernel
theorem dX6_ofAll_60 : decode cX6_ofAll 60 = .ok (.invokevirtual 103, 3) := by decide +kernel
theorem dX6_ofAll_63 : decode cX6_ofAll 63 = .ok (.ireturn, 1) := by decide +kernel
theorem dX6_ofAll_64 : decode cX6_ofAll 64 = .ok (.aload_n 0, 1) := by decide +kernel
theorem dX6_ofAll_65 : decode cX6_ofAll 65 = .ok (.getfield 12, 3) := by decide +kernel
theorem dX6_ofAll_68 : decode cX6_ofAll 68 = .ok (.getfield 286, 3) := by decide +kernel
theorem dX6_ofAll_71 : decode cX6_ofAll 71 = .ok (.ireturn, 1) := by decide +kernel
theorem dX6_ofAll_72 : decode cX6_ofAll 72 = .ok (.aload_n 0, 1) := by decide +kernel
theorem dX6_ofAll_73 : decode cX6_ofAll 73 = .ok (.getfield 12, 3) := by decide +kernel
theorem dX6_ofAll_76 : decode cX6_ofAll 76 = .ok (.getfield 289, 3) := by decide +kernel
theorem dX6_ofAll_79 : decode cX6_ofAll 79 = .ok (.ireturn, 1) := by decide +kernel
theorem dX6_ofAll_80 : decode cX6_ofAll 80 = .ok (.aload_n 0, 1) := by decide +kernel
theorem dX6_ofAll_81 : decode cX6_ofAll 81 = .ok (.getfield 12, 3) := by decide +kernel
theorem dX6_ofAll_84 : decode cX6_ofAll 84 = .ok (.getfield 292, 3) := by decide +kernel
theorem dX6_ofAll_87 : decode cX6_ofAll 87 = .ok (.ireturn, 1) := by decide +kernel
theorem dX6_ofAll_88 : decode cX6_ofAll 88 = .ok (.aload_n 0, 1) := by decide +kernel
theorem dX6_ofAll_89 : decode cX6_ofAll 89 = .ok (.getfield 12, 3) := by decide +kernel
theorem dX6_ofAll_92 : decode cX6_ofAll 92 = .ok (.invokevirtual 295, 3) := by decide +kernel
theorem dX6_ofAll_95 : decode cX6_ofAll 95 = .ok (.ireturn, 1) := by decide +kernel
theorem dX6_ofAll_96 : decode cX6_ofAll 96 = .ok (.aload_n 0, 1) := by decide +kernel
theorem dX6_ofAll_97 : decode cX6_ofAll 97 = .ok (.getfield 12, 3) := by decide +kernel
theorem dX6_ofAll_100 : decode cX6_ofAll 100 = .ok (.iconst 0, 1) := by decide +kernel
theorem dX6_ofAll_101 : decode cX6_ofAll 101 = .ok (.invokevirtual 126, 3) := by decide +kernel
theorem dX6_ofAll_104 : decode cX6_ofAll 104 = .ok (.ireturn, 1) := by decide +kernel
theorem dX6_ofAll_105 : decode cX6_ofAll 105 = .ok (.aload_n 0, 1) := by decide +kernel
theorem dX6_ofAll_106 : decode cX6_ofAll 106 = .ok (.getfield 12, 3) := by decide +kernel
theorem dX6_ofAll_109 : decode cX6_ofAll 109 = .ok (.iconst 1, 1) := by decide +kernel
theorem dX6_ofAll_110 : decode cX6_ofAll 110 = .ok (.invokevirtual 126, 3) := by decide +kernel
theorem dX6_ofAll_113 : decode cX6_ofAll 113 = .ok (.ireturn, 1) := by decide +kernel
theorem dX6_ofAll_114 : decode cX6_ofAll 114 = .ok (.aload_n 0, 1) := by decide +kernel
theorem dX6_ofAll_115 : decode cX6_ofAll 115 = .ok (.getfield 29, 3) := by decide +kernel
theorem dX6_ofAll_118 : decode cX6_ofAll 118 = .ok (.invokevirtual 158, 3) := by decide +kernel
theorem dX6_ofAll_121 : decode cX6_ofAll 121 = .ok (.ireturn, 1) := by decide +kernel
theorem dX6_bestPair_0 : decode cX6_bestPair 0 = .ok (.iconst (-1), 1) := by decide +kernel
theorem dX6_bestPair_1 : decode cX6_bestPair 1 = .ok (.istore_n 2, 1) := by decide +kernel
theorem dX6_bestPair_2 : decode cX6_bestPair 2 = .ok (.aload_n 0, 1) := by decide +kernel
theorem dX6_bestPair_3 : decode cX6_bestPair 3 = .ok (.getfield 12, 3) := by decide +kernel
theorem dX6_bestPair_6 : decode cX6_bestPair 6 = .ok (.invokevirtual 103, 3) := by decide +kernel
theorem dX6_bestPair_9 : decode cX6_bestPair 9 = .ok (.istore_n 3, 1) := by decide +kernel
theorem dX6_bestPair_10 : decode cX6_bestPair 10 = .ok (.aload_n 0, 1) := by decide +kernel
theorem dX6_bestPair_11 : decode cX6_bestPair 11 = .ok (.getfield 12, 3) := by decide +kernel
theorem dX6_bestPair_14 : decode cX6_bestPair 14 = .ok (.iload_n 1, 1) := by decide +kernel
theorem dX6_bestPair_15 : decode cX6_bestPair 15 = .ok (.invokevirtual 107, 3) := by decide +kernel
theorem dX6_bestPair_18 : decode cX6_bestPair 18 = .ok (.istore 4, 2) := by decide +kernel
theorem dX6_bestPair_20 : decode cX6_bestPair 20 = .ok (.aload_n 0, 1) := by decide +kernel
theorem dX6_bestPair_21 : decode cX6_bestPair 21 = .ok (.getfield 16, 3) := by decide +kernel
theorem dX6_bestPair_24 : decode cX6_bestPair 24 = .ok (.aload_n 0, 1) := by decide +kernel
theorem dX6_bestPair_25 : decode cX6_bestPair 25 = .ok (.getfield 12, 3) := by decide +kernel
theorem dX6_bestPair_28 : decode cX6_bestPair 28 = .ok (.invokevirtual 162, 3) := by decide +kernel
theorem dX6_bestPair_31 : decode cX6_bestPair 31 = .ok (.iconst 0, 1) := by decide +kernel
theorem dX6_bestPair_32 : decode cX6_bestPair 32 = .ok (.istore 5, 2) := by decide +kernel
theorem dX6_bestPair_34 : decode cX6_bestPair 34 = .ok (.iload 5, 2) := by decide +kernel
theorem dX6_bestPair_36 : decode cX6_bestPair 36 = .ok (.iload 4, 2) := by decide +kernel
theorem dX6_bestPair_38 : decode cX6_bestPair 38 = .ok (.if_icmp .ge 81, 3) := by decide +kernel
theorem dX6_bestPair_41 : decode cX6_bestPair 41 = .ok (.iload 5, 2) := by decide +kernel
theorem dX6_bestPair_43 : decode cX6_bestPair 43 = .ok (.iconst 1, 1) := by decide +kernel
theorem dX6_bestPair_44 : decode cX6_bestPair 44 = .ok (.iadd, 1) := by decide +kernel
theorem dX6_bestPair_45 : decode cX6_bestPair 45 = .ok (.istore 6, 2) := by decide +kernel
theorem dX6_bestPair_47 : decode cX6_bestPair 47 = .ok (.iload 6, 2) := by decide +kernel
theorem dX6_bestPair_49 : decode cX6_bestPair 49 = .ok (.iload 4, 2) := by decide +kernel
theorem dX6_bestPair_51 : decode cX6_bestPair 51 = .ok (.if_icmp .ge 62, 3) := by decide +kernel
theorem dX6_bestPair_54 : decode cX6_bestPair 54 = .ok (.aload_n 0, 1) := by decide +kernel
theorem dX6_bestPair_55 : decode cX6_bestPair 55 = .ok (.getfield 16, 3) := by decide +kernel
theorem dX6_bestPair_58 : decode cX6_bestPair 58 = .ok (.iload_n 1, 1) := by decide +kernel
theorem dX6_bestPair_59 : decode cX6_bestPair 59 = .ok (.iload 5, 2) := by decide +kernel
theorem dX6_bestPair_61 : decode cX6_bestPair 61 = .ok (.iload_n 1, 1) := by decide +kernel
theorem dX6_bestPair_62 : decode cX6_bestPair 62 = .ok (.iload 6, 2) := by decide +kernel
theorem dX6_bestPair_64 : decode cX6_bestPair 64 = .ok (.invokevirtual 180, 3) := by decide +kernel
theorem dX6_bestPair_67 : decode cX6_bestPair 67 = .ok (.aload_n 0, 1) := by decide +kernel
theorem dX6_bestPair_68 : decode cX6_bestPair 68 = .ok (.getfield 16, 3) := by decide +kernel
theorem dX6_bestPair_71 : decode cX6_bestPair 71 = .ok (.invokevirtual 103, 3) := by decide +kernel
theorem dX6_bestPair_74 : decode cX6_bestPair 74 = .ok (.istore 7, 2) := by decide +kernel
theorem dX6_bestPair_76 : decode cX6_bestPair 76 = .ok (.aload_n 0, 1) := by decide +kernel
theorem dX6_bestPair_77 : decode cX6_bestPair 77 = .ok (.getfield 16, 3) := by decide +kernel
theorem dX6_bestPair_80 : decode cX6_bestPair 80 = .ok (.iload_n 1, 1) := by decide +kernel
theorem dX6_bestPair_81 : decode cX6_bestPair 81 = .ok (.iload 5, 2) := by decide +kernel
theorem dX6_bestPair_83 : decode cX6_bestPair 83 = .ok (.iload_n 1, 1) := by decide +kernel
theorem dX6_bestPair_84 : decode cX6_bestPair 84 = .ok (.iload 6, 2) := by decide +kernel
theorem dX6_bestPair_86 : decode cX6_bestPair 86 = .ok (.invokevirtual 180, 3) := by decide +kernel
theorem dX6_bestPair_89 : decode cX6_bestPair 89 = .ok (.iload 7, 2) := by decide +kernel
theorem dX6_bestPair_91 : decode cX6_bestPair 91 = .ok (.iload_n 3, 1) := by decide +kernel
theorem dX6_bestPair_92 : decode cX6_bestPair 92 = .ok (.if_icmp .le 15, 3) := by decide +kernel
theorem dX6_bestPair_95 : decode cX6_bestPair 95 = .ok (.iload 7, 2) := by decide +kernel
theorem dX6_bestPair_97 : decode cX6_bestPair 97 = .ok (.istore_n 3, 1) := by decide +kernel
theorem dX6_bestPair_98 : decode cX6_bestPair 98 = .ok (.bipush 6, 2) := by decide +kernel
theorem dX6_bestPair_100 : decode cX6_bestPair 100 = .ok (.iload 5, 2) := by decide +kernel
theorem dX6_bestPair_102 : decode cX6_bestPair 102 = .ok (.imul, 1) := by decide +kernel
theorem dX6_bestPair_103 : decode cX6_bestPair 103 = .ok (.iload 6, 2) := by decide +kernel
theorem dX6_bestPair_105 : decode cX6_bestPair 105 = .ok (.iadd, 1) := by decide +kernel
theorem dX6_bestPair_106 : decode cX6_bestPair 106 = .ok (.istore_n 2, 1) := by decide +kernel
theorem dX6_bestPair_107 : decode cX6_bestPair 107 = .ok (.iinc 6 1, 3) := by decide +kernel
theorem dX6_bestPair_110 : decode cX6_bestPair 110 = .ok (.goto (-63), 3) := by decide +kernel
theorem dX6_bestPair_113 : decode cX6_bestPair 113 = .ok (.iinc 5 1, 3) := by decide +kernel
theorem dX6_bestPair_116 : decode cX6_bestPair 116 = .ok (.goto (-82), 3) := by decide +kernel
theorem dX6_bestPair_119 : decode cX6_bestPair 119 = .ok (.iload_n 2, 1) := by decide +kernel
theorem dX6_bestPair_120 : decode cX6_bestPair 120 = .ok (.ireturn, 1) := by decide +kernel
theorem dX6_bestRowFor_0 : decode cX6_bestRowFor 0 = .ok (.iconst (-1), 1) := by decide +kernel
theorem dX6_bestRowFor_1 : decode cX6_bestRowFor 1 = .ok (.istore_n 2, 1) := by decide +kernel
theorem dX6_bestRowFor_2 : decode cX6_bestRowFor 2 = .ok (.iconst (-1), 1) := by decide +kernel
theorem dX6_bestRowFor_3 : decode cX6_bestRowFor 3 = .ok (.istore_n 3, 1) := by decide +kernel
theorem dX6_bestRowFor_4 : decode cX6_bestRowFor 4 = .ok (.iconst 0, 1) := by decide +kernel
theorem dX6_bestRowFor_5 : decode cX6_bestRowFor 5 = .ok (.istore 4, 2) := by decide +kernel
theorem dX6_bestRowFor_7 : decode cX6_bestRowFor 7 = .ok (.iload 4, 2) := by decide +kernel
theorem dX6_bestRowFor_9 : decode cX6_bestRowFor 9 = .ok (.iconst 4, 1) := by decide +kernel
theorem dX6_bestRowFor_10 : decode cX6_bestRowFor 10 = .ok (.if_icmp .ge 67, 3) := by decide +kernel
theorem dX6_bestRowFor_13 : decode cX6_bestRowFor 13 = .ok (.aload_n 0, 1) := by decide +kernel
theorem dX6_bestRowFor_14 : decode cX6_bestRowFor 14 = .ok (.getfield 12, 3) := by decide +kernel
theorem dX6_bestRowFor_17 : decode cX6_bestRowFor 17 = .ok (.iload 4, 2) := by decide +kernel
theorem dX6_bestRowFor_19 : decode cX6_bestRowFor 19 = .ok (.invokevirtual 107, 3) := by decide +kernel
theorem dX6_bestRowFor_22 : decode cX6_bestRowFor 22 = .ok (.bipush 6, 2) := by decide +kernel
theorem dX6_bestRowFor_24 : decode cX6_bestRowFor 24 = .ok (.if_icmp .ge 47, 3) := by decide +kernel
theorem dX6_bestRowFor_27 : decode cX6_bestRowFor 27 = .ok (.aload_n 0, 1) := by decide +kernel
theorem dX6_bestRowFor_28 : decode cX6_bestRowFor 28 = .ok (.getfield 16, 3) := by decide +kernel
theorem dX6_bestRowFor_31 : decode cX6_bestRowFor 31 = .ok (.aload_n 0, 1) := by decide +kernel
theorem dX6_bestRowFor_32 : decode cX6_bestRowFor 32 = .ok (.getfield 12, 3) := by decide +kernel
theorem dX6_bestRowFor_35 : decode cX6_bestRowFor 35 = .ok (.invokevirtual 162, 3) := by decide +kernel
theorem dX6_bestRowFor_38 : decode cX6_bestRowFor 38 = .ok (.aload_n 0, 1) := by decide +kernel
theorem dX6_bestRowFor_39 : decode cX6_bestRowFor 39 = .ok (.getfield 16, 3) := by decide +kernel
theorem dX6_bestRowFor_42 : decode cX6_bestRowFor 42 = .ok (.iload 4, 2) := by decide +kernel
theorem dX6_bestRowFor_44 : decode cX6_bestRowFor 44 = .ok (.iload_n 1, 1) := by decide +kernel
theorem dX6_bestRowFor_45 : decode cX6_bestRowFor 45 = .ok (.iconst 0, 1) := by decide +kernel
theorem dX6_bestRowFor_46 : decode cX6_bestRowFor 46 = .ok (.invokevirtual 80, 3) := by decide +kernel
theorem dX6_bestRowFor_49 : decode cX6_bestRowFor 49 = .ok (.pop, 1) := by decide +kernel
theorem dX6_bestRowFor_50 : decode cX6_bestRowFor 50 = .ok (.aload_n 0, 1) := by decide +kernel
theorem dX6_bestRowFor_51 : decode cX6_bestRowFor 51 = .ok (.getfield 16, 3) := by decide +kernel
theorem dX6_bestRowFor_54 : decode cX6_bestRowFor 54 = .ok (.invokevirtual 103, 3) := by decide +kernel
theorem dX6_bestRowFor_57 : decode cX6_bestRowFor 57 = .ok (.istore 5, 2) := by decide +kernel
theorem dX6_bestRowFor_59 : decode cX6_bestRowFor 59 = .ok (.iload 5, 2) := by decide +kernel
theorem dX6_bestRowFor_61 : decode cX6_bestRowFor 61 = .ok (.iload_n 3, 1) := by decide +kernel
theorem dX6_bestRowFor_62 : decode cX6_bestRowFor 62 = .ok (.if_icmp .le 9, 3) := by decide +kernel
theorem dX6_bestRowFor_65 : decode cX6_bestRowFor 65 = .ok (.iload 5, 2) := by decide +kernel
theorem dX6_bestRowFor_67 : decode cX6_bestRowFor 67 = .ok (.istore_n 3, 1) := by decide +kernel
theorem dX6_bestRowFor_68 : decode cX6_bestRowFor 68 = .ok (.iload 4, 2) := by decide +kernel
theorem dX6_bestRowFor_70 : decode cX6_bestRowFor 70 = .ok (.istore_n 2, 1) := by decide +kernel
theorem dX6_bestRowFor_71 : decode cX6_bestRowFor 71 = .ok (.iinc 4 1, 3) := by decide +kernel
theorem dX6_bestRowFor_74 : decode cX6_bestRowFor 74 = .ok (.goto (-67), 3) := by decide +kernel
theorem dX6_bestRowFor_77 : decode cX6_bestRowFor 77 = .ok (.iload_n 2, 1) := by decide +kernel
theorem dX6_bestRowFor_78 : decode cX6_bestRowFor 78 = .ok (.ireturn, 1) := by decide +kernel
theorem dX6_oddWithReach_0 : decode cX6_oddWithReach 0 = .ok (.aload_n 0, 1) := by decide +kernel
theorem dX6_oddWithReach_1 : decode cX6_oddWithReach 1 = .ok (.getfield 16, 3) := by decide +kernel
theorem dX6_oddWithReach_4 : decode cX6_oddWithReach 4 = .ok (.aload_n 0, 1) := by decide +kernel
theorem dX6_oddWithReach_5 : decode cX6_oddWithReach 5 = .ok (.getfield 12, 3) := by decide +kernel
theorem dX6_oddWithReach_8 : decode cX6_oddWithReach 8 = .ok (.invokevirtual 162, 3) := by decide +kernel
theorem dX6_oddWithReach_11 : decode cX6_oddWithReach 11 = .ok (.aload_n 0, 1) := by decide +kernel
theorem dX6_oddWithReach_12 : decode cX6_oddWithReach 12 = .ok (.getfield 16, 3) := by decide +kernel
theorem dX6_oddWithReach_15 : decode cX6_oddWithReach 15 = .ok (.iconst 0, 1) := by decide +kernel
theorem dX6_oddWithReach_16 : decode cX6_oddWithReach 16 = .ok (.iload_n 1, 1) := by decide +kernel
theorem dX6_oddWithReach_17 : decode cX6_oddWithReach 17 = .ok (.invokevirtual 129, 3) := by decide +kernel
theorem dX6_oddWithReach_20 : decode cX6_oddWithReach 20 = .ok (.aload_n 0, 1) := by decide +kernel
theorem dX6_oddWithReach_21 : decode cX6_oddWithReach 21 = .ok (.getfield 16, 3) := by decide +kernel
theorem dX6_oddWithReach_24 : decode cX6_oddWithReach 24 = .ok (.invokevirtual 103, 3) := by decide +kernel
theorem dX6_oddWithReach_27 : decode cX6_oddWithReach 27 = .ok (.ireturn, 1) := by decide +kernel
theorem dJ6_bitCount_0f7a4_0 : decode cJ6_bitCount_0f7a4 0 = .ok (.iload_n 0, 1) := by decide +kernel
theorem dJ6_bitCount_0f7a4_1 : decode cJ6_bitCount_0f7a4 1 = .ok (.iload_n 0, 1) := by decide +kernel
theorem dJ6_bitCount_0f7a4_2 : decode cJ6_bitCount_0f7a4 2 = .ok (.iconst 1, 1) := by decide +kernel
theorem dJ6_bitCount_0f7a4_3 : decode cJ6_bitCount_0f7a4 3 = .ok (.iushr, 1) := by decide +kernel
theorem dJ6_bitCount_0f7a4_4 : decode cJ6_bitCount_0f7a4 4 = .ok (.ldc_w 265, 3) := by decide +kernel
theorem dJ6_bitCount_0f7a4_7 : decode cJ6_bitCount_0f7a4 7 = .ok (.iand, 1) := by decide +kernel
theorem dJ6_bitCount_0f7a4_8 : decode cJ6_bitCount_0f7a4 8 = .ok (.isub, 1) := by decide +kernel
theorem dJ6_bitCount_0f7a4_9 : decode cJ6_bitCount_0f7a4 9 = .ok (.istore_n 0, 1) := by decide +kernel
theorem dJ6_bitCount_0f7a4_10 : decode cJ6_bitCount_0f7a4 10 = .ok (.iload_n 0, 1) := by decide +kernel
theorem dJ6_bitCount_0f7a4_11 : decode cJ6_bitCount_0f7a4 11 = .ok (.ldc_w 266, 3) := by decide +kernel
theorem dJ6_bitCount_0f7a4_14 : decode cJ6_bitCount_0f7a4 14 = .ok (.iand, 1) := by decide +kernel
theorem dJ6_bitCount_0f7a4_15 : decode cJ6_bitCount_0f7a4 15 = .ok (.iload_n 0, 1) := by decide +kernel
theorem dJ6_bitCount_0f7a4_16 : decode cJ6_bitCount_0f7a4 16 = .ok (.iconst 2, 1) := by decide +kernel
theorem dJ6_bitCount_0f7a4_17 : decode cJ6_bitCount_0f7a4 17 = .ok (.iushr, 1) := by decide +kernel
theorem dJ6_bitCount_0f7a4_18 : decode cJ6_bitCount_0f7a4 18 = .ok (.ldc_w 266, 3) := by decide +kernel
theorem dJ6_bitCount_0f7a4_21 : decode cJ6_bitCount_0f7a4 21 = .ok (.iand, 1) := by decide +kernel
theorem dJ6_bitCount_0f7a4_22 : decode cJ6_bitCount_0f7a4 22 = .ok (.iadd, 1) := by decide +kernel
theorem dJ6_bitCount_0f7a4_23 : decode cJ6_bitCount_0f7a4 23 = .ok (.istore_n 0, 1) := by decide +kernel
theorem dJ6_bitCount_0f7a4_24 : decode cJ6_bitCount_0f7a4 24 = .ok (.iload_n 0, 1) := by decide +kernel
theorem dJ6_bitCount_0f7a4_25 : decode cJ6_bitCount_0f7a4 25 = .ok (.iload_n 0, 1) := by decide +kernel
theorem dJ6_bitCount_0f7a4_26 : decode cJ6_bitCount_0f7a4 26 = .ok (.iconst 4, 1) := by decide +kernel
theorem dJ6_bitCount_0f7a4_27 : decode cJ6_bitCount_0f7a4 27 = .ok (.iushr, 1) := by decide +kernel
theorem dJ6_bitCount_0f7a4_28 : decode cJ6_bitCount_0f7a4 28 = .ok (.iadd, 1) := by decide +kernel
theorem dJ6_bitCount_0f7a4_29 : decode cJ6_bitCount_0f7a4 29 = .ok (.ldc_w 267, 3) := by decide +kernel
theorem dJ6_bitCount_0f7a4_32 : decode cJ6_bitCount_0f7a4 32 = .ok (.iand, 1) := by decide +kernel
theorem dJ6_bitCount_0f7a4_33 : decode cJ6_bitCount_0f7a4 33 = .ok (.istore_n 0, 1) := by decide +kernel
theorem dJ6_bitCount_0f7a4_34 : decode cJ6_bitCount_0f7a4 34 = .ok (.iload_n 0, 1) := by decide +kernel
theorem dJ6_bitCount_0f7a4_35 : decode cJ6_bitCount_0f7a4 35 = .ok (.iload_n 0, 1) := by decide +kernel
theorem dJ6_bitCount_0f7a4_36 : decode cJ6_bitCount_0f7a4 36 = .ok (.bipush 8, 2) := by decide +kernel
theorem dJ6_bitCount_0f7a4_38 : decode cJ6_bitCount_0f7a4 38 = .ok (.iushr, 1) := by decide +kernel
theorem dJ6_bitCount_0f7a4_39 : decode cJ6_bitCount_0f7a4 39 = .ok (.iadd, 1) := by decide +kernel
theorem dJ6_bitCount_0f7a4_40 : decode cJ6_bitCount_0f7a4 40 = .ok (.istore_n 0, 1) := by decide +kernel
theorem dJ6_bitCount_0f7a4_41 : decode cJ6_bitCount_0f7a4 41 = .ok (.iload_n 0, 1) := by decide +kernel
theorem dJ6_bitCount_0f7a4_42 : decode cJ6_bitCount_0f7a4 42 = .ok (.iload_n 0, 1) := by decide +kernel
theorem dJ6_bitCount_0f7a4_43 : decode cJ6_bitCount_0f7a4 43 = .ok (.bipush 16, 2) := by decide +kernel
theorem dJ6_bitCount_0f7a4_45 : decode cJ6_bitCount_0f7a4 45 = .ok (.iushr, 1) := by decide +kernel
theorem dJ6_bitCount_0f7a4_46 : decode cJ6_bitCount_0f7a4 46 = .ok (.iadd, 1) := by decide +kernel
theorem dJ6_bitCount_0f7a4_47 : decode cJ6_bitCount_0f7a4 47 = .ok (.istore_n 0, 1) := by decide +kernel
theorem dJ6_bitCount_0f7a4_48 : decode cJ6_bitCount_0f7a4 48 = .ok (.iload_n 0, 1) := by decide +kernel
theorem dJ6_bitCount_0f7a4_49 : decode cJ6_bitCount_0f7a4 49 = .ok (.bipush 63, 2) := by decide +kernel
theorem dJ6_bitCount_0f7a4_51 : decode cJ6_bitCount_0f7a4 51 = .ok (.iand, 1) := by decide +kernel
theorem dJ6_bitCount_0f7a4_52 : decode cJ6_bitCount_0f7a4 52 = .ok (.ireturn, 1) := by decide +kernel
theorem dJ9_floorMod_7cf53_0 : decode cJ9_floorMod_7cf53 0 = .ok (.iload_n 0, 1) := by decide +kernel
theorem dJ9_floorMod_7cf53_1 : decode cJ9_floorMod_7cf53 1 = .ok (.iload_n 1, 1) := by decide +kernel
theorem dJ9_floorMod_7cf53_2 : decode cJ9_floorMod_7cf53 2 = .ok (.irem, 1) := by decide +kernel
theorem dJ9_floorMod_7cf53_3 : decode cJ9_floorMod_7cf53 3 = .ok (.istore_n 2, 1) := by decide +kernel
theorem dJ9_floorMod_7cf53_4 : decode cJ9_floorMod_7cf53 4 = .ok (.iload_n 0, 1) := by decide +kernel
theorem dJ9_floorMod_7cf53_5 : decode cJ9_floorMod_7cf53 5 = .ok (.iload_n 1, 1) := by decide +kernel
theorem dJ9_floorMod_7cf53_6 : decode cJ9_floorMod_7cf53 6 = .ok (.ixor, 1) := by decide +kernel
theorem dJ9_floorMod_7cf53_7 : decode cJ9_floorMod_7cf53 7 = .ok (.ifCond .ge 11, 3) := by decide +kernel
theorem dJ9_floorMod_7cf53_10 : decode cJ9_floorMod_7cf53 10 = .ok (.iload_n 2, 1) := by decide +kernel
theorem dJ9_floorMod_7cf53_11 : decode cJ9_floorMod_7cf53 11 = .ok (.ifCond .eq 7, 3) := by decide +kernel
theorem dJ9_floorMod_7cf53_14 : decode cJ9_floorMod_7cf53 14 = .ok (.iload_n 2, 1) := by decide +kernel
theorem dJ9_floorMod_7cf53_15 : decode cJ9_floorMod_7cf53 15 = .ok (.iload_n 1, 1) := by decide +kernel
theorem dJ9_floorMod_7cf53_16 : decode cJ9_floorMod_7cf53 16 = .ok (.iadd, 1) := by decide +kernel
theorem dJ9_floorMod_7cf53_17 : decode cJ9_floorMod_7cf53 17 = .ok (.ireturn, 1) := by decide +kernel
theorem dJ9_floorMod_7cf53_18 : decode cJ9_floorMod_7cf53 18 = .ok (.iload_n 2, 1) := by decide +kernel
theorem dJ9_floorMod_7cf53_19 : decode cJ9_floorMod_7cf53 19 = .ok (.ireturn, 1) := by decide +kernel
theorem dJ9_max_7cf53_0 : decode cJ9_max_7cf53 0 = .ok (.iload_n 0, 1) := by decide +kernel
theorem dJ9_max_7cf53_1 : decode cJ9_max_7cf53 1 = .ok (.iload_n 1, 1) := by decide +kernel
theorem dJ9_max_7cf53_2 : decode cJ9_max_7cf53 2 = .ok (.if_icmp .lt 7, 3) := by decide +kernel
theorem dJ9_max_7cf53_5 : decode cJ9_max_7cf53 5 = .ok (.iload_n 0, 1) := by decide +kernel
theorem dJ9_max_7cf53_6 : decode cJ9_max_7cf53 6 = .ok (.goto 4, 3) := by decide +kernel
theorem dJ9_max_7cf53_9 : decode cJ9_max_7cf53 9 = .ok (.iload_n 1, 1) := by decide +kernel
theorem dJ9_max_7cf53_10 : decode cJ9_max_7cf53 10 = .ok (.ireturn, 1) := by decide +kernel
theorem dJ9_min_7cf53_0 : decode cJ9_min_7cf53 0 = .ok (.iload_n 0, 1) := by decide +kernel
theorem dJ9_min_7cf53_1 : decode cJ9_min_7cf53 1 = .ok (.iload_n 1, 1) := by decide +kernel
theorem dJ9_min_7cf53_2 : decode cJ9_min_7cf53 2 = .ok (.if_icmp .gt 7, 3) := by decide +kernel
theorem dJ9_min_7cf53_5 : decode cJ9_min_7cf53 5 = .ok (.iload_n 0, 1) := by decide +kernel
theorem dJ9_min_7cf53_6 : decode cJ9_min_7cf53 6 = .ok (.goto 4, 3) := by decide +kernel
theorem dJ9_min_7cf53_9 : decode cJ9_min_7cf53 9 = .ok (.iload_n 1, 1) := by decide +kernel
theorem dJ9_min_7cf53_10 : decode cJ9_min_7cf53 10 = .ok (.ireturn, 1) := by decide +kernel
theorem dJ0_length_8abf5_0 : decode cJ0_length_8abf5 0 = .ok (.aload_n 0, 1) := by decide +kernel
theorem dJ0_length_8abf5_1 : decode cJ0_length_8abf5 1 = .ok (.getfield 9, 3) := by decide +kernel
theorem dJ0_length_8abf5_4 : decode cJ0_length_8abf5 4 = .ok (.arraylength, 1) := by decide +kernel
theorem dJ0_length_8abf5_5 : decode cJ0_length_8abf5 5 = .ok (.aload_n 0, 1) := by decide +kernel
theorem dJ0_length_8abf5_6 : decode cJ0_length_8abf5 6 = .ok (.invokevirtual 335, 3) := by decide +kernel
theorem dJ0_length_8abf5_9 : decode cJ0_length_8abf5 9 = .ok (.ishr, 1) := by decide +kernel
theorem dJ0_length_8abf5_10 : decode cJ0_length_8abf5 10 = .ok (.ireturn, 1) := by decide +kernel
theorem dJ0_charAt_5068e_0 : decode cJ0_charAt_5068e 0 = .ok (.aload_n 0, 1) := by decide +kernel
theorem dJ0_charAt_5068e_1 : decode cJ0_charAt_5068e 1 = .ok (.invokevirtual 492, 3) := by decide +kernel
theorem dJ0_charAt_5068e_4 : decode cJ0_charAt_5068e 4 = .ok (.ifCond .eq 12, 3) := by decide +kernel
theorem dJ0_charAt_5068e_7 : decode cJ0_charAt_5068e 7 = .ok (.aload_n 0, 1) := by decide +kernel
theorem dJ0_charAt_5068e_8 : decode cJ0_charAt_5068e 8 = .ok (.getfield 9, 3) := by decide +kernel
theorem dJ0_charAt_5068e_11 : decode cJ0_charAt_5068e 11 = .ok (.iload_n 1, 1) := by decide +kernel
theorem dJ0_charAt_5068e_12 : decode cJ0_charAt_5068e 12 = .ok (.invokestatic 495, 3) := by decide +kernel
theorem dJ0_charAt_5068e_15 : decode cJ0_charAt_5068e 15 = .ok (.ireturn, 1) := by decide +kernel
theorem dJ0_charAt_5068e_16 : decode cJ0_charAt_5068e 16 = .ok (.aload_n 0, 1) := by decide +kernel
theorem dJ0_charAt_5068e_17 : decode cJ0_charAt_5068e 17 = .ok (.getfield 9, 3) := by decide +kernel
theorem dJ0_charAt_5068e_20 : decode cJ0_charAt_5068e 20 = .ok (.iload_n 1, 1) := by decide +kernel
theorem dJ0_charAt_5068e_21 : decode cJ0_charAt_5068e 21 = .ok (.invokestatic 498, 3) := by decide +kernel
theorem dJ0_charAt_5068e_24 : decode cJ0_charAt_5068e 24 = .ok (.ireturn, 1) := by decide +kernel
theorem dJ0_coder_7d493_0 : decode cJ0_coder_7d493 0 = .ok (.getstatic 38, 3) := by decide +kernel
theorem dJ0_coder_7d493_3 : decode cJ0_coder_7d493 3 = .ok (.ifCond .eq 10, 3) := by decide +kernel
theorem dJ0_coder_7d493_6 : decode cJ0_coder_7d493 6 = .ok (.aload_n 0, 1) := by decide +kernel
theorem dJ0_coder_7d493_7 : decode cJ0_coder_7d493 7 = .ok (.getfield 15, 3) := by decide +kernel
theorem dJ0_coder_7d493_10 : decode cJ0_coder_7d493 10 = .ok (.goto 4, 3) := by decide +kernel
theorem dJ0_coder_7d493_13 : decode cJ0_coder_7d493 13 = .ok (.iconst 1, 1) := by decide +kernel
theorem dJ0_coder_7d493_14 : decode cJ0_coder_7d493 14 = .ok (.ireturn, 1) := by decide +kernel
theorem dJ0_isLatin1_aae02_0 : decode cJ0_isLatin1_aae02 0 = .ok (.getstatic 38, 3) := by decide +kernel
theorem dJ0_isLatin1_aae02_3 : decode cJ0_isLatin1_aae02 3 = .ok (.ifCond .eq 14, 3) := by decide +kernel
theorem dJ0_isLatin1_aae02_6 : decode cJ0_isLatin1_aae02 6 = .ok (.aload_n 0, 1) := by decide +kernel
theorem dJ0_isLatin1_aae02_7 : decode cJ0_isLatin1_aae02 7 = .ok (.getfield 15, 3) := by decide +kernel
theorem dJ0_isLatin1_aae02_10 : decode cJ0_isLatin1_aae02 10 = .ok (.ifCond .ne 7, 3) := by decide +kernel
theorem dJ0_isLatin1_aae02_13 : decode cJ0_isLatin1_aae02 13 = .ok (.iconst 1, 1) := by decide +kernel
theorem dJ0_isLatin1_aae02_14 : decode cJ0_isLatin1_aae02 14 = .ok (.goto 4, 3) := by decide +kernel
theorem dJ0_isLatin1_aae02_17 : decode cJ0_isLatin1_aae02 17 = .ok (.iconst 0, 1) := by decide +kernel
theorem dJ0_isLatin1_aae02_18 : decode cJ0_isLatin1_aae02 18 = .ok (.ireturn, 1) := by decide +kernel
theorem dJ0_checkIndex_df160_0 : decode cJ0_checkIndex_df160 0 = .ok (.iload_n 0, 1) := by decide +kernel
theorem dJ0_checkIndex_df160_1 : decode cJ0_checkIndex_df160 1 = .ok (.iload_n 1, 1) := by decide +kernel
theorem dJ0_checkIndex_df160_2 : decode cJ0_checkIndex_df160 2 = .ok (.getstatic 1053, 3) := by decide +kernel
theorem dJ0_checkIndex_df160_5 : decode cJ0_checkIndex_df160 5 = .ok (.invokestatic 1059, 3) := by decide +kernel
theorem dJ0_checkIndex_df160_8 : decode cJ0_checkIndex_df160 8 = .ok (.pop, 1) := by decide +kernel
theorem dJ0_checkIndex_df160_9 : decode cJ0_checkIndex_df160 9 = .ok (.return_, 1) := by decide +kernel
theorem dJ1_charAt_3b067_0 : decode cJ1_charAt_3b067 0 = .ok (.iload_n 1, 1) := by decide +kernel
theorem dJ1_charAt_3b067_1 : decode cJ1_charAt_3b067 1 = .ok (.aload_n 0, 1) := by decide +kernel
theorem dJ1_charAt_3b067_2 : decode cJ1_charAt_3b067 2 = .ok (.arraylength, 1) := by decide +kernel
theorem dJ1_charAt_3b067_3 : decode cJ1_charAt_3b067 3 = .ok (.invokestatic 9, 3) := by decide +kernel
theorem dJ1_charAt_3b067_6 : decode cJ1_charAt_3b067 6 = .ok (.aload_n 0, 1) := by decide +kernel
theorem dJ1_charAt_3b067_7 : decode cJ1_charAt_3b067 7 = .ok (.iload_n 1, 1) := by decide +kernel
theorem dJ1_charAt_3b067_8 : decode cJ1_charAt_3b067 8 = .ok (.baload, 1) := by decide +kernel
theorem dJ1_charAt_3b067_9 : decode cJ1_charAt_3b067 9 = .ok (.sipush 255, 3) := by decide +kernel
theorem dJ1_charAt_3b067_12 : decode cJ1_charAt_3b067 12 = .ok (.iand, 1) := by decide +kernel
theorem dJ1_charAt_3b067_13 : decode cJ1_charAt_3b067 13 = .ok (.i2c, 1) := by decide +kernel
theorem dJ1_charAt_3b067_14 : decode cJ1_charAt_3b067 14 = .ok (.ireturn, 1) := by decide +kernel
theorem dJ2_getChar_3b067_0 : decode cJ2_getChar_3b067 0 = .ok (.getstatic 44, 3) := by decide +kernel
theorem dJ2_getChar_3b067_3 : decode cJ2_getChar_3b067 3 = .ok (.ifCond .ne 25, 3) := by decide +kernel
theorem dJ2_getChar_3b067_6 : decode cJ2_getChar_3b067 6 = .ok (.iload_n 1, 1) := by decide +kernel
theorem dJ2_getChar_3b067_7 : decode cJ2_getChar_3b067 7 = .ok (.ifCond .lt 11, 3) := by decide +kernel
theorem dJ2_getChar_3b067_10 : decode cJ2_getChar_3b067 10 = .ok (.iload_n 1, 1) := by decide +kernel
theorem dJ2_getChar_3b067_11 : decode cJ2_getChar_3b067 11 = .ok (.aload_n 0, 1) := by decide +kernel
theorem dJ2_getChar_3b067_12 : decode cJ2_getChar_3b067 12 = .ok (.invokestatic 48, 3) := by decide +kernel
theorem dJ2_getChar_3b067_15 : decode cJ2_getChar_3b067 15 = .ok (.if_icmp .lt 13, 3) := by decide +kernel
theorem dJ2_getChar_3b067_18 : decode cJ2_getChar_3b067 18 = .ok (.new 52, 3) := by decide +kernel
theorem dJ2_getChar_3b067_21 : decode cJ2_getChar_3b067 21 = .ok (.dup, 1) := by decide +kernel
theorem dJ2_getChar_3b067_22 : decode cJ2_getChar_3b067 22 = .ok (.ldc 54, 2) := by decide +kernel
theorem dJ2_getChar_3b067_24 : decode cJ2_getChar_3b067 24 = .ok (.invokespecial 56, 3) := by decide +kernel
theorem dJ2_getChar_3b067_27 : decode cJ2_getChar_3b067 27 = .ok (.athrow, 1) := by decide +kernel
theorem dJ2_getChar_3b067_28 : decode cJ2_getChar_3b067 28 = .ok (.iload_n 1, 1) := by decide +kernel
theorem dJ2_getChar_3b067_29 : decode cJ2_getChar_3b067 29 = .ok (.iconst 1, 1) := by decide +kernel
theorem dJ2_getChar_3b067_30 : decode cJ2_getChar_3b067 30 = .ok (.ishl, 1) := by decide +kernel
theorem dJ2_getChar_3b067_31 : decode cJ2_getChar_3b067 31 = .ok (.istore_n 1, 1) := by decide +kernel
theorem dJ2_getChar_3b067_32 : decode cJ2_getChar_3b067 32 = .ok (.aload_n 0, 1) := by decide +kernel
theorem dJ2_getChar_3b067_33 : decode cJ2_getChar_3b067 33 = .ok (.iload_n 1, 1) := by decide +kernel
theorem dJ2_getChar_3b067_34 : decode cJ2_getChar_3b067 34 = .ok (.iinc 1 1, 3) := by decide +kernel
theorem dJ2_getChar_3b067_37 : decode cJ2_getChar_3b067 37 = .ok (.baload, 1) := by decide +kernel
theorem dJ2_getChar_3b067_38 : decode cJ2_getChar_3b067 38 = .ok (.sipush 255, 3) := by decide +kernel
theorem dJ2_getChar_3b067_41 : decode cJ2_getChar_3b067 41 = .ok (.iand, 1) := by decide +kernel
theorem dJ2_getChar_3b067_42 : decode cJ2_getChar_3b067 42 = .ok (.getstatic 59, 3) := by decide +kernel
theorem dJ2_getChar_3b067_45 : decode cJ2_getChar_3b067 45 = .ok (.ishl, 1) := by decide +kernel
theorem dJ2_getChar_3b067_46 : decode cJ2_getChar_3b067 46 = .ok (.aload_n 0, 1) := by decide +kernel
theorem dJ2_getChar_3b067_47 : decode cJ2_getChar_3b067 47 = .ok (.iload_n 1, 1) := by decide +kernel
theorem dJ2_getChar_3b067_48 : decode cJ2_getChar_3b067 48 = .ok (.baload, 1) := by decide +kernel
theorem dJ2_getChar_3b067_49 : decode cJ2_getChar_3b067 49 = .ok (.sipush 255, 3) := by decide +kernel
theorem dJ2_getChar_3b067_52 : decode cJ2_getChar_3b067 52 = .ok (.iand, 1) := by decide +kernel
theorem dJ2_getChar_3b067_53 : decode cJ2_getChar_3b067 53 = .ok (.getstatic 63, 3) := by decide +kernel
theorem dJ2_getChar_3b067_56 : decode cJ2_getChar_3b067 56 = .ok (.ishl, 1) := by decide +kernel
theorem dJ2_getChar_3b067_57 : decode cJ2_getChar_3b067 57 = .ok (.ior, 1) := by decide +kernel
theorem dJ2_getChar_3b067_58 : decode cJ2_getChar_3b067 58 = .ok (.i2c, 1) := by decide +kernel
theorem dJ2_getChar_3b067_59 : decode cJ2_getChar_3b067 59 = .ok (.ireturn, 1) := by decide +kernel
theorem dJ2_length_9d52b_0 : decode cJ2_length_9d52b 0 = .ok (.aload_n 0, 1) := by decide +kernel
theorem dJ2_length_9d52b_1 : decode cJ2_length_9d52b 1 = .ok (.arraylength, 1) := by decide +kernel
theorem dJ2_length_9d52b_2 : decode cJ2_length_9d52b 2 = .ok (.iconst 1, 1) := by decide +kernel
theorem dJ2_length_9d52b_3 : decode cJ2_length_9d52b 3 = .ok (.ishr, 1) := by decide +kernel
theorem dJ2_length_9d52b_4 : decode cJ2_length_9d52b 4 = .ok (.ireturn, 1) := by decide +kernel
theorem dJ2_charAt_3b067_0 : decode cJ2_charAt_3b067 0 = .ok (.iload_n 1, 1) := by decide +kernel
theorem dJ2_charAt_3b067_1 : decode cJ2_charAt_3b067 1 = .ok (.aload_n 0, 1) := by decide +kernel
theorem dJ2_charAt_3b067_2 : decode cJ2_charAt_3b067 2 = .ok (.invokestatic 67, 3) := by decide +kernel
theorem dJ2_charAt_3b067_5 : decode cJ2_charAt_3b067 5 = .ok (.aload_n 0, 1) := by decide +kernel
theorem dJ2_charAt_3b067_6 : decode cJ2_charAt_3b067 6 = .ok (.iload_n 1, 1) := by decide +kernel
theorem dJ2_charAt_3b067_7 : decode cJ2_charAt_3b067 7 = .ok (.invokestatic 71, 3) := by decide +kernel
theorem dJ2_charAt_3b067_10 : decode cJ2_charAt_3b067 10 = .ok (.ireturn, 1) := by decide +kernel
theorem dJ2_checkIndex_2214a_0 : decode cJ2_checkIndex_2214a 0 = .ok (.iload_n 0, 1) := by decide +kernel
theorem dJ2_checkIndex_2214a_1 : decode cJ2_checkIndex_2214a 1 = .ok (.aload_n 1, 1) := by decide +kernel
theorem dJ2_checkIndex_2214a_2 : decode cJ2_checkIndex_2214a 2 = .ok (.invokestatic 48, 3) := by decide +kernel
theorem dJ2_checkIndex_2214a_5 : decode cJ2_checkIndex_2214a 5 = .ok (.invokestatic 414, 3) := by decide +kernel
theorem dJ2_checkIndex_2214a_8 : decode cJ2_checkIndex_2214a 8 = .ok (.return_, 1) := by decide +kernel
theorem dJ3_checkIndex_8e157_0 : decode cJ3_checkIndex_8e157 0 = .ok (.iload_n 0, 1) := by decide +kernel
theorem dJ3_checkIndex_8e157_1 : decode cJ3_checkIndex_8e157 1 = .ok (.ifCond .lt 8, 3) := by decide +kernel
theorem dJ3_checkIndex_8e157_4 : decode cJ3_checkIndex_8e157 4 = .ok (.iload_n 0, 1) := by decide +kernel
theorem dJ3_checkIndex_8e157_5 : decode cJ3_checkIndex_8e157 5 = .ok (.iload_n 1, 1) := by decide +kernel
theorem dJ3_checkIndex_8e157_6 : decode cJ3_checkIndex_8e157 6 = .ok (.if_icmp .lt 10, 3) := by decide +kernel
theorem dJ3_checkIndex_8e157_9 : decode cJ3_checkIndex_8e157 9 = .ok (.aload_n 2, 1) := by decide +kernel
theorem dJ3_checkIndex_8e157_10 : decode cJ3_checkIndex_8e157 10 = .ok (.iload_n 0, 1) := by decide +kernel
theorem dJ3_checkIndex_8e157_11 : decode cJ3_checkIndex_8e157 11 = .ok (.iload_n 1, 1) := by decide +kernel
theorem dJ3_checkIndex_8e157_12 : decode cJ3_checkIndex_8e157 12 = .ok (.invokestatic 95, 3) := by decide +kernel
theorem dJ3_checkIndex_8e157_15 : decode cJ3_checkIndex_8e157 15 = .ok (.athrow, 1) := by decide +kernel
theorem dJ3_checkIndex_8e157_16 : decode cJ3_checkIndex_8e157 16 = .ok (.iload_n 0, 1) := by decide +kernel
theorem dJ3_checkIndex_8e157_17 : decode cJ3_checkIndex_8e157 17 = .ok (.ireturn, 1) := by decide +kernel
theorem dL_cell_0 : decode cL_cell 0 = .ok (.iload_n 1, 1) := by decide +kernel
theorem dL_cell_1 : decode cL_cell 1 = .ok (.aload_n 0, 1) := by decide +kernel
theorem dL_cell_2 : decode cL_cell 2 = .ok (.arraylength, 1) := by decide +kernel
theorem dL_cell_3 : decode cL_cell 3 = .ok (.if_icmp .ge 9, 3) := by decide +kernel
theorem dL_cell_6 : decode cL_cell 6 = .ok (.aload_n 0, 1) := by decide +kernel
theorem dL_cell_7 : decode cL_cell 7 = .ok (.iload_n 1, 1) := by decide +kernel
theorem dL_cell_8 : decode cL_cell 8 = .ok (.iaload, 1) := by decide +kernel
theorem dL_cell_9 : decode cL_cell 9 = .ok (.goto 12, 3) := by decide +kernel
theorem dL_cell_12 : decode cL_cell 12 = .ok (.ldc 7, 2) := by decide +kernel
theorem dL_cell_14 : decode cL_cell 14 = .ok (.iload_n 1, 1) := by decide +kernel
theorem dL_cell_15 : decode cL_cell 15 = .ok (.iconst 1, 1) := by decide +kernel
theorem dL_cell_16 : decode cL_cell 16 = .ok (.iadd, 1) := by decide +kernel
theorem dL_cell_17 : decode cL_cell 17 = .ok (.imul, 1) := by decide +kernel
theorem dL_cell_18 : decode cL_cell 18 = .ok (.bipush 11, 2) := by decide +kernel
theorem dL_cell_20 : decode cL_cell 20 = .ok (.iadd, 1) := by decide +kernel
theorem dL_cell_21 : decode cL_cell 21 = .ok (.ireturn, 1) := by decide +kernel
theorem dL_low_0 : decode cL_low 0 = .ok (.iload_n 0, 1) := by decide +kernel
theorem dL_low_1 : decode cL_low 1 = .ok (.ldc 8, 2) := by decide +kernel
theorem dL_low_3 : decode cL_low 3 = .ok (.iand, 1) := by decide +kernel
theorem dL_low_4 : decode cL_low 4 = .ok (.iload_n 1, 1) := by decide +kernel
theorem dL_low_5 : decode cL_low 5 = .ok (.irem, 1) := by decide +kernel
theorem dL_low_6 : decode cL_low 6 = .ok (.ireturn, 1) := by decide +kernel
theorem dL_many_0 : decode cL_many 0 = .ok (.iconst 0, 1) := by decide +kernel
theorem dL_many_1 : decode cL_many 1 = .ok (.istore_n 2, 1) := by decide +kernel
theorem dL_many_2 : decode cL_many 2 = .ok (.bipush 6, 2) := by decide +kernel
theorem dL_many_4 : decode cL_many 4 = .ok (.iload_n 1, 1) := by decide +kernel
theorem dL_many_5 : decode cL_many 5 = .ok (.imul, 1) := by decide +kernel
theorem dL_many_6 : decode cL_many 6 = .ok (.istore_n 3, 1) := by decide +kernel
theorem dL_many_7 : decode cL_many 7 = .ok (.iload_n 3, 1) := by decide +kernel
theorem dL_many_8 : decode cL_many 8 = .ok (.bipush 6, 2) := by decide +kernel
theorem dL_many_10 : decode cL_many 10 = .ok (.iload_n 1, 1) := by decide +kernel
theorem dL_many_11 : decode cL_many 11 = .ok (.imul, 1) := by decide +kernel
theorem dL_many_12 : decode cL_many 12 = .ok (.bipush 6, 2) := by decide +kernel
theorem dL_many_14 : decode cL_many 14 = .ok (.iadd, 1) := by decide +kernel
theorem dL_many_15 : decode cL_many 15 = .ok (.if_icmp .ge 23, 3) := by decide +kernel
theorem dL_many_18 : decode cL_many 18 = .ok (.iload_n 2, 1) := by decide +kernel
theorem dL_many_19 : decode cL_many 19 = .ok (.aload_n 0, 1) := by decide +kernel
theorem dL_many_20 : decode cL_many 20 = .ok (.iload_n 3, 1) := by decide +kernel
theorem dL_many_21 : decode cL_many 21 = .ok (.iaload, 1) := by decide +kernel
theorem dL_many_22 : decode cL_many 22 = .ok (.ifCond .le 7, 3) := by decide +kernel
theorem dL_many_25 : decode cL_many 25 = .ok (.iconst 1, 1) := by decide +kernel
theorem dL_many_26 : decode cL_many 26 = .ok (.goto 4, 3) := by decide +kernel
theorem dL_many_29 : decode cL_many 29 = .ok (.iconst 0, 1) := by decide +kernel
theorem dL_many_30 : decode cL_many 30 = .ok (.iadd, 1) := by decide +kernel
theorem dL_many_31 : decode cL_many 31 = .ok (.istore_n 2, 1) := by decide +kernel
theorem dL_many_32 : decode cL_many 32 = .ok (.iinc 3 1, 3) := by decide +kernel
theorem dL_many_35 : decode cL_many 35 = .ok (.goto (-28), 3) := by decide +kernel
theorem dL_many_38 : decode cL_many 38 = .ok (.iload_n 2, 1) := by decide +kernel
theorem dL_many_39 : decode cL_many 39 = .ok (.ireturn, 1) := by decide +kernel
theorem dL_hears_0 : decode cL_hears 0 = .ok (.aload_n 0, 1) := by decide +kernel
theorem dL_hears_1 : decode cL_hears 1 = .ok (.bipush 6, 2) := by decide +kernel
theorem dL_hears_3 : decode cL_hears 3 = .ok (.iload_n 2, 1) := by decide +kernel
theorem dL_hears_4 : decode cL_hears 4 = .ok (.imul, 1) := by decide +kernel
theorem dL_hears_5 : decode cL_hears 5 = .ok (.iload_n 3, 1) := by decide +kernel
theorem dL_hears_6 : decode cL_hears 6 = .ok (.iadd, 1) := by decide +kernel
theorem dL_hears_7 : decode cL_hears 7 = .ok (.iaload, 1) := by decide +kernel
theorem dL_hears_8 : decode cL_hears 8 = .ok (.istore 4, 2) := by decide +kernel
theorem dL_hears_10 : decode cL_hears 10 = .ok (.iconst 0, 1) := by decide +kernel
theorem dL_hears_11 : decode cL_hears 11 = .ok (.istore 5, 2) := by decide +kernel
theorem dL_hears_13 : decode cL_hears 13 = .ok (.iload_n 3, 1) := by decide +kernel
theorem dL_hears_14 : decode cL_hears 14 = .ok (.aload_n 1, 1) := by decide +kernel
theorem dL_hears_15 : decode cL_hears 15 = .ok (.iconst 0, 1) := by decide +kernel
theorem dL_hears_16 : decode cL_hears 16 = .ok (.iaload, 1) := by decide +kernel
theorem dL_hears_17 : decode cL_hears 17 = .ok (.isub, 1) := by decide +kernel
theorem dL_hears_18 : decode cL_hears 18 = .ok (.ifCond .ge 7, 3) := by decide +kernel
theorem dL_hears_21 : decode cL_hears 21 = .ok (.iconst 0, 1) := by decide +kernel
theorem dL_hears_22 : decode cL_hears 22 = .ok (.goto 8, 3) := by decide +kernel
theorem dL_hears_25 : decode cL_hears 25 = .ok (.iload_n 3, 1) := by decide +kernel
theorem dL_hears_26 : decode cL_hears 26 = .ok (.aload_n 1, 1) := by decide +kernel
theorem dL_hears_27 : decode cL_hears 27 = .ok (.iconst 0, 1) := by decide +kernel
theorem dL_hears_28 : decode cL_hears 28 = .ok (.iaload, 1) := by decide +kernel
theorem dL_hears_29 : decode cL_hears 29 = .ok (.isub, 1) := by decide +kernel
theorem dL_hears_30 : decode cL_hears 30 = .ok (.istore 6, 2) := by decide +kernel
theorem dL_hears_32 : decode cL_hears 32 = .ok (.iload 6, 2) := by decide +kernel
theorem dL_hears_34 : decode cL_hears 34 = .ok (.iload_n 3, 1) := by decide +kernel
theorem dL_hears_35 : decode cL_hears 35 = .ok (.if_icmp .gt 114, 3) := by decide +kernel
theorem dL_hears_38 : decode cL_hears 38 = .ok (.iload 6, 2) := by decide +kernel
theorem dL_hears_40 : decode cL_hears 40 = .ok (.iload_n 3, 1) := by decide +kernel
theorem dL_hears_41 : decode cL_hears 41 = .ok (.if_icmp .ge 15, 3) := by decide +kernel
theorem dL_hears_44 : decode cL_hears 44 = .ok (.aload_n 0, 1) := by decide +kernel
theorem dL_hears_45 : decode cL_hears 45 = .ok (.bipush 6, 2) := by decide +kernel
theorem dL_hears_47 : decode cL_hears 47 = .ok (.iload_n 2, 1) := by decide +kernel
theorem dL_hears_48 : decode cL_hears 48 = .ok (.imul, 1) := by decide +kernel
theorem dL_hears_49 : decode cL_hears 49 = .ok (.iload 6, 2) := by decide +kernel
theorem dL_hears_51 : decode cL_hears 51 = .ok (.iadd, 1) := by decide +kernel
theorem dL_hears_52 : decode cL_hears 52 = .ok (.iaload, 1) := by decide +kernel
theorem dL_hears_53 : decode cL_hears 53 = .ok (.goto 4, 3) := by decide +kernel
theorem dL_hears_56 : decode cL_hears 56 = .ok (.iconst 0, 1) := by decide +kernel
theorem dL_hears_57 : decode cL_hears 57 = .ok (.istore 7, 2) := by decide +kernel
theorem dL_hears_59 : decode cL_hears 59 = .ok (.iload_n 2, 1) := by decide +kernel
theorem dL_hears_60 : decode cL_hears 60 = .ok (.iconst 3, 1) := by decide +kernel
theorem dL_hears_61 : decode cL_hears 61 = .ok (.if_icmp .ge 25, 3) := by decide +kernel
theorem dL_hears_64 : decode cL_hears 64 = .ok (.aload_n 1, 1) := by decide +kernel
theorem dL_hears_65 : decode cL_hears 65 = .ok (.iconst 1, 1) := by decide +kernel
theorem dL_hears_66 : decode cL_hears 66 = .ok (.iaload, 1) := by decide +kernel
theorem dL_hears_67 : decode cL_hears 67 = .ok (.iconst 1, 1) := by decide +kernel
theorem dL_hears_68 : decode cL_hears 68 = .ok (.if_icmp .ne 18, 3) := by decide +kernel
theorem dL_hears_71 : decode cL_hears 71 = .ok (.aload_n 0, 1) := by decide +kernel
theorem dL_hears_72 : decode cL_hears 72 = .ok (.bipush 6, 2) := by decide +kernel
theorem dL_hears_74 : decode cL_hears 74 = .ok (.iload_n 2, 1) := by decide +kernel
theorem dL_hears_75 : decode cL_hears 75 = .ok (.imul, 1) := by decide +kernel
theorem dL_hears_76 : decode cL_hears 76 = .ok (.bipush 6, 2) := by decide +kernel
theorem dL_hears_78 : decode cL_hears 78 = .ok (.iadd, 1) := by decide +kernel
theorem dL_hears_79 : decode cL_hears 79 = .ok (.iload 6, 2) := by decide +kernel
theorem dL_hears_81 : decode cL_hears 81 = .ok (.iadd, 1) := by decide +kernel
theorem dL_hears_82 : decode cL_hears 82 = .ok (.iaload, 1) := by decide +kernel
theorem dL_hears_83 : decode cL_hears 83 = .ok (.goto 4, 3) := by decide +kernel
theorem dL_hears_86 : decode cL_hears 86 = .ok (.iconst 0, 1) := by decide +kernel
theorem dL_hears_87 : decode cL_hears 87 = .ok (.istore 8, 2) := by decide +kernel
theorem dL_hears_89 : decode cL_hears 89 = .ok (.iload 5, 2) := by decide +kernel
theorem dL_hears_91 : decode cL_hears 91 = .ok (.iload 7, 2) := by decide +kernel
theorem dL_hears_93 : decode cL_hears 93 = .ok (.ifCond .le 7, 3) := by decide +kernel
theorem dL_hears_96 : decode cL_hears 96 = .ok (.iconst 1, 1) := by decide +kernel
theorem dL_hears_97 : decode cL_hears 97 = .ok (.goto 4, 3) := by decide +kernel
theorem dL_hears_100 : decode cL_hears 100 = .ok (.iconst 0, 1) := by decide +kernel
theorem dL_hears_101 : decode cL_hears 101 = .ok (.iload 8, 2) := by decide +kernel
theorem dL_hears_103 : decode cL_hears 103 = .ok (.ifCond .le 7, 3) := by decide +kernel
theorem dL_hears_106 : decode cL_hears 106 = .ok (.iconst 1, 1) := by decide +kernel
theorem dL_hears_107 : decode cL_hears 107 = .ok (.goto 4, 3) := by decide +kernel
theorem dL_hears_110 : decode cL_hears 110 = .ok (.iconst 0, 1) := by decide +kernel
theorem dL_hears_111 : decode cL_hears 111 = .ok (.iadd, 1) := by decide +kernel
theorem dL_hears_112 : decode cL_hears 112 = .ok (.iload 7, 2) := by decide +kernel
theorem dL_hears_114 : decode cL_hears 114 = .ok (.iload 4, 2) := by decide +kernel
theorem dL_hears_116 : decode cL_hears 116 = .ok (.if_icmp .le 8, 3) := by decide +kernel
theorem dL_hears_119 : decode cL_hears 119 = .ok (.bipush 100, 2) := by decide +kernel
theorem dL_hears_121 : decode cL_hears 121 = .ok (.goto 4, 3) := by decide +kernel
theorem dL_hears_124 : decode cL_hears 124 = .ok (.iconst 0, 1) := by decide +kernel
theorem dL_hears_125 : decode cL_hears 125 = .ok (.iadd, 1) := by decide +kernel
theorem dL_hears_126 : decode cL_hears 126 = .ok (.iload 8, 2) := by decide +kernel
theorem dL_hears_128 : decode cL_hears 128 = .ok (.iload 4, 2) := by decide +kernel
theorem dL_hears_130 : decode cL_hears 130 = .ok (.if_icmp .le 8, 3) := by decide +kernel
theorem dL_hears_133 : decode cL_hears 133 = .ok (.bipush 100, 2) := by decide +kernel
theorem dL_hears_135 : decode cL_hears 135 = .ok (.goto 4, 3) := by decide +kernel
theorem dL_hears_138 : decode cL_hears 138 = .ok (.iconst 0, 1) := by decide +kernel
theorem dL_hears_139 : decode cL_hears 139 = .ok (.iadd, 1) := by decide +kernel
theorem dL_hears_140 : decode cL_hears 140 = .ok (.iadd, 1) := by decide +kernel
theorem dL_hears_141 : decode cL_hears 141 = .ok (.istore 5, 2) := by decide +kernel
theorem dL_hears_143 : decode cL_hears 143 = .ok (.iinc 6 1, 3) := by decide +kernel
theorem dL_hears_146 : decode cL_hears 146 = .ok (.goto (-114), 3) := by decide +kernel
theorem dL_hears_149 : decode cL_hears 149 = .ok (.iload 5, 2) := by decide +kernel
theorem dL_hears_151 : decode cL_hears 151 = .ok (.ireturn, 1) := by decide +kernel
theorem dL_odd_0 : decode cL_odd 0 = .ok (.iconst 0, 1) := by decide +kernel
theorem dL_odd_1 : decode cL_odd 1 = .ok (.istore_n 3, 1) := by decide +kernel
theorem dL_odd_2 : decode cL_odd 2 = .ok (.iconst 0, 1) := by decide +kernel
theorem dL_odd_3 : decode cL_odd 3 = .ok (.istore 4, 2) := by decide +kernel
theorem dL_odd_5 : decode cL_odd 5 = .ok (.iload 4, 2) := by decide +kernel
theorem dL_odd_7 : decode cL_odd 7 = .ok (.aload_n 0, 1) := by decide +kernel
theorem dL_odd_8 : decode cL_odd 8 = .ok (.iload_n 2, 1) := by decide +kernel
theorem dL_odd_9 : decode cL_odd 9 = .ok (.invokestatic 9, 3) := by decide +kernel
theorem dL_odd_12 : decode cL_odd 12 = .ok (.if_icmp .ge 25, 3) := by decide +kernel
theorem dL_odd_15 : decode cL_odd 15 = .ok (.iload_n 3, 1) := by decide +kernel
theorem dL_odd_16 : decode cL_odd 16 = .ok (.aload_n 0, 1) := by decide +kernel
theorem dL_odd_17 : decode cL_odd 17 = .ok (.aload_n 1, 1) := by decide +kernel
theorem dL_odd_18 : decode cL_odd 18 = .ok (.iload_n 2, 1) := by decide +kernel
theorem dL_odd_19 : decode cL_odd 19 = .ok (.iload 4, 2) := by decide +kernel
theorem dL_odd_21 : decode cL_odd 21 = .ok (.invokestatic 15, 3) := by decide +kernel
theorem dL_odd_24 : decode cL_odd 24 = .ok (.bipush 100, 2) := by decide +kernel
theorem dL_odd_26 : decode cL_odd 26 = .ok (.idiv, 1) := by decide +kernel
theorem dL_odd_27 : decode cL_odd 27 = .ok (.iconst 1, 1) := by decide +kernel
theorem dL_odd_28 : decode cL_odd 28 = .ok (.iand, 1) := by decide +kernel
theorem dL_odd_29 : decode cL_odd 29 = .ok (.iadd, 1) := by decide +kernel
theorem dL_odd_30 : decode cL_odd 30 = .ok (.istore_n 3, 1) := by decide +kernel
theorem dL_odd_31 : decode cL_odd 31 = .ok (.iinc 4 1, 3) := by decide +kernel
theorem dL_odd_34 : decode cL_odd 34 = .ok (.goto (-29), 3) := by decide +kernel
theorem dL_odd_37 : decode cL_odd 37 = .ok (.iload_n 3, 1) := by decide +kernel
theorem dL_odd_38 : decode cL_odd 38 = .ok (.ireturn, 1) := by decide +kernel
theorem dL_allOdd_0 : decode cL_allOdd 0 = .ok (.aload_n 0, 1) := by decide +kernel
theorem dL_allOdd_1 : decode cL_allOdd 1 = .ok (.aload_n 1, 1) := by decide +kernel
theorem dL_allOdd_2 : decode cL_allOdd 2 = .ok (.iconst 0, 1) := by decide +kernel
theorem dL_allOdd_3 : decode cL_allOdd 3 = .ok (.invokestatic 19, 3) := by decide +kernel
theorem dL_allOdd_6 : decode cL_allOdd 6 = .ok (.aload_n 0, 1) := by decide +kernel
theorem dL_allOdd_7 : decode cL_allOdd 7 = .ok (.aload_n 1, 1) := by decide +kernel
theorem dL_allOdd_8 : decode cL_allOdd 8 = .ok (.iconst 1, 1) := by decide +kernel
theorem dL_allOdd_9 : decode cL_allOdd 9 = .ok (.invokestatic 19, 3) := by decide +kernel
theorem dL_allOdd_12 : decode cL_allOdd 12 = .ok (.iadd, 1) := by decide +kernel
theorem dL_allOdd_13 : decode cL_allOdd 13 = .ok (.aload_n 0, 1) := by decide +kernel
theorem dL_allOdd_14 : decode cL_allOdd 14 = .ok (.aload_n 1, 1) := by decide +kernel
theorem dL_allOdd_15 : decode cL_allOdd 15 = .ok (.iconst 2, 1) := by decide +kernel
theorem dL_allOdd_16 : decode cL_allOdd 16 = .ok (.invokestatic 19, 3) := by decide +kernel
theorem dL_allOdd_19 : decode cL_allOdd 19 = .ok (.iadd, 1) := by decide +kernel
theorem dL_allOdd_20 : decode cL_allOdd 20 = .ok (.aload_n 0, 1) := by decide +kernel
theorem dL_allOdd_21 : decode cL_allOdd 21 = .ok (.aload_n 1, 1) := by decide +kernel
theorem dL_allOdd_22 : decode cL_allOdd 22 = .ok (.iconst 3, 1) := by decide +kernel
theorem dL_allOdd_23 : decode cL_allOdd 23 = .ok (.invokestatic 19, 3) := by decide +kernel
theorem dL_allOdd_26 : decode cL_allOdd 26 = .ok (.iadd, 1) := by decide +kernel
theorem dL_allOdd_27 : decode cL_allOdd 27 = .ok (.ireturn, 1) := by decide +kernel
theorem dL_discord_0 : decode cL_discord 0 = .ok (.iconst 0, 1) := by decide +kernel
theorem dL_discord_1 : decode cL_discord 1 = .ok (.istore_n 2, 1) := by decide +kernel
theorem dL_discord_2 : decode cL_discord 2 = .ok (.bipush 6, 2) := by decide +kernel
theorem dL_discord_4 : decode cL_discord 4 = .ok (.iload_n 1, 1) := by decide +kernel
theorem dL_discord_5 : decode cL_discord 5 = .ok (.imul, 1) := by decide +kernel
theorem dL_discord_6 : decode cL_discord 6 = .ok (.istore_n 3, 1) := by decide +kernel
theorem dL_discord_7 : decode cL_discord 7 = .ok (.iload_n 3, 1) := by decide +kernel
theorem dL_discord_8 : decode cL_discord 8 = .ok (.bipush 6, 2) := by decide +kernel
theorem dL_discord_10 : decode cL_discord 10 = .ok (.iload_n 1, 1) := by decide +kernel
theorem dL_discord_11 : decode cL_discord 11 = .ok (.imul, 1) := by decide +kernel
theorem dL_discord_12 : decode cL_discord 12 = .ok (.aload_n 0, 1) := by decide +kernel
theorem dL_discord_13 : decode cL_discord 13 = .ok (.iload_n 1, 1) := by decide +kernel
theorem dL_discord_14 : decode cL_discord 14 = .ok (.invokestatic 9, 3) := by decide +kernel
theorem dL_discord_17 : decode cL_discord 17 = .ok (.iadd, 1) := by decide +kernel
theorem dL_discord_18 : decode cL_discord 18 = .ok (.if_icmp .ge 53, 3) := by decide +kernel
theorem dL_discord_21 : decode cL_discord 21 = .ok (.iload_n 3, 1) := by decide +kernel
theorem dL_discord_22 : decode cL_discord 22 = .ok (.iconst 1, 1) := by decide +kernel
theorem dL_discord_23 : decode cL_discord 23 = .ok (.iadd, 1) := by decide +kernel
theorem dL_discord_24 : decode cL_discord 24 = .ok (.istore 4, 2) := by decide +kernel
theorem dL_discord_26 : decode cL_discord 26 = .ok (.iload 4, 2) := by decide +kernel
theorem dL_discord_28 : decode cL_discord 28 = .ok (.bipush 6, 2) := by decide +kernel
theorem dL_discord_30 : decode cL_discord 30 = .ok (.iload_n 1, 1) := by decide +kernel
theorem dL_discord_31 : decode cL_discord 31 = .ok (.imul, 1) := by decide +kernel
theorem dL_discord_32 : decode cL_discord 32 = .ok (.aload_n 0, 1) := by decide +kernel
theorem dL_discord_33 : decode cL_discord 33 = .ok (.iload_n 1, 1) := by decide +kernel
theorem dL_discord_34 : decode cL_discord 34 = .ok (.invokestatic 9, 3) := by decide +kernel
theorem dL_discord_37 : decode cL_discord 37 = .ok (.iadd, 1) := by decide +kernel
theorem dL_discord_38 : decode cL_discord 38 = .ok (.if_icmp .ge 27, 3) := by decide +kernel
theorem dL_discord_41 : decode cL_discord 41 = .ok (.iload_n 2, 1) := by decide +kernel
theorem dL_discord_42 : decode cL_discord 42 = .ok (.aload_n 0, 1) := by decide +kernel
theorem dL_discord_43 : decode cL_discord 43 = .ok (.iload_n 3, 1) := by decide +kernel
theorem dL_discord_44 : decode cL_discord 44 = .ok (.iaload, 1) := by decide +kernel
theorem dL_discord_45 : decode cL_discord 45 = .ok (.aload_n 0, 1) := by decide +kernel
theorem dL_discord_46 : decode cL_discord 46 = .ok (.iload 4, 2) := by decide +kernel
theorem dL_discord_48 : decode cL_discord 48 = .ok (.iaload, 1) := by decide +kernel
theorem dL_discord_49 : decode cL_discord 49 = .ok (.if_icmp .le 7, 3) := by decide +kernel
theorem dL_discord_52 : decode cL_discord 52 = .ok (.iconst 1, 1) := by decide +kernel
theorem dL_discord_53 : decode cL_discord 53 = .ok (.goto 4, 3) := by decide +kernel
theorem dL_discord_56 : decode cL_discord 56 = .ok (.iconst 0, 1) := by decide +kernel
theorem dL_discord_57 : decode cL_discord 57 = .ok (.iadd, 1) := by decide +kernel
theorem dL_discord_58 : decode cL_discord 58 = .ok (.istore_n 2, 1) := by decide +kernel
theorem dL_discord_59 : decode cL_discord 59 = .ok (.iinc 4 1, 3) := by decide +kernel
theorem dL_discord_62 : decode cL_discord 62 = .ok (.goto (-36), 3) := by decide +kernel
theorem dL_discord_65 : decode cL_discord 65 = .ok (.iinc 3 1, 3) := by decide +kernel
theorem dL_discord_68 : decode cL_discord 68 = .ok (.goto (-61), 3) := by decide +kernel
theorem dL_discord_71 : decode cL_discord 71 = .ok (.iload_n 2, 1) := by decide +kernel
theorem dL_discord_72 : decode cL_discord 72 = .ok (.ireturn, 1) := by decide +kernel
theorem dL_most_0 : decode cL_most 0 = .ok (.bipush 24, 2) := by decide +kernel
theorem dL_most_2 : decode cL_most 2 = .ok (.newarray .int, 2) := by decide +kernel
theorem dL_most_4 : decode cL_most 4 = .ok (.astore_n 3, 1) := by decide +kernel
theorem dL_most_5 : decode cL_most 5 = .ok (.aload_n 0, 1) := by decide +kernel
theorem dL_most_6 : decode cL_most 6 = .ok (.iload_n 2, 1) := by decide +kernel
theorem dL_most_7 : decode cL_most 7 = .ok (.invokestatic 9, 3) := by decide +kernel
theorem dL_most_10 : decode cL_most 10 = .ok (.istore 4, 2) := by decide +kernel
theorem dL_most_12 : decode cL_most 12 = .ok (.iconst 1, 1) := by decide +kernel
theorem dL_most_13 : decode cL_most 13 = .ok (.istore 5, 2) := by decide +kernel
theorem dL_most_15 : decode cL_most 15 = .ok (.iconst 2, 1) := by decide +kernel
theorem dL_most_16 : decode cL_most 16 = .ok (.istore 6, 2) := by decide +kernel
theorem dL_most_18 : decode cL_most 18 = .ok (.iload 6, 2) := by decide +kernel
theorem dL_most_20 : decode cL_most 20 = .ok (.iload 4, 2) := by decide +kernel
theorem dL_most_22 : decode cL_most 22 = .ok (.if_icmp .gt 16, 3) := by decide +kernel
theorem dL_most_25 : decode cL_most 25 = .ok (.iload 5, 2) := by decide +kernel
theorem dL_most_27 : decode cL_most 27 = .ok (.iload 6, 2) := by decide +kernel
theorem dL_most_29 : decode cL_most 29 = .ok (.imul, 1) := by decide +kernel
theorem dL_most_30 : decode cL_most 30 = .ok (.istore 5, 2) := by decide +kernel
theorem dL_most_32 : decode cL_most 32 = .ok (.iinc 6 1, 3) := by decide +kernel
theorem dL_most_35 : decode cL_most 35 = .ok (.goto (-17), 3) := by decide +kernel
theorem dL_most_38 : decode cL_most 38 = .ok (.iconst 0, 1) := by decide +kernel
theorem dL_most_39 : decode cL_most 39 = .ok (.istore 6, 2) := by decide +kernel
theorem dL_most_41 : decode cL_most 41 = .ok (.iload 6, 2) := by decide +kernel
theorem dL_most_43 : decode cL_most 43 = .ok (.bipush 24, 2) := by decide +kernel
theorem dL_most_45 : decode cL_most 45 = .ok (.if_icmp .ge 17, 3) := by decide +kernel
theorem dL_most_48 : decode cL_most 48 = .ok (.aload_n 3, 1) := by decide +kernel
theorem dL_most_49 : decode cL_most 49 = .ok (.iload 6, 2) := by decide +kernel
theorem dL_most_51 : decode cL_most 51 = .ok (.aload_n 0, 1) := by decide +kernel
theorem dL_most_52 : decode cL_most 52 = .ok (.iload 6, 2) := by decide +kernel
theorem dL_most_54 : decode cL_most 54 = .ok (.iaload, 1) := by decide +kernel
theorem dL_most_55 : decode cL_most 55 = .ok (.iastore, 1) := by decide +kernel
theorem dL_most_56 : decode cL_most 56 = .ok (.iinc 6 1, 3) := by decide +kernel
theorem dL_most_59 : decode cL_most 59 = .ok (.goto (-18), 3) := by decide +kernel
theorem dL_most_62 : decode cL_most 62 = .ok (.iconst (-1), 1) := by decide +kernel
theorem dL_most_63 : decode cL_most 63 = .ok (.istore 6, 2) := by decide +kernel
theorem dL_most_65 : decode cL_most 65 = .ok (.iconst 0, 1) := by decide +kernel
theorem dL_most_66 : decode cL_most 66 = .ok (.istore 7, 2) := by decide +kernel
theorem dL_most_68 : decode cL_most 68 = .ok (.iconst 0, 1) := by decide +kernel
theorem dL_most_69 : decode cL_most 69 = .ok (.istore 8, 2) := by decide +kernel
theorem dL_most_71 : decode cL_most 71 = .ok (.iload 8, 2) := by decide +kernel
theorem dL_most_73 : decode cL_most 73 = .ok (.iload 5, 2) := by decide +kernel
theorem dL_most_75 : decode cL_most 75 = .ok (.if_icmp .ge 189, 3) := by decide +kernel
theorem dL_most_78 : decode cL_most 78 = .ok (.iload 8, 2) := by decide +kernel
theorem dL_most_80 : decode cL_most 80 = .ok (.istore 9, 2) := by decide +kernel
theorem dL_most_82 : decode cL_most 82 = .ok (.iconst 0, 1) := by decide +kernel
theorem dL_most_83 : decode cL_most 83 = .ok (.istore 10, 2) := by decide +kernel
theorem dL_most_85 : decode cL_most 85 = .ok (.iconst 0, 1) := by decide +kernel
theorem dL_most_86 : decode cL_most 86 = .ok (.istore 11, 2) := by decide +kernel
theorem dL_most_88 : decode cL_most 88 = .ok (.iconst 0, 1) := by decide +kernel
theorem dL_most_89 : decode cL_most 89 = .ok (.istore 12, 2) := by decide +kernel
theorem dL_most_91 : decode cL_most 91 = .ok (.iload 12, 2) := by decide +kernel
theorem dL_most_93 : decode cL_most 93 = .ok (.iload 4, 2) := by decide +kernel
theorem dL_most_95 : decode cL_most 95 = .ok (.if_icmp .ge 109, 3) := by decide +kernel
theorem dL_most_98 : decode cL_most 98 = .ok (.iload 9, 2) := by decide +kernel
theorem dL_most_100 : decode cL_most 100 = .ok (.iload 4, 2) := by decide +kernel
theorem dL_most_102 : decode cL_most 102 = .ok (.iload 12, 2) := by decide +kernel
theorem dL_most_104 : decode cL_most 104 = .ok (.isub, 1) := by decide +kernel
theorem dL_most_105 : decode cL_most 105 = .ok (.irem, 1) := by decide +kernel
theorem dL_most_106 : decode cL_most 106 = .ok (.istore 13, 2) := by decide +kernel
theorem dL_most_108 : decode cL_most 108 = .ok (.iload 9, 2) := by decide +kernel
theorem dL_most_110 : decode cL_most 110 = .ok (.iload 4, 2) := by decide +kernel
theorem dL_most_112 : decode cL_most 112 = .ok (.iload 12, 2) := by decide +kernel
theorem dL_most_114 : decode cL_most 114 = .ok (.isub, 1) := by decide +kernel
theorem dL_most_115 : decode cL_most 115 = .ok (.idiv, 1) := by decide +kernel
theorem dL_most_116 : decode cL_most 116 = .ok (.istore 9, 2) := by decide +kernel
theorem dL_most_118 : decode cL_most 118 = .ok (.iload 10, 2) := by decide +kernel
theorem dL_most_120 : decode cL_most 120 = .ok (.iload 13, 2) := by decide +kernel
theorem dL_most_122 : decode cL_most 122 = .ok (.iadd, 1) := by decide +kernel
theorem dL_most_123 : decode cL_most 123 = .ok (.istore 10, 2) := by decide +kernel
theorem dL_most_125 : decode cL_most 125 = .ok (.iconst 0, 1) := by decide +kernel
theorem dL_most_126 : decode cL_most 126 = .ok (.istore 14, 2) := by decide +kernel
theorem dL_most_128 : decode cL_most 128 = .ok (.iload 11, 2) := by decide +kernel
theorem dL_most_130 : decode cL_most 130 = .ok (.iload 14, 2) := by decide +kernel
theorem dL_most_132 : decode cL_most 132 = .ok (.ishr, 1) := by decide +kernel
theorem dL_most_133 : decode cL_most 133 = .ok (.iconst 1, 1) := by decide +kernel
theorem dL_most_134 : decode cL_most 134 = .ok (.iand, 1) := by decide +kernel
theorem dL_most_135 : decode cL_most 135 = .ok (.iconst 1, 1) := by decide +kernel
theorem dL_most_136 : decode cL_most 136 = .ok (.if_icmp .eq 8, 3) := by decide +kernel
theorem dL_most_139 : decode cL_most 139 = .ok (.iload 13, 2) := by decide +kernel
theorem dL_most_141 : decode cL_most 141 = .ok (.ifCond .le 30, 3) := by decide +kernel
theorem dL_most_144 : decode cL_most 144 = .ok (.iload 13, 2) := by decide +kernel
theorem dL_most_146 : decode cL_most 146 = .ok (.iload 11, 2) := by decide +kernel
theorem dL_most_148 : decode cL_most 148 = .ok (.iload 14, 2) := by decide +kernel
theorem dL_most_150 : decode cL_most 150 = .ok (.ishr, 1) := by decide +kernel
theorem dL_most_151 : decode cL_most 151 = .ok (.iconst 1, 1) := by decide +kernel
theorem dL_most_152 : decode cL_most 152 = .ok (.iand, 1) := by decide +kernel
theorem dL_most_153 : decode cL_most 153 = .ok (.iconst 1, 1) := by decide +kernel
theorem dL_most_154 : decode cL_most 154 = .ok (.if_icmp .ne 7, 3) := by decide +kernel
theorem dL_most_157 : decode cL_most 157 = .ok (.iconst 0, 1) := by decide +kernel
theorem dL_most_158 : decode cL_most 158 = .ok (.goto 4, 3) := by decide +kernel
theorem dL_most_161 : decode cL_most 161 = .ok (.iconst 1, 1) := by decide +kernel
theorem dL_most_162 : decode cL_most 162 = .ok (.isub, 1) := by decide +kernel
theorem dL_most_163 : decode cL_most 163 = .ok (.istore 13, 2) := by decide +kernel
theorem dL_most_165 : decode cL_most 165 = .ok (.iinc 14 1, 3) := by decide +kernel
theorem dL_most_168 : decode cL_most 168 = .ok (.goto (-40), 3) := by decide +kernel
theorem dL_most_171 : decode cL_most 171 = .ok (.iload 11, 2) := by decide +kernel
theorem dL_most_173 : decode cL_most 173 = .ok (.iconst 1, 1) := by decide +kernel
theorem dL_most_174 : decode cL_most 174 = .ok (.iload 14, 2) := by decide +kernel
theorem dL_most_176 : decode cL_most 176 = .ok (.ishl, 1) := by decide +kernel
theorem dL_most_177 : decode cL_most 177 = .ok (.ior, 1) := by decide +kernel
theorem dL_most_178 : decode cL_most 178 = .ok (.istore 11, 2) := by decide +kernel
theorem dL_most_180 : decode cL_most 180 = .ok (.aload_n 3, 1) := by decide +kernel
theorem dL_most_181 : decode cL_most 181 = .ok (.bipush 6, 2) := by decide +kernel
theorem dL_most_183 : decode cL_most 183 = .ok (.iload_n 2, 1) := by decide +kernel
theorem dL_most_184 : decode cL_most 184 = .ok (.imul, 1) := by decide +kernel
theorem dL_most_185 : decode cL_most 185 = .ok (.iload 12, 2) := by decide +kernel
theorem dL_most_187 : decode cL_most 187 = .ok (.iadd, 1) := by decide +kernel
theorem dL_most_188 : decode cL_most 188 = .ok (.aload_n 0, 1) := by decide +kernel
theorem dL_most_189 : decode cL_most 189 = .ok (.bipush 6, 2) := by decide +kernel
theorem dL_most_191 : decode cL_most 191 = .ok (.iload_n 2, 1) := by decide +kernel
theorem dL_most_192 : decode cL_most 192 = .ok (.imul, 1) := by decide +kernel
theorem dL_most_193 : decode cL_most 193 = .ok (.iload 14, 2) := by decide +kernel
theorem dL_most_195 : decode cL_most 195 = .ok (.iadd, 1) := by decide +kernel
theorem dL_most_196 : decode cL_most 196 = .ok (.iaload, 1) := by decide +kernel
theorem dL_most_197 : decode cL_most 197 = .ok (.iastore, 1) := by decide +kernel
theorem dL_most_198 : decode cL_most 198 = .ok (.iinc 12 1, 3) := by decide +kernel
theorem dL_most_201 : decode cL_most 201 = .ok (.goto (-110), 3) := by decide +kernel
theorem dL_most_204 : decode cL_most 204 = .ok (.aload_n 3, 1) := by decide +kernel
theorem dL_most_205 : decode cL_most 205 = .ok (.aload_n 1, 1) := by decide +kernel
theorem dL_most_206 : decode cL_most 206 = .ok (.iload_n 2, 1) := by decide +kernel
theorem dL_most_207 : decode cL_most 207 = .ok (.invokestatic 19, 3) := by decide +kernel
theorem dL_most_210 : decode cL_most 210 = .ok (.istore 12, 2) := by decide +kernel
theorem dL_most_212 : decode cL_most 212 = .ok (.iload 12, 2) := by decide +kernel
theorem dL_most_214 : decode cL_most 214 = .ok (.iload 6, 2) := by decide +kernel
theorem dL_most_216 : decode cL_most 216 = .ok (.if_icmp .gt 17, 3) := by decide +kernel
theorem dL_most_219 : decode cL_most 219 = .ok (.iload 12, 2) := by decide +kernel
theorem dL_most_221 : decode cL_most 221 = .ok (.iload 6, 2) := by decide +kernel
theorem dL_most_223 : decode cL_most 223 = .ok (.if_icmp .ne 15, 3) := by decide +kernel
theorem dL_most_226 : decode cL_most 226 = .ok (.iload 10, 2) := by decide +kernel
theorem dL_most_228 : decode cL_most 228 = .ok (.iload 7, 2) := by decide +kernel
theorem dL_most_230 : decode cL_most 230 = .ok (.if_icmp .ge 8, 3) := by decide +kernel
theorem dL_most_233 : decode cL_most 233 = .ok (.iload 10, 2) := by decide +kernel
theorem dL_most_235 : decode cL_most 235 = .ok (.goto 5, 3) := by decide +kernel
theorem dL_most_238 : decode cL_most 238 = .ok (.iload 7, 2) := by decide +kernel
theorem dL_most_240 : decode cL_most 240 = .ok (.istore 7, 2) := by decide +kernel
theorem dL_most_242 : decode cL_most 242 = .ok (.iload 12, 2) := by decide +kernel
theorem dL_most_244 : decode cL_most 244 = .ok (.iload 6, 2) := by decide +kernel
theorem dL_most_246 : decode cL_most 246 = .ok (.if_icmp .le 8, 3) := by decide +kernel
theorem dL_most_249 : decode cL_most 249 = .ok (.iload 12, 2) := by decide +kernel
theorem dL_most_251 : decode cL_most 251 = .ok (.goto 5, 3) := by decide +kernel
theorem dL_most_254 : decode cL_most 254 = .ok (.iload 6, 2) := by decide +kernel
theorem dL_most_256 : decode cL_most 256 = .ok (.istore 6, 2) := by decide +kernel
theorem dL_most_258 : decode cL_most 258 = .ok (.iinc 8 1, 3) := by decide +kernel
theorem dL_most_261 : decode cL_most 261 = .ok (.goto (-190), 3) := by decide +kernel
theorem dL_most_264 : decode cL_most 264 = .ok (.bipush 100, 2) := by decide +kernel
theorem dL_most_266 : decode cL_most 266 = .ok (.iload 6, 2) := by decide +kernel
theorem dL_most_268 : decode cL_most 268 = .ok (.imul, 1) := by decide +kernel
theorem dL_most_269 : decode cL_most 269 = .ok (.iload 7, 2) := by decide +kernel
theorem dL_most_271 : decode cL_most 271 = .ok (.iadd, 1) := by decide +kernel
theorem dL_most_272 : decode cL_most 272 = .ok (.ireturn, 1) := by decide +kernel
theorem dL_letter_0 : decode cL_letter 0 = .ok (.iload_n 0, 1) := by decide +kernel
theorem dL_letter_1 : decode cL_letter 1 = .ok (.ifCond .ne 8, 3) := by decide +kernel
theorem dL_letter_4 : decode cL_letter 4 = .ok (.bipush 98, 2) := by decide +kernel
theorem dL_letter_6 : decode cL_letter 6 = .ok (.goto 25, 3) := by decide +kernel
theorem dL_letter_9 : decode cL_letter 9 = .ok (.iload_n 0, 1) := by decide +kernel
theorem dL_letter_10 : decode cL_letter 10 = .ok (.iconst 1, 1) := by decide +kernel
theorem dL_letter_11 : decode cL_letter 11 = .ok (.if_icmp .ne 8, 3) := by decide +kernel
theorem dL_letter_14 : decode cL_letter 14 = .ok (.bipush 116, 2) := by decide +kernel
theorem dL_letter_16 : decode cL_letter 16 = .ok (.goto 15, 3) := by decide +kernel
theorem dL_letter_19 : decode cL_letter 19 = .ok (.iload_n 0, 1) := by decide +kernel
theorem dL_letter_20 : decode cL_letter 20 = .ok (.iconst 2, 1) := by decide +kernel
theorem dL_letter_21 : decode cL_letter 21 = .ok (.if_icmp .ne 8, 3) := by decide +kernel
theorem dL_letter_24 : decode cL_letter 24 = .ok (.bipush 97, 2) := by decide +kernel
theorem dL_letter_26 : decode cL_letter 26 = .ok (.goto 5, 3) := by decide +kernel
theorem dL_letter_29 : decode cL_letter 29 = .ok (.bipush 115, 2) := by decide +kernel
theorem dL_letter_31 : decode cL_letter 31 = .ok (.ireturn, 1) := by decide +kernel
theorem dL_isSinger_0 : decode cL_isSinger 0 = .ok (.bipush 6, 2) := by decide +kernel
theorem dL_isSinger_2 : decode cL_isSinger 2 = .ok (.iload 5, 2) := by decide +kernel
theorem dL_isSinger_4 : decode cL_isSinger 4 = .ok (.imul, 1) := by decide +kernel
theorem dL_isSinger_5 : decode cL_isSinger 5 = .ok (.iload 6, 2) := by decide +kernel
theorem dL_isSinger_7 : decode cL_isSinger 7 = .ok (.iadd, 1) := by decide +kernel
theorem dL_isSinger_8 : decode cL_isSinger 8 = .ok (.istore 7, 2) := by decide +kernel
theorem dL_isSinger_10 : decode cL_isSinger 10 = .ok (.aload_n 1, 1) := by decide +kernel
theorem dL_isSinger_11 : decode cL_isSinger 11 = .ok (.aload 4, 2) := by decide +kernel
theorem dL_isSinger_13 : decode cL_isSinger 13 = .ok (.iload 5, 2) := by decide +kernel
theorem dL_isSinger_15 : decode cL_isSinger 15 = .ok (.iload 6, 2) := by decide +kernel
theorem dL_isSinger_17 : decode cL_isSinger 17 = .ok (.invokestatic 15, 3) := by decide +kernel
theorem dL_isSinger_20 : decode cL_isSinger 20 = .ok (.istore 8, 2) := by decide +kernel
theorem dL_isSinger_22 : decode cL_isSinger 22 = .ok (.iconst 0, 1) := by decide +kernel
theorem dL_isSinger_23 : decode cL_isSinger 23 = .ok (.istore 9, 2) := by decide +kernel
theorem dL_isSinger_25 : decode cL_isSinger 25 = .ok (.iload 6, 2) := by decide +kernel
theorem dL_isSinger_27 : decode cL_isSinger 27 = .ok (.istore 10, 2) := by decide +kernel
theorem dL_isSinger_29 : decode cL_isSinger 29 = .ok (.iload 10, 2) := by decide +kernel
theorem dL_isSinger_31 : decode cL_isSinger 31 = .ok (.bipush 6, 2) := by decide +kernel
theorem dL_isSinger_33 : decode cL_isSinger 33 = .ok (.if_icmp .ge 90, 3) := by decide +kernel
theorem dL_isSinger_36 : decode cL_isSinger 36 = .ok (.iload 10, 2) := by decide +kernel
theorem dL_isSinger_38 : decode cL_isSinger 38 = .ok (.iload 6, 2) := by decide +kernel
theorem dL_isSinger_40 : decode cL_isSinger 40 = .ok (.aload 4, 2) := by decide +kernel
theorem dL_isSinger_42 : decode cL_isSinger 42 = .ok (.iconst 0, 1) := by decide +kernel
theorem dL_isSinger_43 : decode cL_isSinger 43 = .ok (.iaload, 1) := by decide +kernel
theorem dL_isSinger_44 : decode cL_isSinger 44 = .ok (.iadd, 1) := by decide +kernel
theorem dL_isSinger_45 : decode cL_isSinger 45 = .ok (.if_icmp .gt 78, 3) := by decide +kernel
theorem dL_isSinger_48 : decode cL_isSinger 48 = .ok (.iload 9, 2) := by decide +kernel
theorem dL_isSinger_50 : decode cL_isSinger 50 = .ok (.iload 10, 2) := by decide +kernel
theorem dL_isSinger_52 : decode cL_isSinger 52 = .ok (.iload 6, 2) := by decide +kernel
theorem dL_isSinger_54 : decode cL_isSinger 54 = .ok (.if_icmp .le 20, 3) := by decide +kernel
theorem dL_isSinger_57 : decode cL_isSinger 57 = .ok (.aload_n 1, 1) := by decide +kernel
theorem dL_isSinger_58 : decode cL_isSinger 58 = .ok (.bipush 6, 2) := by decide +kernel
theorem dL_isSinger_60 : decode cL_isSinger 60 = .ok (.iload 5, 2) := by decide +kernel
theorem dL_isSinger_62 : decode cL_isSinger 62 = .ok (.imul, 1) := by decide +kernel
theorem dL_isSinger_63 : decode cL_isSinger 63 = .ok (.iload 10, 2) := by decide +kernel
theorem dL_isSinger_65 : decode cL_isSinger 65 = .ok (.iadd, 1) := by decide +kernel
theorem dL_isSinger_66 : decode cL_isSinger 66 = .ok (.iaload, 1) := by decide +kernel
theorem dL_isSinger_67 : decode cL_isSinger 67 = .ok (.ifCond .le 7, 3) := by decide +kernel
theorem dL_isSinger_70 : decode cL_isSinger 70 = .ok (.iconst 1, 1) := by decide +kernel
theorem dL_isSinger_71 : decode cL_isSinger 71 = .ok (.goto 4, 3) := by decide +kernel
theorem dL_isSinger_74 : decode cL_isSinger 74 = .ok (.iconst 0, 1) := by decide +kernel
theorem dL_isSinger_75 : decode cL_isSinger 75 = .ok (.iadd, 1) := by decide +kernel
theorem dL_isSinger_76 : decode cL_isSinger 76 = .ok (.istore 9, 2) := by decide +kernel
theorem dL_isSinger_78 : decode cL_isSinger 78 = .ok (.iload 9, 2) := by decide +kernel
theorem dL_isSinger_80 : decode cL_isSinger 80 = .ok (.iload 5, 2) := by decide +kernel
theorem dL_isSinger_82 : decode cL_isSinger 82 = .ok (.ifCond .le 31, 3) := by decide +kernel
theorem dL_isSinger_85 : decode cL_isSinger 85 = .ok (.aload 4, 2) := by decide +kernel
theorem dL_isSinger_87 : decode cL_isSinger 87 = .ok (.iconst 1, 1) := by decide +kernel
theorem dL_isSinger_88 : decode cL_isSinger 88 = .ok (.iaload, 1) := by decide +kernel
theorem dL_isSinger_89 : decode cL_isSinger 89 = .ok (.iconst 1, 1) := by decide +kernel
theorem dL_isSinger_90 : decode cL_isSinger 90 = .ok (.if_icmp .ne 23, 3) := by decide +kernel
theorem dL_isSinger_93 : decode cL_isSinger 93 = .ok (.aload_n 1, 1) := by decide +kernel
theorem dL_isSinger_94 : decode cL_isSinger 94 = .ok (.bipush 6, 2) := by decide +kernel
theorem dL_isSinger_96 : decode cL_isSinger 96 = .ok (.iload 5, 2) := by decide +kernel
theorem dL_isSinger_98 : decode cL_isSinger 98 = .ok (.imul, 1) := by decide +kernel
theorem dL_isSinger_99 : decode cL_isSinger 99 = .ok (.bipush 6, 2) := by decide +kernel
theorem dL_isSinger_101 : decode cL_isSinger 101 = .ok (.isub, 1) := by decide +kernel
theorem dL_isSinger_102 : decode cL_isSinger 102 = .ok (.iload 10, 2) := by decide +kernel
theorem dL_isSinger_104 : decode cL_isSinger 104 = .ok (.iadd, 1) := by decide +kernel
theorem dL_isSinger_105 : decode cL_isSinger 105 = .ok (.iaload, 1) := by decide +kernel
theorem dL_isSinger_106 : decode cL_isSinger 106 = .ok (.ifCond .le 7, 3) := by decide +kernel
theorem dL_isSinger_109 : decode cL_isSinger 109 = .ok (.iconst 1, 1) := by decide +kernel
theorem dL_isSinger_110 : decode cL_isSinger 110 = .ok (.goto 4, 3) := by decide +kernel
theorem dL_isSinger_113 : decode cL_isSinger 113 = .ok (.iconst 0, 1) := by decide +kernel
theorem dL_isSinger_114 : decode cL_isSinger 114 = .ok (.iadd, 1) := by decide +kernel
theorem dL_isSinger_115 : decode cL_isSinger 115 = .ok (.istore 9, 2) := by decide +kernel
theorem dL_isSinger_117 : decode cL_isSinger 117 = .ok (.iinc 10 1, 3) := by decide +kernel
theorem dL_isSinger_120 : decode cL_isSinger 120 = .ok (.goto (-91), 3) := by decide +kernel
theorem dL_isSinger_123 : decode cL_isSinger 123 = .ok (.aload_n 0, 1) := by decide +kernel
theorem dL_isSinger_124 : decode cL_isSinger 124 = .ok (.iload 5, 2) := by decide +kernel
theorem dL_isSinger_126 : decode cL_isSinger 126 = .ok (.iload 6, 2) := by decide +kernel
theorem dL_isSinger_128 : decode cL_isSinger 128 = .ok (.iconst 0, 1) := by decide +kernel
theorem dL_isSinger_129 : decode cL_isSinger 129 = .ok (.invokevirtual 23, 3) := by decide +kernel
theorem dL_isSinger_132 : decode cL_isSinger 132 = .ok (.aload_n 3, 1) := by decide +kernel
theorem dL_isSinger_133 : decode cL_isSinger 133 = .ok (.iload 7, 2) := by decide +kernel
theorem dL_isSinger_135 : decode cL_isSinger 135 = .ok (.iaload, 1) := by decide +kernel
theorem dL_isSinger_136 : decode cL_isSinger 136 = .ok (.if_icmp .ne 125, 3) := by decide +kernel
theorem dL_isSinger_139 : decode cL_isSinger 139 = .ok (.aload_n 0, 1) := by decide +kernel
theorem dL_isSinger_140 : decode cL_isSinger 140 = .ok (.iload 5, 2) := by decide +kernel
theorem dL_isSinger_142 : decode cL_isSinger 142 = .ok (.iload 6, 2) := by decide +kernel
theorem dL_isSinger_144 : decode cL_isSinger 144 = .ok (.iconst 1, 1) := by decide +kernel
theorem dL_isSinger_145 : decode cL_isSinger 145 = .ok (.invokevirtual 23, 3) := by decide +kernel
theorem dL_isSinger_148 : decode cL_isSinger 148 = .ok (.aload_n 1, 1) := by decide +kernel
theorem dL_isSinger_149 : decode cL_isSinger 149 = .ok (.iload 7, 2) := by decide +kernel
theorem dL_isSinger_151 : decode cL_isSinger 151 = .ok (.iaload, 1) := by decide +kernel
theorem dL_isSinger_152 : decode cL_isSinger 152 = .ok (.if_icmp .ne 109, 3) := by decide +kernel
theorem dL_isSinger_155 : decode cL_isSinger 155 = .ok (.aload_n 0, 1) := by decide +kernel
theorem dL_isSinger_156 : decode cL_isSinger 156 = .ok (.iload 5, 2) := by decide +kernel
theorem dL_isSinger_158 : decode cL_isSinger 158 = .ok (.iload 6, 2) := by decide +kernel
theorem dL_isSinger_160 : decode cL_isSinger 160 = .ok (.iconst 2, 1) := by decide +kernel
theorem dL_isSinger_161 : decode cL_isSinger 161 = .ok (.invokevirtual 23, 3) := by decide +kernel
theorem dL_isSinger_164 : decode cL_isSinger 164 = .ok (.aload_n 2, 1) := by decide +kernel
theorem dL_isSinger_165 : decode cL_isSinger 165 = .ok (.iload 7, 2) := by decide +kernel
theorem dL_isSinger_167 : decode cL_isSinger 167 = .ok (.iaload, 1) := by decide +kernel
theorem dL_isSinger_168 : decode cL_isSinger 168 = .ok (.if_icmp .ne 93, 3) := by decide +kernel
theorem dL_isSinger_171 : decode cL_isSinger 171 = .ok (.aload_n 0, 1) := by decide +kernel
theorem dL_isSinger_172 : decode cL_isSinger 172 = .ok (.iload 5, 2) := by decide +kernel
theorem dL_isSinger_174 : decode cL_isSinger 174 = .ok (.iload 6, 2) := by decide +kernel
theorem dL_isSinger_176 : decode cL_isSinger 176 = .ok (.iconst 3, 1) := by decide +kernel
theorem dL_isSinger_177 : decode cL_isSinger 177 = .ok (.invokevirtual 23, 3) := by decide +kernel
theorem dL_isSinger_180 : decode cL_isSinger 180 = .ok (.iload 8, 2) := by decide +kernel
theorem dL_isSinger_182 : decode cL_isSinger 182 = .ok (.bipush 100, 2) := by decide +kernel
theorem dL_isSinger_184 : decode cL_isSinger 184 = .ok (.irem, 1) := by decide +kernel
theorem dL_isSinger_185 : decode cL_isSinger 185 = .ok (.if_icmp .ne 76, 3) := by decide +kernel
theorem dL_isSinger_188 : decode cL_isSinger 188 = .ok (.aload_n 0, 1) := by decide +kernel
theorem dL_isSinger_189 : decode cL_isSinger 189 = .ok (.iload 5, 2) := by decide +kernel
theorem dL_isSinger_191 : decode cL_isSinger 191 = .ok (.iload 6, 2) := by decide +kernel
theorem dL_isSinger_193 : decode cL_isSinger 193 = .ok (.iconst 4, 1) := by decide +kernel
theorem dL_isSinger_194 : decode cL_isSinger 194 = .ok (.invokevirtual 23, 3) := by decide +kernel
theorem dL_isSinger_197 : decode cL_isSinger 197 = .ok (.iload 8, 2) := by decide +kernel
theorem dL_isSinger_199 : decode cL_isSinger 199 = .ok (.bipush 100, 2) := by decide +kernel
theorem dL_isSinger_201 : decode cL_isSinger 201 = .ok (.idiv, 1) := by decide +kernel
theorem dL_isSinger_202 : decode cL_isSinger 202 = .ok (.if_icmp .ne 59, 3) := by decide +kernel
theorem dL_isSinger_205 : decode cL_isSinger 205 = .ok (.aload_n 0, 1) := by decide +kernel
theorem dL_isSinger_206 : decode cL_isSinger 206 = .ok (.iload 5, 2) := by decide +kernel
theorem dL_isSinger_208 : decode cL_isSinger 208 = .ok (.iload 6, 2) := by decide +kernel
theorem dL_isSinger_210 : decode cL_isSinger 210 = .ok (.iconst 5, 1) := by decide +kernel
theorem dL_isSinger_211 : decode cL_isSinger 211 = .ok (.invokevirtual 23, 3) := by decide +kernel
theorem dL_isSinger_214 : decode cL_isSinger 214 = .ok (.iload 8, 2) := by decide +kernel
theorem dL_isSinger_216 : decode cL_isSinger 216 = .ok (.bipush 100, 2) := by decide +kernel
theorem dL_isSinger_218 : decode cL_isSinger 218 = .ok (.idiv, 1) := by decide +kernel
theorem dL_isSinger_219 : decode cL_isSinger 219 = .ok (.if_icmp .ne 42, 3) := by decide +kernel
theorem dL_isSinger_222 : decode cL_isSinger 222 = .ok (.aload_n 0, 1) := by decide +kernel
theorem dL_isSinger_223 : decode cL_isSinger 223 = .ok (.iload 5, 2) := by decide +kernel
theorem dL_isSinger_225 : decode cL_isSinger 225 = .ok (.iload 6, 2) := by decide +kernel
theorem dL_isSinger_227 : decode cL_isSinger 227 = .ok (.bipush 6, 2) := by decide +kernel
theorem dL_isSinger_229 : decode cL_isSinger 229 = .ok (.invokevirtual 23, 3) := by decide +kernel
theorem dL_isSinger_232 : decode cL_isSinger 232 = .ok (.iload 8, 2) := by decide +kernel
theorem dL_isSinger_234 : decode cL_isSinger 234 = .ok (.bipush 100, 2) := by decide +kernel
theorem dL_isSinger_236 : decode cL_isSinger 236 = .ok (.idiv, 1) := by decide +kernel
theorem dL_isSinger_237 : decode cL_isSinger 237 = .ok (.iconst 1, 1) := by decide +kernel
theorem dL_isSinger_238 : decode cL_isSinger 238 = .ok (.iand, 1) := by decide +kernel
theorem dL_isSinger_239 : decode cL_isSinger 239 = .ok (.if_icmp .ne 22, 3) := by decide +kernel
theorem dL_isSinger_242 : decode cL_isSinger 242 = .ok (.aload_n 0, 1) := by decide +kernel
theorem dL_isSinger_243 : decode cL_isSinger 243 = .ok (.iload 5, 2) := by decide +kernel
theorem dL_isSinger_245 : decode cL_isSinger 245 = .ok (.iload 6, 2) := by decide +kernel
theorem dL_isSinger_247 : decode cL_isSinger 247 = .ok (.bipush 7, 2) := by decide +kernel
theorem dL_isSinger_249 : decode cL_isSinger 249 = .ok (.invokevirtual 23, 3) := by decide +kernel
theorem dL_isSinger_252 : decode cL_isSinger 252 = .ok (.iload 9, 2) := by decide +kernel
theorem dL_isSinger_254 : decode cL_isSinger 254 = .ok (.if_icmp .ne 7, 3) := by decide +kernel
theorem dL_isSinger_257 : decode cL_isSinger 257 = .ok (.iconst 1, 1) := by decide +kernel
theorem dL_isSinger_258 : decode cL_isSinger 258 = .ok (.goto 4, 3) := by decide +kernel
theorem dL_isSinger_261 : decode cL_isSinger 261 = .ok (.iconst 0, 1) := by decide +kernel
theorem dL_isSinger_262 : decode cL_isSinger 262 = .ok (.istore 10, 2) := by decide +kernel
theorem dL_isSinger_264 : decode cL_isSinger 264 = .ok (.iload 10, 2) := by decide +kernel
theorem dL_isSinger_266 : decode cL_isSinger 266 = .ok (.ifCond .eq 118, 3) := by decide +kernel
theorem dL_isSinger_269 : decode cL_isSinger 269 = .ok (.aload_n 0, 1) := by decide +kernel
theorem dL_isSinger_270 : decode cL_isSinger 270 = .ok (.aload_n 3, 1) := by decide +kernel
theorem dL_isSinger_271 : decode cL_isSinger 271 = .ok (.iload 7, 2) := by decide +kernel
theorem dL_isSinger_273 : decode cL_isSinger 273 = .ok (.iaload, 1) := by decide +kernel
theorem dL_isSinger_274 : decode cL_isSinger 274 = .ok (.invokevirtual 29, 3) := by decide +kernel
theorem dL_isSinger_277 : decode cL_isSinger 277 = .ok (.iload 7, 2) := by decide +kernel
theorem dL_isSinger_279 : decode cL_isSinger 279 = .ok (.if_icmp .ne 105, 3) := by decide +kernel
theorem dL_isSinger_282 : decode cL_isSinger 282 = .ok (.aload_n 0, 1) := by decide +kernel
theorem dL_isSinger_283 : decode cL_isSinger 283 = .ok (.iload 5, 2) := by decide +kernel
theorem dL_isSinger_285 : decode cL_isSinger 285 = .ok (.iconst 5, 1) := by decide +kernel
theorem dL_isSinger_286 : decode cL_isSinger 286 = .ok (.iload 6, 2) := by decide +kernel
theorem dL_isSinger_288 : decode cL_isSinger 288 = .ok (.imul, 1) := by decide +kernel
theorem dL_isSinger_289 : decode cL_isSinger 289 = .ok (.invokevirtual 33, 3) := by decide +kernel
theorem dL_isSinger_292 : decode cL_isSinger 292 = .ok (.bipush 48, 2) := by decide +kernel
theorem dL_isSinger_294 : decode cL_isSinger 294 = .ok (.aload_n 1, 1) := by decide +kernel
theorem dL_isSinger_295 : decode cL_isSinger 295 = .ok (.iload 7, 2) := by decide +kernel
theorem dL_isSinger_297 : decode cL_isSinger 297 = .ok (.iaload, 1) := by decide +kernel
theorem dL_isSinger_298 : decode cL_isSinger 298 = .ok (.bipush 100, 2) := by decide +kernel
theorem dL_isSinger_300 : decode cL_isSinger 300 = .ok (.idiv, 1) := by decide +kernel
theorem dL_isSinger_301 : decode cL_isSinger 301 = .ok (.iadd, 1) := by decide +kernel
theorem dL_isSinger_302 : decode cL_isSinger 302 = .ok (.if_icmp .ne 82, 3) := by decide +kernel
theorem dL_isSinger_305 : decode cL_isSinger 305 = .ok (.aload_n 0, 1) := by decide +kernel
theorem dL_isSinger_306 : decode cL_isSinger 306 = .ok (.iload 5, 2) := by decide +kernel
theorem dL_isSinger_308 : decode cL_isSinger 308 = .ok (.iconst 5, 1) := by decide +kernel
theorem dL_isSinger_309 : decode cL_isSinger 309 = .ok (.iload 6, 2) := by decide +kernel
theorem dL_isSinger_311 : decode cL_isSinger 311 = .ok (.imul, 1) := by decide +kernel
theorem dL_isSinger_312 : decode cL_isSinger 312 = .ok (.iconst 1, 1) := by decide +kernel
theorem dL_isSinger_313 : decode cL_isSinger 313 = .ok (.iadd, 1) := by decide +kernel
theorem dL_isSinger_314 : decode cL_isSinger 314 = .ok (.invokevirtual 33, 3) := by decide +kernel
theorem dL_isSinger_317 : decode cL_isSinger 317 = .ok (.bipush 48, 2) := by decide +kernel
theorem dL_isSinger_319 : decode cL_isSinger 319 = .ok (.aload_n 1, 1) := by decide +kernel
theorem dL_isSinger_320 : decode cL_isSinger 320 = .ok (.iload 7, 2) := by decide +kernel
theorem dL_isSinger_322 : decode cL_isSinger 322 = .ok (.iaload, 1) := by decide +kernel
theorem dL_isSinger_323 : decode cL_isSinger 323 = .ok (.bipush 10, 2) := by decide +kernel
theorem dL_isSinger_325 : decode cL_isSinger 325 = .ok (.idiv, 1) := by decide +kernel
theorem dL_isSinger_326 : decode cL_isSinger 326 = .ok (.bipush 10, 2) := by decide +kernel
theorem dL_isSinger_328 : decode cL_isSinger 328 = .ok (.irem, 1) := by decide +kernel
theorem dL_isSinger_329 : decode cL_isSinger 329 = .ok (.iadd, 1) := by decide +kernel
theorem dL_isSinger_330 : decode cL_isSinger 330 = .ok (.if_icmp .ne 54, 3) := by decide +kernel
theorem dL_isSinger_333 : decode cL_isSinger 333 = .ok (.aload_n 0, 1) := by decide +kernel
theorem dL_isSinger_334 : decode cL_isSinger 334 = .ok (.iload 5, 2) := by decide +kernel
theorem dL_isSinger_336 : decode cL_isSinger 336 = .ok (.iconst 5, 1) := by decide +kernel
theorem dL_isSinger_337 : decode cL_isSinger 337 = .ok (.iload 6, 2) := by decide +kernel
theorem dL_isSinger_339 : decode cL_isSinger 339 = .ok (.imul, 1) := by decide +kernel
theorem dL_isSinger_340 : decode cL_isSinger 340 = .ok (.iconst 2, 1) := by decide +kernel
theorem dL_isSinger_341 : decode cL_isSinger 341 = .ok (.iadd, 1) := by decide +kernel
theorem dL_isSinger_342 : decode cL_isSinger 342 = .ok (.invokevirtual 33, 3) := by decide +kernel
theorem dL_isSinger_345 : decode cL_isSinger 345 = .ok (.bipush 48, 2) := by decide +kernel
theorem dL_isSinger_347 : decode cL_isSinger 347 = .ok (.aload_n 1, 1) := by decide +kernel
theorem dL_isSinger_348 : decode cL_isSinger 348 = .ok (.iload 7, 2) := by decide +kernel
theorem dL_isSinger_350 : decode cL_isSinger 350 = .ok (.iaload, 1) := by decide +kernel
theorem dL_isSinger_351 : decode cL_isSinger 351 = .ok (.bipush 10, 2) := by decide +kernel
theorem dL_isSinger_353 : decode cL_isSinger 353 = .ok (.irem, 1) := by decide +kernel
theorem dL_isSinger_354 : decode cL_isSinger 354 = .ok (.iadd, 1) := by decide +kernel
theorem dL_isSinger_355 : decode cL_isSinger 355 = .ok (.if_icmp .ne 29, 3) := by decide +kernel
theorem dL_isSinger_358 : decode cL_isSinger 358 = .ok (.aload_n 0, 1) := by decide +kernel
theorem dL_isSinger_359 : decode cL_isSinger 359 = .ok (.iload 5, 2) := by decide +kernel
theorem dL_isSinger_361 : decode cL_isSinger 361 = .ok (.iconst 5, 1) := by decide +kernel
theorem dL_isSinger_362 : decode cL_isSinger 362 = .ok (.iload 6, 2) := by decide +kernel
theorem dL_isSinger_364 : decode cL_isSinger 364 = .ok (.imul, 1) := by decide +kernel
theorem dL_isSinger_365 : decode cL_isSinger 365 = .ok (.iconst 3, 1) := by decide +kernel
theorem dL_isSinger_366 : decode cL_isSinger 366 = .ok (.iadd, 1) := by decide +kernel
theorem dL_isSinger_367 : decode cL_isSinger 367 = .ok (.invokevirtual 33, 3) := by decide +kernel
theorem dL_isSinger_370 : decode cL_isSinger 370 = .ok (.aload_n 2, 1) := by decide +kernel
theorem dL_isSinger_371 : decode cL_isSinger 371 = .ok (.iload 7, 2) := by decide +kernel
theorem dL_isSinger_373 : decode cL_isSinger 373 = .ok (.iaload, 1) := by decide +kernel
theorem dL_isSinger_374 : decode cL_isSinger 374 = .ok (.invokestatic 37, 3) := by decide +kernel
theorem dL_isSinger_377 : decode cL_isSinger 377 = .ok (.if_icmp .ne 7, 3) := by decide +kernel
theorem dL_isSinger_380 : decode cL_isSinger 380 = .ok (.iconst 1, 1) := by decide +kernel
theorem dL_isSinger_381 : decode cL_isSinger 381 = .ok (.goto 4, 3) := by decide +kernel
theorem dL_isSinger_384 : decode cL_isSinger 384 = .ok (.iconst 0, 1) := by decide +kernel
theorem dL_isSinger_385 : decode cL_isSinger 385 = .ok (.istore 10, 2) := by decide +kernel
theorem dL_isSinger_387 : decode cL_isSinger 387 = .ok (.iload 10, 2) := by decide +kernel
theorem dL_isSinger_389 : decode cL_isSinger 389 = .ok (.ifCond .eq 41, 3) := by decide +kernel
theorem dL_isSinger_392 : decode cL_isSinger 392 = .ok (.aload_n 0, 1) := by decide +kernel
theorem dL_isSinger_393 : decode cL_isSinger 393 = .ok (.iload 5, 2) := by decide +kernel
theorem dL_isSinger_395 : decode cL_isSinger 395 = .ok (.iconst 5, 1) := by decide +kernel
theorem dL_isSinger_396 : decode cL_isSinger 396 = .ok (.iload 6, 2) := by decide +kernel
theorem dL_isSinger_398 : decode cL_isSinger 398 = .ok (.imul, 1) := by decide +kernel
theorem dL_isSinger_399 : decode cL_isSinger 399 = .ok (.iconst 4, 1) := by decide +kernel
theorem dL_isSinger_400 : decode cL_isSinger 400 = .ok (.iadd, 1) := by decide +kernel
theorem dL_isSinger_401 : decode cL_isSinger 401 = .ok (.invokevirtual 33, 3) := by decide +kernel
theorem dL_isSinger_404 : decode cL_isSinger 404 = .ok (.iload 6, 2) := by decide +kernel
theorem dL_isSinger_406 : decode cL_isSinger 406 = .ok (.iconst 1, 1) := by decide +kernel
theorem dL_isSinger_407 : decode cL_isSinger 407 = .ok (.iadd, 1) := by decide +kernel
theorem dL_isSinger_408 : decode cL_isSinger 408 = .ok (.aload_n 1, 1) := by decide +kernel
theorem dL_isSinger_409 : decode cL_isSinger 409 = .ok (.iload 5, 2) := by decide +kernel
theorem dL_isSinger_411 : decode cL_isSinger 411 = .ok (.invokestatic 9, 3) := by decide +kernel
theorem dL_isSinger_414 : decode cL_isSinger 414 = .ok (.if_icmp .ge 8, 3) := by decide +kernel
theorem dL_isSinger_417 : decode cL_isSinger 417 = .ok (.bipush 32, 2) := by decide +kernel
theorem dL_isSinger_419 : decode cL_isSinger 419 = .ok (.goto 4, 3) := by decide +kernel
theorem dL_isSinger_422 : decode cL_isSinger 422 = .ok (.iconst (-1), 1) := by decide +kernel
theorem dL_isSinger_423 : decode cL_isSinger 423 = .ok (.if_icmp .ne 7, 3) := by decide +kernel
theorem dL_isSinger_426 : decode cL_isSinger 426 = .ok (.iconst 1, 1) := by decide +kernel
theorem dL_isSinger_427 : decode cL_isSinger 427 = .ok (.goto 4, 3) := by decide +kernel
theorem dL_isSinger_430 : decode cL_isSinger 430 = .ok (.iconst 0, 1) := by decide +kernel
theorem dL_isSinger_431 : decode cL_isSinger 431 = .ok (.ireturn, 1) := by decide +kernel
theorem dL_isSo_0 : decode cL_isSo 0 = .ok (.iconst 0, 1) := by decide +kernel
theorem dL_isSo_1 : decode cL_isSo 1 = .ok (.istore 5, 2) := by decide +kernel
theorem dL_isSo_3 : decode cL_isSo 3 = .ok (.iconst 0, 1) := by decide +kernel
theorem dL_isSo_4 : decode cL_isSo 4 = .ok (.istore 6, 2) := by decide +kernel
theorem dL_isSo_6 : decode cL_isSo 6 = .ok (.iconst 1, 1) := by decide +kernel
theorem dL_isSo_7 : decode cL_isSo 7 = .ok (.istore 7, 2) := by decide +kernel
theorem dL_isSo_9 : decode cL_isSo 9 = .ok (.iconst 0, 1) := by decide +kernel
theorem dL_isSo_10 : decode cL_isSo 10 = .ok (.istore 8, 2) := by decide +kernel
theorem dL_isSo_12 : decode cL_isSo 12 = .ok (.iload 8, 2) := by decide +kernel
theorem dL_isSo_14 : decode cL_isSo 14 = .ok (.iconst 4, 1) := by decide +kernel
theorem dL_isSo_15 : decode cL_isSo 15 = .ok (.if_icmp .ge 254, 3) := by decide +kernel
theorem dL_isSo_18 : decode cL_isSo 18 = .ok (.iload 7, 2) := by decide +kernel
theorem dL_isSo_20 : decode cL_isSo 20 = .ok (.ifCond .eq 249, 3) := by decide +kernel
theorem dL_isSo_23 : decode cL_isSo 23 = .ok (.aload_n 1, 1) := by decide +kernel
theorem dL_isSo_24 : decode cL_isSo 24 = .ok (.iload 8, 2) := by decide +kernel
theorem dL_isSo_26 : decode cL_isSo 26 = .ok (.invokestatic 9, 3) := by decide +kernel
theorem dL_isSo_29 : decode cL_isSo 29 = .ok (.istore 9, 2) := by decide +kernel
theorem dL_isSo_31 : decode cL_isSo 31 = .ok (.iconst (-1), 1) := by decide +kernel
theorem dL_isSo_32 : decode cL_isSo 32 = .ok (.istore 10, 2) := by decide +kernel
theorem dL_isSo_34 : decode cL_isSo 34 = .ok (.iconst 0, 1) := by decide +kernel
theorem dL_isSo_35 : decode cL_isSo 35 = .ok (.istore 11, 2) := by decide +kernel
theorem dL_isSo_37 : decode cL_isSo 37 = .ok (.iload 11, 2) := by decide +kernel
theorem dL_isSo_39 : decode cL_isSo 39 = .ok (.iload 9, 2) := by decide +kernel
theorem dL_isSo_41 : decode cL_isSo 41 = .ok (.if_icmp .ge 61, 3) := by decide +kernel
theorem dL_isSo_44 : decode cL_isSo 44 = .ok (.iload 7, 2) := by decide +kernel
theorem dL_isSo_46 : decode cL_isSo 46 = .ok (.ifCond .eq 56, 3) := by decide +kernel
theorem dL_isSo_49 : decode cL_isSo 49 = .ok (.aload_n 0, 1) := by decide +kernel
theorem dL_isSo_50 : decode cL_isSo 50 = .ok (.aload_n 1, 1) := by decide +kernel
theorem dL_isSo_51 : decode cL_isSo 51 = .ok (.aload_n 2, 1) := by decide +kernel
theorem dL_isSo_52 : decode cL_isSo 52 = .ok (.aload_n 3, 1) := by decide +kernel
theorem dL_isSo_53 : decode cL_isSo 53 = .ok (.aload 4, 2) := by decide +kernel
theorem dL_isSo_55 : decode cL_isSo 55 = .ok (.iload 8, 2) := by decide +kernel
theorem dL_isSo_57 : decode cL_isSo 57 = .ok (.iload 11, 2) := by decide +kernel
theorem dL_isSo_59 : decode cL_isSo 59 = .ok (.invokestatic 40, 3) := by decide +kernel
theorem dL_isSo_62 : decode cL_isSo 62 = .ok (.istore 7, 2) := by decide +kernel
theorem dL_isSo_64 : decode cL_isSo 64 = .ok (.aload_n 1, 1) := by decide +kernel
theorem dL_isSo_65 : decode cL_isSo 65 = .ok (.bipush 6, 2) := by decide +kernel
theorem dL_isSo_67 : decode cL_isSo 67 = .ok (.iload 8, 2) := by decide +kernel
theorem dL_isSo_69 : decode cL_isSo 69 = .ok (.imul, 1) := by decide +kernel
theorem dL_isSo_70 : decode cL_isSo 70 = .ok (.iload 11, 2) := by decide +kernel
theorem dL_isSo_72 : decode cL_isSo 72 = .ok (.iadd, 1) := by decide +kernel
theorem dL_isSo_73 : decode cL_isSo 73 = .ok (.iaload, 1) := by decide +kernel
theorem dL_isSo_74 : decode cL_isSo 74 = .ok (.iload 10, 2) := by decide +kernel
theorem dL_isSo_76 : decode cL_isSo 76 = .ok (.if_icmp .le 16, 3) := by decide +kernel
theorem dL_isSo_79 : decode cL_isSo 79 = .ok (.aload_n 1, 1) := by decide +kernel
theorem dL_isSo_80 : decode cL_isSo 80 = .ok (.bipush 6, 2) := by decide +kernel
theorem dL_isSo_82 : decode cL_isSo 82 = .ok (.iload 8, 2) := by decide +kernel
theorem dL_isSo_84 : decode cL_isSo 84 = .ok (.imul, 1) := by decide +kernel
theorem dL_isSo_85 : decode cL_isSo 85 = .ok (.iload 11, 2) := by decide +kernel
theorem dL_isSo_87 : decode cL_isSo 87 = .ok (.iadd, 1) := by decide +kernel
theorem dL_isSo_88 : decode cL_isSo 88 = .ok (.iaload, 1) := by decide +kernel
theorem dL_isSo_89 : decode cL_isSo 89 = .ok (.goto 5, 3) := by decide +kernel
theorem dL_isSo_92 : decode cL_isSo 92 = .ok (.iload 10, 2) := by decide +kernel
theorem dL_isSo_94 : decode cL_isSo 94 = .ok (.istore 10, 2) := by decide +kernel
theorem dL_isSo_96 : decode cL_isSo 96 = .ok (.iinc 11 1, 3) := by decide +kernel
theorem dL_isSo_99 : decode cL_isSo 99 = .ok (.goto (-62), 3) := by decide +kernel
theorem dL_isSo_102 : decode cL_isSo 102 = .ok (.aload_n 1, 1) := by decide +kernel
theorem dL_isSo_103 : decode cL_isSo 103 = .ok (.aload 4, 2) := by decide +kernel
theorem dL_isSo_105 : decode cL_isSo 105 = .ok (.iload 8, 2) := by decide +kernel
theorem dL_isSo_107 : decode cL_isSo 107 = .ok (.invokestatic 44, 3) := by decide +kernel
theorem dL_isSo_110 : decode cL_isSo 110 = .ok (.istore 11, 2) := by decide +kernel
theorem dL_isSo_112 : decode cL_isSo 112 = .ok (.iload 7, 2) := by decide +kernel
theorem dL_isSo_114 : decode cL_isSo 114 = .ok (.ifCond .eq 128, 3) := by decide +kernel
theorem dL_isSo_117 : decode cL_isSo 117 = .ok (.aload_n 0, 1) := by decide +kernel
theorem dL_isSo_118 : decode cL_isSo 118 = .ok (.iload 8, 2) := by decide +kernel
theorem dL_isSo_120 : decode cL_isSo 120 = .ok (.iconst 0, 1) := by decide +kernel
theorem dL_isSo_121 : decode cL_isSo 121 = .ok (.invokevirtual 47, 3) := by decide +kernel
theorem dL_isSo_124 : decode cL_isSo 124 = .ok (.iload 9, 2) := by decide +kernel
theorem dL_isSo_126 : decode cL_isSo 126 = .ok (.if_icmp .ne 116, 3) := by decide +kernel
theorem dL_isSo_129 : decode cL_isSo 129 = .ok (.aload_n 0, 1) := by decide +kernel
theorem dL_isSo_130 : decode cL_isSo 130 = .ok (.iload 8, 2) := by decide +kernel
theorem dL_isSo_132 : decode cL_isSo 132 = .ok (.iconst 1, 1) := by decide +kernel
theorem dL_isSo_133 : decode cL_isSo 133 = .ok (.invokevirtual 47, 3) := by decide +kernel
theorem dL_isSo_136 : decode cL_isSo 136 = .ok (.aload_n 1, 1) := by decide +kernel
theorem dL_isSo_137 : decode cL_isSo 137 = .ok (.aload 4, 2) := by decide +kernel
theorem dL_isSo_139 : decode cL_isSo 139 = .ok (.iload 8, 2) := by decide +kernel
theorem dL_isSo_141 : decode cL_isSo 141 = .ok (.invokestatic 19, 3) := by decide +kernel
theorem dL_isSo_144 : decode cL_isSo 144 = .ok (.if_icmp .ne 98, 3) := by decide +kernel
theorem dL_isSo_147 : decode cL_isSo 147 = .ok (.aload_n 0, 1) := by decide +kernel
theorem dL_isSo_148 : decode cL_isSo 148 = .ok (.iload 8, 2) := by decide +kernel
theorem dL_isSo_150 : decode cL_isSo 150 = .ok (.iconst 2, 1) := by decide +kernel
theorem dL_isSo_151 : decode cL_isSo 151 = .ok (.invokevirtual 47, 3) := by decide +kernel
theorem dL_isSo_154 : decode cL_isSo 154 = .ok (.aload_n 1, 1) := by decide +kernel
theorem dL_isSo_155 : decode cL_isSo 155 = .ok (.iload 8, 2) := by decide +kernel
theorem dL_isSo_157 : decode cL_isSo 157 = .ok (.invokestatic 50, 3) := by decide +kernel
theorem dL_isSo_160 : decode cL_isSo 160 = .ok (.if_icmp .ne 82, 3) := by decide +kernel
theorem dL_isSo_163 : decode cL_isSo 163 = .ok (.aload_n 0, 1) := by decide +kernel
theorem dL_isSo_164 : decode cL_isSo 164 = .ok (.iload 8, 2) := by decide +kernel
theorem dL_isSo_166 : decode cL_isSo 166 = .ok (.iconst 3, 1) := by decide +kernel
theorem dL_isSo_167 : decode cL_isSo 167 = .ok (.invokevirtual 47, 3) := by decide +kernel
theorem dL_isSo_170 : decode cL_isSo 170 = .ok (.aload_n 1, 1) := by decide +kernel
theorem dL_isSo_171 : decode cL_isSo 171 = .ok (.iload 8, 2) := by decide +kernel
theorem dL_isSo_173 : decode cL_isSo 173 = .ok (.invokestatic 50, 3) := by decide +kernel
theorem dL_isSo_176 : decode cL_isSo 176 = .ok (.iconst 1, 1) := by decide +kernel
theorem dL_isSo_177 : decode cL_isSo 177 = .ok (.iand, 1) := by decide +kernel
theorem dL_isSo_178 : decode cL_isSo 178 = .ok (.if_icmp .ne 64, 3) := by decide +kernel
theorem dL_isSo_181 : decode cL_isSo 181 = .ok (.aload_n 0, 1) := by decide +kernel
theorem dL_isSo_182 : decode cL_isSo 182 = .ok (.iload 8, 2) := by decide +kernel
theorem dL_isSo_184 : decode cL_isSo 184 = .ok (.iconst 4, 1) := by decide +kernel
theorem dL_isSo_185 : decode cL_isSo 185 = .ok (.invokevirtual 47, 3) := by decide +kernel
theorem dL_isSo_188 : decode cL_isSo 188 = .ok (.iload 11, 2) := by decide +kernel
theorem dL_isSo_190 : decode cL_isSo 190 = .ok (.bipush 100, 2) := by decide +kernel
theorem dL_isSo_192 : decode cL_isSo 192 = .ok (.idiv, 1) := by decide +kernel
theorem dL_isSo_193 : decode cL_isSo 193 = .ok (.if_icmp .ne 49, 3) := by decide +kernel
theorem dL_isSo_196 : decode cL_isSo 196 = .ok (.aload_n 0, 1) := by decide +kernel
theorem dL_isSo_197 : decode cL_isSo 197 = .ok (.iload 8, 2) := by decide +kernel
theorem dL_isSo_199 : decode cL_isSo 199 = .ok (.iconst 5, 1) := by decide +kernel
theorem dL_isSo_200 : decode cL_isSo 200 = .ok (.invokevirtual 47, 3) := by decide +kernel
theorem dL_isSo_203 : decode cL_isSo 203 = .ok (.iload 11, 2) := by decide +kernel
theorem dL_isSo_205 : decode cL_isSo 205 = .ok (.bipush 100, 2) := by decide +kernel
theorem dL_isSo_207 : decode cL_isSo 207 = .ok (.irem, 1) := by decide +kernel
theorem dL_isSo_208 : decode cL_isSo 208 = .ok (.if_icmp .ne 34, 3) := by decide +kernel
theorem dL_isSo_211 : decode cL_isSo 211 = .ok (.aload_n 0, 1) := by decide +kernel
theorem dL_isSo_212 : decode cL_isSo 212 = .ok (.iload 8, 2) := by decide +kernel
theorem dL_isSo_214 : decode cL_isSo 214 = .ok (.bipush 6, 2) := by decide +kernel
theorem dL_isSo_216 : decode cL_isSo 216 = .ok (.invokevirtual 47, 3) := by decide +kernel
theorem dL_isSo_219 : decode cL_isSo 219 = .ok (.iload 10, 2) := by decide +kernel
theorem dL_isSo_221 : decode cL_isSo 221 = .ok (.if_icmp .ne 21, 3) := by decide +kernel
theorem dL_isSo_224 : decode cL_isSo 224 = .ok (.aload_n 0, 1) := by decide +kernel
theorem dL_isSo_225 : decode cL_isSo 225 = .ok (.iload 8, 2) := by decide +kernel
theorem dL_isSo_227 : decode cL_isSo 227 = .ok (.iconst 5, 1) := by decide +kernel
theorem dL_isSo_228 : decode cL_isSo 228 = .ok (.iload 9, 2) := by decide +kernel
theorem dL_isSo_230 : decode cL_isSo 230 = .ok (.imul, 1) := by decide +kernel
theorem dL_isSo_231 : decode cL_isSo 231 = .ok (.invokevirtual 33, 3) := by decide +kernel
theorem dL_isSo_234 : decode cL_isSo 234 = .ok (.iconst (-1), 1) := by decide +kernel
theorem dL_isSo_235 : decode cL_isSo 235 = .ok (.if_icmp .ne 7, 3) := by decide +kernel
theorem dL_isSo_238 : decode cL_isSo 238 = .ok (.iconst 1, 1) := by decide +kernel
theorem dL_isSo_239 : decode cL_isSo 239 = .ok (.goto 4, 3) := by decide +kernel
theorem dL_isSo_242 : decode cL_isSo 242 = .ok (.iconst 0, 1) := by decide +kernel
theorem dL_isSo_243 : decode cL_isSo 243 = .ok (.istore 7, 2) := by decide +kernel
theorem dL_isSo_245 : decode cL_isSo 245 = .ok (.iload 5, 2) := by decide +kernel
theorem dL_isSo_247 : decode cL_isSo 247 = .ok (.iload 9, 2) := by decide +kernel
theorem dL_isSo_249 : decode cL_isSo 249 = .ok (.iadd, 1) := by decide +kernel
theorem dL_isSo_250 : decode cL_isSo 250 = .ok (.istore 5, 2) := by decide +kernel
theorem dL_isSo_252 : decode cL_isSo 252 = .ok (.iload 6, 2) := by decide +kernel
theorem dL_isSo_254 : decode cL_isSo 254 = .ok (.aload_n 1, 1) := by decide +kernel
theorem dL_isSo_255 : decode cL_isSo 255 = .ok (.iload 8, 2) := by decide +kernel
theorem dL_isSo_257 : decode cL_isSo 257 = .ok (.invokestatic 50, 3) := by decide +kernel
theorem dL_isSo_260 : decode cL_isSo 260 = .ok (.iadd, 1) := by decide +kernel
theorem dL_isSo_261 : decode cL_isSo 261 = .ok (.istore 6, 2) := by decide +kernel
theorem dL_isSo_263 : decode cL_isSo 263 = .ok (.iinc 8 1, 3) := by decide +kernel
theorem dL_isSo_266 : decode cL_isSo 266 = .ok (.goto (-254), 3) := by decide +kernel
theorem dL_isSo_269 : decode cL_isSo 269 = .ok (.iload 7, 2) := by decide +kernel
theorem dL_isSo_271 : decode cL_isSo 271 = .ok (.ifCond .eq 117, 3) := by decide +kernel
theorem dL_isSo_274 : decode cL_isSo 274 = .ok (.aload_n 0, 1) := by decide +kernel
theorem dL_isSo_275 : decode cL_isSo 275 = .ok (.iconst 0, 1) := by decide +kernel
theorem dL_isSo_276 : decode cL_isSo 276 = .ok (.invokevirtual 53, 3) := by decide +kernel
theorem dL_isSo_279 : decode cL_isSo 279 = .ok (.iload 5, 2) := by decide +kernel
theorem dL_isSo_281 : decode cL_isSo 281 = .ok (.if_icmp .ne 107, 3) := by decide +kernel
theorem dL_isSo_284 : decode cL_isSo 284 = .ok (.aload_n 0, 1) := by decide +kernel
theorem dL_isSo_285 : decode cL_isSo 285 = .ok (.iconst 1, 1) := by decide +kernel
theorem dL_isSo_286 : decode cL_isSo 286 = .ok (.invokevirtual 53, 3) := by decide +kernel
theorem dL_isSo_289 : decode cL_isSo 289 = .ok (.aload_n 1, 1) := by decide +kernel
theorem dL_isSo_290 : decode cL_isSo 290 = .ok (.aload 4, 2) := by decide +kernel
theorem dL_isSo_292 : decode cL_isSo 292 = .ok (.invokestatic 56, 3) := by decide +kernel
theorem dL_isSo_295 : decode cL_isSo 295 = .ok (.if_icmp .ne 93, 3) := by decide +kernel
theorem dL_isSo_298 : decode cL_isSo 298 = .ok (.aload_n 0, 1) := by decide +kernel
theorem dL_isSo_299 : decode cL_isSo 299 = .ok (.iconst 2, 1) := by decide +kernel
theorem dL_isSo_300 : decode cL_isSo 300 = .ok (.invokevirtual 53, 3) := by decide +kernel
theorem dL_isSo_303 : decode cL_isSo 303 = .ok (.aload 4, 2) := by decide +kernel
theorem dL_isSo_305 : decode cL_isSo 305 = .ok (.iconst 2, 1) := by decide +kernel
theorem dL_isSo_306 : decode cL_isSo 306 = .ok (.iaload, 1) := by decide +kernel
theorem dL_isSo_307 : decode cL_isSo 307 = .ok (.if_icmp .ne 81, 3) := by decide +kernel
theorem dL_isSo_310 : decode cL_isSo 310 = .ok (.aload_n 0, 1) := by decide +kernel
theorem dL_isSo_311 : decode cL_isSo 311 = .ok (.iconst 3, 1) := by decide +kernel
theorem dL_isSo_312 : decode cL_isSo 312 = .ok (.invokevirtual 53, 3) := by decide +kernel
theorem dL_isSo_315 : decode cL_isSo 315 = .ok (.aload 4, 2) := by decide +kernel
theorem dL_isSo_317 : decode cL_isSo 317 = .ok (.iconst 3, 1) := by decide +kernel
theorem dL_isSo_318 : decode cL_isSo 318 = .ok (.iaload, 1) := by decide +kernel
theorem dL_isSo_319 : decode cL_isSo 319 = .ok (.if_icmp .ne 69, 3) := by decide +kernel
theorem dL_isSo_322 : decode cL_isSo 322 = .ok (.aload 4, 2) := by decide +kernel
theorem dL_isSo_324 : decode cL_isSo 324 = .ok (.iconst 2, 1) := by decide +kernel
theorem dL_isSo_325 : decode cL_isSo 325 = .ok (.iaload, 1) := by decide +kernel
theorem dL_isSo_326 : decode cL_isSo 326 = .ok (.aload 4, 2) := by decide +kernel
theorem dL_isSo_328 : decode cL_isSo 328 = .ok (.iconst 3, 1) := by decide +kernel
theorem dL_isSo_329 : decode cL_isSo 329 = .ok (.iaload, 1) := by decide +kernel
theorem dL_isSo_330 : decode cL_isSo 330 = .ok (.isub, 1) := by decide +kernel
theorem dL_isSo_331 : decode cL_isSo 331 = .ok (.iload 5, 2) := by decide +kernel
theorem dL_isSo_333 : decode cL_isSo 333 = .ok (.if_icmp .ne 55, 3) := by decide +kernel
theorem dL_isSo_336 : decode cL_isSo 336 = .ok (.aload_n 0, 1) := by decide +kernel
theorem dL_isSo_337 : decode cL_isSo 337 = .ok (.iconst 4, 1) := by decide +kernel
theorem dL_isSo_338 : decode cL_isSo 338 = .ok (.invokevirtual 53, 3) := by decide +kernel
theorem dL_isSo_341 : decode cL_isSo 341 = .ok (.aload 4, 2) := by decide +kernel
theorem dL_isSo_343 : decode cL_isSo 343 = .ok (.iconst 4, 1) := by decide +kernel
theorem dL_isSo_344 : decode cL_isSo 344 = .ok (.iaload, 1) := by decide +kernel
theorem dL_isSo_345 : decode cL_isSo 345 = .ok (.if_icmp .ne 43, 3) := by decide +kernel
theorem dL_isSo_348 : decode cL_isSo 348 = .ok (.aload_n 0, 1) := by decide +kernel
theorem dL_isSo_349 : decode cL_isSo 349 = .ok (.iconst 5, 1) := by decide +kernel
theorem dL_isSo_350 : decode cL_isSo 350 = .ok (.invokevirtual 53, 3) := by decide +kernel
theorem dL_isSo_353 : decode cL_isSo 353 = .ok (.iload 6, 2) := by decide +kernel
theorem dL_isSo_355 : decode cL_isSo 355 = .ok (.if_icmp .ne 33, 3) := by decide +kernel
theorem dL_isSo_358 : decode cL_isSo 358 = .ok (.aload_n 0, 1) := by decide +kernel
theorem dL_isSo_359 : decode cL_isSo 359 = .ok (.bipush 6, 2) := by decide +kernel
theorem dL_isSo_361 : decode cL_isSo 361 = .ok (.invokevirtual 53, 3) := by decide +kernel
theorem dL_isSo_364 : decode cL_isSo 364 = .ok (.aload 4, 2) := by decide +kernel
theorem dL_isSo_366 : decode cL_isSo 366 = .ok (.iconst 0, 1) := by decide +kernel
theorem dL_isSo_367 : decode cL_isSo 367 = .ok (.iaload, 1) := by decide +kernel
theorem dL_isSo_368 : decode cL_isSo 368 = .ok (.if_icmp .ne 20, 3) := by decide +kernel
theorem dL_isSo_371 : decode cL_isSo 371 = .ok (.aload_n 0, 1) := by decide +kernel
theorem dL_isSo_372 : decode cL_isSo 372 = .ok (.bipush 7, 2) := by decide +kernel
theorem dL_isSo_374 : decode cL_isSo 374 = .ok (.invokevirtual 53, 3) := by decide +kernel
theorem dL_isSo_377 : decode cL_isSo 377 = .ok (.aload 4, 2) := by decide +kernel
theorem dL_isSo_379 : decode cL_isSo 379 = .ok (.iconst 1, 1) := by decide +kernel
theorem dL_isSo_380 : decode cL_isSo 380 = .ok (.iaload, 1) := by decide +kernel
theorem dL_isSo_381 : decode cL_isSo 381 = .ok (.if_icmp .ne 7, 3) := by decide +kernel
theorem dL_isSo_384 : decode cL_isSo 384 = .ok (.iconst 1, 1) := by decide +kernel
theorem dL_isSo_385 : decode cL_isSo 385 = .ok (.goto 4, 3) := by decide +kernel
theorem dL_isSo_388 : decode cL_isSo 388 = .ok (.iconst 0, 1) := by decide +kernel
theorem dL_isSo_389 : decode cL_isSo 389 = .ok (.istore 7, 2) := by decide +kernel
theorem dL_isSo_391 : decode cL_isSo 391 = .ok (.iload 7, 2) := by decide +kernel
theorem dL_isSo_393 : decode cL_isSo 393 = .ok (.ifCond .eq 55, 3) := by decide +kernel
theorem dL_isSo_396 : decode cL_isSo 396 = .ok (.aload_n 0, 1) := by decide +kernel
theorem dL_isSo_397 : decode cL_isSo 397 = .ok (.aload 4, 2) := by decide +kernel
theorem dL_isSo_399 : decode cL_isSo 399 = .ok (.iconst 2, 1) := by decide +kernel
theorem dL_isSo_400 : decode cL_isSo 400 = .ok (.iaload, 1) := by decide +kernel
theorem dL_isSo_401 : decode cL_isSo 401 = .ok (.invokevirtual 29, 3) := by decide +kernel
theorem dL_isSo_404 : decode cL_isSo 404 = .ok (.iconst (-1), 1) := by decide +kernel
theorem dL_isSo_405 : decode cL_isSo 405 = .ok (.if_icmp .ne 43, 3) := by decide +kernel
theorem dL_isSo_408 : decode cL_isSo 408 = .ok (.iload 5, 2) := by decide +kernel
theorem dL_isSo_410 : decode cL_isSo 410 = .ok (.ifCond .ne 15, 3) := by decide +kernel
theorem dL_isSo_413 : decode cL_isSo 413 = .ok (.aload_n 0, 1) := by decide +kernel
theorem dL_isSo_414 : decode cL_isSo 414 = .ok (.invokevirtual 60, 3) := by decide +kernel
theorem dL_isSo_417 : decode cL_isSo 417 = .ok (.dconst 1, 1) := by decide +kernel
theorem dL_isSo_418 : decode cL_isSo 418 = .ok (.dcmp .l, 1) := by decide +kernel
theorem dL_isSo_419 : decode cL_isSo 419 = .ok (.ifCond .ne 29, 3) := by decide +kernel
theorem dL_isSo_422 : decode cL_isSo 422 = .ok (.goto 22, 3) := by decide +kernel
theorem dL_isSo_425 : decode cL_isSo 425 = .ok (.aload_n 0, 1) := by decide +kernel
theorem dL_isSo_426 : decode cL_isSo 426 = .ok (.invokevirtual 60, 3) := by decide +kernel
theorem dL_isSo_429 : decode cL_isSo 429 = .ok (.aload_n 1, 1) := by decide +kernel
theorem dL_isSo_430 : decode cL_isSo 430 = .ok (.aload 4, 2) := by decide +kernel
theorem dL_isSo_432 : decode cL_isSo 432 = .ok (.invokestatic 56, 3) := by decide +kernel
theorem dL_isSo_435 : decode cL_isSo 435 = .ok (.i2d, 1) := by decide +kernel
theorem dL_isSo_436 : decode cL_isSo 436 = .ok (.iload 5, 2) := by decide +kernel
theorem dL_isSo_438 : decode cL_isSo 438 = .ok (.i2d, 1) := by decide +kernel
theorem dL_isSo_439 : decode cL_isSo 439 = .ok (.ddiv, 1) := by decide +kernel
theorem dL_isSo_440 : decode cL_isSo 440 = .ok (.dcmp .l, 1) := by decide +kernel
theorem dL_isSo_441 : decode cL_isSo 441 = .ok (.ifCond .ne 7, 3) := by decide +kernel
theorem dL_isSo_444 : decode cL_isSo 444 = .ok (.iconst 1, 1) := by decide +kernel
theorem dL_isSo_445 : decode cL_isSo 445 = .ok (.goto 4, 3) := by decide +kernel
theorem dL_isSo_448 : decode cL_isSo 448 = .ok (.iconst 0, 1) := by decide +kernel
theorem dL_isSo_449 : decode cL_isSo 449 = .ok (.ireturn, 1) := by decide +kernel
theorem dL_exchange_0 : decode cL_exchange 0 = .ok (.aload_n 0, 1) := by decide +kernel
theorem dL_exchange_1 : decode cL_exchange 1 = .ok (.iload_n 1, 1) := by decide +kernel
theorem dL_exchange_2 : decode cL_exchange 2 = .ok (.iaload, 1) := by decide +kernel
theorem dL_exchange_3 : decode cL_exchange 3 = .ok (.istore_n 3, 1) := by decide +kernel
theorem dL_exchange_4 : decode cL_exchange 4 = .ok (.aload_n 0, 1) := by decide +kernel
theorem dL_exchange_5 : decode cL_exchange 5 = .ok (.iload_n 1, 1) := by decide +kernel
theorem dL_exchange_6 : decode cL_exchange 6 = .ok (.aload_n 0, 1) := by decide +kernel
theorem dL_exchange_7 : decode cL_exchange 7 = .ok (.iload_n 2, 1) := by decide +kernel
theorem dL_exchange_8 : decode cL_exchange 8 = .ok (.iaload, 1) := by decide +kernel
theorem dL_exchange_9 : decode cL_exchange 9 = .ok (.iastore, 1) := by decide +kernel
theorem dL_exchange_10 : decode cL_exchange 10 = .ok (.aload_n 0, 1) := by decide +kernel
theorem dL_exchange_11 : decode cL_exchange 11 = .ok (.iload_n 2, 1) := by decide +kernel
theorem dL_exchange_12 : decode cL_exchange 12 = .ok (.iload_n 3, 1) := by decide +kernel
theorem dL_exchange_13 : decode cL_exchange 13 = .ok (.iastore, 1) := by decide +kernel
theorem dL_exchange_14 : decode cL_exchange 14 = .ok (.return_, 1) := by decide +kernel
theorem dL_some_0 : decode cL_some 0 = .ok (.iconst (-1), 1) := by decide +kernel
theorem dL_some_1 : decode cL_some 1 = .ok (.istore_n 2, 1) := by decide +kernel
theorem dL_some_2 : decode cL_some 2 = .ok (.iconst 0, 1) := by decide +kernel
theorem dL_some_3 : decode cL_some 3 = .ok (.istore_n 3, 1) := by decide +kernel
theorem dL_some_4 : decode cL_some 4 = .ok (.iload_n 3, 1) := by decide +kernel
theorem dL_some_5 : decode cL_some 5 = .ok (.bipush 24, 2) := by decide +kernel
theorem dL_some_7 : decode cL_some 7 = .ok (.if_icmp .ge 45, 3) := by decide +kernel
theorem dL_some_10 : decode cL_some 10 = .ok (.iload_n 2, 1) := by decide +kernel
theorem dL_some_11 : decode cL_some 11 = .ok (.ifCond .ge 41, 3) := by decide +kernel
theorem dL_some_14 : decode cL_some 14 = .ok (.aload_n 0, 1) := by decide +kernel
theorem dL_some_15 : decode cL_some 15 = .ok (.iload_n 1, 1) := by decide +kernel
theorem dL_some_16 : decode cL_some 16 = .ok (.bipush 24, 2) := by decide +kernel
theorem dL_some_18 : decode cL_some 18 = .ok (.invokestatic 64, 3) := by decide +kernel
theorem dL_some_21 : decode cL_some 21 = .ok (.iload_n 3, 1) := by decide +kernel
theorem dL_some_22 : decode cL_some 22 = .ok (.iadd, 1) := by decide +kernel
theorem dL_some_23 : decode cL_some 23 = .ok (.bipush 24, 2) := by decide +kernel
theorem dL_some_25 : decode cL_some 25 = .ok (.irem, 1) := by decide +kernel
theorem dL_some_26 : decode cL_some 26 = .ok (.iaload, 1) := by decide +kernel
theorem dL_some_27 : decode cL_some 27 = .ok (.ifCond .le 17, 3) := by decide +kernel
theorem dL_some_30 : decode cL_some 30 = .ok (.iload_n 1, 1) := by decide +kernel
theorem dL_some_31 : decode cL_some 31 = .ok (.bipush 24, 2) := by decide +kernel
theorem dL_some_33 : decode cL_some 33 = .ok (.invokestatic 64, 3) := by decide +kernel
theorem dL_some_36 : decode cL_some 36 = .ok (.iload_n 3, 1) := by decide +kernel
theorem dL_some_37 : decode cL_some 37 = .ok (.iadd, 1) := by decide +kernel
theorem dL_some_38 : decode cL_some 38 = .ok (.bipush 24, 2) := by decide +kernel
theorem dL_some_40 : decode cL_some 40 = .ok (.irem, 1) := by decide +kernel
theorem dL_some_41 : decode cL_some 41 = .ok (.goto 4, 3) := by decide +kernel
theorem dL_some_44 : decode cL_some 44 = .ok (.iconst (-1), 1) := by decide +kernel
theorem dL_some_45 : decode cL_some 45 = .ok (.istore_n 2, 1) := by decide +kernel
theorem dL_some_46 : decode cL_some 46 = .ok (.iinc 3 1, 3) := by decide +kernel
theorem dL_some_49 : decode cL_some 49 = .ok (.goto (-45), 3) := by decide +kernel
theorem dL_some_52 : decode cL_some 52 = .ok (.iload_n 2, 1) := by decide +kernel
theorem dL_some_53 : decode cL_some 53 = .ok (.ireturn, 1) := by decide +kernel
theorem dL_would_0 : decode cL_would 0 = .ok (.aload_n 1, 1) := by decide +kernel
theorem dL_would_1 : decode cL_would 1 = .ok (.iload_n 3, 1) := by decide +kernel
theorem dL_would_2 : decode cL_would 2 = .ok (.invokestatic 67, 3) := by decide +kernel
theorem dL_would_5 : decode cL_would 5 = .ok (.istore 4, 2) := by decide +kernel
theorem dL_would_7 : decode cL_would 7 = .ok (.aload_n 1, 1) := by decide +kernel
theorem dL_would_8 : decode cL_would 8 = .ok (.iload_n 3, 1) := by decide +kernel
theorem dL_would_9 : decode cL_would 9 = .ok (.bipush 6, 2) := by decide +kernel
theorem dL_would_11 : decode cL_would 11 = .ok (.ishr, 1) := by decide +kernel
theorem dL_would_12 : decode cL_would 12 = .ok (.invokestatic 67, 3) := by decide +kernel
theorem dL_would_15 : decode cL_would 15 = .ok (.istore 5, 2) := by decide +kernel
theorem dL_would_17 : decode cL_would 17 = .ok (.iload_n 3, 1) := by decide +kernel
theorem dL_would_18 : decode cL_would 18 = .ok (.bipush 9, 2) := by decide +kernel
theorem dL_would_20 : decode cL_would 20 = .ok (.ishr, 1) := by decide +kernel
theorem dL_would_21 : decode cL_would 21 = .ok (.iconst 4, 1) := by decide +kernel
theorem dL_would_22 : decode cL_would 22 = .ok (.invokestatic 64, 3) := by decide +kernel
theorem dL_would_25 : decode cL_would 25 = .ok (.istore 6, 2) := by decide +kernel
theorem dL_would_27 : decode cL_would 27 = .ok (.bipush 100, 2) := by decide +kernel
theorem dL_would_29 : decode cL_would 29 = .ok (.iload_n 3, 1) := by decide +kernel
theorem dL_would_30 : decode cL_would 30 = .ok (.iconst 5, 1) := by decide +kernel
theorem dL_would_31 : decode cL_would 31 = .ok (.ishr, 1) := by decide +kernel
theorem dL_would_32 : decode cL_would 32 = .ok (.bipush 121, 2) := by decide +kernel
theorem dL_would_34 : decode cL_would 34 = .ok (.invokestatic 64, 3) := by decide +kernel
theorem dL_would_37 : decode cL_would 37 = .ok (.iadd, 1) := by decide +kernel
theorem dL_would_38 : decode cL_would 38 = .ok (.istore 7, 2) := by decide +kernel
theorem dL_would_40 : decode cL_would 40 = .ok (.iconst 1, 1) := by decide +kernel
theorem dL_would_41 : decode cL_would 41 = .ok (.istore 8, 2) := by decide +kernel
theorem dL_would_43 : decode cL_would 43 = .ok (.iload 4, 2) := by decide +kernel
theorem dL_would_45 : decode cL_would 45 = .ok (.ifCond .lt 58, 3) := by decide +kernel
theorem dL_would_48 : decode cL_would 48 = .ok (.aload_n 1, 1) := by decide +kernel
theorem dL_would_49 : decode cL_would 49 = .ok (.iload 4, 2) := by decide +kernel
theorem dL_would_51 : decode cL_would 51 = .ok (.iload 5, 2) := by decide +kernel
theorem dL_would_53 : decode cL_would 53 = .ok (.invokestatic 70, 3) := by decide +kernel
theorem dL_would_56 : decode cL_would 56 = .ok (.aload_n 0, 1) := by decide +kernel
theorem dL_would_57 : decode cL_would 57 = .ok (.iload 4, 2) := by decide +kernel
theorem dL_would_59 : decode cL_would 59 = .ok (.bipush 6, 2) := by decide +kernel
theorem dL_would_61 : decode cL_would 61 = .ok (.idiv, 1) := by decide +kernel
theorem dL_would_62 : decode cL_would 62 = .ok (.iload 4, 2) := by decide +kernel
theorem dL_would_64 : decode cL_would 64 = .ok (.bipush 6, 2) := by decide +kernel
theorem dL_would_66 : decode cL_would 66 = .ok (.irem, 1) := by decide +kernel
theorem dL_would_67 : decode cL_would 67 = .ok (.iload 5, 2) := by decide +kernel
theorem dL_would_69 : decode cL_would 69 = .ok (.bipush 6, 2) := by decide +kernel
theorem dL_would_71 : decode cL_would 71 = .ok (.idiv, 1) := by decide +kernel
theorem dL_would_72 : decode cL_would 72 = .ok (.iload 5, 2) := by decide +kernel
theorem dL_would_74 : decode cL_would 74 = .ok (.bipush 6, 2) := by decide +kernel
theorem dL_would_76 : decode cL_would 76 = .ok (.irem, 1) := by decide +kernel
theorem dL_would_77 : decode cL_would 77 = .ok (.invokevirtual 74, 3) := by decide +kernel
theorem dL_would_80 : decode cL_would 80 = .ok (.aload_n 1, 1) := by decide +kernel
theorem dL_would_81 : decode cL_would 81 = .ok (.aload_n 2, 1) := by decide +kernel
theorem dL_would_82 : decode cL_would 82 = .ok (.invokestatic 56, 3) := by decide +kernel
theorem dL_would_85 : decode cL_would 85 = .ok (.if_icmp .ne 7, 3) := by decide +kernel
theorem dL_would_88 : decode cL_would 88 = .ok (.iconst 1, 1) := by decide +kernel
theorem dL_would_89 : decode cL_would 89 = .ok (.goto 4, 3) := by decide +kernel
theorem dL_would_92 : decode cL_would 92 = .ok (.iconst 0, 1) := by decide +kernel
theorem dL_would_93 : decode cL_would 93 = .ok (.istore 8, 2) := by decide +kernel
theorem dL_would_95 : decode cL_would 95 = .ok (.aload_n 1, 1) := by decide +kernel
theorem dL_would_96 : decode cL_would 96 = .ok (.iload 4, 2) := by decide +kernel
theorem dL_would_98 : decode cL_would 98 = .ok (.iload 5, 2) := by decide +kernel
theorem dL_would_100 : decode cL_would 100 = .ok (.invokestatic 70, 3) := by decide +kernel
theorem dL_would_103 : decode cL_would 103 = .ok (.iconst (-1), 1) := by decide +kernel
theorem dL_would_104 : decode cL_would 104 = .ok (.istore 9, 2) := by decide +kernel
theorem dL_would_106 : decode cL_would 106 = .ok (.aload_n 1, 1) := by decide +kernel
theorem dL_would_107 : decode cL_would 107 = .ok (.aload_n 2, 1) := by decide +kernel
theorem dL_would_108 : decode cL_would 108 = .ok (.invokestatic 56, 3) := by decide +kernel
theorem dL_would_111 : decode cL_would 111 = .ok (.iconst 1, 1) := by decide +kernel
theorem dL_would_112 : decode cL_would 112 = .ok (.iadd, 1) := by decide +kernel
theorem dL_would_113 : decode cL_would 113 = .ok (.istore 10, 2) := by decide +kernel
theorem dL_would_115 : decode cL_would 115 = .ok (.bipush 35, 2) := by decide +kernel
theorem dL_would_117 : decode cL_would 117 = .ok (.istore 11, 2) := by decide +kernel
theorem dL_would_119 : decode cL_would 119 = .ok (.iload 11, 2) := by decide +kernel
theorem dL_would_121 : decode cL_would 121 = .ok (.ifCond .lt 127, 3) := by decide +kernel
theorem dL_would_124 : decode cL_would 124 = .ok (.iload 11, 2) := by decide +kernel
theorem dL_would_126 : decode cL_would 126 = .ok (.bipush 6, 2) := by decide +kernel
theorem dL_would_128 : decode cL_would 128 = .ok (.idiv, 1) := by decide +kernel
theorem dL_would_129 : decode cL_would 129 = .ok (.iload 11, 2) := by decide +kernel
theorem dL_would_131 : decode cL_would 131 = .ok (.bipush 6, 2) := by decide +kernel
theorem dL_would_133 : decode cL_would 133 = .ok (.irem, 1) := by decide +kernel
theorem dL_would_134 : decode cL_would 134 = .ok (.if_icmp .ge 108, 3) := by decide +kernel
theorem dL_would_137 : decode cL_would 137 = .ok (.iload 11, 2) := by decide +kernel
theorem dL_would_139 : decode cL_would 139 = .ok (.bipush 6, 2) := by decide +kernel
theorem dL_would_141 : decode cL_would 141 = .ok (.irem, 1) := by decide +kernel
theorem dL_would_142 : decode cL_would 142 = .ok (.aload_n 1, 1) := by decide +kernel
theorem dL_would_143 : decode cL_would 143 = .ok (.iload 6, 2) := by decide +kernel
theorem dL_would_145 : decode cL_would 145 = .ok (.invokestatic 9, 3) := by decide +kernel
theorem dL_would_148 : decode cL_would 148 = .ok (.if_icmp .ge 94, 3) := by decide +kernel
theorem dL_would_151 : decode cL_would 151 = .ok (.aload_n 1, 1) := by decide +kernel
theorem dL_would_152 : decode cL_would 152 = .ok (.bipush 6, 2) := by decide +kernel
theorem dL_would_154 : decode cL_would 154 = .ok (.iload 6, 2) := by decide +kernel
theorem dL_would_156 : decode cL_would 156 = .ok (.imul, 1) := by decide +kernel
theorem dL_would_157 : decode cL_would 157 = .ok (.iload 11, 2) := by decide +kernel
theorem dL_would_159 : decode cL_would 159 = .ok (.bipush 6, 2) := by decide +kernel
theorem dL_would_161 : decode cL_would 161 = .ok (.idiv, 1) := by decide +kernel
theorem dL_would_162 : decode cL_would 162 = .ok (.iadd, 1) := by decide +kernel
theorem dL_would_163 : decode cL_would 163 = .ok (.bipush 6, 2) := by decide +kernel
theorem dL_would_165 : decode cL_would 165 = .ok (.iload 6, 2) := by decide +kernel
theorem dL_would_167 : decode cL_would 167 = .ok (.imul, 1) := by decide +kernel
theorem dL_would_168 : decode cL_would 168 = .ok (.iload 11, 2) := by decide +kernel
theorem dL_would_170 : decode cL_would 170 = .ok (.bipush 6, 2) := by decide +kernel
theorem dL_would_172 : decode cL_would 172 = .ok (.irem, 1) := by decide +kernel
theorem dL_would_173 : decode cL_would 173 = .ok (.iadd, 1) := by decide +kernel
theorem dL_would_174 : decode cL_would 174 = .ok (.invokestatic 70, 3) := by decide +kernel
theorem dL_would_177 : decode cL_would 177 = .ok (.aload_n 1, 1) := by decide +kernel
theorem dL_would_178 : decode cL_would 178 = .ok (.aload_n 2, 1) := by decide +kernel
theorem dL_would_179 : decode cL_would 179 = .ok (.invokestatic 56, 3) := by decide +kernel
theorem dL_would_182 : decode cL_would 182 = .ok (.istore 12, 2) := by decide +kernel
theorem dL_would_184 : decode cL_would 184 = .ok (.aload_n 1, 1) := by decide +kernel
theorem dL_would_185 : decode cL_would 185 = .ok (.bipush 6, 2) := by decide +kernel
theorem dL_would_187 : decode cL_would 187 = .ok (.iload 6, 2) := by decide +kernel
theorem dL_would_189 : decode cL_would 189 = .ok (.imul, 1) := by decide +kernel
theorem dL_would_190 : decode cL_would 190 = .ok (.iload 11, 2) := by decide +kernel
theorem dL_would_192 : decode cL_would 192 = .ok (.bipush 6, 2) := by decide +kernel
theorem dL_would_194 : decode cL_would 194 = .ok (.idiv, 1) := by decide +kernel
theorem dL_would_195 : decode cL_would 195 = .ok (.iadd, 1) := by decide +kernel
theorem dL_would_196 : decode cL_would 196 = .ok (.bipush 6, 2) := by decide +kernel
theorem dL_would_198 : decode cL_would 198 = .ok (.iload 6, 2) := by decide +kernel
theorem dL_would_200 : decode cL_would 200 = .ok (.imul, 1) := by decide +kernel
theorem dL_would_201 : decode cL_would 201 = .ok (.iload 11, 2) := by decide +kernel
theorem dL_would_203 : decode cL_would 203 = .ok (.bipush 6, 2) := by decide +kernel
theorem dL_would_205 : decode cL_would 205 = .ok (.irem, 1) := by decide +kernel
theorem dL_would_206 : decode cL_would 206 = .ok (.iadd, 1) := by decide +kernel
theorem dL_would_207 : decode cL_would 207 = .ok (.invokestatic 70, 3) := by decide +kernel
theorem dL_would_210 : decode cL_would 210 = .ok (.iload 12, 2) := by decide +kernel
theorem dL_would_212 : decode cL_would 212 = .ok (.iload 10, 2) := by decide +kernel
theorem dL_would_214 : decode cL_would 214 = .ok (.if_icmp .lt 8, 3) := by decide +kernel
theorem dL_would_217 : decode cL_would 217 = .ok (.iload 11, 2) := by decide +kernel
theorem dL_would_219 : decode cL_would 219 = .ok (.goto 5, 3) := by decide +kernel
theorem dL_would_222 : decode cL_would 222 = .ok (.iload 9, 2) := by decide +kernel
theorem dL_would_224 : decode cL_would 224 = .ok (.istore 9, 2) := by decide +kernel
theorem dL_would_226 : decode cL_would 226 = .ok (.iload 12, 2) := by decide +kernel
theorem dL_would_228 : decode cL_would 228 = .ok (.iload 10, 2) := by decide +kernel
theorem dL_would_230 : decode cL_would 230 = .ok (.if_icmp .lt 8, 3) := by decide +kernel
theorem dL_would_233 : decode cL_would 233 = .ok (.iload 12, 2) := by decide +kernel
theorem dL_would_235 : decode cL_would 235 = .ok (.goto 5, 3) := by decide +kernel
theorem dL_would_238 : decode cL_would 238 = .ok (.iload 10, 2) := by decide +kernel
theorem dL_would_240 : decode cL_would 240 = .ok (.istore 10, 2) := by decide +kernel
theorem dL_would_242 : decode cL_would 242 = .ok (.iinc 11 (-1), 3) := by decide +kernel
theorem dL_would_245 : decode cL_would 245 = .ok (.goto (-126), 3) := by decide +kernel
theorem dL_would_248 : decode cL_would 248 = .ok (.iload 8, 2) := by decide +kernel
theorem dL_would_250 : decode cL_would 250 = .ok (.ifCond .eq 18, 3) := by decide +kernel
theorem dL_would_253 : decode cL_would 253 = .ok (.aload_n 0, 1) := by decide +kernel
theorem dL_would_254 : decode cL_would 254 = .ok (.iload 6, 2) := by decide +kernel
theorem dL_would_256 : decode cL_would 256 = .ok (.invokevirtual 78, 3) := by decide +kernel
theorem dL_would_259 : decode cL_would 259 = .ok (.iload 9, 2) := by decide +kernel
theorem dL_would_261 : decode cL_would 261 = .ok (.if_icmp .ne 7, 3) := by decide +kernel
theorem dL_would_264 : decode cL_would 264 = .ok (.iconst 1, 1) := by decide +kernel
theorem dL_would_265 : decode cL_would 265 = .ok (.goto 4, 3) := by decide +kernel
theorem dL_would_268 : decode cL_would 268 = .ok (.iconst 0, 1) := by decide +kernel
theorem dL_would_269 : decode cL_would 269 = .ok (.istore 8, 2) := by decide +kernel
theorem dL_would_271 : decode cL_would 271 = .ok (.iconst (-1), 1) := by decide +kernel
theorem dL_would_272 : decode cL_would 272 = .ok (.istore 9, 2) := by decide +kernel
theorem dL_would_274 : decode cL_would 274 = .ok (.iconst 0, 1) := by decide +kernel
theorem dL_would_275 : decode cL_would 275 = .ok (.istore 10, 2) := by decide +kernel
theorem dL_would_277 : decode cL_would 277 = .ok (.iconst 3, 1) := by decide +kernel
theorem dL_would_278 : decode cL_would 278 = .ok (.istore 11, 2) := by decide +kernel
theorem dL_would_280 : decode cL_would 280 = .ok (.iload 11, 2) := by decide +kernel
theorem dL_would_282 : decode cL_would 282 = .ok (.ifCond .lt 86, 3) := by decide +kernel
theorem dL_would_285 : decode cL_would 285 = .ok (.aload_n 1, 1) := by decide +kernel
theorem dL_would_286 : decode cL_would 286 = .ok (.iload 11, 2) := by decide +kernel
theorem dL_would_288 : decode cL_would 288 = .ok (.invokestatic 9, 3) := by decide +kernel
theorem dL_would_291 : decode cL_would 291 = .ok (.istore 12, 2) := by decide +kernel
theorem dL_would_293 : decode cL_would 293 = .ok (.iload 12, 2) := by decide +kernel
theorem dL_would_295 : decode cL_would 295 = .ok (.bipush 6, 2) := by decide +kernel
theorem dL_would_297 : decode cL_would 297 = .ok (.if_icmp .ge 65, 3) := by decide +kernel
theorem dL_would_300 : decode cL_would 300 = .ok (.aload_n 1, 1) := by decide +kernel
theorem dL_would_301 : decode cL_would 301 = .ok (.bipush 6, 2) := by decide +kernel
theorem dL_would_303 : decode cL_would 303 = .ok (.iload 11, 2) := by decide +kernel
theorem dL_would_305 : decode cL_would 305 = .ok (.imul, 1) := by decide +kernel
theorem dL_would_306 : decode cL_would 306 = .ok (.iload 12, 2) := by decide +kernel
theorem dL_would_308 : decode cL_would 308 = .ok (.iadd, 1) := by decide +kernel
theorem dL_would_309 : decode cL_would 309 = .ok (.iload 7, 2) := by decide +kernel
theorem dL_would_311 : decode cL_would 311 = .ok (.iastore, 1) := by decide +kernel
theorem dL_would_312 : decode cL_would 312 = .ok (.aload_n 1, 1) := by decide +kernel
theorem dL_would_313 : decode cL_would 313 = .ok (.aload_n 2, 1) := by decide +kernel
theorem dL_would_314 : decode cL_would 314 = .ok (.invokestatic 56, 3) := by decide +kernel
theorem dL_would_317 : decode cL_would 317 = .ok (.istore 13, 2) := by decide +kernel
theorem dL_would_319 : decode cL_would 319 = .ok (.aload_n 1, 1) := by decide +kernel
theorem dL_would_320 : decode cL_would 320 = .ok (.bipush 6, 2) := by decide +kernel
theorem dL_would_322 : decode cL_would 322 = .ok (.iload 11, 2) := by decide +kernel
theorem dL_would_324 : decode cL_would 324 = .ok (.imul, 1) := by decide +kernel
theorem dL_would_325 : decode cL_would 325 = .ok (.iload 12, 2) := by decide +kernel
theorem dL_would_327 : decode cL_would 327 = .ok (.iadd, 1) := by decide +kernel
theorem dL_would_328 : decode cL_would 328 = .ok (.iconst 0, 1) := by decide +kernel
theorem dL_would_329 : decode cL_would 329 = .ok (.iastore, 1) := by decide +kernel
theorem dL_would_330 : decode cL_would 330 = .ok (.iload 13, 2) := by decide +kernel
theorem dL_would_332 : decode cL_would 332 = .ok (.iload 10, 2) := by decide +kernel
theorem dL_would_334 : decode cL_would 334 = .ok (.if_icmp .lt 8, 3) := by decide +kernel
theorem dL_would_337 : decode cL_would 337 = .ok (.iload 11, 2) := by decide +kernel
theorem dL_would_339 : decode cL_would 339 = .ok (.goto 5, 3) := by decide +kernel
theorem dL_would_342 : decode cL_would 342 = .ok (.iload 9, 2) := by decide +kernel
theorem dL_would_344 : decode cL_would 344 = .ok (.istore 9, 2) := by decide +kernel
theorem dL_would_346 : decode cL_would 346 = .ok (.iload 13, 2) := by decide +kernel
theorem dL_would_348 : decode cL_would 348 = .ok (.iload 10, 2) := by decide +kernel
theorem dL_would_350 : decode cL_would 350 = .ok (.if_icmp .lt 8, 3) := by decide +kernel
theorem dL_would_353 : decode cL_would 353 = .ok (.iload 13, 2) := by decide +kernel
theorem dL_would_355 : decode cL_would 355 = .ok (.goto 5, 3) := by decide +kernel
theorem dL_would_358 : decode cL_would 358 = .ok (.iload 10, 2) := by decide +kernel
theorem dL_would_360 : decode cL_would 360 = .ok (.istore 10, 2) := by decide +kernel
theorem dL_would_362 : decode cL_would 362 = .ok (.iinc 11 (-1), 3) := by decide +kernel
theorem dL_would_365 : decode cL_would 365 = .ok (.goto (-85), 3) := by decide +kernel
theorem dL_would_368 : decode cL_would 368 = .ok (.aload_n 2, 1) := by decide +kernel
theorem dL_would_369 : decode cL_would 369 = .ok (.iconst 0, 1) := by decide +kernel
theorem dL_would_370 : decode cL_would 370 = .ok (.iaload, 1) := by decide +kernel
theorem dL_would_371 : decode cL_would 371 = .ok (.istore 11, 2) := by decide +kernel
theorem dL_would_373 : decode cL_would 373 = .ok (.aload_n 2, 1) := by decide +kernel
theorem dL_would_374 : decode cL_would 374 = .ok (.iconst 0, 1) := by decide +kernel
theorem dL_would_375 : decode cL_would 375 = .ok (.iconst 1, 1) := by decide +kernel
theorem dL_would_376 : decode cL_would 376 = .ok (.iload_n 3, 1) := by decide +kernel
theorem dL_would_377 : decode cL_would 377 = .ok (.iconst 3, 1) := by decide +kernel
theorem dL_would_378 : decode cL_would 378 = .ok (.ishr, 1) := by decide +kernel
theorem dL_would_379 : decode cL_would 379 = .ok (.bipush 6, 2) := by decide +kernel
theorem dL_would_381 : decode cL_would 381 = .ok (.invokestatic 64, 3) := by decide +kernel
theorem dL_would_384 : decode cL_would 384 = .ok (.iadd, 1) := by decide +kernel
theorem dL_would_385 : decode cL_would 385 = .ok (.iastore, 1) := by decide +kernel
theorem dL_would_386 : decode cL_would 386 = .ok (.iload 8, 2) := by decide +kernel
theorem dL_would_388 : decode cL_would 388 = .ok (.ifCond .eq 33, 3) := by decide +kernel
theorem dL_would_391 : decode cL_would 391 = .ok (.aload_n 0, 1) := by decide +kernel
theorem dL_would_392 : decode cL_would 392 = .ok (.iload 7, 2) := by decide +kernel
theorem dL_would_394 : decode cL_would 394 = .ok (.invokevirtual 81, 3) := by decide +kernel
theorem dL_would_397 : decode cL_would 397 = .ok (.iload 9, 2) := by decide +kernel
theorem dL_would_399 : decode cL_would 399 = .ok (.if_icmp .ne 22, 3) := by decide +kernel
theorem dL_would_402 : decode cL_would 402 = .ok (.aload_n 0, 1) := by decide +kernel
theorem dL_would_403 : decode cL_would 403 = .ok (.aload_n 2, 1) := by decide +kernel
theorem dL_would_404 : decode cL_would 404 = .ok (.iconst 0, 1) := by decide +kernel
theorem dL_would_405 : decode cL_would 405 = .ok (.iaload, 1) := by decide +kernel
theorem dL_would_406 : decode cL_would 406 = .ok (.invokevirtual 84, 3) := by decide +kernel
theorem dL_would_409 : decode cL_would 409 = .ok (.aload_n 1, 1) := by decide +kernel
theorem dL_would_410 : decode cL_would 410 = .ok (.aload_n 2, 1) := by decide +kernel
theorem dL_would_411 : decode cL_would 411 = .ok (.invokestatic 56, 3) := by decide +kernel
theorem dL_would_414 : decode cL_would 414 = .ok (.if_icmp .ne 7, 3) := by decide +kernel
theorem dL_would_417 : decode cL_would 417 = .ok (.iconst 1, 1) := by decide +kernel
theorem dL_would_418 : decode cL_would 418 = .ok (.goto 4, 3) := by decide +kernel
theorem dL_would_421 : decode cL_would 421 = .ok (.iconst 0, 1) := by decide +kernel
theorem dL_would_422 : decode cL_would 422 = .ok (.istore 8, 2) := by decide +kernel
theorem dL_would_424 : decode cL_would 424 = .ok (.aload_n 2, 1) := by decide +kernel
theorem dL_would_425 : decode cL_would 425 = .ok (.iconst 0, 1) := by decide +kernel
theorem dL_would_426 : decode cL_would 426 = .ok (.iload 11, 2) := by decide +kernel
theorem dL_would_428 : decode cL_would 428 = .ok (.iastore, 1) := by decide +kernel
theorem dL_would_429 : decode cL_would 429 = .ok (.iload 8, 2) := by decide +kernel
theorem dL_would_431 : decode cL_would 431 = .ok (.ireturn, 1) := by decide +kernel
theorem dL_joins_0 : decode cL_joins 0 = .ok (.iload 5, 2) := by decide +kernel
theorem dL_joins_2 : decode cL_joins 2 = .ok (.iconst 3, 1) := by decide +kernel
theorem dL_joins_3 : decode cL_joins 3 = .ok (.ishr, 1) := by decide +kernel
theorem dL_joins_4 : decode cL_joins 4 = .ok (.iconst 4, 1) := by decide +kernel
theorem dL_joins_5 : decode cL_joins 5 = .ok (.invokestatic 64, 3) := by decide +kernel
theorem dL_joins_8 : decode cL_joins 8 = .ok (.istore 6, 2) := by decide +kernel
theorem dL_joins_10 : decode cL_joins 10 = .ok (.aload_n 1, 1) := by decide +kernel
theorem dL_joins_11 : decode cL_joins 11 = .ok (.iload 6, 2) := by decide +kernel
theorem dL_joins_13 : decode cL_joins 13 = .ok (.invokestatic 9, 3) := by decide +kernel
theorem dL_joins_16 : decode cL_joins 16 = .ok (.istore 7, 2) := by decide +kernel
theorem dL_joins_18 : decode cL_joins 18 = .ok (.iload 7, 2) := by decide +kernel
theorem dL_joins_20 : decode cL_joins 20 = .ok (.bipush 6, 2) := by decide +kernel
theorem dL_joins_22 : decode cL_joins 22 = .ok (.if_icmp .ne 21, 3) := by decide +kernel
theorem dL_joins_25 : decode cL_joins 25 = .ok (.aload_n 0, 1) := by decide +kernel
theorem dL_joins_26 : decode cL_joins 26 = .ok (.iload 6, 2) := by decide +kernel
theorem dL_joins_28 : decode cL_joins 28 = .ok (.iconst 0, 1) := by decide +kernel
theorem dL_joins_29 : decode cL_joins 29 = .ok (.invokevirtual 47, 3) := by decide +kernel
theorem dL_joins_32 : decode cL_joins 32 = .ok (.bipush 6, 2) := by decide +kernel
theorem dL_joins_34 : decode cL_joins 34 = .ok (.if_icmp .ne 7, 3) := by decide +kernel
theorem dL_joins_37 : decode cL_joins 37 = .ok (.iconst 1, 1) := by decide +kernel
theorem dL_joins_38 : decode cL_joins 38 = .ok (.goto 4, 3) := by decide +kernel
theorem dL_joins_41 : decode cL_joins 41 = .ok (.iconst 0, 1) := by decide +kernel
theorem dL_joins_42 : decode cL_joins 42 = .ok (.ireturn, 1) := by decide +kernel
theorem dL_joins_43 : decode cL_joins 43 = .ok (.bipush 6, 2) := by decide +kernel
theorem dL_joins_45 : decode cL_joins 45 = .ok (.iload 6, 2) := by decide +kernel
theorem dL_joins_47 : decode cL_joins 47 = .ok (.imul, 1) := by decide +kernel
theorem dL_joins_48 : decode cL_joins 48 = .ok (.iload 7, 2) := by decide +kernel
theorem dL_joins_50 : decode cL_joins 50 = .ok (.iadd, 1) := by decide +kernel
theorem dL_joins_51 : decode cL_joins 51 = .ok (.istore 8, 2) := by decide +kernel
theorem dL_joins_53 : decode cL_joins 53 = .ok (.aload_n 1, 1) := by decide +kernel
theorem dL_joins_54 : decode cL_joins 54 = .ok (.iload 8, 2) := by decide +kernel
theorem dL_joins_56 : decode cL_joins 56 = .ok (.iload 5, 2) := by decide +kernel
theorem dL_joins_58 : decode cL_joins 58 = .ok (.iconst 5, 1) := by decide +kernel
theorem dL_joins_59 : decode cL_joins 59 = .ok (.ishr, 1) := by decide +kernel
theorem dL_joins_60 : decode cL_joins 60 = .ok (.iconst 3, 1) := by decide +kernel
theorem dL_joins_61 : decode cL_joins 61 = .ok (.invokestatic 64, 3) := by decide +kernel
theorem dL_joins_64 : decode cL_joins 64 = .ok (.ifCond .ne 19, 3) := by decide +kernel
theorem dL_joins_67 : decode cL_joins 67 = .ok (.sipush 150, 3) := by decide +kernel
theorem dL_joins_70 : decode cL_joins 70 = .ok (.iload 5, 2) := by decide +kernel
theorem dL_joins_72 : decode cL_joins 72 = .ok (.bipush 8, 2) := by decide +kernel
theorem dL_joins_74 : decode cL_joins 74 = .ok (.ishr, 1) := by decide +kernel
theorem dL_joins_75 : decode cL_joins 75 = .ok (.iconst 4, 1) := by decide +kernel
theorem dL_joins_76 : decode cL_joins 76 = .ok (.invokestatic 64, 3) := by decide +kernel
theorem dL_joins_79 : decode cL_joins 79 = .ok (.iadd, 1) := by decide +kernel
theorem dL_joins_80 : decode cL_joins 80 = .ok (.goto 16, 3) := by decide +kernel
theorem dL_joins_83 : decode cL_joins 83 = .ok (.bipush 100, 2) := by decide +kernel
theorem dL_joins_85 : decode cL_joins 85 = .ok (.iload 5, 2) := by decide +kernel
theorem dL_joins_87 : decode cL_joins 87 = .ok (.bipush 8, 2) := by decide +kernel
theorem dL_joins_89 : decode cL_joins 89 = .ok (.ishr, 1) := by decide +kernel
theorem dL_joins_90 : decode cL_joins 90 = .ok (.bipush 121, 2) := by decide +kernel
theorem dL_joins_92 : decode cL_joins 92 = .ok (.invokestatic 64, 3) := by decide +kernel
theorem dL_joins_95 : decode cL_joins 95 = .ok (.iadd, 1) := by decide +kernel
theorem dL_joins_96 : decode cL_joins 96 = .ok (.iastore, 1) := by decide +kernel
theorem dL_joins_97 : decode cL_joins 97 = .ok (.aload_n 2, 1) := by decide +kernel
theorem dL_joins_98 : decode cL_joins 98 = .ok (.iload 8, 2) := by decide +kernel
theorem dL_joins_100 : decode cL_joins 100 = .ok (.iload 5, 2) := by decide +kernel
theorem dL_joins_102 : decode cL_joins 102 = .ok (.bipush 6, 2) := by decide +kernel
theorem dL_joins_104 : decode cL_joins 104 = .ok (.ishr, 1) := by decide +kernel
theorem dL_joins_105 : decode cL_joins 105 = .ok (.iconst 4, 1) := by decide +kernel
theorem dL_joins_106 : decode cL_joins 106 = .ok (.invokestatic 64, 3) := by decide +kernel
theorem dL_joins_109 : decode cL_joins 109 = .ok (.iastore, 1) := by decide +kernel
theorem dL_joins_110 : decode cL_joins 110 = .ok (.aload_n 3, 1) := by decide +kernel
theorem dL_joins_111 : decode cL_joins 111 = .ok (.iload 8, 2) := by decide +kernel
theorem dL_joins_113 : decode cL_joins 113 = .ok (.aload 4, 2) := by decide +kernel
theorem dL_joins_115 : decode cL_joins 115 = .ok (.iconst 2, 1) := by decide +kernel
theorem dL_joins_116 : decode cL_joins 116 = .ok (.iaload, 1) := by decide +kernel
theorem dL_joins_117 : decode cL_joins 117 = .ok (.iastore, 1) := by decide +kernel
theorem dL_joins_118 : decode cL_joins 118 = .ok (.aload 4, 2) := by decide +kernel
theorem dL_joins_120 : decode cL_joins 120 = .ok (.iconst 2, 1) := by decide +kernel
theorem dL_joins_121 : decode cL_joins 121 = .ok (.dup2, 1) := by decide +kernel
theorem dL_joins_122 : decode cL_joins 122 = .ok (.iaload, 1) := by decide +kernel
theorem dL_joins_123 : decode cL_joins 123 = .ok (.iconst 1, 1) := by decide +kernel
theorem dL_joins_124 : decode cL_joins 124 = .ok (.iadd, 1) := by decide +kernel
theorem dL_joins_125 : decode cL_joins 125 = .ok (.iastore, 1) := by decide +kernel
theorem dL_joins_126 : decode cL_joins 126 = .ok (.aload_n 0, 1) := by decide +kernel
theorem dL_joins_127 : decode cL_joins 127 = .ok (.iload 6, 2) := by decide +kernel
theorem dL_joins_129 : decode cL_joins 129 = .ok (.aload_n 1, 1) := by decide +kernel
theorem dL_joins_130 : decode cL_joins 130 = .ok (.iload 8, 2) := by decide +kernel
theorem dL_joins_132 : decode cL_joins 132 = .ok (.iaload, 1) := by decide +kernel
theorem dL_joins_133 : decode cL_joins 133 = .ok (.aload_n 2, 1) := by decide +kernel
theorem dL_joins_134 : decode cL_joins 134 = .ok (.iload 8, 2) := by decide +kernel
theorem dL_joins_136 : decode cL_joins 136 = .ok (.iaload, 1) := by decide +kernel
theorem dL_joins_137 : decode cL_joins 137 = .ok (.invokevirtual 87, 3) := by decide +kernel
theorem dL_joins_140 : decode cL_joins 140 = .ok (.aload_n 3, 1) := by decide +kernel
theorem dL_joins_141 : decode cL_joins 141 = .ok (.iload 8, 2) := by decide +kernel
theorem dL_joins_143 : decode cL_joins 143 = .ok (.iaload, 1) := by decide +kernel
theorem dL_joins_144 : decode cL_joins 144 = .ok (.if_icmp .ne 7, 3) := by decide +kernel
theorem dL_joins_147 : decode cL_joins 147 = .ok (.iconst 1, 1) := by decide +kernel
theorem dL_joins_148 : decode cL_joins 148 = .ok (.goto 4, 3) := by decide +kernel
theorem dL_joins_151 : decode cL_joins 151 = .ok (.iconst 0, 1) := by decide +kernel
theorem dL_joins_152 : decode cL_joins 152 = .ok (.ireturn, 1) := by decide +kernel
theorem dL_closes_0 : decode cL_closes 0 = .ok (.bipush 6, 2) := by decide +kernel
theorem dL_closes_2 : decode cL_closes 2 = .ok (.iload_n 1, 1) := by decide +kernel
theorem dL_closes_3 : decode cL_closes 3 = .ok (.imul, 1) := by decide +kernel
theorem dL_closes_4 : decode cL_closes 4 = .ok (.iload_n 2, 1) := by decide +kernel
theorem dL_closes_5 : decode cL_closes 5 = .ok (.iadd, 1) := by decide +kernel
theorem dL_closes_6 : decode cL_closes 6 = .ok (.istore_n 3, 1) := by decide +kernel
theorem dL_closes_7 : decode cL_closes 7 = .ok (.iload_n 3, 1) := by decide +kernel
theorem dL_closes_8 : decode cL_closes 8 = .ok (.bipush 6, 2) := by decide +kernel
theorem dL_closes_10 : decode cL_closes 10 = .ok (.iload_n 1, 1) := by decide +kernel
theorem dL_closes_11 : decode cL_closes 11 = .ok (.imul, 1) := by decide +kernel
theorem dL_closes_12 : decode cL_closes 12 = .ok (.iconst 5, 1) := by decide +kernel
theorem dL_closes_13 : decode cL_closes 13 = .ok (.iadd, 1) := by decide +kernel
theorem dL_closes_14 : decode cL_closes 14 = .ok (.if_icmp .ge 17, 3) := by decide +kernel
theorem dL_closes_17 : decode cL_closes 17 = .ok (.aload_n 0, 1) := by decide +kernel
theorem dL_closes_18 : decode cL_closes 18 = .ok (.iload_n 3, 1) := by decide +kernel
theorem dL_closes_19 : decode cL_closes 19 = .ok (.aload_n 0, 1) := by decide +kernel
theorem dL_closes_20 : decode cL_closes 20 = .ok (.iload_n 3, 1) := by decide +kernel
theorem dL_closes_21 : decode cL_closes 21 = .ok (.iconst 1, 1) := by decide +kernel
theorem dL_closes_22 : decode cL_closes 22 = .ok (.iadd, 1) := by decide +kernel
theorem dL_closes_23 : decode cL_closes 23 = .ok (.iaload, 1) := by decide +kernel
theorem dL_closes_24 : decode cL_closes 24 = .ok (.iastore, 1) := by decide +kernel
theorem dL_closes_25 : decode cL_closes 25 = .ok (.iinc 3 1, 3) := by decide +kernel
theorem dL_closes_28 : decode cL_closes 28 = .ok (.goto (-21), 3) := by decide +kernel
theorem dL_closes_31 : decode cL_closes 31 = .ok (.aload_n 0, 1) := by decide +kernel
theorem dL_closes_32 : decode cL_closes 32 = .ok (.bipush 6, 2) := by decide +kernel
theorem dL_closes_34 : decode cL_closes 34 = .ok (.iload_n 1, 1) := by decide +kernel
theorem dL_closes_35 : decode cL_closes 35 = .ok (.imul, 1) := by decide +kernel
theorem dL_closes_36 : decode cL_closes 36 = .ok (.iconst 5, 1) := by decide +kernel
theorem dL_closes_37 : decode cL_closes 37 = .ok (.iadd, 1) := by decide +kernel
theorem dL_closes_38 : decode cL_closes 38 = .ok (.iconst 0, 1) := by decide +kernel
theorem dL_closes_39 : decode cL_closes 39 = .ok (.iastore, 1) := by decide +kernel
theorem dL_closes_40 : decode cL_closes 40 = .ok (.return_, 1) := by decide +kernel
theorem dL_closesAll_0 : decode cL_closesAll 0 = .ok (.aload_n 0, 1) := by decide +kernel
theorem dL_closesAll_1 : decode cL_closesAll 1 = .ok (.iload_n 3, 1) := by decide +kernel
theorem dL_closesAll_2 : decode cL_closesAll 2 = .ok (.bipush 6, 2) := by decide +kernel
theorem dL_closesAll_4 : decode cL_closesAll 4 = .ok (.idiv, 1) := by decide +kernel
theorem dL_closesAll_5 : decode cL_closesAll 5 = .ok (.iload_n 3, 1) := by decide +kernel
theorem dL_closesAll_6 : decode cL_closesAll 6 = .ok (.bipush 6, 2) := by decide +kernel
theorem dL_closesAll_8 : decode cL_closesAll 8 = .ok (.irem, 1) := by decide +kernel
theorem dL_closesAll_9 : decode cL_closesAll 9 = .ok (.invokestatic 90, 3) := by decide +kernel
theorem dL_closesAll_12 : decode cL_closesAll 12 = .ok (.aload_n 1, 1) := by decide +kernel
theorem dL_closesAll_13 : decode cL_closesAll 13 = .ok (.iload_n 3, 1) := by decide +kernel
theorem dL_closesAll_14 : decode cL_closesAll 14 = .ok (.bipush 6, 2) := by decide +kernel
theorem dL_closesAll_16 : decode cL_closesAll 16 = .ok (.idiv, 1) := by decide +kernel
theorem dL_closesAll_17 : decode cL_closesAll 17 = .ok (.iload_n 3, 1) := by decide +kernel
theorem dL_closesAll_18 : decode cL_closesAll 18 = .ok (.bipush 6, 2) := by decide +kernel
theorem dL_closesAll_20 : decode cL_closesAll 20 = .ok (.irem, 1) := by decide +kernel
theorem dL_closesAll_21 : decode cL_closesAll 21 = .ok (.invokestatic 90, 3) := by decide +kernel
theorem dL_closesAll_24 : decode cL_closesAll 24 = .ok (.aload_n 2, 1) := by decide +kernel
theorem dL_closesAll_25 : decode cL_closesAll 25 = .ok (.iload_n 3, 1) := by decide +kernel
theorem dL_closesAll_26 : decode cL_closesAll 26 = .ok (.bipush 6, 2) := by decide +kernel
theorem dL_closesAll_28 : decode cL_closesAll 28 = .ok (.idiv, 1) := by decide +kernel
theorem dL_closesAll_29 : decode cL_closesAll 29 = .ok (.iload_n 3, 1) := by decide +kernel
theorem dL_closesAll_30 : decode cL_closesAll 30 = .ok (.bipush 6, 2) := by decide +kernel
theorem dL_closesAll_32 : decode cL_closesAll 32 = .ok (.irem, 1) := by decide +kernel
theorem dL_closesAll_33 : decode cL_closesAll 33 = .ok (.invokestatic 90, 3) := by decide +kernel
theorem dL_closesAll_36 : decode cL_closesAll 36 = .ok (.return_, 1) := by decide +kernel
theorem dL_leaves_0 : decode cL_leaves 0 = .ok (.aload_n 1, 1) := by decide +kernel
theorem dL_leaves_1 : decode cL_leaves 1 = .ok (.iload 5, 2) := by decide +kernel
theorem dL_leaves_3 : decode cL_leaves 3 = .ok (.invokestatic 67, 3) := by decide +kernel
theorem dL_leaves_6 : decode cL_leaves 6 = .ok (.istore 6, 2) := by decide +kernel
theorem dL_leaves_8 : decode cL_leaves 8 = .ok (.iload 6, 2) := by decide +kernel
theorem dL_leaves_10 : decode cL_leaves 10 = .ok (.ifCond .ge 17, 3) := by decide +kernel
theorem dL_leaves_13 : decode cL_leaves 13 = .ok (.aload_n 0, 1) := by decide +kernel
theorem dL_leaves_14 : decode cL_leaves 14 = .ok (.iconst 0, 1) := by decide +kernel
theorem dL_leaves_15 : decode cL_leaves 15 = .ok (.invokevirtual 53, 3) := by decide +kernel
theorem dL_leaves_18 : decode cL_leaves 18 = .ok (.ifCond .ne 7, 3) := by decide +kernel
theorem dL_leaves_21 : decode cL_leaves 21 = .ok (.iconst 1, 1) := by decide +kernel
theorem dL_leaves_22 : decode cL_leaves 22 = .ok (.goto 4, 3) := by decide +kernel
theorem dL_leaves_25 : decode cL_leaves 25 = .ok (.iconst 0, 1) := by decide +kernel
theorem dL_leaves_26 : decode cL_leaves 26 = .ok (.ireturn, 1) := by decide +kernel
theorem dL_leaves_27 : decode cL_leaves 27 = .ok (.aload_n 3, 1) := by decide +kernel
theorem dL_leaves_28 : decode cL_leaves 28 = .ok (.iload 6, 2) := by decide +kernel
theorem dL_leaves_30 : decode cL_leaves 30 = .ok (.iaload, 1) := by decide +kernel
theorem dL_leaves_31 : decode cL_leaves 31 = .ok (.istore 7, 2) := by decide +kernel
theorem dL_leaves_33 : decode cL_leaves 33 = .ok (.aload_n 1, 1) := by decide +kernel
theorem dL_leaves_34 : decode cL_leaves 34 = .ok (.aload_n 2, 1) := by decide +kernel
theorem dL_leaves_35 : decode cL_leaves 35 = .ok (.aload_n 3, 1) := by decide +kernel
theorem dL_leaves_36 : decode cL_leaves 36 = .ok (.iload 6, 2) := by decide +kernel
theorem dL_leaves_38 : decode cL_leaves 38 = .ok (.invokestatic 93, 3) := by decide +kernel
theorem dL_leaves_41 : decode cL_leaves 41 = .ok (.aload 4, 2) := by decide +kernel
theorem dL_leaves_43 : decode cL_leaves 43 = .ok (.iconst 3, 1) := by decide +kernel
theorem dL_leaves_44 : decode cL_leaves 44 = .ok (.dup2, 1) := by decide +kernel
theorem dL_leaves_45 : decode cL_leaves 45 = .ok (.iaload, 1) := by decide +kernel
theorem dL_leaves_46 : decode cL_leaves 46 = .ok (.iconst 1, 1) := by decide +kernel
theorem dL_leaves_47 : decode cL_leaves 47 = .ok (.iadd, 1) := by decide +kernel
theorem dL_leaves_48 : decode cL_leaves 48 = .ok (.iastore, 1) := by decide +kernel
theorem dL_leaves_49 : decode cL_leaves 49 = .ok (.aload_n 0, 1) := by decide +kernel
theorem dL_leaves_50 : decode cL_leaves 50 = .ok (.iload 6, 2) := by decide +kernel
theorem dL_leaves_52 : decode cL_leaves 52 = .ok (.bipush 6, 2) := by decide +kernel
theorem dL_leaves_54 : decode cL_leaves 54 = .ok (.idiv, 1) := by decide +kernel
theorem dL_leaves_55 : decode cL_leaves 55 = .ok (.iload 6, 2) := by decide +kernel
theorem dL_leaves_57 : decode cL_leaves 57 = .ok (.bipush 6, 2) := by decide +kernel
theorem dL_leaves_59 : decode cL_leaves 59 = .ok (.irem, 1) := by decide +kernel
theorem dL_leaves_60 : decode cL_leaves 60 = .ok (.invokevirtual 97, 3) := by decide +kernel
theorem dL_leaves_63 : decode cL_leaves 63 = .ok (.iload 7, 2) := by decide +kernel
theorem dL_leaves_65 : decode cL_leaves 65 = .ok (.if_icmp .ne 7, 3) := by decide +kernel
theorem dL_leaves_68 : decode cL_leaves 68 = .ok (.iconst 1, 1) := by decide +kernel
theorem dL_leaves_69 : decode cL_leaves 69 = .ok (.goto 4, 3) := by decide +kernel
theorem dL_leaves_72 : decode cL_leaves 72 = .ok (.iconst 0, 1) := by decide +kernel
theorem dL_leaves_73 : decode cL_leaves 73 = .ok (.ireturn, 1) := by decide +kernel
theorem dL_crosses_0 : decode cL_crosses 0 = .ok (.aload_n 1, 1) := by decide +kernel
theorem dL_crosses_1 : decode cL_crosses 1 = .ok (.iload 4, 2) := by decide +kernel
theorem dL_crosses_3 : decode cL_crosses 3 = .ok (.invokestatic 67, 3) := by decide +kernel
theorem dL_crosses_6 : decode cL_crosses 6 = .ok (.istore 5, 2) := by decide +kernel
theorem dL_crosses_8 : decode cL_crosses 8 = .ok (.iload 4, 2) := by decide +kernel
theorem dL_crosses_10 : decode cL_crosses 10 = .ok (.bipush 7, 2) := by decide +kernel
theorem dL_crosses_12 : decode cL_crosses 12 = .ok (.ishr, 1) := by decide +kernel
theorem dL_crosses_13 : decode cL_crosses 13 = .ok (.iconst 4, 1) := by decide +kernel
theorem dL_crosses_14 : decode cL_crosses 14 = .ok (.invokestatic 64, 3) := by decide +kernel
theorem dL_crosses_17 : decode cL_crosses 17 = .ok (.istore 6, 2) := by decide +kernel
theorem dL_crosses_19 : decode cL_crosses 19 = .ok (.iload 5, 2) := by decide +kernel
theorem dL_crosses_21 : decode cL_crosses 21 = .ok (.ifCond .lt 24, 3) := by decide +kernel
theorem dL_crosses_24 : decode cL_crosses 24 = .ok (.iload 5, 2) := by decide +kernel
theorem dL_crosses_26 : decode cL_crosses 26 = .ok (.bipush 6, 2) := by decide +kernel
theorem dL_crosses_28 : decode cL_crosses 28 = .ok (.idiv, 1) := by decide +kernel
theorem dL_crosses_29 : decode cL_crosses 29 = .ok (.iload 6, 2) := by decide +kernel
theorem dL_crosses_31 : decode cL_crosses 31 = .ok (.if_icmp .eq 14, 3) := by decide +kernel
theorem dL_crosses_34 : decode cL_crosses 34 = .ok (.aload_n 1, 1) := by decide +kernel
theorem dL_crosses_35 : decode cL_crosses 35 = .ok (.iload 6, 2) := by decide +kernel
theorem dL_crosses_37 : decode cL_crosses 37 = .ok (.invokestatic 9, 3) := by decide +kernel
theorem dL_crosses_40 : decode cL_crosses 40 = .ok (.bipush 6, 2) := by decide +kernel
theorem dL_crosses_42 : decode cL_crosses 42 = .ok (.if_icmp .ne 5, 3) := by decide +kernel
theorem dL_crosses_45 : decode cL_crosses 45 = .ok (.iconst 1, 1) := by decide +kernel
theorem dL_crosses_46 : decode cL_crosses 46 = .ok (.ireturn, 1) := by decide +kernel
theorem dL_crosses_47 : decode cL_crosses 47 = .ok (.aload_n 1, 1) := by decide +kernel
theorem dL_crosses_48 : decode cL_crosses 48 = .ok (.iload 6, 2) := by decide +kernel
theorem dL_crosses_50 : decode cL_crosses 50 = .ok (.invokestatic 9, 3) := by decide +kernel
theorem dL_crosses_53 : decode cL_crosses 53 = .ok (.istore 7, 2) := by decide +kernel
theorem dL_crosses_55 : decode cL_crosses 55 = .ok (.aload_n 1, 1) := by decide +kernel
theorem dL_crosses_56 : decode cL_crosses 56 = .ok (.bipush 6, 2) := by decide +kernel
theorem dL_crosses_58 : decode cL_crosses 58 = .ok (.iload 6, 2) := by decide +kernel
theorem dL_crosses_60 : decode cL_crosses 60 = .ok (.imul, 1) := by decide +kernel
theorem dL_crosses_61 : decode cL_crosses 61 = .ok (.iload 7, 2) := by decide +kernel
theorem dL_crosses_63 : decode cL_crosses 63 = .ok (.iadd, 1) := by decide +kernel
theorem dL_crosses_64 : decode cL_crosses 64 = .ok (.aload_n 1, 1) := by decide +kernel
theorem dL_crosses_65 : decode cL_crosses 65 = .ok (.iload 5, 2) := by decide +kernel
theorem dL_crosses_67 : decode cL_crosses 67 = .ok (.iaload, 1) := by decide +kernel
theorem dL_crosses_68 : decode cL_crosses 68 = .ok (.iastore, 1) := by decide +kernel
theorem dL_crosses_69 : decode cL_crosses 69 = .ok (.aload_n 2, 1) := by decide +kernel
theorem dL_crosses_70 : decode cL_crosses 70 = .ok (.bipush 6, 2) := by decide +kernel
theorem dL_crosses_72 : decode cL_crosses 72 = .ok (.iload 6, 2) := by decide +kernel
theorem dL_crosses_74 : decode cL_crosses 74 = .ok (.imul, 1) := by decide +kernel
theorem dL_crosses_75 : decode cL_crosses 75 = .ok (.iload 7, 2) := by decide +kernel
theorem dL_crosses_77 : decode cL_crosses 77 = .ok (.iadd, 1) := by decide +kernel
theorem dL_crosses_78 : decode cL_crosses 78 = .ok (.aload_n 2, 1) := by decide +kernel
theorem dL_crosses_79 : decode cL_crosses 79 = .ok (.iload 5, 2) := by decide +kernel
theorem dL_crosses_81 : decode cL_crosses 81 = .ok (.iaload, 1) := by decide +kernel
theorem dL_crosses_82 : decode cL_crosses 82 = .ok (.iastore, 1) := by decide +kernel
theorem dL_crosses_83 : decode cL_crosses 83 = .ok (.aload_n 3, 1) := by decide +kernel
theorem dL_crosses_84 : decode cL_crosses 84 = .ok (.bipush 6, 2) := by decide +kernel
theorem dL_crosses_86 : decode cL_crosses 86 = .ok (.iload 6, 2) := by decide +kernel
theorem dL_crosses_88 : decode cL_crosses 88 = .ok (.imul, 1) := by decide +kernel
theorem dL_crosses_89 : decode cL_crosses 89 = .ok (.iload 7, 2) := by decide +kernel
theorem dL_crosses_91 : decode cL_crosses 91 = .ok (.iadd, 1) := by decide +kernel
theorem dL_crosses_92 : decode cL_crosses 92 = .ok (.aload_n 3, 1) := by decide +kernel
theorem dL_crosses_93 : decode cL_crosses 93 = .ok (.iload 5, 2) := by decide +kernel
theorem dL_crosses_95 : decode cL_crosses 95 = .ok (.iaload, 1) := by decide +kernel
theorem dL_crosses_96 : decode cL_crosses 96 = .ok (.iastore, 1) := by decide +kernel
theorem dL_crosses_97 : decode cL_crosses 97 = .ok (.aload_n 1, 1) := by decide +kernel
theorem dL_crosses_98 : decode cL_crosses 98 = .ok (.aload_n 2, 1) := by decide +kernel
theorem dL_crosses_99 : decode cL_crosses 99 = .ok (.aload_n 3, 1) := by decide +kernel
theorem dL_crosses_100 : decode cL_crosses 100 = .ok (.iload 5, 2) := by decide +kernel
theorem dL_crosses_102 : decode cL_crosses 102 = .ok (.invokestatic 93, 3) := by decide +kernel
theorem dL_crosses_105 : decode cL_crosses 105 = .ok (.aload_n 0, 1) := by decide +kernel
theorem dL_crosses_106 : decode cL_crosses 106 = .ok (.iload 5, 2) := by decide +kernel
theorem dL_crosses_108 : decode cL_crosses 108 = .ok (.bipush 6, 2) := by decide +kernel
theorem dL_crosses_110 : decode cL_crosses 110 = .ok (.idiv, 1) := by decide +kernel
theorem dL_crosses_111 : decode cL_crosses 111 = .ok (.iload 5, 2) := by decide +kernel
theorem dL_crosses_113 : decode cL_crosses 113 = .ok (.bipush 6, 2) := by decide +kernel
theorem dL_crosses_115 : decode cL_crosses 115 = .ok (.irem, 1) := by decide +kernel
theorem dL_crosses_116 : decode cL_crosses 116 = .ok (.iload 6, 2) := by decide +kernel
theorem dL_crosses_118 : decode cL_crosses 118 = .ok (.invokevirtual 100, 3) := by decide +kernel
theorem dL_crosses_121 : decode cL_crosses 121 = .ok (.iload 7, 2) := by decide +kernel
theorem dL_crosses_123 : decode cL_crosses 123 = .ok (.if_icmp .ne 7, 3) := by decide +kernel
theorem dL_crosses_126 : decode cL_crosses 126 = .ok (.iconst 1, 1) := by decide +kernel
theorem dL_crosses_127 : decode cL_crosses 127 = .ok (.goto 4, 3) := by decide +kernel
theorem dL_crosses_130 : decode cL_crosses 130 = .ok (.iconst 0, 1) := by decide +kernel
theorem dL_crosses_131 : decode cL_crosses 131 = .ok (.ireturn, 1) := by decide +kernel
theorem dL_exchangeAll_0 : decode cL_exchangeAll 0 = .ok (.aload_n 0, 1) := by decide +kernel
theorem dL_exchangeAll_1 : decode cL_exchangeAll 1 = .ok (.iload_n 3, 1) := by decide +kernel
theorem dL_exchangeAll_2 : decode cL_exchangeAll 2 = .ok (.iload 4, 2) := by decide +kernel
theorem dL_exchangeAll_4 : decode cL_exchangeAll 4 = .ok (.invokestatic 70, 3) := by decide +kernel
theorem dL_exchangeAll_7 : decode cL_exchangeAll 7 = .ok (.aload_n 1, 1) := by decide +kernel
theorem dL_exchangeAll_8 : decode cL_exchangeAll 8 = .ok (.iload_n 3, 1) := by decide +kernel
theorem dL_exchangeAll_9 : decode cL_exchangeAll 9 = .ok (.iload 4, 2) := by decide +kernel
theorem dL_exchangeAll_11 : decode cL_exchangeAll 11 = .ok (.invokestatic 70, 3) := by decide +kernel
theorem dL_exchangeAll_14 : decode cL_exchangeAll 14 = .ok (.aload_n 2, 1) := by decide +kernel
theorem dL_exchangeAll_15 : decode cL_exchangeAll 15 = .ok (.iload_n 3, 1) := by decide +kernel
theorem dL_exchangeAll_16 : decode cL_exchangeAll 16 = .ok (.iload 4, 2) := by decide +kernel
theorem dL_exchangeAll_18 : decode cL_exchangeAll 18 = .ok (.invokestatic 70, 3) := by decide +kernel
theorem dL_exchangeAll_21 : decode cL_exchangeAll 21 = .ok (.return_, 1) := by decide +kernel
theorem dL_swaps_0 : decode cL_swaps 0 = .ok (.aload_n 1, 1) := by decide +kernel
theorem dL_swaps_1 : decode cL_swaps 1 = .ok (.iload 5, 2) := by decide +kernel
theorem dL_swaps_3 : decode cL_swaps 3 = .ok (.invokestatic 67, 3) := by decide +kernel
theorem dL_swaps_6 : decode cL_swaps 6 = .ok (.istore 6, 2) := by decide +kernel
theorem dL_swaps_8 : decode cL_swaps 8 = .ok (.aload_n 1, 1) := by decide +kernel
theorem dL_swaps_9 : decode cL_swaps 9 = .ok (.iload 5, 2) := by decide +kernel
theorem dL_swaps_11 : decode cL_swaps 11 = .ok (.bipush 6, 2) := by decide +kernel
theorem dL_swaps_13 : decode cL_swaps 13 = .ok (.ishr, 1) := by decide +kernel
theorem dL_swaps_14 : decode cL_swaps 14 = .ok (.invokestatic 67, 3) := by decide +kernel
theorem dL_swaps_17 : decode cL_swaps 17 = .ok (.istore 7, 2) := by decide +kernel
theorem dL_swaps_19 : decode cL_swaps 19 = .ok (.iload 6, 2) := by decide +kernel
theorem dL_swaps_21 : decode cL_swaps 21 = .ok (.ifCond .ge 5, 3) := by decide +kernel
theorem dL_swaps_24 : decode cL_swaps 24 = .ok (.iconst 1, 1) := by decide +kernel
theorem dL_swaps_25 : decode cL_swaps 25 = .ok (.ireturn, 1) := by decide +kernel
theorem dL_swaps_26 : decode cL_swaps 26 = .ok (.aload_n 1, 1) := by decide +kernel
theorem dL_swaps_27 : decode cL_swaps 27 = .ok (.aload_n 2, 1) := by decide +kernel
theorem dL_swaps_28 : decode cL_swaps 28 = .ok (.aload_n 3, 1) := by decide +kernel
theorem dL_swaps_29 : decode cL_swaps 29 = .ok (.iload 6, 2) := by decide +kernel
theorem dL_swaps_31 : decode cL_swaps 31 = .ok (.iload 7, 2) := by decide +kernel
theorem dL_swaps_33 : decode cL_swaps 33 = .ok (.invokestatic 103, 3) := by decide +kernel
theorem dL_swaps_36 : decode cL_swaps 36 = .ok (.aload 4, 2) := by decide +kernel
theorem dL_swaps_38 : decode cL_swaps 38 = .ok (.iconst 4, 1) := by decide +kernel
theorem dL_swaps_39 : decode cL_swaps 39 = .ok (.dup2, 1) := by decide +kernel
theorem dL_swaps_40 : decode cL_swaps 40 = .ok (.iaload, 1) := by decide +kernel
theorem dL_swaps_41 : decode cL_swaps 41 = .ok (.iconst 1, 1) := by decide +kernel
theorem dL_swaps_42 : decode cL_swaps 42 = .ok (.iadd, 1) := by decide +kernel
theorem dL_swaps_43 : decode cL_swaps 43 = .ok (.iastore, 1) := by decide +kernel
theorem dL_swaps_44 : decode cL_swaps 44 = .ok (.aload_n 0, 1) := by decide +kernel
theorem dL_swaps_45 : decode cL_swaps 45 = .ok (.iload 6, 2) := by decide +kernel
theorem dL_swaps_47 : decode cL_swaps 47 = .ok (.bipush 6, 2) := by decide +kernel
theorem dL_swaps_49 : decode cL_swaps 49 = .ok (.idiv, 1) := by decide +kernel
theorem dL_swaps_50 : decode cL_swaps 50 = .ok (.iload 6, 2) := by decide +kernel
theorem dL_swaps_52 : decode cL_swaps 52 = .ok (.bipush 6, 2) := by decide +kernel
theorem dL_swaps_54 : decode cL_swaps 54 = .ok (.irem, 1) := by decide +kernel
theorem dL_swaps_55 : decode cL_swaps 55 = .ok (.iload 7, 2) := by decide +kernel
theorem dL_swaps_57 : decode cL_swaps 57 = .ok (.bipush 6, 2) := by decide +kernel
theorem dL_swaps_59 : decode cL_swaps 59 = .ok (.idiv, 1) := by decide +kernel
theorem dL_swaps_60 : decode cL_swaps 60 = .ok (.iload 7, 2) := by decide +kernel
theorem dL_swaps_62 : decode cL_swaps 62 = .ok (.bipush 6, 2) := by decide +kernel
theorem dL_swaps_64 : decode cL_swaps 64 = .ok (.irem, 1) := by decide +kernel
theorem dL_swaps_65 : decode cL_swaps 65 = .ok (.invokevirtual 107, 3) := by decide +kernel
theorem dL_swaps_68 : decode cL_swaps 68 = .ok (.aload_n 1, 1) := by decide +kernel
theorem dL_swaps_69 : decode cL_swaps 69 = .ok (.aload 4, 2) := by decide +kernel
theorem dL_swaps_71 : decode cL_swaps 71 = .ok (.invokestatic 56, 3) := by decide +kernel
theorem dL_swaps_74 : decode cL_swaps 74 = .ok (.if_icmp .ne 7, 3) := by decide +kernel
theorem dL_swaps_77 : decode cL_swaps 77 = .ok (.iconst 1, 1) := by decide +kernel
theorem dL_swaps_78 : decode cL_swaps 78 = .ok (.goto 4, 3) := by decide +kernel
theorem dL_swaps_81 : decode cL_swaps 81 = .ok (.iconst 0, 1) := by decide +kernel
theorem dL_swaps_82 : decode cL_swaps 82 = .ok (.ireturn, 1) := by decide +kernel
theorem dL_turns_0 : decode cL_turns 0 = .ok (.aload_n 1, 1) := by decide +kernel
theorem dL_turns_1 : decode cL_turns 1 = .ok (.iload 5, 2) := by decide +kernel
theorem dL_turns_3 : decode cL_turns 3 = .ok (.invokestatic 9, 3) := by decide +kernel
theorem dL_turns_6 : decode cL_turns 6 = .ok (.istore 6, 2) := by decide +kernel
theorem dL_turns_8 : decode cL_turns 8 = .ok (.iconst 0, 1) := by decide +kernel
theorem dL_turns_9 : decode cL_turns 9 = .ok (.istore 7, 2) := by decide +kernel
theorem dL_turns_11 : decode cL_turns 11 = .ok (.iconst 2, 1) := by decide +kernel
theorem dL_turns_12 : decode cL_turns 12 = .ok (.iload 7, 2) := by decide +kernel
theorem dL_turns_14 : decode cL_turns 14 = .ok (.imul, 1) := by decide +kernel
theorem dL_turns_15 : decode cL_turns 15 = .ok (.iconst 1, 1) := by decide +kernel
theorem dL_turns_16 : decode cL_turns 16 = .ok (.iadd, 1) := by decide +kernel
theorem dL_turns_17 : decode cL_turns 17 = .ok (.iload 6, 2) := by decide +kernel
theorem dL_turns_19 : decode cL_turns 19 = .ok (.if_icmp .ge 36, 3) := by decide +kernel
theorem dL_turns_22 : decode cL_turns 22 = .ok (.aload_n 1, 1) := by decide +kernel
theorem dL_turns_23 : decode cL_turns 23 = .ok (.aload_n 2, 1) := by decide +kernel
theorem dL_turns_24 : decode cL_turns 24 = .ok (.aload_n 3, 1) := by decide +kernel
theorem dL_turns_25 : decode cL_turns 25 = .ok (.bipush 6, 2) := by decide +kernel
theorem dL_turns_27 : decode cL_turns 27 = .ok (.iload 5, 2) := by decide +kernel
theorem dL_turns_29 : decode cL_turns 29 = .ok (.imul, 1) := by decide +kernel
theorem dL_turns_30 : decode cL_turns 30 = .ok (.iload 7, 2) := by decide +kernel
theorem dL_turns_32 : decode cL_turns 32 = .ok (.iadd, 1) := by decide +kernel
theorem dL_turns_33 : decode cL_turns 33 = .ok (.bipush 6, 2) := by decide +kernel
theorem dL_turns_35 : decode cL_turns 35 = .ok (.iload 5, 2) := by decide +kernel
theorem dL_turns_37 : decode cL_turns 37 = .ok (.imul, 1) := by decide +kernel
theorem dL_turns_38 : decode cL_turns 38 = .ok (.iload 6, 2) := by decide +kernel
theorem dL_turns_40 : decode cL_turns 40 = .ok (.iadd, 1) := by decide +kernel
theorem dL_turns_41 : decode cL_turns 41 = .ok (.iconst 1, 1) := by decide +kernel
theorem dL_turns_42 : decode cL_turns 42 = .ok (.isub, 1) := by decide +kernel
theorem dL_turns_43 : decode cL_turns 43 = .ok (.iload 7, 2) := by decide +kernel
theorem dL_turns_45 : decode cL_turns 45 = .ok (.isub, 1) := by decide +kernel
theorem dL_turns_46 : decode cL_turns 46 = .ok (.invokestatic 103, 3) := by decide +kernel
theorem dL_turns_49 : decode cL_turns 49 = .ok (.iinc 7 1, 3) := by decide +kernel
theorem dL_turns_52 : decode cL_turns 52 = .ok (.goto (-41), 3) := by decide +kernel
theorem dL_turns_55 : decode cL_turns 55 = .ok (.aload_n 0, 1) := by decide +kernel
theorem dL_turns_56 : decode cL_turns 56 = .ok (.iload 5, 2) := by decide +kernel
theorem dL_turns_58 : decode cL_turns 58 = .ok (.invokevirtual 110, 3) := by decide +kernel
theorem dL_turns_61 : decode cL_turns 61 = .ok (.aload_n 1, 1) := by decide +kernel
theorem dL_turns_62 : decode cL_turns 62 = .ok (.aload 4, 2) := by decide +kernel
theorem dL_turns_64 : decode cL_turns 64 = .ok (.invokestatic 56, 3) := by decide +kernel
theorem dL_turns_67 : decode cL_turns 67 = .ok (.if_icmp .ne 7, 3) := by decide +kernel
theorem dL_turns_70 : decode cL_turns 70 = .ok (.iconst 1, 1) := by decide +kernel
theorem dL_turns_71 : decode cL_turns 71 = .ok (.goto 4, 3) := by decide +kernel
theorem dL_turns_74 : decode cL_turns 74 = .ok (.iconst 0, 1) := by decide +kernel
theorem dL_turns_75 : decode cL_turns 75 = .ok (.ireturn, 1) := by decide +kernel
theorem dL_sorts_0 : decode cL_sorts 0 = .ok (.bipush 6, 2) := by decide +kernel
theorem dL_sorts_2 : decode cL_sorts 2 = .ok (.iload 4, 2) := by decide +kernel
theorem dL_sorts_4 : decode cL_sorts 4 = .ok (.imul, 1) := by decide +kernel
theorem dL_sorts_5 : decode cL_sorts 5 = .ok (.aload_n 1, 1) := by decide +kernel
theorem dL_sorts_6 : decode cL_sorts 6 = .ok (.iload 4, 2) := by decide +kernel
theorem dL_sorts_8 : decode cL_sorts 8 = .ok (.invokestatic 9, 3) := by decide +kernel
theorem dL_sorts_11 : decode cL_sorts 11 = .ok (.iadd, 1) := by decide +kernel
theorem dL_sorts_12 : decode cL_sorts 12 = .ok (.istore 6, 2) := by decide +kernel
theorem dL_sorts_14 : decode cL_sorts 14 = .ok (.bipush 6, 2) := by decide +kernel
theorem dL_sorts_16 : decode cL_sorts 16 = .ok (.iload 4, 2) := by decide +kernel
theorem dL_sorts_18 : decode cL_sorts 18 = .ok (.imul, 1) := by decide +kernel
theorem dL_sorts_19 : decode cL_sorts 19 = .ok (.istore 7, 2) := by decide +kernel
theorem dL_sorts_21 : decode cL_sorts 21 = .ok (.iload 7, 2) := by decide +kernel
theorem dL_sorts_23 : decode cL_sorts 23 = .ok (.iload 6, 2) := by decide +kernel
theorem dL_sorts_25 : decode cL_sorts 25 = .ok (.if_icmp .ge 120, 3) := by decide +kernel
theorem dL_sorts_28 : decode cL_sorts 28 = .ok (.iload 7, 2) := by decide +kernel
theorem dL_sorts_30 : decode cL_sorts 30 = .ok (.istore 8, 2) := by decide +kernel
theorem dL_sorts_32 : decode cL_sorts 32 = .ok (.iload 7, 2) := by decide +kernel
theorem dL_sorts_34 : decode cL_sorts 34 = .ok (.iconst 1, 1) := by decide +kernel
theorem dL_sorts_35 : decode cL_sorts 35 = .ok (.iadd, 1) := by decide +kernel
theorem dL_sorts_36 : decode cL_sorts 36 = .ok (.istore 9, 2) := by decide +kernel
theorem dL_sorts_38 : decode cL_sorts 38 = .ok (.iload 9, 2) := by decide +kernel
theorem dL_sorts_40 : decode cL_sorts 40 = .ok (.iload 6, 2) := by decide +kernel
theorem dL_sorts_42 : decode cL_sorts 42 = .ok (.if_icmp .ge 68, 3) := by decide +kernel
theorem dL_sorts_45 : decode cL_sorts 45 = .ok (.iload 5, 2) := by decide +kernel
theorem dL_sorts_47 : decode cL_sorts 47 = .ok (.iconst 2, 1) := by decide +kernel
theorem dL_sorts_48 : decode cL_sorts 48 = .ok (.if_icmp .ne 14, 3) := by decide +kernel
theorem dL_sorts_51 : decode cL_sorts 51 = .ok (.aload_n 2, 1) := by decide +kernel
theorem dL_sorts_52 : decode cL_sorts 52 = .ok (.iload 9, 2) := by decide +kernel
theorem dL_sorts_54 : decode cL_sorts 54 = .ok (.iaload, 1) := by decide +kernel
theorem dL_sorts_55 : decode cL_sorts 55 = .ok (.aload_n 2, 1) := by decide +kernel
theorem dL_sorts_56 : decode cL_sorts 56 = .ok (.iload 8, 2) := by decide +kernel
theorem dL_sorts_58 : decode cL_sorts 58 = .ok (.iaload, 1) := by decide +kernel
theorem dL_sorts_59 : decode cL_sorts 59 = .ok (.if_icmp .lt 36, 3) := by decide +kernel
theorem dL_sorts_62 : decode cL_sorts 62 = .ok (.iload 5, 2) := by decide +kernel
theorem dL_sorts_64 : decode cL_sorts 64 = .ok (.ifCond .ne 14, 3) := by decide +kernel
theorem dL_sorts_67 : decode cL_sorts 67 = .ok (.aload_n 1, 1) := by decide +kernel
theorem dL_sorts_68 : decode cL_sorts 68 = .ok (.iload 9, 2) := by decide +kernel
theorem dL_sorts_70 : decode cL_sorts 70 = .ok (.iaload, 1) := by decide +kernel
theorem dL_sorts_71 : decode cL_sorts 71 = .ok (.aload_n 1, 1) := by decide +kernel
theorem dL_sorts_72 : decode cL_sorts 72 = .ok (.iload 8, 2) := by decide +kernel
theorem dL_sorts_74 : decode cL_sorts 74 = .ok (.iaload, 1) := by decide +kernel
theorem dL_sorts_75 : decode cL_sorts 75 = .ok (.if_icmp .lt 20, 3) := by decide +kernel
theorem dL_sorts_78 : decode cL_sorts 78 = .ok (.iload 5, 2) := by decide +kernel
theorem dL_sorts_80 : decode cL_sorts 80 = .ok (.iconst 1, 1) := by decide +kernel
theorem dL_sorts_81 : decode cL_sorts 81 = .ok (.if_icmp .ne 19, 3) := by decide +kernel
theorem dL_sorts_84 : decode cL_sorts 84 = .ok (.aload_n 1, 1) := by decide +kernel
theorem dL_sorts_85 : decode cL_sorts 85 = .ok (.iload 9, 2) := by decide +kernel
theorem dL_sorts_87 : decode cL_sorts 87 = .ok (.iaload, 1) := by decide +kernel
theorem dL_sorts_88 : decode cL_sorts 88 = .ok (.aload_n 1, 1) := by decide +kernel
theorem dL_sorts_89 : decode cL_sorts 89 = .ok (.iload 8, 2) := by decide +kernel
theorem dL_sorts_91 : decode cL_sorts 91 = .ok (.iaload, 1) := by decide +kernel
theorem dL_sorts_92 : decode cL_sorts 92 = .ok (.if_icmp .le 8, 3) := by decide +kernel
theorem dL_sorts_95 : decode cL_sorts 95 = .ok (.iload 9, 2) := by decide +kernel
theorem dL_sorts_97 : decode cL_sorts 97 = .ok (.goto 5, 3) := by decide +kernel
theorem dL_sorts_100 : decode cL_sorts 100 = .ok (.iload 8, 2) := by decide +kernel
theorem dL_sorts_102 : decode cL_sorts 102 = .ok (.istore 8, 2) := by decide +kernel
theorem dL_sorts_104 : decode cL_sorts 104 = .ok (.iinc 9 1, 3) := by decide +kernel
theorem dL_sorts_107 : decode cL_sorts 107 = .ok (.goto (-69), 3) := by decide +kernel
theorem dL_sorts_110 : decode cL_sorts 110 = .ok (.iload 8, 2) := by decide +kernel
theorem dL_sorts_112 : decode cL_sorts 112 = .ok (.istore 9, 2) := by decide +kernel
theorem dL_sorts_114 : decode cL_sorts 114 = .ok (.iload 9, 2) := by decide +kernel
theorem dL_sorts_116 : decode cL_sorts 116 = .ok (.iload 7, 2) := by decide +kernel
theorem dL_sorts_118 : decode cL_sorts 118 = .ok (.if_icmp .le 21, 3) := by decide +kernel
theorem dL_sorts_121 : decode cL_sorts 121 = .ok (.aload_n 1, 1) := by decide +kernel
theorem dL_sorts_122 : decode cL_sorts 122 = .ok (.aload_n 2, 1) := by decide +kernel
theorem dL_sorts_123 : decode cL_sorts 123 = .ok (.aload_n 3, 1) := by decide +kernel
theorem dL_sorts_124 : decode cL_sorts 124 = .ok (.iload 9, 2) := by decide +kernel
theorem dL_sorts_126 : decode cL_sorts 126 = .ok (.iload 9, 2) := by decide +kernel
theorem dL_sorts_128 : decode cL_sorts 128 = .ok (.iconst 1, 1) := by decide +kernel
theorem dL_sorts_129 : decode cL_sorts 129 = .ok (.isub, 1) := by decide +kernel
theorem dL_sorts_130 : decode cL_sorts 130 = .ok (.invokestatic 103, 3) := by decide +kernel
theorem dL_sorts_133 : decode cL_sorts 133 = .ok (.iinc 9 (-1), 3) := by decide +kernel
theorem dL_sorts_136 : decode cL_sorts 136 = .ok (.goto (-22), 3) := by decide +kernel
theorem dL_sorts_139 : decode cL_sorts 139 = .ok (.iinc 7 1, 3) := by decide +kernel
theorem dL_sorts_142 : decode cL_sorts 142 = .ok (.goto (-121), 3) := by decide +kernel
theorem dL_sorts_145 : decode cL_sorts 145 = .ok (.aload_n 0, 1) := by decide +kernel
theorem dL_sorts_146 : decode cL_sorts 146 = .ok (.iload 4, 2) := by decide +kernel
theorem dL_sorts_148 : decode cL_sorts 148 = .ok (.iload 5, 2) := by decide +kernel
theorem dL_sorts_150 : decode cL_sorts 150 = .ok (.invokevirtual 113, 3) := by decide +kernel
theorem dL_sorts_153 : decode cL_sorts 153 = .ok (.aload_n 1, 1) := by decide +kernel
theorem dL_sorts_154 : decode cL_sorts 154 = .ok (.iload 4, 2) := by decide +kernel
theorem dL_sorts_156 : decode cL_sorts 156 = .ok (.invokestatic 50, 3) := by decide +kernel
theorem dL_sorts_159 : decode cL_sorts 159 = .ok (.if_icmp .ne 7, 3) := by decide +kernel
theorem dL_sorts_162 : decode cL_sorts 162 = .ok (.iconst 1, 1) := by decide +kernel
theorem dL_sorts_163 : decode cL_sorts 163 = .ok (.goto 4, 3) := by decide +kernel
theorem dL_sorts_166 : decode cL_sorts 166 = .ok (.iconst 0, 1) := by decide +kernel
theorem dL_sorts_167 : decode cL_sorts 167 = .ok (.ireturn, 1) := by decide +kernel
theorem dL_acts_0 : decode cL_acts 0 = .ok (.iload 5, 2) := by decide +kernel
theorem dL_acts_2 : decode cL_acts 2 = .ok (.tableswitch 215 0 9 #[54, 54, 54, 66, 78, 155, 155, 167, 177, 193], 54) := by decide +kernel
theorem dL_acts_56 : decode cL_acts 56 = .ok (.aload_n 0, 1) := by decide +kernel
theorem dL_acts_57 : decode cL_acts 57 = .ok (.aload_n 1, 1) := by decide +kernel
theorem dL_acts_58 : decode cL_acts 58 = .ok (.aload_n 2, 1) := by decide +kernel
theorem dL_acts_59 : decode cL_acts 59 = .ok (.aload_n 3, 1) := by decide +kernel
theorem dL_acts_60 : decode cL_acts 60 = .ok (.aload 4, 2) := by decide +kernel
theorem dL_acts_62 : decode cL_acts 62 = .ok (.iload 6, 2) := by decide +kernel
theorem dL_acts_64 : decode cL_acts 64 = .ok (.invokestatic 116, 3) := by decide +kernel
theorem dL_acts_67 : decode cL_acts 67 = .ok (.ireturn, 1) := by decide +kernel
theorem dL_acts_68 : decode cL_acts 68 = .ok (.aload_n 0, 1) := by decide +kernel
theorem dL_acts_69 : decode cL_acts 69 = .ok (.aload_n 1, 1) := by decide +kernel
theorem dL_acts_70 : decode cL_acts 70 = .ok (.aload_n 2, 1) := by decide +kernel
theorem dL_acts_71 : decode cL_acts 71 = .ok (.aload_n 3, 1) := by decide +kernel
theorem dL_acts_72 : decode cL_acts 72 = .ok (.aload 4, 2) := by decide +kernel
theorem dL_acts_74 : decode cL_acts 74 = .ok (.iload 6, 2) := by decide +kernel
theorem dL_acts_76 : decode cL_acts 76 = .ok (.invokestatic 120, 3) := by decide +kernel
theorem dL_acts_79 : decode cL_acts 79 = .ok (.ireturn, 1) := by decide +kernel
theorem dL_acts_80 : decode cL_acts 80 = .ok (.aload_n 1, 1) := by decide +kernel
theorem dL_acts_81 : decode cL_acts 81 = .ok (.iload 6, 2) := by decide +kernel
theorem dL_acts_83 : decode cL_acts 83 = .ok (.invokestatic 67, 3) := by decide +kernel
theorem dL_acts_86 : decode cL_acts 86 = .ok (.istore 7, 2) := by decide +kernel
theorem dL_acts_88 : decode cL_acts 88 = .ok (.iload 7, 2) := by decide +kernel
theorem dL_acts_90 : decode cL_acts 90 = .ok (.ifCond .ge 7, 3) := by decide +kernel
theorem dL_acts_93 : decode cL_acts 93 = .ok (.iconst 0, 1) := by decide +kernel
theorem dL_acts_94 : decode cL_acts 94 = .ok (.goto 7, 3) := by decide +kernel
theorem dL_acts_97 : decode cL_acts 97 = .ok (.aload_n 1, 1) := by decide +kernel
theorem dL_acts_98 : decode cL_acts 98 = .ok (.iload 7, 2) := by decide +kernel
theorem dL_acts_100 : decode cL_acts 100 = .ok (.iaload, 1) := by decide +kernel
theorem dL_acts_101 : decode cL_acts 101 = .ok (.istore 8, 2) := by decide +kernel
theorem dL_acts_103 : decode cL_acts 103 = .ok (.bipush 100, 2) := by decide +kernel
theorem dL_acts_105 : decode cL_acts 105 = .ok (.iload 6, 2) := by decide +kernel
theorem dL_acts_107 : decode cL_acts 107 = .ok (.iconst 4, 1) := by decide +kernel
theorem dL_acts_108 : decode cL_acts 108 = .ok (.ishr, 1) := by decide +kernel
theorem dL_acts_109 : decode cL_acts 109 = .ok (.bipush 121, 2) := by decide +kernel
theorem dL_acts_111 : decode cL_acts 111 = .ok (.invokestatic 64, 3) := by decide +kernel
theorem dL_acts_114 : decode cL_acts 114 = .ok (.iadd, 1) := by decide +kernel
theorem dL_acts_115 : decode cL_acts 115 = .ok (.istore 9, 2) := by decide +kernel
theorem dL_acts_117 : decode cL_acts 117 = .ok (.iload 7, 2) := by decide +kernel
theorem dL_acts_119 : decode cL_acts 119 = .ok (.ifCond .ge 5, 3) := by decide +kernel
theorem dL_acts_122 : decode cL_acts 122 = .ok (.iconst 1, 1) := by decide +kernel
theorem dL_acts_123 : decode cL_acts 123 = .ok (.ireturn, 1) := by decide +kernel
theorem dL_acts_124 : decode cL_acts 124 = .ok (.aload_n 1, 1) := by decide +kernel
theorem dL_acts_125 : decode cL_acts 125 = .ok (.iload 7, 2) := by decide +kernel
theorem dL_acts_127 : decode cL_acts 127 = .ok (.iload 9, 2) := by decide +kernel
theorem dL_acts_129 : decode cL_acts 129 = .ok (.iastore, 1) := by decide +kernel
theorem dL_acts_130 : decode cL_acts 130 = .ok (.aload_n 0, 1) := by decide +kernel
theorem dL_acts_131 : decode cL_acts 131 = .ok (.iload 7, 2) := by decide +kernel
theorem dL_acts_133 : decode cL_acts 133 = .ok (.bipush 6, 2) := by decide +kernel
theorem dL_acts_135 : decode cL_acts 135 = .ok (.idiv, 1) := by decide +kernel
theorem dL_acts_136 : decode cL_acts 136 = .ok (.iload 7, 2) := by decide +kernel
theorem dL_acts_138 : decode cL_acts 138 = .ok (.bipush 6, 2) := by decide +kernel
theorem dL_acts_140 : decode cL_acts 140 = .ok (.irem, 1) := by decide +kernel
theorem dL_acts_141 : decode cL_acts 141 = .ok (.iload 9, 2) := by decide +kernel
theorem dL_acts_143 : decode cL_acts 143 = .ok (.invokevirtual 123, 3) := by decide +kernel
theorem dL_acts_146 : decode cL_acts 146 = .ok (.iload 8, 2) := by decide +kernel
theorem dL_acts_148 : decode cL_acts 148 = .ok (.if_icmp .ne 7, 3) := by decide +kernel
theorem dL_acts_151 : decode cL_acts 151 = .ok (.iconst 1, 1) := by decide +kernel
theorem dL_acts_152 : decode cL_acts 152 = .ok (.goto 4, 3) := by decide +kernel
theorem dL_acts_155 : decode cL_acts 155 = .ok (.iconst 0, 1) := by decide +kernel
theorem dL_acts_156 : decode cL_acts 156 = .ok (.ireturn, 1) := by decide +kernel
theorem dL_acts_157 : decode cL_acts 157 = .ok (.aload_n 0, 1) := by decide +kernel
theorem dL_acts_158 : decode cL_acts 158 = .ok (.aload_n 1, 1) := by decide +kernel
theorem dL_acts_159 : decode cL_acts 159 = .ok (.aload_n 2, 1) := by decide +kernel
theorem dL_acts_160 : decode cL_acts 160 = .ok (.aload_n 3, 1) := by decide +kernel
theorem dL_acts_161 : decode cL_acts 161 = .ok (.aload 4, 2) := by decide +kernel
theorem dL_acts_163 : decode cL_acts 163 = .ok (.iload 6, 2) := by decide +kernel
theorem dL_acts_165 : decode cL_acts 165 = .ok (.invokestatic 126, 3) := by decide +kernel
theorem dL_acts_168 : decode cL_acts 168 = .ok (.ireturn, 1) := by decide +kernel
theorem dL_acts_169 : decode cL_acts 169 = .ok (.aload_n 0, 1) := by decide +kernel
theorem dL_acts_170 : decode cL_acts 170 = .ok (.aload_n 1, 1) := by decide +kernel
theorem dL_acts_171 : decode cL_acts 171 = .ok (.aload_n 2, 1) := by decide +kernel
theorem dL_acts_172 : decode cL_acts 172 = .ok (.aload_n 3, 1) := by decide +kernel
theorem dL_acts_173 : decode cL_acts 173 = .ok (.iload 6, 2) := by decide +kernel
theorem dL_acts_175 : decode cL_acts 175 = .ok (.invokestatic 129, 3) := by decide +kernel
theorem dL_acts_178 : decode cL_acts 178 = .ok (.ireturn, 1) := by decide +kernel
theorem dL_acts_179 : decode cL_acts 179 = .ok (.aload_n 0, 1) := by decide +kernel
theorem dL_acts_180 : decode cL_acts 180 = .ok (.aload_n 1, 1) := by decide +kernel
theorem dL_acts_181 : decode cL_acts 181 = .ok (.aload_n 2, 1) := by decide +kernel
theorem dL_acts_182 : decode cL_acts 182 = .ok (.aload_n 3, 1) := by decide +kernel
theorem dL_acts_183 : decode cL_acts 183 = .ok (.aload 4, 2) := by decide +kernel
theorem dL_acts_185 : decode cL_acts 185 = .ok (.iload 6, 2) := by decide +kernel
theorem dL_acts_187 : decode cL_acts 187 = .ok (.iconst 4, 1) := by decide +kernel
theorem dL_acts_188 : decode cL_acts 188 = .ok (.invokestatic 64, 3) := by decide +kernel
theorem dL_acts_191 : decode cL_acts 191 = .ok (.invokestatic 133, 3) := by decide +kernel
theorem dL_acts_194 : decode cL_acts 194 = .ok (.ireturn, 1) := by decide +kernel
theorem dL_acts_195 : decode cL_acts 195 = .ok (.aload_n 0, 1) := by decide +kernel
theorem dL_acts_196 : decode cL_acts 196 = .ok (.aload_n 1, 1) := by decide +kernel
theorem dL_acts_197 : decode cL_acts 197 = .ok (.aload_n 2, 1) := by decide +kernel
theorem dL_acts_198 : decode cL_acts 198 = .ok (.aload_n 3, 1) := by decide +kernel
theorem dL_acts_199 : decode cL_acts 199 = .ok (.iload 6, 2) := by decide +kernel
theorem dL_acts_201 : decode cL_acts 201 = .ok (.iconst 4, 1) := by decide +kernel
theorem dL_acts_202 : decode cL_acts 202 = .ok (.invokestatic 64, 3) := by decide +kernel
theorem dL_acts_205 : decode cL_acts 205 = .ok (.iload 6, 2) := by decide +kernel
theorem dL_acts_207 : decode cL_acts 207 = .ok (.iconst 3, 1) := by decide +kernel
theorem dL_acts_208 : decode cL_acts 208 = .ok (.ishr, 1) := by decide +kernel
theorem dL_acts_209 : decode cL_acts 209 = .ok (.iconst 3, 1) := by decide +kernel
theorem dL_acts_210 : decode cL_acts 210 = .ok (.invokestatic 64, 3) := by decide +kernel
theorem dL_acts_213 : decode cL_acts 213 = .ok (.invokestatic 136, 3) := by decide +kernel
theorem dL_acts_216 : decode cL_acts 216 = .ok (.ireturn, 1) := by decide +kernel
theorem dL_acts_217 : decode cL_acts 217 = .ok (.iload 6, 2) := by decide +kernel
theorem dL_acts_219 : decode cL_acts 219 = .ok (.iconst 2, 1) := by decide +kernel
theorem dL_acts_220 : decode cL_acts 220 = .ok (.invokestatic 64, 3) := by decide +kernel
theorem dL_acts_223 : decode cL_acts 223 = .ok (.istore 10, 2) := by decide +kernel
theorem dL_acts_225 : decode cL_acts 225 = .ok (.aload 4, 2) := by decide +kernel
theorem dL_acts_227 : decode cL_acts 227 = .ok (.iload 10, 2) := by decide +kernel
theorem dL_acts_229 : decode cL_acts 229 = .ok (.iaload, 1) := by decide +kernel
theorem dL_acts_230 : decode cL_acts 230 = .ok (.istore 11, 2) := by decide +kernel
theorem dL_acts_232 : decode cL_acts 232 = .ok (.aload 4, 2) := by decide +kernel
theorem dL_acts_234 : decode cL_acts 234 = .ok (.iload 10, 2) := by decide +kernel
theorem dL_acts_236 : decode cL_acts 236 = .ok (.iload 10, 2) := by decide +kernel
theorem dL_acts_238 : decode cL_acts 238 = .ok (.ifCond .ne 17, 3) := by decide +kernel
theorem dL_acts_241 : decode cL_acts 241 = .ok (.iconst 1, 1) := by decide +kernel
theorem dL_acts_242 : decode cL_acts 242 = .ok (.iload 6, 2) := by decide +kernel
theorem dL_acts_244 : decode cL_acts 244 = .ok (.iconst 2, 1) := by decide +kernel
theorem dL_acts_245 : decode cL_acts 245 = .ok (.ishr, 1) := by decide +kernel
theorem dL_acts_246 : decode cL_acts 246 = .ok (.bipush 6, 2) := by decide +kernel
theorem dL_acts_248 : decode cL_acts 248 = .ok (.invokestatic 64, 3) := by decide +kernel
theorem dL_acts_251 : decode cL_acts 251 = .ok (.iadd, 1) := by decide +kernel
theorem dL_acts_252 : decode cL_acts 252 = .ok (.goto 11, 3) := by decide +kernel
theorem dL_acts_255 : decode cL_acts 255 = .ok (.iload 6, 2) := by decide +kernel
theorem dL_acts_257 : decode cL_acts 257 = .ok (.iconst 2, 1) := by decide +kernel
theorem dL_acts_258 : decode cL_acts 258 = .ok (.ishr, 1) := by decide +kernel
theorem dL_acts_259 : decode cL_acts 259 = .ok (.iconst 2, 1) := by decide +kernel
theorem dL_acts_260 : decode cL_acts 260 = .ok (.invokestatic 64, 3) := by decide +kernel
theorem dL_acts_263 : decode cL_acts 263 = .ok (.iastore, 1) := by decide +kernel
theorem dL_acts_264 : decode cL_acts 264 = .ok (.aload_n 0, 1) := by decide +kernel
theorem dL_acts_265 : decode cL_acts 265 = .ok (.iload 10, 2) := by decide +kernel
theorem dL_acts_267 : decode cL_acts 267 = .ok (.aload 4, 2) := by decide +kernel
theorem dL_acts_269 : decode cL_acts 269 = .ok (.iload 10, 2) := by decide +kernel
theorem dL_acts_271 : decode cL_acts 271 = .ok (.iaload, 1) := by decide +kernel
theorem dL_acts_272 : decode cL_acts 272 = .ok (.invokevirtual 140, 3) := by decide +kernel
theorem dL_acts_275 : decode cL_acts 275 = .ok (.iload 11, 2) := by decide +kernel
theorem dL_acts_277 : decode cL_acts 277 = .ok (.if_icmp .ne 7, 3) := by decide +kernel
theorem dL_acts_280 : decode cL_acts 280 = .ok (.iconst 1, 1) := by decide +kernel
theorem dL_acts_281 : decode cL_acts 281 = .ok (.goto 4, 3) := by decide +kernel
theorem dL_acts_284 : decode cL_acts 284 = .ok (.iconst 0, 1) := by decide +kernel
theorem dL_acts_285 : decode cL_acts 285 = .ok (.ireturn, 1) := by decide +kernel
theorem dL_law_0 : decode cL_law 0 = .ok (.new 24, 3) := by decide +kernel
theorem dL_law_3 : decode cL_law 3 = .ok (.dup, 1) := by decide +kernel
theorem dL_law_4 : decode cL_law 4 = .ok (.invokespecial 143, 3) := by decide +kernel
theorem dL_law_7 : decode cL_law 7 = .ok (.astore_n 1, 1) := by decide +kernel
theorem dL_law_8 : decode cL_law 8 = .ok (.bipush 24, 2) := by decide +kernel
theorem dL_law_10 : decode cL_law 10 = .ok (.newarray .int, 2) := by decide +kernel
theorem dL_law_12 : decode cL_law 12 = .ok (.astore_n 2, 1) := by decide +kernel
theorem dL_law_13 : decode cL_law 13 = .ok (.bipush 24, 2) := by decide +kernel
theorem dL_law_15 : decode cL_law 15 = .ok (.newarray .int, 2) := by decide +kernel
theorem dL_law_17 : decode cL_law 17 = .ok (.astore_n 3, 1) := by decide +kernel
theorem dL_law_18 : decode cL_law 18 = .ok (.bipush 24, 2) := by decide +kernel
theorem dL_law_20 : decode cL_law 20 = .ok (.newarray .int, 2) := by decide +kernel
theorem dL_law_22 : decode cL_law 22 = .ok (.astore 4, 2) := by decide +kernel
theorem dL_law_24 : decode cL_law 24 = .ok (.iconst 5, 1) := by decide +kernel
theorem dL_law_25 : decode cL_law 25 = .ok (.newarray .int, 2) := by decide +kernel
theorem dL_law_27 : decode cL_law 27 = .ok (.astore 5, 2) := by decide +kernel
theorem dL_law_29 : decode cL_law 29 = .ok (.aload 5, 2) := by decide +kernel
theorem dL_law_31 : decode cL_law 31 = .ok (.iconst 0, 1) := by decide +kernel
theorem dL_law_32 : decode cL_law 32 = .ok (.bipush 6, 2) := by decide +kernel
theorem dL_law_34 : decode cL_law 34 = .ok (.iastore, 1) := by decide +kernel
theorem dL_law_35 : decode cL_law 35 = .ok (.aload 5, 2) := by decide +kernel
theorem dL_law_37 : decode cL_law 37 = .ok (.iconst 1, 1) := by decide +kernel
theorem dL_law_38 : decode cL_law 38 = .ok (.iconst 1, 1) := by decide +kernel
theorem dL_law_39 : decode cL_law 39 = .ok (.iastore, 1) := by decide +kernel
theorem dL_law_40 : decode cL_law 40 = .ok (.aload_n 1, 1) := by decide +kernel
theorem dL_law_41 : decode cL_law 41 = .ok (.aload_n 2, 1) := by decide +kernel
theorem dL_law_42 : decode cL_law 42 = .ok (.aload_n 3, 1) := by decide +kernel
theorem dL_law_43 : decode cL_law 43 = .ok (.aload 4, 2) := by decide +kernel
theorem dL_law_45 : decode cL_law 45 = .ok (.aload 5, 2) := by decide +kernel
theorem dL_law_47 : decode cL_law 47 = .ok (.invokestatic 144, 3) := by decide +kernel
theorem dL_law_50 : decode cL_law 50 = .ok (.ifCond .eq 19, 3) := by decide +kernel
theorem dL_law_53 : decode cL_law 53 = .ok (.aload_n 1, 1) := by decide +kernel
theorem dL_law_54 : decode cL_law 54 = .ok (.aload_n 2, 1) := by decide +kernel
theorem dL_law_55 : decode cL_law 55 = .ok (.aload 5, 2) := by decide +kernel
theorem dL_law_57 : decode cL_law 57 = .ok (.bipush 7, 2) := by decide +kernel
theorem dL_law_59 : decode cL_law 59 = .ok (.invokestatic 148, 3) := by decide +kernel
theorem dL_law_62 : decode cL_law 62 = .ok (.ifCond .eq 7, 3) := by decide +kernel
theorem dL_law_65 : decode cL_law 65 = .ok (.iconst 1, 1) := by decide +kernel
theorem dL_law_66 : decode cL_law 66 = .ok (.goto 4, 3) := by decide +kernel
theorem dL_law_69 : decode cL_law 69 = .ok (.iconst 0, 1) := by decide +kernel
theorem dL_law_70 : decode cL_law 70 = .ok (.istore 6, 2) := by decide +kernel
theorem dL_law_72 : decode cL_law 72 = .ok (.iconst 0, 1) := by decide +kernel
theorem dL_law_73 : decode cL_law 73 = .ok (.istore 7, 2) := by decide +kernel
theorem dL_law_75 : decode cL_law 75 = .ok (.iload 7, 2) := by decide +kernel
theorem dL_law_77 : decode cL_law 77 = .ok (.bipush 32, 2) := by decide +kernel
theorem dL_law_79 : decode cL_law 79 = .ok (.if_icmp .ge 92, 3) := by decide +kernel
theorem dL_law_82 : decode cL_law 82 = .ok (.iload 6, 2) := by decide +kernel
theorem dL_law_84 : decode cL_law 84 = .ok (.ifCond .eq 87, 3) := by decide +kernel
theorem dL_law_87 : decode cL_law 87 = .ok (.aload_n 0, 1) := by decide +kernel
theorem dL_law_88 : decode cL_law 88 = .ok (.iload 7, 2) := by decide +kernel
theorem dL_law_90 : decode cL_law 90 = .ok (.invokestatic 152, 3) := by decide +kernel
theorem dL_law_93 : decode cL_law 93 = .ok (.istore 8, 2) := by decide +kernel
theorem dL_law_95 : decode cL_law 95 = .ok (.aload_n 1, 1) := by decide +kernel
theorem dL_law_96 : decode cL_law 96 = .ok (.aload_n 2, 1) := by decide +kernel
theorem dL_law_97 : decode cL_law 97 = .ok (.aload_n 3, 1) := by decide +kernel
theorem dL_law_98 : decode cL_law 98 = .ok (.aload 4, 2) := by decide +kernel
theorem dL_law_100 : decode cL_law 100 = .ok (.aload 5, 2) := by decide +kernel
theorem dL_law_102 : decode cL_law 102 = .ok (.iload 7, 2) := by decide +kernel
theorem dL_law_104 : decode cL_law 104 = .ok (.bipush 12, 2) := by decide +kernel
theorem dL_law_106 : decode cL_law 106 = .ok (.if_icmp .ge 7, 3) := by decide +kernel
theorem dL_law_109 : decode cL_law 109 = .ok (.iconst 0, 1) := by decide +kernel
theorem dL_law_110 : decode cL_law 110 = .ok (.goto 13, 3) := by decide +kernel
theorem dL_law_113 : decode cL_law 113 = .ok (.iload 8, 2) := by decide +kernel
theorem dL_law_115 : decode cL_law 115 = .ok (.bipush 17, 2) := by decide +kernel
theorem dL_law_117 : decode cL_law 117 = .ok (.ishr, 1) := by decide +kernel
theorem dL_law_118 : decode cL_law 118 = .ok (.bipush 12, 2) := by decide +kernel
theorem dL_law_120 : decode cL_law 120 = .ok (.invokestatic 64, 3) := by decide +kernel
theorem dL_law_123 : decode cL_law 123 = .ok (.iload 8, 2) := by decide +kernel
theorem dL_law_125 : decode cL_law 125 = .ok (.invokestatic 155, 3) := by decide +kernel
theorem dL_law_128 : decode cL_law 128 = .ok (.ifCond .eq 34, 3) := by decide +kernel
theorem dL_law_131 : decode cL_law 131 = .ok (.aload_n 1, 1) := by decide +kernel
theorem dL_law_132 : decode cL_law 132 = .ok (.aload_n 2, 1) := by decide +kernel
theorem dL_law_133 : decode cL_law 133 = .ok (.aload_n 3, 1) := by decide +kernel
theorem dL_law_134 : decode cL_law 134 = .ok (.aload 4, 2) := by decide +kernel
theorem dL_law_136 : decode cL_law 136 = .ok (.aload 5, 2) := by decide +kernel
theorem dL_law_138 : decode cL_law 138 = .ok (.invokestatic 144, 3) := by decide +kernel
theorem dL_law_141 : decode cL_law 141 = .ok (.ifCond .eq 21, 3) := by decide +kernel
theorem dL_law_144 : decode cL_law 144 = .ok (.aload_n 1, 1) := by decide +kernel
theorem dL_law_145 : decode cL_law 145 = .ok (.aload_n 2, 1) := by decide +kernel
theorem dL_law_146 : decode cL_law 146 = .ok (.aload 5, 2) := by decide +kernel
theorem dL_law_148 : decode cL_law 148 = .ok (.iload 8, 2) := by decide +kernel
theorem dL_law_150 : decode cL_law 150 = .ok (.iconst 4, 1) := by decide +kernel
theorem dL_law_151 : decode cL_law 151 = .ok (.ishr, 1) := by decide +kernel
theorem dL_law_152 : decode cL_law 152 = .ok (.invokestatic 148, 3) := by decide +kernel
theorem dL_law_155 : decode cL_law 155 = .ok (.ifCond .eq 7, 3) := by decide +kernel
theorem dL_law_158 : decode cL_law 158 = .ok (.iconst 1, 1) := by decide +kernel
theorem dL_law_159 : decode cL_law 159 = .ok (.goto 4, 3) := by decide +kernel
theorem dL_law_162 : decode cL_law 162 = .ok (.iconst 0, 1) := by decide +kernel
theorem dL_law_163 : decode cL_law 163 = .ok (.istore 6, 2) := by decide +kernel
theorem dL_law_165 : decode cL_law 165 = .ok (.iinc 7 1, 3) := by decide +kernel
theorem dL_law_168 : decode cL_law 168 = .ok (.goto (-93), 3) := by decide +kernel
theorem dL_law_171 : decode cL_law 171 = .ok (.iload 6, 2) := by decide +kernel
theorem dL_law_173 : decode cL_law 173 = .ok (.ireturn, 1) := by decide +kernel
abbrev vwCl : List vw_C := [(RX0, TX0, 2), (RX1, TX1, 9), (RX2, TX2, 3), (RX3, TX3, 3), (RX4, TX4, 4), (RX5, TX5, 7), (RX6, TX6, 8)]
end
section
/-! VALUES, THE WORLD, THE WALK. All cells of the run lie in ONE picture: 72 cells by their numbers (OddChoir 0, its choirs 1, 6, 11, the history 16 with choirs 18, 23 .., the text 48, the tree 50, the orders 64, the law's own heights 68, voices 69, numbers 70, counts 71), and a 73rd one (the heights that most() tries) while it is there: xN says how many there are. xM: what they hold. WP: the machine, at this instruction with these locals, stack and world, comes to an end with Q. -/
abbrev xV : Type := Int32 ⊕ ((Option Nat) ⊕ (Int64 ⊕ (UInt64 ⊕ (Nat ⊕ Unit))))
abbrev vI (x : Int32) : xV := Sum.inl x
abbrev vR (r : Option Nat) : xV := Sum.inr (Sum.inl r)
abbrev vL (x : Int64) : xV := Sum.inr (Sum.inr (Sum.inl x))
abbrev vD (x : UInt64) : xV := Sum.inr (Sum.inr (Sum.inr (Sum.inl x)))
abbrev vQ (q : Nat) : xV := Sum.inr (Sum.inr (Sum.inr (Sum.inr (Sum.inl q))))
abbrev vU : xV := Sum.inr (Sum.inr (Sum.inr (Sum.inr (Sum.inr ()))))
abbrev vA (a : Nat) : xV := vR (some a)
abbrev xM : Type := (Nat → Nat → Int32) × ((Nat → Nat → Option Nat) × (Nat → Nat → Int64))
def xrv (ad : Nat → Nat) : Option Nat → Value
  | none => .null
  | some a => .ref (ad a)
def xc (ad : Nat → Nat) : xV → Value
  | .inl x => .int x
  | .inr (.inl r) => xrv ad r
  | .inr (.inr (.inl x)) => .long x
  | .inr (.inr (.inr (.inl x))) => .double x
  | .inr (.inr (.inr (.inr (.inl q)))) => .ref q
  | .inr (.inr (.inr (.inr (.inr _)))) => .null
def xcat : xV → Nat
  | .inl _ => 1
  | .inr (.inl _) => 1
  | .inr (.inr (.inl _)) => 2
  | .inr (.inr (.inr (.inl _))) => 2
  | .inr (.inr (.inr (.inr _))) => 1
def xU : xV → Bool
  | .inr (.inr (.inr (.inr (.inr _)))) => true
  | _ => false
/-- what stays of a value below one that is stored behind it -/
def xn2 : xV → xV
  | .inr (.inr (.inl _)) => vU
  | .inr (.inr (.inr (.inl _))) => vU
  | v => v
theorem xrv_cat (ad : Nat → Nat) (r : Option Nat) : (xrv ad r).category = 1 := by cases r <;> rfl
theorem xc_cat (ad : Nat → Nat) (v : xV) : (xc ad v).category = xcat v := by
  rcases v with x | r | x | x | q | u
  · rfl
  · exact xrv_cat ad r
  · rfl
  · rfl
  · rfl
  · rfl
theorem xn2_of {v w : xV} (h : xn2 v = w) (hu : xU w = false) : v = w ∧ xcat v = 1 := by
  rcases v with x | r | x | x | q | u
  · exact ⟨h, rfl⟩
  · exact ⟨h, rfl⟩
  · subst h; cases hu
  · subst h; cases hu
  · exact ⟨h, rfl⟩
  · subst h; cases hu
/-- the cells: class (0 to 7) or kind of array (8 int, 9 char, 10 long, 11 of choirs, 12 of nodes), and how many fields or places -/
def xkL : List (Nat × Nat) := [(6,8),(1,9),(8,4),(8,24),(8,24),(8,24),(1,9),(8,4),(8,24),(8,24),(8,24),(1,9),(8,4),(8,24),(8,24),(8,24),(3,3),(11,6),(1,9),(8,4),(8,24),(8,24),(8,24),(1,9),(8,4),(8,24),(8,24),(8,24),(1,9),(8,4),(8,24),(8,24),(8,24),(1,9),(8,4),(8,24),(8,24),(8,24),(1,9),(8,4),(8,24),(8,24),(8,24),(1,9),(8,4),(8,24),(8,24),(8,24),(0,2),(9,60),(2,3),(12,12),(4,4),(4,4),(4,4),(4,4),(4,4),(4,4),(4,4),(4,4),(4,4),(4,4),(4,4),(4,4),(5,7),(8,6),(8,6),(8,6),(8,24),(8,24),(8,24),(8,5),(13,24)]
def xk (a : Nat) : Nat × Nat := xkL.getD a (99, 0)
theorem xk_lt {a : Nat} {q : Nat × Nat} (h : xk a = q) (hq : q.1 < 13) : a < 72 := by
  rcases Nat.lt_or_ge a 72 with g | g
  · exact g
  · exfalso
    rcases Nat.eq_or_lt_of_le g with g | g
    · subst g; rw [← h] at hq; exact absurd hq (by decide)
    · rw [← h] at hq; unfold xk at hq; rw [List.getD_eq_getElem?_getD, List.getElem?_eq_none (show xkL.length ≤ a from g)] at hq; exact absurd hq (by decide)
/-- the types of the fields: 0 int or boolean, 1 a reference that never changes, 2 a reference, 3 long -/
def xftL : List (List Nat) := [[1,0],[1,1,1,1,0,0,0,0,0],[1,2,0],[1,0,0],[0,0,2,2],[1,1,1,0,0,0,0],[1,1,1,0,1,1,1,1],[1,1,0,1,0,0,1,1,0,0,1,0,0,0,1,1,1,1,3]]
def xft (ci k : Nat) : Nat := (xftL.getD ci []).getD k 0
def xcr (ci a k : Nat) : Nat := if ci = 6 then [1,6,11,0,16,48,50,64].getD k 0 else if ci = 7 then [69,70,0,71,0,0,72,73,0,0,74,0,0,0,75,76,77,78,0].getD k 0 else a + 1 + k
def xgr (M : xM) (ci a k : Nat) : Option Nat := if xft ci k = 1 then some (xcr ci a k) else M.2.1 a k
def xfv (ad : Nat → Nat) (M : xM) (ci a k : Nat) : Value := if xft ci k = 0 then .int (M.1 a k) else if xft ci k = 3 then .long (M.2.2 a k) else xrv ad (xgr M ci a k)
/-- where the run stands: the classes, the array classes, the cells' addresses, the texts' and their bytes' -/
abbrev xE : Type := va_G × ((Nat → ClassId) × ((Nat → Nat) × ((Nat → Nat) × (Nat → Nat))))
/-- how many cells there are: 73 while the cell that most() makes is there -/
def xN (E : xE) : Nat := if E.2.2.1 99 = 1 then 73 else 72
theorem xN_ge (E : xE) : 72 ≤ xN E := by unfold xN; split <;> omega
theorem xN_le (E : xE) : xN E ≤ 73 := by unfold xN; split <;> omega
theorem xN_of {E : xE} {a : Nat} (h : a < 72) : a < xN E := Nat.lt_of_lt_of_le h (xN_ge E)
def xent (E : xE) (M : xM) (a : Nat) : va_E :=
  if (xk a).1 = 8 then .inl (E.2.1 0, (xk a).2, .inl (M.1 a))
  else if (xk a).1 = 9 then .inl (E.2.1 1, (xk a).2, .inl (M.1 a))
  else if (xk a).1 = 11 then .inl (E.2.1 2, (xk a).2, .inr (.inr (.inr (.inr (fun k => some (E.2.2.1 (18 + 5 * k)))))))
  else if (xk a).1 = 12 then .inl (E.2.1 3, (xk a).2, .inr (.inr (.inr (.inr (fun k => some (E.2.2.1 (52 + k)))))))
  else if (xk a).1 = 13 then .inl (E.2.1 0, (xk a).2, .inl (M.1 a))
  else .inr ((xk a).1, (List.range (xk a).2).map (xfv E.2.2.1 M (xk a).1 a))
abbrev xTy (E : xE) : List (ClassId × FieldType) := [(E.2.1 0, .int), (E.2.1 1, .char), (E.2.1 2, .object RX1), (E.2.1 3, .object RX4)]
def xws (E : xE) (M : xM) : va_W := (List.range (xN E)).map (fun a => (E.2.2.1 a, xent E M a))
def xA (E : xE) : Nat → Prop := fun q => ∃ a, a < xN E ∧ q = E.2.2.1 a
theorem xws_at (E : xE) (M : xM) {a : Nat} (h : a < xN E) : (xws E M)[a]? = some (E.2.2.1 a, xent E M a) := by
  simp [xws, h]
theorem xent_arr {E : xE} {M : xM} {a n : Nat} (h : xk a = (8, n)) : xent E M a = .inl (E.2.1 0, n, .inl (M.1 a)) := by simp [xent, h]
theorem xent_chr {E : xE} {M : xM} {a n : Nat} (h : xk a = (9, n)) : xent E M a = .inl (E.2.1 1, n, .inl (M.1 a)) := by simp [xent, h]
theorem xent_chs {E : xE} {M : xM} {a n : Nat} (h : xk a = (11, n)) : xent E M a = .inl (E.2.1 2, n, .inr (.inr (.inr (.inr (fun k => some (E.2.2.1 (18 + 5 * k))))))) := by simp [xent, h]
theorem xent_nds {E : xE} {M : xM} {a n : Nat} (h : xk a = (12, n)) : xent E M a = .inl (E.2.1 3, n, .inr (.inr (.inr (.inr (fun k => some (E.2.2.1 (52 + k))))))) := by simp [xent, h]
theorem xent_scr {E : xE} {M : xM} {a n : Nat} (h : xk a = (13, n)) : xent E M a = .inl (E.2.1 0, n, .inl (M.1 a)) := by simp [xent, h]
theorem xent_obj {E : xE} {M : xM} {a ci n : Nat} (h : xk a = (ci, n)) (hc : ci < 8) : xent E M a = .inr (ci, (List.range n).map (xfv E.2.2.1 M ci a)) := by
  have h1 : ci ≠ 8 := by omega
  have h2 : ci ≠ 9 := by omega
  have h3 : ci ≠ 13 := by omega
  have h4 : ci ≠ 11 := by omega
  have h5 : ci ≠ 12 := by omega
  simp [xent, h, h1, h2, h3, h4, h5]
theorem xws_obj (E : xE) (M : xM) {a ci n : Nat} (h : xk a = (ci, n)) (hc : ci < 8) : (xws E M)[a]? = some (E.2.2.1 a, .inr (ci, (List.range n).map (xfv E.2.2.1 M ci a))) := by
  rw [xws_at E M (xN_of (xk_lt h (by show ci < 13; omega))), xent_obj h hc]
theorem xws_arr (E : xE) (M : xM) {a n : Nat} (h : xk a = (8, n)) : (xws E M)[a]? = some (E.2.2.1 a, .inl (E.2.1 0, n, .inl (M.1 a))) := by
  rw [xws_at E M (xN_of (xk_lt h (show (8 : Nat) < 13 by decide))), xent_arr h]
theorem xws_chr (E : xE) (M : xM) {a n : Nat} (h : xk a = (9, n)) : (xws E M)[a]? = some (E.2.2.1 a, .inl (E.2.1 1, n, .inl (M.1 a))) := by
  rw [xws_at E M (xN_of (xk_lt h (show (9 : Nat) < 13 by decide))), xent_chr h]
theorem xws_chs (E : xE) (M : xM) {a n : Nat} (h : xk a = (11, n)) : (xws E M)[a]? = some (E.2.2.1 a, .inl (E.2.1 2, n, .inr (.inr (.inr (.inr (fun k => some (E.2.2.1 (18 + 5 * k)))))))) := by
  rw [xws_at E M (xN_of (xk_lt h (show (11 : Nat) < 13 by decide))), xent_chs h]
theorem xws_nds (E : xE) (M : xM) {a n : Nat} (h : xk a = (12, n)) : (xws E M)[a]? = some (E.2.2.1 a, .inl (E.2.1 3, n, .inr (.inr (.inr (.inr (fun k => some (E.2.2.1 (52 + k)))))))) := by
  rw [xws_at E M (xN_of (xk_lt h (show (12 : Nat) < 13 by decide))), xent_nds h]
/-- writes -/
def upI (M : xM) (a k : Nat) (x : Int32) : xM := (fun b j => if b = a ∧ j = k then x else M.1 b j, M.2)
def upR (M : xM) (a k : Nat) (r : Option Nat) : xM := (M.1, (fun b j => if b = a ∧ j = k then r else M.2.1 b j, M.2.2))
def upL (M : xM) (a k : Nat) (x : Int64) : xM := (M.1, (M.2.1, fun b j => if b = a ∧ j = k then x else M.2.2 b j))
theorem upI_row {M : xM} {a k : Nat} {x : Int32} {b : Nat} (h : b ≠ a) : (upI M a k x).1 b = M.1 b := by
  funext j; show (if b = a ∧ j = k then x else M.1 b j) = M.1 b j; rw [if_neg (fun z => h z.1)]
theorem upI_self {M : xM} {a k : Nat} {x : Int32} : (upI M a k x).1 a = upd (M.1 a) k x := by
  funext j; show (if a = a ∧ j = k then x else M.1 a j) = upd (M.1 a) k x j
  unfold upd
  by_cases h : j = k
  · rw [if_pos ⟨rfl, h⟩, if_pos h]
  · rw [if_neg (fun z => h z.2), if_neg h]
theorem upR_row {M : xM} {a k : Nat} {x : Option Nat} {b : Nat} (h : b ≠ a) : (upR M a k x).2.1 b = M.2.1 b := by
  funext j; show (if b = a ∧ j = k then x else M.2.1 b j) = M.2.1 b j; rw [if_neg (fun z => h z.1)]
theorem upL_row {M : xM} {a k : Nat} {x : Int64} {b : Nat} (h : b ≠ a) : (upL M a k x).2.2 b = M.2.2 b := by
  funext j; show (if b = a ∧ j = k then x else M.2.2 b j) = M.2.2 b j; rw [if_neg (fun z => h z.1)]
theorem upL_self {M : xM} {a k : Nat} {x : Int64} : (upL M a k x).2.2 a = fun j => if j = k then x else M.2.2 a j := by
  funext j; show (if a = a ∧ j = k then x else M.2.2 a j) = _
  by_cases h : j = k
  · rw [if_pos ⟨rfl, h⟩, if_pos h]
  · rw [if_neg (fun z => h z.2), if_neg h]
/-- a cell of the world's list is changed -/
theorem xws_set {E : xE} {M M' : xM} {a : Nat} {e : va_E} (ha : a < xN E) (he : xent E M' a = e) (ho : ∀ b, b ≠ a → xent E M' b = xent E M b) : (xws E M).set a (E.2.2.1 a, e) = xws E M' := by
  apply List.ext_getElem?
  intro i
  rw [List.getElem?_set]
  by_cases hi : a = i
  · subst hi
    rw [if_pos rfl, if_pos (by simp [xws, ha]), xws_at E M' ha, he]
  · rw [if_neg hi]
    unfold xws
    rw [List.getElem?_map, List.getElem?_map]
    cases hr : (List.range (xN E))[i]? with
    | none => rfl
    | some j =>
      have hj : j = i := by
        have := List.getElem?_eq_some_iff.mp hr
        obtain ⟨h1, h2⟩ := this
        rw [← h2]; simp
      subst hj
      simp only [Option.map_some]
      rw [ho j (fun z => hi z.symm)]
theorem xent_of {E : xE} {M M' : xM} {b : Nat} (h1 : M'.1 b = M.1 b) (h2 : M'.2.1 b = M.2.1 b) (h3 : M'.2.2 b = M.2.2 b) : xent E M' b = xent E M b := by
  unfold xent
  rw [h1]
  have : ∀ k, xfv E.2.2.1 M' (xk b).1 b k = xfv E.2.2.1 M (xk b).1 b k := fun k => by unfold xfv xgr; rw [h1, h2, h3]
  rw [show xfv E.2.2.1 M' (xk b).1 b = xfv E.2.2.1 M (xk b).1 b from funext this]
theorem xws_putI {E : xE} {M : xM} {a ci n k : Nat} {x : Int32} (h : xk a = (ci, n)) (hc : ci < 8) (hf : xft ci k = 0) (hk : k < n) :
    (xws E M).set a (E.2.2.1 a, .inr (ci, ((List.range n).map (xfv E.2.2.1 M ci a)).set k (.int x))) = xws E (upI M a k x) := by
  refine xws_set (xN_of (xk_lt h (by show ci < 13; omega))) ?_ (fun b hb => xent_of (upI_row hb) rfl rfl)
  rw [xent_obj h hc]
  congr 2
  apply List.ext_getElem?
  intro i
  rw [List.getElem?_set]
  by_cases hi : k = i
  · subst hi
    rw [if_pos rfl, if_pos (by simpa using hk)]
    simp [hk, xfv, hf, upI]
  · rw [if_neg hi, List.getElem?_map, List.getElem?_map]
    cases hr : (List.range n)[i]? with
    | none => rfl
    | some j =>
      obtain ⟨h1, h2⟩ := List.getElem?_eq_some_iff.mp hr
      have hj : j = i := by rw [← h2]; simp
      subst hj
      simp only [Option.map_some]
      have hjk : j ≠ k := fun z => hi z.symm
      simp [xfv, xgr, upI, hjk]
theorem xws_putR {E : xE} {M : xM} {a ci n k : Nat} {x : Option Nat} (h : xk a = (ci, n)) (hc : ci < 8) (hf : xft ci k = 2) (hk : k < n) :
    (xws E M).set a (E.2.2.1 a, .inr (ci, ((List.range n).map (xfv E.2.2.1 M ci a)).set k (xrv E.2.2.1 x))) = xws E (upR M a k x) := by
  refine xws_set (xN_of (xk_lt h (by show ci < 13; omega))) ?_ (fun b hb => xent_of rfl (upR_row hb) rfl)
  rw [xent_obj h hc]
  congr 2
  apply List.ext_getElem?
  intro i
  rw [List.getElem?_set]
  by_cases hi : k = i
  · subst hi
    rw [if_pos rfl, if_pos (by simpa using hk)]
    simp [hk, xfv, xgr, hf, upR]
  · rw [if_neg hi, List.getElem?_map, List.getElem?_map]
    cases hr : (List.range n)[i]? with
    | none => rfl
    | some j =>
      obtain ⟨h1, h2⟩ := List.getElem?_eq_some_iff.mp hr
      have hj : j = i := by rw [← h2]; simp
      subst hj
      simp only [Option.map_some]
      have hjk : j ≠ k := fun z => hi z.symm
      simp [xfv, xgr, upR, hjk]
theorem xws_putL {E : xE} {M : xM} {a ci n k : Nat} {x : Int64} (h : xk a = (ci, n)) (hc : ci < 8) (hf : xft ci k = 3) (hk : k < n) :
    (xws E M).set a (E.2.2.1 a, .inr (ci, ((List.range n).map (xfv E.2.2.1 M ci a)).set k (.long x))) = xws E (upL M a k x) := by
  refine xws_set (xN_of (xk_lt h (by show ci < 13; omega))) ?_ (fun b hb => xent_of rfl rfl (upL_row hb))
  rw [xent_obj h hc]
  congr 2
  apply List.ext_getElem?
  intro i
  rw [List.getElem?_set]
  by_cases hi : k = i
  · subst hi
    rw [if_pos rfl, if_pos (by simpa using hk)]
    simp [hk, xfv, hf, upL]
  · rw [if_neg hi, List.getElem?_map, List.getElem?_map]
    cases hr : (List.range n)[i]? with
    | none => rfl
    | some j =>
      obtain ⟨h1, h2⟩ := List.getElem?_eq_some_iff.mp hr
      have hj : j = i := by rw [← h2]; simp
      subst hj
      simp only [Option.map_some]
      have hjk : j ≠ k := fun z => hi z.symm
      simp [xfv, xgr, upL, hjk]
theorem xws_sti {E : xE} {M : xM} {a n k : Nat} {x : Int32} (h : xk a = (8, n)) : (xws E M).set a (E.2.2.1 a, .inl (E.2.1 0, n, .inl (upd (M.1 a) k x))) = xws E (upI M a k x) :=
  xws_set (xN_of (xk_lt h (show (8 : Nat) < 13 by decide))) (by rw [xent_arr h, upI_self]) (fun b hb => xent_of (upI_row hb) rfl rfl)
theorem xws_stc {E : xE} {M : xM} {a n k : Nat} {x : Int32} (h : xk a = (9, n)) : (xws E M).set a (E.2.2.1 a, .inl (E.2.1 1, n, .inl (upd (M.1 a) k x))) = xws E (upI M a k x) :=
  xws_set (xN_of (xk_lt h (show (9 : Nat) < 13 by decide))) (by rw [xent_chr h, upI_self]) (fun b hb => xent_of (upI_row hb) rfl rfl)
/-- the cell that most() makes is an array like h -/
def isH (E : xE) (a : Nat) : Prop := xk a = (8, 24) ∨ (a = 72 ∧ xN E = 73)
theorem xws_h {E : xE} (M : xM) {a : Nat} (h : isH E a) : (xws E M)[a]? = some (E.2.2.1 a, .inl (E.2.1 0, 24, .inl (M.1 a))) := by
  rcases h with h | ⟨rfl, h⟩
  · exact xws_arr E M h
  · rw [xws_at E M (by omega), xent_scr (n := 24) rfl]
theorem xws_sth {E : xE} {M : xM} {a k : Nat} {x : Int32} (h : isH E a) : (xws E M).set a (E.2.2.1 a, .inl (E.2.1 0, 24, .inl (upd (M.1 a) k x))) = xws E (upI M a k x) := by
  rcases h with h | ⟨rfl, h⟩
  · exact xws_sti h
  · exact xws_set (by omega) (by rw [xent_scr (n := 24) rfl, upI_self]) (fun b hb => xent_of (upI_row hb) rfl rfl)
/-- the words that all methods may use -/
def LW : List Cond := lw_tbl.filter goodWord
theorem LW_good {w : Cond} (h : w ∈ LW) : goodWord w = true := (List.mem_filter.mp h).2
theorem LW_in {w : Cond} (h : w ∈ LW) : w ∈ lw_tbl := (List.mem_filter.mp h).1
theorem LW_of {w : Cond} (i : Nat) (h : lw_tbl[i]? = some w) (hg : goodWord w = true) : w ∈ LW := List.mem_filter.mpr ⟨List.mem_of_getElem? h, hg⟩
def xnw : Cond → Bool
  | .fieldLinkNest _ _ _ _ _ _ => true
  | .methodLinkNest _ _ _ _ => true
  | .declares _ => true
  | .castable _ _ => true
  | _ => false
/-- the words on nest mates -/
def NW : List Cond := lw_tbl.filter xnw
theorem NW_of {w : Cond} (i : Nat) (h : lw_tbl[i]? = some w) (hg : xnw w = true) : w ∈ NW := List.mem_filter.mpr ⟨List.mem_of_getElem? h, hg⟩
/-- locals -/
def xLs (ad : Nat → Nat) (nL : Nat) (ls : List xV) (lr : Array Slot) : Prop := lr.size = nL ∧ lv_wf lr ∧ ∀ (i : Nat) (v : xV), ls[i]? = some v → xU v = false → lr[i]? = some (.val (xc ad v))
def xll (ad : Nat → Nat) (nL : Nat) (ls : List xV) : List (Nat × Value) := (List.range nL).filterMap (fun i => match ls[i]? with
  | some v => if xU v = true then none else some (i, xc ad v)
  | none => none)
theorem xll_mem {ad : Nat → Nat} {nL : Nat} {ls : List xV} {q : Nat × Value} : q ∈ xll ad nL ls ↔ q.1 < nL ∧ ∃ v, ls[q.1]? = some v ∧ xU v = false ∧ q.2 = xc ad v := by
  unfold xll
  rw [List.mem_filterMap]
  constructor
  · rintro ⟨i, hi, he⟩
    rw [List.mem_range] at hi
    cases hv : ls[i]? with
    | none => rw [hv] at he; cases he
    | some v =>
      rw [hv] at he
      cases hu : xU v with
      | true => simp [hu] at he
      | false =>
        simp only [hu, Bool.false_eq_true, if_false, Option.some.injEq] at he
        subst he
        exact ⟨hi, v, hv, hu, rfl⟩
  · rintro ⟨hi, v, hv, hu, he⟩
    refine ⟨q.1, List.mem_range.mpr hi, ?_⟩
    rw [hv]
    simp only [hu, Bool.false_eq_true, if_false, ← he]
theorem xLs.has {ad : Nat → Nat} {nL : Nat} {ls : List xV} {lr : Array Slot} (h : xLs ad nL ls lr) : lv_has lr nL (xll ad nL ls) := by
  refine ⟨h.1, h.2.1, fun q hq => ?_⟩
  obtain ⟨-, v, h1, h2, h3⟩ := xll_mem.mp hq
  rw [h3]
  exact h.2.2 _ _ h1 h2
/-- a store -/
def stl (ls : List xV) : Nat → xV → List xV
  | 0, v => ls.set 0 v
  | j + 1, v => (ls.set j (xn2 (ls.getD j vU))).set (j + 1) v
def stl2 (ls : List xV) (i : Nat) (v : xV) : List xV := (stl ls i v).set (i + 1) vU
theorem stl_at {ls : List xV} {i j : Nat} {v w : xV} (h : (stl ls i v)[j]? = some w) (hw : xU w = false) : (j = i ∧ w = v) ∨ (j ≠ i ∧ ls[j]? = some w ∧ (j + 1 = i → xcat w = 1)) := by
  cases i with
  | zero =>
    unfold stl at h
    rw [List.getElem?_set] at h
    by_cases hj : 0 = j
    · rw [if_pos hj] at h
      split at h
      · exact Or.inl ⟨hj.symm, (Option.some.inj h).symm⟩
      · cases h
    · rw [if_neg hj] at h
      exact Or.inr ⟨fun z => hj z.symm, h, fun z => by omega⟩
  | succ i =>
    unfold stl at h
    rw [List.getElem?_set] at h
    by_cases hj : i + 1 = j
    · rw [if_pos hj] at h
      split at h
      · exact Or.inl ⟨hj.symm, (Option.some.inj h).symm⟩
      · cases h
    · rw [if_neg hj, List.getElem?_set] at h
      by_cases hk : i = j
      · subst hk
        rw [if_pos rfl] at h
        split at h
        · rename_i hl
          obtain ⟨e, c⟩ := xn2_of (Option.some.inj h) hw
          have he : ls[i]? = some (ls.getD i vU) := by simp [List.getElem?_eq_getElem hl]
          rw [e] at he c
          exact Or.inr ⟨fun z => hj z.symm, he, fun _ => c⟩
        · cases h
      · rw [if_neg hk] at h
        exact Or.inr ⟨fun z => hj z.symm, h, fun z => by omega⟩
theorem xLs.st {ad : Nat → Nat} {nL : Nat} {ls : List xV} {lr' : Array Slot} {i : Nat} {v : xV} (hi : i < nL) (h2 : lv_has lr' nL ((i, xc ad v) :: (xll ad nL ls).filter (fun q => !(q.1 == i) && !(q.1 + 1 == i && q.2.category == 2)))) (hlen : ls.length ≤ nL) : xLs ad nL (stl ls i v) lr' := by
  refine ⟨h2.1, h2.2.1, fun j w hj hw => ?_⟩
  rcases stl_at hj hw with ⟨rfl, rfl⟩ | ⟨h3, h4, h5⟩
  · exact h2.2.2 _ List.mem_cons_self
  · have hjl : j < ls.length := (List.getElem?_eq_some_iff.mp h4).1
    refine h2.2.2 (j, xc ad w) (List.mem_cons_of_mem _ (List.mem_filter.mpr ⟨xll_mem.mpr ⟨by show j < nL; omega, w, h4, hw, rfl⟩, ?_⟩))
    have e1 : (j == i) = false := by simpa using h3
    have e2 : (j + 1 == i && (xc ad w).category == 2) = false := by
      by_cases z : j + 1 = i
      · rw [xc_cat, h5 z]; simp
      · simp [z]
    simp only [e1, e2, Bool.not_false, Bool.and_self]
theorem xLs.st2 {ad : Nat → Nat} {nL : Nat} {ls : List xV} {lr' : Array Slot} {i : Nat} {v : xV} (hi : i + 1 < nL) (h2 : lv_has lr' nL ((i, xc ad v) :: (xll ad nL ls).filter (fun q => !(q.1 == i) && (!(q.1 == i + 1) && !(q.1 + 1 == i && q.2.category == 2))))) (hlen : ls.length ≤ nL) : xLs ad nL (stl2 ls i v) lr' := by
  refine ⟨h2.1, h2.2.1, fun j w hj hw => ?_⟩
  unfold stl2 at hj
  rw [List.getElem?_set] at hj
  by_cases hji : i + 1 = j
  · rw [if_pos hji] at hj
    split at hj
    · cases hj; cases hw
    · cases hj
  rw [if_neg hji] at hj
  rcases stl_at hj hw with ⟨rfl, rfl⟩ | ⟨h3, h4, h5⟩
  · exact h2.2.2 _ List.mem_cons_self
  · have hjl : j < ls.length := (List.getElem?_eq_some_iff.mp h4).1
    refine h2.2.2 (j, xc ad w) (List.mem_cons_of_mem _ (List.mem_filter.mpr ⟨xll_mem.mpr ⟨by show j < nL; omega, w, h4, hw, rfl⟩, ?_⟩))
    have e1 : (j == i) = false := by simpa using h3
    have e3 : (j == i + 1) = false := by simpa using fun z => hji (Eq.symm z)
    have e2 : (j + 1 == i && (xc ad w).category == 2) = false := by
      by_cases z : j + 1 = i
      · rw [xc_cat, h5 z]; simp
      · simp [z]
    simp only [e1, e2, e3, Bool.not_false, Bool.and_self]
theorem stl_len (ls : List xV) (i : Nat) (v : xV) : (stl ls i v).length = ls.length := by cases i <;> simp [stl]
theorem stl2_len (ls : List xV) (i : Nat) (v : xV) : (stl2 ls i v).length = ls.length := by simp [stl2, stl_len]
/-- fewer locals known -/
theorem xLs.le {ad : Nat → Nat} {nL : Nat} {ls ls' : List xV} {lr : Array Slot} (h : xLs ad nL ls lr) (hl : ∀ (i : Nat) (v : xV), ls'[i]? = some v → xU v = false → ls[i]? = some v) : xLs ad nL ls' lr :=
  ⟨h.1, h.2.1, fun i v hv hu => h.2.2 i v (hl i v hv hu) hu⟩
/-- the texts: their lengths, their signs, and where they stand: class, entry, text, number -/
def xsLen : List Nat := [4]
def xsByt : List (List Int32) := [[98, 116, 97, 115]]
def xsR : List (String × Nat × String × Nat) := [(RX1, 145, "btas", 0)]
def xStr (E : xE) (U : State) : Prop := vk_S 1 xsLen xsByt E.2.2.2.1 E.2.2.2.2 (xA E) U U.heap ∧ (∀ q ∈ xsR, vk_R q.1 q.2.1 q.2.2.1 (E.2.2.2.1 q.2.2.2) U) ∧ va_Z "java/lang/String" "COMPACT_STRINGS" "Z" (.int 1) (xA E) U U.heap ∧ va_Zq "jdk/internal/util/Preconditions" "SIOOBE_FORMATTER" "Ljava/util/function/BiFunction;" (xA E) U U.heap
/-- what is known of the machine in the state U -/
def xKn (E : xE) (U : State) : Prop := va_K E.1 vwCl (xTy E) U ∧ (∀ w ∈ NW, va_Nw w U) ∧ (∀ i j, i < xN E → j < xN E → E.2.2.1 i = E.2.2.1 j → i = j) ∧ vx_Zq Bundle.tN "UNASSIGNED_STACK" Bundle.steD (xA E) U U.heap ∧ vx_Zq Bundle.tN "SUPPRESSED_SENTINEL" Bundle.listD (xA E) U U.heap ∧ xStr E U
abbrev xY : Type := Program × (Env × (State × (MethodId × (Array Value × (List Frame × (Method × (Code × (State → Prop))))))))
abbrev yp (Y : xY) := Y.1
abbrev ye (Y : xY) := Y.2.1
abbrev ys (Y : xY) := Y.2.2.1
abbrev ym (Y : xY) := Y.2.2.2.1
abbrev ya (Y : xY) := Y.2.2.2.2.1
abbrev yb (Y : xY) := Y.2.2.2.2.2.1
abbrev yM (Y : xY) := Y.2.2.2.2.2.2.1
abbrev yc (Y : xY) := Y.2.2.2.2.2.2.2.1
abbrev yQ (Y : xY) := Y.2.2.2.2.2.2.2.2
/-- a walk: from here the machine comes to an end with yQ Y; k cells with n slots are made so far -/
def WP (l : Launch) (E : xE) (R : Room) (A : Nat → Prop) (Y : xY) (k n pc : Nat) (ls st : List xV) (M : xM) : Prop :=
  ∀ (H : Heap) (locs : List Loc) (lr : Array Slot), va_P E.1 vwCl (xws E M) H → va_S A (ys Y).heap H locs → xLs E.2.2.1 (yc Y).maxLocals ls lr → ls.length ≤ (yc Y).maxLocals →
    W (yp Y) l (ye Y) R (ys Y) (ym Y) (ya Y) (yb Y) (yM Y) (yc Y) H locs k n (yQ Y) (F0 (ym Y) pc lr (st.map (xc E.2.2.1)))
/-- what holds of the method that is walked -/
def xFix (E : xE) (A : Nat → Prop) (Y : xY) (cc : ByteArray) (own : String) (nL : Nat) : Prop :=
  (yp Y).tables.exec = Jvm.exec ∧ (yc Y).code = cc ∧ (yc Y).maxLocals = nL ∧ (ys Y).vm.findClass own = some (ym Y).cls ∧ (∀ w ∈ LW, w.before (ya Y) (ys Y) = true) ∧ xKn E (ys Y) ∧ (∀ a, a < xN E → A (E.2.2.1 a)) ∧ (∀ q, q < (ys Y).heap.size → A q → xA E q) ∧ (yM Y).locks = false
theorem xD {E : xE} {A : Nat → Prop} {Y : xY} {cc : ByteArray} {own : String} {nL : Nat} (F : xFix E A Y cc own nL) (M : xM) : va_D A (xws E M) := by
  obtain ⟨-, -, -, -, -, hk, hA, -, -⟩ := F
  refine ⟨fun i j p q hi hj e => ?_, fun i q hi => ?_⟩
  · have h1 : i < xN E := by have := (List.getElem?_eq_some_iff.mp hi).1; simpa [xws] using this
    have h2 : j < xN E := by have := (List.getElem?_eq_some_iff.mp hj).1; simpa [xws] using this
    rw [xws_at E M h1] at hi
    rw [xws_at E M h2] at hj
    cases hi; cases hj
    exact hk.2.2.1 i j h1 h2 e
  · have h1 : i < xN E := by have := (List.getElem?_eq_some_iff.mp hi).1; simpa [xws] using this
    rw [xws_at E M h1] at hi
    cases hi
    exact hA i h1
section XR
variable {l : Launch} {E : xE} {R : Room} {A : Nat → Prop} {Y : xY} {cc : ByteArray} {own : String} {nL : Nat} {k n pc : Nat} {ls st : List xV} {M : xM}
theorem x_iadd (F : xFix E A Y cc own nL) {x y : Int32} (d : decode cc pc = .ok (.iadd, 1)) (g : WP l E R A Y k n (pc + 1) ls (vI (x + y) :: st) M) : WP l E R A Y k n pc ls (vI y :: vI x :: st) M := fun H locs lr hP hS hl hn => lv_iadd F.1 F.2.1 d (g H locs lr hP hS hl hn)
theorem x_isub (F : xFix E A Y cc own nL) {x y : Int32} (d : decode cc pc = .ok (.isub, 1)) (g : WP l E R A Y k n (pc + 1) ls (vI (x - y) :: st) M) : WP l E R A Y k n pc ls (vI y :: vI x :: st) M := fun H locs lr hP hS hl hn => lv_isub F.1 F.2.1 d (g H locs lr hP hS hl hn)
theorem x_imul (F : xFix E A Y cc own nL) {x y : Int32} (d : decode cc pc = .ok (.imul, 1)) (g : WP l E R A Y k n (pc + 1) ls (vI (x * y) :: st) M) : WP l E R A Y k n pc ls (vI y :: vI x :: st) M := fun H locs lr hP hS hl hn => lv_imul F.1 F.2.1 d (g H locs lr hP hS hl hn)
theorem x_iand (F : xFix E A Y cc own nL) {x y : Int32} (d : decode cc pc = .ok (.iand, 1)) (g : WP l E R A Y k n (pc + 1) ls (vI (x &&& y) :: st) M) : WP l E R A Y k n pc ls (vI y :: vI x :: st) M := fun H locs lr hP hS hl hn => lv_iand F.1 F.2.1 d (g H locs lr hP hS hl hn)
theorem x_ior (F : xFix E A Y cc own nL) {x y : Int32} (d : decode cc pc = .ok (.ior, 1)) (g : WP l E R A Y k n (pc + 1) ls (vI (x ||| y) :: st) M) : WP l E R A Y k n pc ls (vI y :: vI x :: st) M := fun H locs lr hP hS hl hn => lv_ior F.1 F.2.1 d (g H locs lr hP hS hl hn)
theorem x_ixor (F : xFix E A Y cc own nL) {x y : Int32} (d : decode cc pc = .ok (.ixor, 1)) (g : WP l E R A Y k n (pc + 1) ls (vI (x ^^^ y) :: st) M) : WP l E R A Y k n pc ls (vI y :: vI x :: st) M := fun H locs lr hP hS hl hn => lv_ixor F.1 F.2.1 d (g H locs lr hP hS hl hn)
theorem x_idiv (F : xFix E A Y cc own nL) {x y : Int32} (d : decode cc pc = .ok (.idiv, 1)) (hne : ¬ y = 0) (g : WP l E R A Y k n (pc + 1) ls (vI (x / y) :: st) M) : WP l E R A Y k n pc ls (vI y :: vI x :: st) M := fun H locs lr hP hS hl hn => lv_idiv F.1 F.2.1 d hne (g H locs lr hP hS hl hn)
theorem x_irem (F : xFix E A Y cc own nL) {x y : Int32} (d : decode cc pc = .ok (.irem, 1)) (hne : ¬ y = 0) (g : WP l E R A Y k n (pc + 1) ls (vI (x - x / y * y) :: st) M) : WP l E R A Y k n pc ls (vI y :: vI x :: st) M := fun H locs lr hP hS hl hn => lv_irem F.1 F.2.1 d hne (g H locs lr hP hS hl hn)
theorem x_ineg (F : xFix E A Y cc own nL) {x : Int32} (d : decode cc pc = .ok (.ineg, 1)) (g : WP l E R A Y k n (pc + 1) ls (vI (-x) :: st) M) : WP l E R A Y k n pc ls (vI x :: st) M := fun H locs lr hP hS hl hn => lv_ineg F.1 F.2.1 d (g H locs lr hP hS hl hn)
theorem x_ladd (F : xFix E A Y cc own nL) {x y : Int64} (d : decode cc pc = .ok (.ladd, 1)) (g : WP l E R A Y k n (pc + 1) ls (vL (x + y) :: st) M) : WP l E R A Y k n pc ls (vL y :: vL x :: st) M := fun H locs lr hP hS hl hn => lv_ladd F.1 F.2.1 d (g H locs lr hP hS hl hn)
theorem x_lsub (F : xFix E A Y cc own nL) {x y : Int64} (d : decode cc pc = .ok (.lsub, 1)) (g : WP l E R A Y k n (pc + 1) ls (vL (x - y) :: st) M) : WP l E R A Y k n pc ls (vL y :: vL x :: st) M := fun H locs lr hP hS hl hn => lv_lsub F.1 F.2.1 d (g H locs lr hP hS hl hn)
theorem x_lmul (F : xFix E A Y cc own nL) {x y : Int64} (d : decode cc pc = .ok (.lmul, 1)) (g : WP l E R A Y k n (pc + 1) ls (vL (x * y) :: st) M) : WP l E R A Y k n pc ls (vL y :: vL x :: st) M := fun H locs lr hP hS hl hn => lv_lmul F.1 F.2.1 d (g H locs lr hP hS hl hn)
theorem x_iconst (F : xFix E A Y cc own nL) {i : Int} {v : Int32} (d : decode cc pc = .ok (.iconst i, 1)) (hv : Int32.ofInt i = v) (g : WP l E R A Y k n (pc + 1) ls (vI v :: st) M) : WP l E R A Y k n pc ls (st) M := fun H locs lr hP hS hl hn => lv_iconst F.1 F.2.1 d hv (g H locs lr hP hS hl hn)
theorem x_bipush (F : xFix E A Y cc own nL) {i : Int} {v : Int32} (d : decode cc pc = .ok (.bipush i, 2)) (hv : (Int8.ofInt i).toInt32 = v) (g : WP l E R A Y k n (pc + 2) ls (vI v :: st) M) : WP l E R A Y k n pc ls (st) M := fun H locs lr hP hS hl hn => lv_bipush F.1 F.2.1 d hv (g H locs lr hP hS hl hn)
theorem x_sipush (F : xFix E A Y cc own nL) {i : Int} {v : Int32} (d : decode cc pc = .ok (.sipush i, 3)) (hv : (Int16.ofInt i).toInt32 = v) (g : WP l E R A Y k n (pc + 3) ls (vI v :: st) M) : WP l E R A Y k n pc ls (st) M := fun H locs lr hP hS hl hn => lv_sipush F.1 F.2.1 d hv (g H locs lr hP hS hl hn)
theorem x_lconst (F : xFix E A Y cc own nL) {i : Fin 2} {v : Int64} (d : decode cc pc = .ok (.lconst i, 1)) (hv : Int64.ofNat (i : Nat) = v) (g : WP l E R A Y k n (pc + 1) ls (vL v :: st) M) : WP l E R A Y k n pc ls (st) M := fun H locs lr hP hS hl hn => lv_lconst F.1 F.2.1 d hv (g H locs lr hP hS hl hn)
theorem x_i2l (F : xFix E A Y cc own nL) {x : Int32} (d : decode cc pc = .ok (.i2l, 1)) (g : WP l E R A Y k n (pc + 1) ls (vL x.toInt64 :: st) M) : WP l E R A Y k n pc ls (vI x :: st) M := fun H locs lr hP hS hl hn => lv_i2l F.1 F.2.1 d rfl (g H locs lr hP hS hl hn)
theorem x_i2c (F : xFix E A Y cc own nL) {x : Int32} (d : decode cc pc = .ok (.i2c, 1)) (g : WP l E R A Y k n (pc + 1) ls (vI ((x.toUInt32 % 65536).toInt32) :: st) M) : WP l E R A Y k n pc ls (vI x :: st) M := fun H locs lr hP hS hl hn => lv_i2c F.1 F.2.1 d rfl (g H locs lr hP hS hl hn)
theorem x_null (F : xFix E A Y cc own nL) (d : decode cc pc = .ok (.aconst_null, 1)) (g : WP l E R A Y k n (pc + 1) ls (vR none :: st) M) : WP l E R A Y k n pc ls (st) M := fun H locs lr hP hS hl hn => lv_null F.1 F.2.1 d (g H locs lr hP hS hl hn)
theorem x_pop (F : xFix E A Y cc own nL) {v : xV} (d : decode cc pc = .ok (.pop, 1)) (hc : xcat v = 1) (g : WP l E R A Y k n (pc + 1) ls (st) M) : WP l E R A Y k n pc ls (v :: st) M := fun H locs lr hP hS hl hn => lv_pop F.1 F.2.1 d (by rw [xc_cat]; exact hc) (g H locs lr hP hS hl hn)
theorem x_dup (F : xFix E A Y cc own nL) {v : xV} (d : decode cc pc = .ok (.dup, 1)) (hc : xcat v = 1) (g : WP l E R A Y k n (pc + 1) ls (v :: v :: st) M) : WP l E R A Y k n pc ls (v :: st) M := fun H locs lr hP hS hl hn => lv_dup F.1 F.2.1 d (by rw [xc_cat]; exact hc) (g H locs lr hP hS hl hn)
theorem x_dup_x1 (F : xFix E A Y cc own nL) {v u : xV} (d : decode cc pc = .ok (.dup_x1, 1)) (hc : xcat v = 1) (hu : xcat u = 1) (g : WP l E R A Y k n (pc + 1) ls (v :: u :: v :: st) M) : WP l E R A Y k n pc ls (v :: u :: st) M := fun H locs lr hP hS hl hn => lv_dup_x1 F.1 F.2.1 d (by rw [xc_cat]; exact hc) (by rw [xc_cat]; exact hu) (g H locs lr hP hS hl hn)
theorem x_dup2 (F : xFix E A Y cc own nL) {v u : xV} (d : decode cc pc = .ok (.dup2, 1)) (hc : xcat v = 1) (hu : xcat u = 1) (g : WP l E R A Y k n (pc + 1) ls (v :: u :: v :: u :: st) M) : WP l E R A Y k n pc ls (v :: u :: st) M := fun H locs lr hP hS hl hn => lv_dup2_11 F.1 F.2.1 d (by rw [xc_cat]; exact hc) (by rw [xc_cat]; exact hu) (g H locs lr hP hS hl hn)
theorem x_iload_n (F : xFix E A Y cc own nL) {i : Fin 4} {x : Int32} (d : decode cc pc = .ok (.iload_n i, 1)) (hv : ls[(i : Nat)]? = some (vI x)) (g : WP l E R A Y k n (pc + 1) ls (vI x :: st) M) : WP l E R A Y k n pc ls st M := fun H locs lr hP hS hl hn => lv_iload_n F.1 F.2.1 d rfl (hl.2.2 _ _ hv rfl) (g H locs lr hP hS hl hn)
theorem x_iload (F : xFix E A Y cc own nL) {i : Nat} {x : Int32} (d : decode cc pc = .ok (.iload i, 2)) (hv : ls[i]? = some (vI x)) (g : WP l E R A Y k n (pc + 2) ls (vI x :: st) M) : WP l E R A Y k n pc ls st M := fun H locs lr hP hS hl hn => lv_iload F.1 F.2.1 d (hl.2.2 _ _ hv rfl) (g H locs lr hP hS hl hn)
theorem x_lload_n (F : xFix E A Y cc own nL) {i : Fin 4} {x : Int64} (d : decode cc pc = .ok (.lload_n i, 1)) (hv : ls[(i : Nat)]? = some (vL x)) (g : WP l E R A Y k n (pc + 1) ls (vL x :: st) M) : WP l E R A Y k n pc ls st M := fun H locs lr hP hS hl hn => lv_lload_n F.1 F.2.1 d rfl (hl.2.2 _ _ hv rfl) (g H locs lr hP hS hl hn)
theorem x_lload (F : xFix E A Y cc own nL) {i : Nat} {x : Int64} (d : decode cc pc = .ok (.lload i, 2)) (hv : ls[i]? = some (vL x)) (g : WP l E R A Y k n (pc + 2) ls (vL x :: st) M) : WP l E R A Y k n pc ls st M := fun H locs lr hP hS hl hn => lv_lload F.1 F.2.1 d (hl.2.2 _ _ hv rfl) (g H locs lr hP hS hl hn)
theorem x_dload_n (F : xFix E A Y cc own nL) {i : Fin 4} {x : UInt64} (d : decode cc pc = .ok (.dload_n i, 1)) (hv : ls[(i : Nat)]? = some (vD x)) (g : WP l E R A Y k n (pc + 1) ls (vD x :: st) M) : WP l E R A Y k n pc ls st M := fun H locs lr hP hS hl hn => lv_dload_n F.1 F.2.1 d rfl (hl.2.2 _ _ hv rfl) (g H locs lr hP hS hl hn)
theorem x_dload (F : xFix E A Y cc own nL) {i : Nat} {x : UInt64} (d : decode cc pc = .ok (.dload i, 2)) (hv : ls[i]? = some (vD x)) (g : WP l E R A Y k n (pc + 2) ls (vD x :: st) M) : WP l E R A Y k n pc ls st M := fun H locs lr hP hS hl hn => lv_dload F.1 F.2.1 d (hl.2.2 _ _ hv rfl) (g H locs lr hP hS hl hn)
theorem x_aload_n (F : xFix E A Y cc own nL) {i : Fin 4} {r : Option Nat} (d : decode cc pc = .ok (.aload_n i, 1)) (hv : ls[(i : Nat)]? = some (vR r)) (g : WP l E R A Y k n (pc + 1) ls (vR r :: st) M) : WP l E R A Y k n pc ls st M := fun H locs lr hP hS hl hn => by
  cases r with
  | none => exact lv_aload_nN F.1 F.2.1 d rfl (hl.2.2 _ _ hv rfl) (g H locs lr hP hS hl hn)
  | some a => exact lv_aload_n F.1 F.2.1 d rfl (hl.2.2 _ _ hv rfl) (g H locs lr hP hS hl hn)
theorem x_aload (F : xFix E A Y cc own nL) {i : Nat} {r : Option Nat} (d : decode cc pc = .ok (.aload i, 2)) (hv : ls[i]? = some (vR r)) (g : WP l E R A Y k n (pc + 2) ls (vR r :: st) M) : WP l E R A Y k n pc ls st M := fun H locs lr hP hS hl hn => by
  cases r with
  | none => exact lv_aloadN F.1 F.2.1 d (hl.2.2 _ _ hv rfl) (g H locs lr hP hS hl hn)
  | some a => exact lv_aload F.1 F.2.1 d (hl.2.2 _ _ hv rfl) (g H locs lr hP hS hl hn)
theorem x_aload_nQ (F : xFix E A Y cc own nL) {i : Fin 4} {q : Nat} (d : decode cc pc = .ok (.aload_n i, 1)) (hv : ls[(i : Nat)]? = some (vQ q)) (g : WP l E R A Y k n (pc + 1) ls (vQ q :: st) M) : WP l E R A Y k n pc ls st M := fun H locs lr hP hS hl hn => lv_aload_n F.1 F.2.1 d rfl (hl.2.2 _ _ hv rfl) (g H locs lr hP hS hl hn)
theorem x_aloadQ (F : xFix E A Y cc own nL) {i : Nat} {q : Nat} (d : decode cc pc = .ok (.aload i, 2)) (hv : ls[i]? = some (vQ q)) (g : WP l E R A Y k n (pc + 2) ls (vQ q :: st) M) : WP l E R A Y k n pc ls st M := fun H locs lr hP hS hl hn => lv_aload F.1 F.2.1 d (hl.2.2 _ _ hv rfl) (g H locs lr hP hS hl hn)
theorem x_istore_n (F : xFix E A Y cc own nL) {i : Fin 4} {x : Int32} (d : decode cc pc = .ok (.istore_n i, 1)) (hi : (i : Nat) < nL) (g : WP l E R A Y k n (pc + 1) (stl ls (i : Nat) (vI x)) st M) : WP l E R A Y k n pc ls (vI x :: st) M := fun H locs lr hP hS hl hn => by
  have hi' := hi
  rw [← F.2.2.1] at hi'
  exact lv_istore_n F.1 F.2.1 d rfl hl.has hi' rfl (fun ls' h' => g H locs ls' hP hS (xLs.st hi' h' hn) (by rw [stl_len]; exact hn))
theorem x_istore (F : xFix E A Y cc own nL) {i : Nat} {x : Int32} (d : decode cc pc = .ok (.istore i, 2)) (hi : i < nL) (g : WP l E R A Y k n (pc + 2) (stl ls i (vI x)) st M) : WP l E R A Y k n pc ls (vI x :: st) M := fun H locs lr hP hS hl hn => by
  have hi' := hi
  rw [← F.2.2.1] at hi'
  exact lv_istore F.1 F.2.1 d hl.has hi' rfl (fun ls' h' => g H locs ls' hP hS (xLs.st hi' h' hn) (by rw [stl_len]; exact hn))
theorem x_lstore_n (F : xFix E A Y cc own nL) {i : Fin 4} {x : Int64} (d : decode cc pc = .ok (.lstore_n i, 1)) (hi : (i : Nat) + 1 < nL) (g : WP l E R A Y k n (pc + 1) (stl2 ls (i : Nat) (vL x)) st M) : WP l E R A Y k n pc ls (vL x :: st) M := fun H locs lr hP hS hl hn => by
  have hi' := hi
  rw [← F.2.2.1] at hi'
  exact lv_lstore_n F.1 F.2.1 d rfl hl.has hi' rfl (fun ls' h' => g H locs ls' hP hS (xLs.st2 hi' h' hn) (by rw [stl2_len]; exact hn))
theorem x_lstore (F : xFix E A Y cc own nL) {i : Nat} {x : Int64} (d : decode cc pc = .ok (.lstore i, 2)) (hi : i + 1 < nL) (g : WP l E R A Y k n (pc + 2) (stl2 ls i (vL x)) st M) : WP l E R A Y k n pc ls (vL x :: st) M := fun H locs lr hP hS hl hn => by
  have hi' := hi
  rw [← F.2.2.1] at hi'
  exact lv_lstore F.1 F.2.1 d hl.has hi' rfl (fun ls' h' => g H locs ls' hP hS (xLs.st2 hi' h' hn) (by rw [stl2_len]; exact hn))
theorem x_dstore_n (F : xFix E A Y cc own nL) {i : Fin 4} {x : UInt64} (d : decode cc pc = .ok (.dstore_n i, 1)) (hi : (i : Nat) + 1 < nL) (g : WP l E R A Y k n (pc + 1) (stl2 ls (i : Nat) (vD x)) st M) : WP l E R A Y k n pc ls (vD x :: st) M := fun H locs lr hP hS hl hn => by
  have hi' := hi
  rw [← F.2.2.1] at hi'
  exact lv_dstore_n F.1 F.2.1 d rfl hl.has hi' rfl (fun ls' h' => g H locs ls' hP hS (xLs.st2 hi' h' hn) (by rw [stl2_len]; exact hn))
theorem x_dstore (F : xFix E A Y cc own nL) {i : Nat} {x : UInt64} (d : decode cc pc = .ok (.dstore i, 2)) (hi : i + 1 < nL) (g : WP l E R A Y k n (pc + 2) (stl2 ls i (vD x)) st M) : WP l E R A Y k n pc ls (vD x :: st) M := fun H locs lr hP hS hl hn => by
  have hi' := hi
  rw [← F.2.2.1] at hi'
  exact lv_dstore F.1 F.2.1 d hl.has hi' rfl (fun ls' h' => g H locs ls' hP hS (xLs.st2 hi' h' hn) (by rw [stl2_len]; exact hn))
theorem x_astore_nQ (F : xFix E A Y cc own nL) {i : Fin 4} {x : Nat} (d : decode cc pc = .ok (.astore_n i, 1)) (hi : (i : Nat) < nL) (g : WP l E R A Y k n (pc + 1) (stl ls (i : Nat) (vQ x)) st M) : WP l E R A Y k n pc ls (vQ x :: st) M := fun H locs lr hP hS hl hn => by
  have hi' := hi
  rw [← F.2.2.1] at hi'
  exact lv_astore_n F.1 F.2.1 d rfl hl.has hi' rfl (fun ls' h' => g H locs ls' hP hS (xLs.st hi' h' hn) (by rw [stl_len]; exact hn))
theorem x_astoreQ (F : xFix E A Y cc own nL) {i : Nat} {x : Nat} (d : decode cc pc = .ok (.astore i, 2)) (hi : i < nL) (g : WP l E R A Y k n (pc + 2) (stl ls i (vQ x)) st M) : WP l E R A Y k n pc ls (vQ x :: st) M := fun H locs lr hP hS hl hn => by
  have hi' := hi
  rw [← F.2.2.1] at hi'
  exact lv_astore F.1 F.2.1 d hl.has hi' rfl (fun ls' h' => g H locs ls' hP hS (xLs.st hi' h' hn) (by rw [stl_len]; exact hn))
theorem x_astore_n (F : xFix E A Y cc own nL) {i : Fin 4} {r : Option Nat} (d : decode cc pc = .ok (.astore_n i, 1)) (hi : (i : Nat) < nL) (g : WP l E R A Y k n (pc + 1) (stl ls (i : Nat) (vR r)) st M) : WP l E R A Y k n pc ls (vR r :: st) M := fun H locs lr hP hS hl hn => by
  have hi' := hi
  rw [← F.2.2.1] at hi'
  cases r with
  | none => exact lv_astore_nN F.1 F.2.1 d rfl hl.has hi' rfl (fun ls' h' => g H locs ls' hP hS (xLs.st (v := vR none) hi' h' hn) (by rw [stl_len]; exact hn))
  | some a => exact lv_astore_n F.1 F.2.1 d rfl hl.has hi' rfl (fun ls' h' => g H locs ls' hP hS (xLs.st (v := vR (some a)) hi' h' hn) (by rw [stl_len]; exact hn))
theorem x_astore (F : xFix E A Y cc own nL) {i : Nat} {r : Option Nat} (d : decode cc pc = .ok (.astore i, 2)) (hi : i < nL) (g : WP l E R A Y k n (pc + 2) (stl ls i (vR r)) st M) : WP l E R A Y k n pc ls (vR r :: st) M := fun H locs lr hP hS hl hn => by
  have hi' := hi
  rw [← F.2.2.1] at hi'
  cases r with
  | none => exact lv_astoreN F.1 F.2.1 d hl.has hi' rfl (fun ls' h' => g H locs ls' hP hS (xLs.st (v := vR none) hi' h' hn) (by rw [stl_len]; exact hn))
  | some a => exact lv_astore F.1 F.2.1 d hl.has hi' rfl (fun ls' h' => g H locs ls' hP hS (xLs.st (v := vR (some a)) hi' h' hn) (by rw [stl_len]; exact hn))
theorem x_iinc (F : xFix E A Y cc own nL) {i : Nat} {c : Int} {x v : Int32} (d : decode cc pc = .ok (.iinc i c, 3)) (hv : ls[i]? = some (vI x)) (he : x + Int32.ofInt c = v) (g : WP l E R A Y k n (pc + 3) (stl ls i (vI v)) st M) : WP l E R A Y k n pc ls st M := fun H locs lr hP hS hl hn => by
  have hil : i < ls.length := (List.getElem?_eq_some_iff.mp hv).1
  have hi' : i < (yc Y).maxLocals := by omega
  have hm : (i, Value.int x) ∈ xll E.2.2.1 (yc Y).maxLocals ls := xll_mem.mpr ⟨hi', _, hv, rfl, rfl⟩
  obtain ⟨q, hq⟩ := List.getElem?_of_mem hm
  exact lv_iinc F.1 F.2.1 d hl.has hq he hi' rfl (fun ls' h' => g H locs ls' hP hS (xLs.st (v := vI v) hi' h' hn) (by rw [stl_len]; exact hn))
theorem x_goto (F : xFix E A Y cc own nL) {off : Int} {tgt : Nat} (d : decode cc pc = .ok (.goto off, 3)) (ht : (pc : Int) + off = (tgt : Int)) (g : WP l E R A Y k n tgt ls st M) : WP l E R A Y k n pc ls st M := fun H locs lr hP hS hl hn => lv_goto F.1 F.2.1 d ht (g H locs lr hP hS hl hn)
theorem x_ifnull (F : xFix E A Y cc own nL) {r : Option Nat} {off : Int} {tgt : Nat} (d : decode cc pc = .ok (.ifnull off, 3)) (ht : (pc : Int) + off = (tgt : Int)) (g1 : r = none → WP l E R A Y k n tgt ls st M) (g2 : ∀ a, r = some a → WP l E R A Y k n (pc + 3) ls st M) : WP l E R A Y k n pc ls (vR r :: st) M := fun H locs lr hP hS hl hn => by
  cases r with
  | none => exact lv_ifnullN F.1 F.2.1 d ht (g1 rfl H locs lr hP hS hl hn)
  | some a => exact lv_ifnull F.1 F.2.1 d (g2 a rfl H locs lr hP hS hl hn)
theorem x_ifnonnull (F : xFix E A Y cc own nL) {r : Option Nat} {off : Int} {tgt : Nat} (d : decode cc pc = .ok (.ifnonnull off, 3)) (ht : (pc : Int) + off = (tgt : Int)) (g1 : ∀ a, r = some a → WP l E R A Y k n tgt ls st M) (g2 : r = none → WP l E R A Y k n (pc + 3) ls st M) : WP l E R A Y k n pc ls (vR r :: st) M := fun H locs lr hP hS hl hn => by
  cases r with
  | none => exact lv_ifnonnullN F.1 F.2.1 d (g2 rfl H locs lr hP hS hl hn)
  | some a => exact lv_ifnonnull F.1 F.2.1 d ht (g1 a rfl H locs lr hP hS hl hn)
theorem x_icmp_eq (F : xFix E A Y cc own nL) {x y : Int32} {off : Int} {tgt : Nat} (d : decode cc pc = .ok (.if_icmp .eq off, 3)) (ht : (pc : Int) + off = (tgt : Int)) (g1 : x = y → WP l E R A Y k n tgt ls st M) (g2 : ¬ x = y → WP l E R A Y k n (pc + 3) ls st M) : WP l E R A Y k n pc ls (vI y :: vI x :: st) M := fun H locs lr hP hS hl hn => lv_icmp_eq F.1 F.2.1 d ht (fun q => g1 q H locs lr hP hS hl hn) (fun q => g2 q H locs lr hP hS hl hn)
theorem x_if_eq (F : xFix E A Y cc own nL) {x : Int32} {off : Int} {tgt : Nat} (d : decode cc pc = .ok (.ifCond .eq off, 3)) (ht : (pc : Int) + off = (tgt : Int)) (g1 : x = 0 → WP l E R A Y k n tgt ls st M) (g2 : ¬ x = 0 → WP l E R A Y k n (pc + 3) ls st M) : WP l E R A Y k n pc ls (vI x :: st) M := fun H locs lr hP hS hl hn => lv_if_eq F.1 F.2.1 d ht (fun q => g1 q H locs lr hP hS hl hn) (fun q => g2 q H locs lr hP hS hl hn)
theorem x_icmp_ne (F : xFix E A Y cc own nL) {x y : Int32} {off : Int} {tgt : Nat} (d : decode cc pc = .ok (.if_icmp .ne off, 3)) (ht : (pc : Int) + off = (tgt : Int)) (g1 : ¬ x = y → WP l E R A Y k n tgt ls st M) (g2 : x = y → WP l E R A Y k n (pc + 3) ls st M) : WP l E R A Y k n pc ls (vI y :: vI x :: st) M := fun H locs lr hP hS hl hn => lv_icmp_ne F.1 F.2.1 d ht (fun q => g1 q H locs lr hP hS hl hn) (fun q => g2 q H locs lr hP hS hl hn)
theorem x_if_ne (F : xFix E A Y cc own nL) {x : Int32} {off : Int} {tgt : Nat} (d : decode cc pc = .ok (.ifCond .ne off, 3)) (ht : (pc : Int) + off = (tgt : Int)) (g1 : ¬ x = 0 → WP l E R A Y k n tgt ls st M) (g2 : x = 0 → WP l E R A Y k n (pc + 3) ls st M) : WP l E R A Y k n pc ls (vI x :: st) M := fun H locs lr hP hS hl hn => lv_if_ne F.1 F.2.1 d ht (fun q => g1 q H locs lr hP hS hl hn) (fun q => g2 q H locs lr hP hS hl hn)
theorem x_icmp_lt (F : xFix E A Y cc own nL) {x y : Int32} {off : Int} {tgt : Nat} (d : decode cc pc = .ok (.if_icmp .lt off, 3)) (ht : (pc : Int) + off = (tgt : Int)) (g1 : x < y → WP l E R A Y k n tgt ls st M) (g2 : ¬ x < y → WP l E R A Y k n (pc + 3) ls st M) : WP l E R A Y k n pc ls (vI y :: vI x :: st) M := fun H locs lr hP hS hl hn => lv_icmp_lt F.1 F.2.1 d ht (fun q => g1 q H locs lr hP hS hl hn) (fun q => g2 q H locs lr hP hS hl hn)
theorem x_if_lt (F : xFix E A Y cc own nL) {x : Int32} {off : Int} {tgt : Nat} (d : decode cc pc = .ok (.ifCond .lt off, 3)) (ht : (pc : Int) + off = (tgt : Int)) (g1 : x < 0 → WP l E R A Y k n tgt ls st M) (g2 : ¬ x < 0 → WP l E R A Y k n (pc + 3) ls st M) : WP l E R A Y k n pc ls (vI x :: st) M := fun H locs lr hP hS hl hn => lv_if_lt F.1 F.2.1 d ht (fun q => g1 q H locs lr hP hS hl hn) (fun q => g2 q H locs lr hP hS hl hn)
theorem x_icmp_ge (F : xFix E A Y cc own nL) {x y : Int32} {off : Int} {tgt : Nat} (d : decode cc pc = .ok (.if_icmp .ge off, 3)) (ht : (pc : Int) + off = (tgt : Int)) (g1 : y ≤ x → WP l E R A Y k n tgt ls st M) (g2 : ¬ y ≤ x → WP l E R A Y k n (pc + 3) ls st M) : WP l E R A Y k n pc ls (vI y :: vI x :: st) M := fun H locs lr hP hS hl hn => lv_icmp_ge F.1 F.2.1 d ht (fun q => g1 q H locs lr hP hS hl hn) (fun q => g2 q H locs lr hP hS hl hn)
theorem x_if_ge (F : xFix E A Y cc own nL) {x : Int32} {off : Int} {tgt : Nat} (d : decode cc pc = .ok (.ifCond .ge off, 3)) (ht : (pc : Int) + off = (tgt : Int)) (g1 : 0 ≤ x → WP l E R A Y k n tgt ls st M) (g2 : ¬ 0 ≤ x → WP l E R A Y k n (pc + 3) ls st M) : WP l E R A Y k n pc ls (vI x :: st) M := fun H locs lr hP hS hl hn => lv_if_ge F.1 F.2.1 d ht (fun q => g1 q H locs lr hP hS hl hn) (fun q => g2 q H locs lr hP hS hl hn)
theorem x_icmp_gt (F : xFix E A Y cc own nL) {x y : Int32} {off : Int} {tgt : Nat} (d : decode cc pc = .ok (.if_icmp .gt off, 3)) (ht : (pc : Int) + off = (tgt : Int)) (g1 : y < x → WP l E R A Y k n tgt ls st M) (g2 : ¬ y < x → WP l E R A Y k n (pc + 3) ls st M) : WP l E R A Y k n pc ls (vI y :: vI x :: st) M := fun H locs lr hP hS hl hn => lv_icmp_gt F.1 F.2.1 d ht (fun q => g1 q H locs lr hP hS hl hn) (fun q => g2 q H locs lr hP hS hl hn)
theorem x_if_gt (F : xFix E A Y cc own nL) {x : Int32} {off : Int} {tgt : Nat} (d : decode cc pc = .ok (.ifCond .gt off, 3)) (ht : (pc : Int) + off = (tgt : Int)) (g1 : 0 < x → WP l E R A Y k n tgt ls st M) (g2 : ¬ 0 < x → WP l E R A Y k n (pc + 3) ls st M) : WP l E R A Y k n pc ls (vI x :: st) M := fun H locs lr hP hS hl hn => lv_if_gt F.1 F.2.1 d ht (fun q => g1 q H locs lr hP hS hl hn) (fun q => g2 q H locs lr hP hS hl hn)
theorem x_icmp_le (F : xFix E A Y cc own nL) {x y : Int32} {off : Int} {tgt : Nat} (d : decode cc pc = .ok (.if_icmp .le off, 3)) (ht : (pc : Int) + off = (tgt : Int)) (g1 : x ≤ y → WP l E R A Y k n tgt ls st M) (g2 : ¬ x ≤ y → WP l E R A Y k n (pc + 3) ls st M) : WP l E R A Y k n pc ls (vI y :: vI x :: st) M := fun H locs lr hP hS hl hn => lv_icmp_le F.1 F.2.1 d ht (fun q => g1 q H locs lr hP hS hl hn) (fun q => g2 q H locs lr hP hS hl hn)
theorem x_if_le (F : xFix E A Y cc own nL) {x : Int32} {off : Int} {tgt : Nat} (d : decode cc pc = .ok (.ifCond .le off, 3)) (ht : (pc : Int) + off = (tgt : Int)) (g1 : x ≤ 0 → WP l E R A Y k n tgt ls st M) (g2 : ¬ x ≤ 0 → WP l E R A Y k n (pc + 3) ls st M) : WP l E R A Y k n pc ls (vI x :: st) M := fun H locs lr hP hS hl hn => lv_if_le F.1 F.2.1 d ht (fun q => g1 q H locs lr hP hS hl hn) (fun q => g2 q H locs lr hP hS hl hn)
/-- links that the tables give: a field of a class by an entry of a class's pool; the same over a nest mate's -/
def xFL (own : String) (idx ci j : Nat) : Prop := ∃ (C : String) (T : u_T) (N : Nat), vwCl[ci]? = some (C, T, N) ∧ j < N ∧ (∀ w ∈ u_ws C T N, w ∈ LW) ∧ Cond.fieldLink own idx C (T j).2.1 (T j).2.2.1 ∈ LW ∧ (T j).1 = C
def xFN (own : String) (idx ci j : Nat) : Prop := ∃ (C host : String) (T : u_T) (N : Nat), vwCl[ci]? = some (C, T, N) ∧ j < N ∧ (∀ w ∈ u_ws C T N, w ∈ LW) ∧ Cond.fieldLinkNest own idx C (T j).2.1 (T j).2.2.1 host ∈ NW ∧ (T j).1 = C
theorem xFL.get {idx ci j a N9 : Nat} {v : Value} (h : xFL own idx ci j) (F : xFix E A Y cc own nL) (hk : xk a = (ci, N9)) (hc : ci < 8) (hj : j < N9) (hv : xfv E.2.2.1 M ci a j = v) {H : Heap} {locs : List Loc} {lr : Array Slot} {rest : List Value} (d : decode cc pc = .ok (.getfield idx, 3)) (hP : va_P E.1 vwCl (xws E M) H)
    (g : W (yp Y) l (ye Y) R (ys Y) (ym Y) (ya Y) (yb Y) (yM Y) (yc Y) H locs k n (yQ Y) (F0 (ym Y) (pc + 3) lr (v :: rest))) : W (yp Y) l (ye Y) R (ys Y) (ym Y) (ya Y) (yb Y) (yM Y) (yc Y) H locs k n (yQ Y) (F0 (ym Y) pc lr (.ref (E.2.2.1 a) :: rest)) := by
  obtain ⟨C, T, N, h1, h2, h3, h4, h5⟩ := h
  refine va_get (Ts := LW) (ref := C) F.1 F.2.1 F.2.2.2.2.1 h3 F.2.2.2.1 F.2.2.2.2.2.1.1 hP a (xws_obj E M hk hc) h1 j h2 (F.2.2.2.2.1 _ h4) (fun x hx => by rw [h5] at hx; exact hx) ?_ d g
  simp [hj, hv]
theorem xFN.get {idx ci j a N9 : Nat} {v : Value} (h : xFN own idx ci j) (F : xFix E A Y cc own nL) (hk : xk a = (ci, N9)) (hc : ci < 8) (hj : j < N9) (hv : xfv E.2.2.1 M ci a j = v) {H : Heap} {locs : List Loc} {lr : Array Slot} {rest : List Value} (d : decode cc pc = .ok (.getfield idx, 3)) (hP : va_P E.1 vwCl (xws E M) H)
    (g : W (yp Y) l (ye Y) R (ys Y) (ym Y) (ya Y) (yb Y) (yM Y) (yc Y) H locs k n (yQ Y) (F0 (ym Y) (pc + 3) lr (v :: rest))) : W (yp Y) l (ye Y) R (ys Y) (ym Y) (ya Y) (yb Y) (yM Y) (yc Y) H locs k n (yQ Y) (F0 (ym Y) pc lr (.ref (E.2.2.1 a) :: rest)) := by
  obtain ⟨C, host, T, N, h1, h2, h3, h4, h5⟩ := h
  refine va_getN (Ts := LW) (ref := C) (host := host) F.1 F.2.1 F.2.2.2.2.1 h3 F.2.2.2.1 F.2.2.2.2.2.1.1 hP a (xws_obj E M hk hc) h1 j h2 (va_Nw.use rfl (F.2.2.2.2.2.1.2.1 _ h4)) (fun x hx => by rw [h5] at hx; exact hx) ?_ d g
  simp [hj, hv]
theorem x_geti (F : xFix E A Y cc own nL) {idx ci j a N9 : Nat} (h : xFL own idx ci j) (hk : xk a = (ci, N9)) (d : decode cc pc = .ok (.getfield idx, 3)) (hc : ci < 8) (hj : j < N9) (hf : xft ci j = 0) (g : WP l E R A Y k n (pc + 3) ls (vI (M.1 a j) :: st) M) : WP l E R A Y k n pc ls (vA a :: st) M := fun H locs lr hP hS hl hn => h.get F hk hc hj (v := .int (M.1 a j)) (by unfold xfv; rw [if_pos hf]) d hP (g H locs lr hP hS hl hn)
theorem x_getr (F : xFix E A Y cc own nL) {idx ci j a N9 : Nat} (h : xFL own idx ci j) (hk : xk a = (ci, N9)) (d : decode cc pc = .ok (.getfield idx, 3)) (hc : ci < 8) (hj : j < N9) (hf : xft ci j = 2) (g : WP l E R A Y k n (pc + 3) ls (vR (M.2.1 a j) :: st) M) : WP l E R A Y k n pc ls (vA a :: st) M := fun H locs lr hP hS hl hn => h.get F hk hc hj (v := xrv E.2.2.1 (M.2.1 a j)) (by unfold xfv xgr; rw [hf]; rfl) d hP (g H locs lr hP hS hl hn)
theorem x_getc (F : xFix E A Y cc own nL) {idx ci j a N9 v : Nat} (h : xFL own idx ci j) (hk : xk a = (ci, N9)) (d : decode cc pc = .ok (.getfield idx, 3)) (hc : ci < 8) (hj : j < N9) (hf : xft ci j = 1) (hv : xcr ci a j = v) (g : WP l E R A Y k n (pc + 3) ls (vA v :: st) M) : WP l E R A Y k n pc ls (vA a :: st) M := fun H locs lr hP hS hl hn => h.get F hk hc hj (v := xrv E.2.2.1 (some v)) (by unfold xfv xgr; rw [hf, hv]; rfl) d hP (g H locs lr hP hS hl hn)
theorem x_getl (F : xFix E A Y cc own nL) {idx ci j a N9 : Nat} (h : xFL own idx ci j) (hk : xk a = (ci, N9)) (d : decode cc pc = .ok (.getfield idx, 3)) (hc : ci < 8) (hj : j < N9) (hf : xft ci j = 3) (g : WP l E R A Y k n (pc + 3) ls (vL (M.2.2 a j) :: st) M) : WP l E R A Y k n pc ls (vA a :: st) M := fun H locs lr hP hS hl hn => h.get F hk hc hj (v := .long (M.2.2 a j)) (by unfold xfv; rw [hf]; rfl) d hP (g H locs lr hP hS hl hn)
theorem x_getiN (F : xFix E A Y cc own nL) {idx ci j a N9 : Nat} (h : xFN own idx ci j) (hk : xk a = (ci, N9)) (d : decode cc pc = .ok (.getfield idx, 3)) (hc : ci < 8) (hj : j < N9) (hf : xft ci j = 0) (g : WP l E R A Y k n (pc + 3) ls (vI (M.1 a j) :: st) M) : WP l E R A Y k n pc ls (vA a :: st) M := fun H locs lr hP hS hl hn => h.get F hk hc hj (v := .int (M.1 a j)) (by unfold xfv; rw [if_pos hf]) d hP (g H locs lr hP hS hl hn)
theorem x_getrN (F : xFix E A Y cc own nL) {idx ci j a N9 : Nat} (h : xFN own idx ci j) (hk : xk a = (ci, N9)) (d : decode cc pc = .ok (.getfield idx, 3)) (hc : ci < 8) (hj : j < N9) (hf : xft ci j = 2) (g : WP l E R A Y k n (pc + 3) ls (vR (M.2.1 a j) :: st) M) : WP l E R A Y k n pc ls (vA a :: st) M := fun H locs lr hP hS hl hn => h.get F hk hc hj (v := xrv E.2.2.1 (M.2.1 a j)) (by unfold xfv xgr; rw [hf]; rfl) d hP (g H locs lr hP hS hl hn)
theorem x_getcN (F : xFix E A Y cc own nL) {idx ci j a N9 v : Nat} (h : xFN own idx ci j) (hk : xk a = (ci, N9)) (d : decode cc pc = .ok (.getfield idx, 3)) (hc : ci < 8) (hj : j < N9) (hf : xft ci j = 1) (hv : xcr ci a j = v) (g : WP l E R A Y k n (pc + 3) ls (vA v :: st) M) : WP l E R A Y k n pc ls (vA a :: st) M := fun H locs lr hP hS hl hn => h.get F hk hc hj (v := xrv E.2.2.1 (some v)) (by unfold xfv xgr; rw [hf, hv]; rfl) d hP (g H locs lr hP hS hl hn)
theorem x_getlN (F : xFix E A Y cc own nL) {idx ci j a N9 : Nat} (h : xFN own idx ci j) (hk : xk a = (ci, N9)) (d : decode cc pc = .ok (.getfield idx, 3)) (hc : ci < 8) (hj : j < N9) (hf : xft ci j = 3) (g : WP l E R A Y k n (pc + 3) ls (vL (M.2.2 a j) :: st) M) : WP l E R A Y k n pc ls (vA a :: st) M := fun H locs lr hP hS hl hn => h.get F hk hc hj (v := .long (M.2.2 a j)) (by unfold xfv; rw [hf]; rfl) d hP (g H locs lr hP hS hl hn)
/-- a class's fields, as a write wants them -/
def xCT (ci : Nat) : Prop := ∀ (C : String) (T : u_T) (N : Nat), vwCl[ci]? = some (C, T, N) → (∃ ty : Nat → FieldType, ∀ k, k < N → parseFieldDescriptor (T k).2.2.1 = some (ty k)) ∧ (∀ a, a < N → ∀ b, b < N → a ≠ b → (T a).2.1 ≠ (T b).2.1)
theorem xCT_all : ∀ ci, ci < 8 → xCT ci := by
  intro ci hci C T N h
  match ci, hci, h with
  | 0, _, h => cases h; exact ⟨⟨_, tyX0_ok⟩, nmX0⟩
  | 1, _, h => cases h; exact ⟨⟨_, tyX1_ok⟩, nmX1⟩
  | 2, _, h => cases h; exact ⟨⟨_, tyX2_ok⟩, nmX2⟩
  | 3, _, h => cases h; exact ⟨⟨_, tyX3_ok⟩, nmX3⟩
  | 4, _, h => cases h; exact ⟨⟨_, tyX4_ok⟩, nmX4⟩
  | 5, _, h => cases h; exact ⟨⟨_, tyX5_ok⟩, nmX5⟩
  | 6, _, h => cases h; exact ⟨⟨_, tyX6_ok⟩, nmX6⟩
  | 7, _, h => cases h
/-- a field that is written: not final, its type ty -/
def xFW (ci j : Nat) (ty : FieldType) : Prop := ∀ (C : String) (T : u_T) (N : Nat), vwCl[ci]? = some (C, T, N) → (T j).2.2.2 = false ∧ parseFieldDescriptor (T j).2.2.1 = some ty
theorem xFL.put {idx ci j a N9 : Nat} {v : Value} {ty : FieldType} {M' : xM} (h : xFL own idx ci j) (F : xFix E A Y cc own nL) (hk : xk a = (ci, N9)) (hc : ci < 8) (hj : j < N9) (hw : xFW ci j ty) (hn1 : narrow ty v = v) (hfit : fits ty v = true) (hset : (xws E M).set a (E.2.2.1 a, .inr (ci, ((List.range N9).map (xfv E.2.2.1 M ci a)).set j v)) = xws E M') {H : Heap} {locs : List Loc} {lr : Array Slot} {rest : List Value} (d : decode cc pc = .ok (.putfield idx, 3)) (hP : va_P E.1 vwCl (xws E M) H) (hS : va_S A (ys Y).heap H locs)
    (g : ∀ (H1 : Heap) (locs1 : List Loc), va_P E.1 vwCl (xws E M') H1 → va_S A (ys Y).heap H1 locs1 → W (yp Y) l (ye Y) R (ys Y) (ym Y) (ya Y) (yb Y) (yM Y) (yc Y) H1 locs1 k n (yQ Y) (F0 (ym Y) (pc + 3) lr rest)) : W (yp Y) l (ye Y) R (ys Y) (ym Y) (ya Y) (yb Y) (yM Y) (yc Y) H locs k n (yQ Y) (F0 (ym Y) pc lr (v :: .ref (E.2.2.1 a) :: rest)) := by
  obtain ⟨C, T, N, h1, h2, h3, h4, h5⟩ := h
  obtain ⟨⟨ty0, t1⟩, t2⟩ := xCT_all ci hc C T N h1
  obtain ⟨w1, w2⟩ := hw C T N h1
  refine va_put (Ts := LW) (ref := C) F.1 F.2.1 F.2.2.2.2.1 h3 ty0 t1 t2 F.2.2.2.1 F.2.2.2.2.2.1.1 hP (xD F M) hS a (xws_obj E M hk hc) h1 j h2 (F.2.2.2.2.1 _ h4) (fun x hx => by rw [h5] at hx; exact hx) w1 w2 hn1 hfit (by simpa using hj) d ?_
  intro H1 locs1 hP1 _ hS1
  rw [hset] at hP1
  exact g H1 locs1 hP1 hS1
theorem x_puti (F : xFix E A Y cc own nL) {idx ci j a N9 : Nat} {x : Int32} {ty : FieldType} (h : xFL own idx ci j) (hk : xk a = (ci, N9)) (d : decode cc pc = .ok (.putfield idx, 3)) (hc : ci < 8) (hj : j < N9) (hf : xft ci j = 0) (hw : xFW ci j ty) (hn1 : narrow ty (.int x) = .int x) (hfit : fits ty (.int x) = true) (g : WP l E R A Y k n (pc + 3) ls st (upI M a j x)) : WP l E R A Y k n pc ls (vI x :: vA a :: st) M := fun H locs lr hP hS hl hn => h.put F hk hc hj hw hn1 hfit (xws_putI hk hc hf hj) d hP hS (fun H1 locs1 hP1 hS1 => g H1 locs1 lr hP1 hS1 hl hn)
theorem x_putl (F : xFix E A Y cc own nL) {idx ci j a N9 : Nat} {x : Int64} (h : xFL own idx ci j) (hk : xk a = (ci, N9)) (d : decode cc pc = .ok (.putfield idx, 3)) (hc : ci < 8) (hj : j < N9) (hf : xft ci j = 3) (hw : xFW ci j .long) (g : WP l E R A Y k n (pc + 3) ls st (upL M a j x)) : WP l E R A Y k n pc ls (vL x :: vA a :: st) M := fun H locs lr hP hS hl hn => h.put F hk hc hj hw rfl rfl (xws_putL hk hc hf hj) d hP hS (fun H1 locs1 hP1 hS1 => g H1 locs1 lr hP1 hS1 hl hn)
theorem x_putr (F : xFix E A Y cc own nL) {idx ci j a N9 : Nat} {r : Option Nat} {C9 : String} (h : xFL own idx ci j) (hk : xk a = (ci, N9)) (d : decode cc pc = .ok (.putfield idx, 3)) (hc : ci < 8) (hj : j < N9) (hf : xft ci j = 2) (hw : xFW ci j (.object C9)) (g : WP l E R A Y k n (pc + 3) ls st (upR M a j r)) : WP l E R A Y k n pc ls (vR r :: vA a :: st) M := fun H locs lr hP hS hl hn => h.put F hk hc hj hw (by cases r <;> rfl) (by cases r <;> rfl) (xws_putR hk hc hf hj) d hP hS (fun H1 locs1 hP1 hS1 => g H1 locs1 lr hP1 hS1 hl hn)
theorem xFN.put {idx ci j a N9 : Nat} {v : Value} {ty : FieldType} {M' : xM} (h : xFN own idx ci j) (F : xFix E A Y cc own nL) (hk : xk a = (ci, N9)) (hc : ci < 8) (hj : j < N9) (hw : xFW ci j ty) (hn1 : narrow ty v = v) (hfit : fits ty v = true) (hset : (xws E M).set a (E.2.2.1 a, .inr (ci, ((List.range N9).map (xfv E.2.2.1 M ci a)).set j v)) = xws E M') {H : Heap} {locs : List Loc} {lr : Array Slot} {rest : List Value} (d : decode cc pc = .ok (.putfield idx, 3)) (hP : va_P E.1 vwCl (xws E M) H) (hS : va_S A (ys Y).heap H locs)
    (g : ∀ (H1 : Heap) (locs1 : List Loc), va_P E.1 vwCl (xws E M') H1 → va_S A (ys Y).heap H1 locs1 → W (yp Y) l (ye Y) R (ys Y) (ym Y) (ya Y) (yb Y) (yM Y) (yc Y) H1 locs1 k n (yQ Y) (F0 (ym Y) (pc + 3) lr rest)) : W (yp Y) l (ye Y) R (ys Y) (ym Y) (ya Y) (yb Y) (yM Y) (yc Y) H locs k n (yQ Y) (F0 (ym Y) pc lr (v :: .ref (E.2.2.1 a) :: rest)) := by
  obtain ⟨C, host, T, N, h1, h2, h3, h4, h5⟩ := h
  obtain ⟨⟨ty0, t1⟩, t2⟩ := xCT_all ci hc C T N h1
  obtain ⟨w1, w2⟩ := hw C T N h1
  refine va_putN (Ts := LW) (ref := C) (host := host) F.1 F.2.1 F.2.2.2.2.1 h3 ty0 t1 t2 F.2.2.2.1 F.2.2.2.2.2.1.1 hP (xD F M) hS a (xws_obj E M hk hc) h1 j h2 (va_Nw.use rfl (F.2.2.2.2.2.1.2.1 _ h4)) (fun x hx => by rw [h5] at hx; exact hx) w1 w2 hn1 hfit (by simpa using hj) d ?_
  intro H1 locs1 hP1 _ hS1
  rw [hset] at hP1
  exact g H1 locs1 hP1 hS1
theorem x_putiN (F : xFix E A Y cc own nL) {idx ci j a N9 : Nat} {x : Int32} {ty : FieldType} (h : xFN own idx ci j) (hk : xk a = (ci, N9)) (d : decode cc pc = .ok (.putfield idx, 3)) (hc : ci < 8) (hj : j < N9) (hf : xft ci j = 0) (hw : xFW ci j ty) (hn1 : narrow ty (.int x) = .int x) (hfit : fits ty (.int x) = true) (g : WP l E R A Y k n (pc + 3) ls st (upI M a j x)) : WP l E R A Y k n pc ls (vI x :: vA a :: st) M := fun H locs lr hP hS hl hn => h.put F hk hc hj hw hn1 hfit (xws_putI hk hc hf hj) d hP hS (fun H1 locs1 hP1 hS1 => g H1 locs1 lr hP1 hS1 hl hn)
theorem x_putlN (F : xFix E A Y cc own nL) {idx ci j a N9 : Nat} {x : Int64} (h : xFN own idx ci j) (hk : xk a = (ci, N9)) (d : decode cc pc = .ok (.putfield idx, 3)) (hc : ci < 8) (hj : j < N9) (hf : xft ci j = 3) (hw : xFW ci j .long) (g : WP l E R A Y k n (pc + 3) ls st (upL M a j x)) : WP l E R A Y k n pc ls (vL x :: vA a :: st) M := fun H locs lr hP hS hl hn => h.put F hk hc hj hw rfl rfl (xws_putL hk hc hf hj) d hP hS (fun H1 locs1 hP1 hS1 => g H1 locs1 lr hP1 hS1 hl hn)
theorem x_putrN (F : xFix E A Y cc own nL) {idx ci j a N9 : Nat} {r : Option Nat} {C9 : String} (h : xFN own idx ci j) (hk : xk a = (ci, N9)) (d : decode cc pc = .ok (.putfield idx, 3)) (hc : ci < 8) (hj : j < N9) (hf : xft ci j = 2) (hw : xFW ci j (.object C9)) (g : WP l E R A Y k n (pc + 3) ls st (upR M a j r)) : WP l E R A Y k n pc ls (vR r :: vA a :: st) M := fun H locs lr hP hS hl hn => h.put F hk hc hj hw (by cases r <;> rfl) (by cases r <;> rfl) (xws_putR hk hc hf hj) d hP hS (fun H1 locs1 hP1 hS1 => g H1 locs1 lr hP1 hS1 hl hn)
theorem x_iald (F : xFix E A Y cc own nL) {a N9 : Nat} {i : Int32} (hk : xk a = (8, N9)) (d : decode cc pc = .ok (.iaload, 1)) (hin : vp_in i N9) (g : WP l E R A Y k n (pc + 1) ls (vI (M.1 a i.toNatClampNeg) :: st) M) : WP l E R A Y k n pc ls (vI i :: vA a :: st) M := fun H locs lr hP hS hl hn => va_iald F.1 F.2.1 F.2.2.2.2.2.1.1 hP a 0 (xws_arr E M hk) rfl hin d (g H locs lr hP hS hl hn)
theorem x_cald (F : xFix E A Y cc own nL) {a N9 : Nat} {i : Int32} (hk : xk a = (9, N9)) (d : decode cc pc = .ok (.caload, 1)) (hin : vp_in i N9) (g : WP l E R A Y k n (pc + 1) ls (vI (M.1 a i.toNatClampNeg) :: st) M) : WP l E R A Y k n pc ls (vI i :: vA a :: st) M := fun H locs lr hP hS hl hn => va_cald F.1 F.2.1 F.2.2.2.2.2.1.1 hP a 1 (xws_chr E M hk) rfl hin d (g H locs lr hP hS hl hn)
theorem x_aaldC (F : xFix E A Y cc own nL) {a N9 : Nat} {i : Int32} (hk : xk a = (11, N9)) (d : decode cc pc = .ok (.aaload, 1)) (hin : vp_in i N9) (g : WP l E R A Y k n (pc + 1) ls (vA (18 + 5 * i.toNatClampNeg) :: st) M) : WP l E R A Y k n pc ls (vI i :: vA a :: st) M := fun H locs lr hP hS hl hn => va_aldq F.1 F.2.1 F.2.2.2.2.2.1.1 hP a 2 (xws_chs E M hk) rfl hin d (g H locs lr hP hS hl hn)
theorem x_aaldN (F : xFix E A Y cc own nL) {a N9 : Nat} {i : Int32} (hk : xk a = (12, N9)) (d : decode cc pc = .ok (.aaload, 1)) (hin : vp_in i N9) (g : WP l E R A Y k n (pc + 1) ls (vA (52 + i.toNatClampNeg) :: st) M) : WP l E R A Y k n pc ls (vI i :: vA a :: st) M := fun H locs lr hP hS hl hn => va_aldq F.1 F.2.1 F.2.2.2.2.2.1.1 hP a 3 (xws_nds E M hk) rfl hin d (g H locs lr hP hS hl hn)
theorem x_iast (F : xFix E A Y cc own nL) {a N9 : Nat} {i x : Int32} (hk : xk a = (8, N9)) (d : decode cc pc = .ok (.iastore, 1)) (hin : vp_in i N9) (g : WP l E R A Y k n (pc + 1) ls st (upI M a i.toNatClampNeg x)) : WP l E R A Y k n pc ls (vI x :: vI i :: vA a :: st) M := fun H locs lr hP hS hl hn => va_iast F.1 F.2.1 F.2.2.2.2.2.1.1 hP (xD F M) hS a 0 (xws_arr E M hk) rfl hin d (fun H1 locs1 hP1 _ hS1 => g H1 locs1 lr (by rw [xws_sti hk] at hP1; exact hP1) hS1 hl hn)
theorem x_cast (F : xFix E A Y cc own nL) {a N9 : Nat} {i x : Int32} (hk : xk a = (9, N9)) (d : decode cc pc = .ok (.castore, 1)) (hin : vp_in i N9) (hx : vp_nar .char x = x) (g : WP l E R A Y k n (pc + 1) ls st (upI M a i.toNatClampNeg x)) : WP l E R A Y k n pc ls (vI x :: vI i :: vA a :: st) M := fun H locs lr hP hS hl hn => va_cast F.1 F.2.1 F.2.2.2.2.2.1.1 hP (xD F M) hS a 1 (xws_chr E M hk) rfl hin d (fun H1 locs1 hP1 _ hS1 => g H1 locs1 lr (by first | (rw [hx, xws_stc hk] at hP1; exact hP1) | (rw [xws_stc hk] at hP1; exact hP1)) hS1 hl hn)
theorem x_hald (F : xFix E A Y cc own nL) {a : Nat} {i : Int32} (hk : isH E a) (d : decode cc pc = .ok (.iaload, 1)) (hin : vp_in i 24) (g : WP l E R A Y k n (pc + 1) ls (vI (M.1 a i.toNatClampNeg) :: st) M) : WP l E R A Y k n pc ls (vI i :: vA a :: st) M := fun H locs lr hP hS hl hn => va_iald F.1 F.2.1 F.2.2.2.2.2.1.1 hP a 0 (xws_h M hk) rfl hin d (g H locs lr hP hS hl hn)
theorem x_hast (F : xFix E A Y cc own nL) {a : Nat} {i x : Int32} (hk : isH E a) (d : decode cc pc = .ok (.iastore, 1)) (hin : vp_in i 24) (g : WP l E R A Y k n (pc + 1) ls st (upI M a i.toNatClampNeg x)) : WP l E R A Y k n pc ls (vI x :: vI i :: vA a :: st) M := fun H locs lr hP hS hl hn => va_iast F.1 F.2.1 F.2.2.2.2.2.1.1 hP (xD F M) hS a 0 (xws_h M hk) rfl hin d (fun H1 locs1 hP1 _ hS1 => g H1 locs1 lr (by rw [xws_sth hk] at hP1; exact hP1) hS1 hl hn)
theorem x_alen (F : xFix E A Y cc own nL) {a t9 N9 : Nat} {v : Int32} (hk : xk a = (t9, N9)) (ht : t9 = 8 ∨ t9 = 9 ∨ t9 = 11 ∨ t9 = 12) (hv : Int32.ofNat N9 = v) (d : decode cc pc = .ok (.arraylength, 1)) (g : WP l E R A Y k n (pc + 1) ls (vI v :: st) M) : WP l E R A Y k n pc ls (vA a :: st) M := fun H locs lr hP hS hl hn => by
  rcases ht with rfl | rfl | rfl | rfl
  · exact va_alen F.1 F.2.1 F.2.2.2.2.2.1.1 hP a 0 (xws_arr E M hk) rfl hv d (g H locs lr hP hS hl hn)
  · exact va_alen F.1 F.2.1 F.2.2.2.2.2.1.1 hP a 1 (xws_chr E M hk) rfl hv d (g H locs lr hP hS hl hn)
  · exact va_alen F.1 F.2.1 F.2.2.2.2.2.1.1 hP a 2 (xws_chs E M hk) rfl hv d (g H locs lr hP hS hl hn)
  · exact va_alen F.1 F.2.1 F.2.2.2.2.2.1.1 hP a 3 (xws_nds E M hk) rfl hv d (g H locs lr hP hS hl hn)
/-- dead locals are forgotten -/
theorem x_forget {ls' : List xV} (hlen : ls'.length = ls.length) (hl : ∀ (i : Nat) (v : xV), ls'[i]? = some v → xU v = false → ls[i]? = some v) (g : WP l E R A Y k n pc ls' st M) : WP l E R A Y k n pc ls st M := fun H locs lr hP hS hlr hn => g H locs lr hP hS (hlr.le hl) (by rw [hlen]; exact hn)
theorem x_eqM {M' : xM} (h : M = M') (g : WP l E R A Y k n pc ls st M') : WP l E R A Y k n pc ls st M := h ▸ g
end XR
/-- links of calls -/
def xML (own : String) (idx : Nat) (y : MethodName) : Prop := Cond.methodLink own idx y ∈ LW
def xMN (own : String) (idx : Nat) (y : MethodName) : Prop := ∃ host, Cond.methodLinkNest own idx y host ∈ NW
def xMY (y : MethodName) (n : Nat) : Prop := Cond.initialized y.cls ∈ LW ∧ y.cls ≠ "java/lang/invoke/MethodHandle" ∧ y.cls ≠ "java/lang/invoke/VarHandle" ∧ (parseMethodDescriptor y.desc).map (fun d => d.parameters.length) = some n
def xMV (y : MethodName) (cc : ByteArray) (nL : Nat) (rt : Option FieldType) (n : Nat) : Prop := xMY y n ∧ Cond.code y cc nL rt ∈ LW ∧ Cond.instanceMethod y ∈ LW ∧ Cond.selects y.cls y y ∈ LW
def xMS (y : MethodName) (cc : ByteArray) (nL : Nat) (rt : Option FieldType) (n : Nat) : Prop := xMY y n ∧ Cond.code y cc nL rt ∈ LW ∧ Cond.static y ∈ LW
end
section
/-! LINKS: what the entries of the pools mean (fl, fn: fields; ml, mn: methods), and each method's own words (mv, ms), by their places in the tables -/
theorem inW0 : ∀ w ∈ u_ws RX0 TX0 2, w ∈ LW := fun w hw => by
  obtain ⟨k, hk, rfl⟩ := List.mem_map.mp hw
  have hk := List.mem_range.mp hk
  match k, hk with
  | 0, _ => exact LW_of 116 (by decide +kernel) (by decide +kernel)
  | 1, _ => exact LW_of 118 (by decide +kernel) (by decide +kernel)
  | j + 2, h => exact absurd h (by omega)
theorem inW1 : ∀ w ∈ u_ws RX1 TX1 9, w ∈ LW := fun w hw => by
  obtain ⟨k, hk, rfl⟩ := List.mem_map.mp hw
  have hk := List.mem_range.mp hk
  match k, hk with
  | 0, _ => exact LW_of 70 (by decide +kernel) (by decide +kernel)
  | 1, _ => exact LW_of 72 (by decide +kernel) (by decide +kernel)
  | 2, _ => exact LW_of 74 (by decide +kernel) (by decide +kernel)
  | 3, _ => exact LW_of 76 (by decide +kernel) (by decide +kernel)
  | 4, _ => exact LW_of 78 (by decide +kernel) (by decide +kernel)
  | 5, _ => exact LW_of 80 (by decide +kernel) (by decide +kernel)
  | 6, _ => exact LW_of 82 (by decide +kernel) (by decide +kernel)
  | 7, _ => exact LW_of 84 (by decide +kernel) (by decide +kernel)
  | 8, _ => exact LW_of 86 (by decide +kernel) (by decide +kernel)
  | j + 9, h => exact absurd h (by omega)
theorem inW2 : ∀ w ∈ u_ws RX2 TX2 3, w ∈ LW := fun w hw => by
  obtain ⟨k, hk, rfl⟩ := List.mem_map.mp hw
  have hk := List.mem_range.mp hk
  match k, hk with
  | 0, _ => exact LW_of 151 (by decide +kernel) (by decide +kernel)
  | 1, _ => exact LW_of 153 (by decide +kernel) (by decide +kernel)
  | 2, _ => exact LW_of 155 (by decide +kernel) (by decide +kernel)
  | j + 3, h => exact absurd h (by omega)
theorem inW3 : ∀ w ∈ u_ws RX3 TX3 3, w ∈ LW := fun w hw => by
  obtain ⟨k, hk, rfl⟩ := List.mem_map.mp hw
  have hk := List.mem_range.mp hk
  match k, hk with
  | 0, _ => exact LW_of 102 (by decide +kernel) (by decide +kernel)
  | 1, _ => exact LW_of 104 (by decide +kernel) (by decide +kernel)
  | 2, _ => exact LW_of 106 (by decide +kernel) (by decide +kernel)
  | j + 3, h => exact absurd h (by omega)
theorem inW4 : ∀ w ∈ u_ws RX4 TX4 4, w ∈ LW := fun w hw => by
  obtain ⟨k, hk, rfl⟩ := List.mem_map.mp hw
  have hk := List.mem_range.mp hk
  match k, hk with
  | 0, _ => exact LW_of 139 (by decide +kernel) (by decide +kernel)
  | 1, _ => exact LW_of 141 (by decide +kernel) (by decide +kernel)
  | 2, _ => exact LW_of 143 (by decide +kernel) (by decide +kernel)
  | 3, _ => exact LW_of 145 (by decide +kernel) (by decide +kernel)
  | j + 4, h => exact absurd h (by omega)
theorem inW5 : ∀ w ∈ u_ws RX5 TX5 7, w ∈ LW := fun w hw => by
  obtain ⟨k, hk, rfl⟩ := List.mem_map.mp hw
  have hk := List.mem_range.mp hk
  match k, hk with
  | 0, _ => exact LW_of 173 (by decide +kernel) (by decide +kernel)
  | 1, _ => exact LW_of 175 (by decide +kernel) (by decide +kernel)
  | 2, _ => exact LW_of 177 (by decide +kernel) (by decide +kernel)
  | 3, _ => exact LW_of 179 (by decide +kernel) (by decide +kernel)
  | 4, _ => exact LW_of 181 (by decide +kernel) (by decide +kernel)
  | 5, _ => exact LW_of 183 (by decide +kernel) (by decide +kernel)
  | 6, _ => exact LW_of 185 (by decide +kernel) (by decide +kernel)
  | j + 7, h => exact absurd h (by omega)
theorem inW6 : ∀ w ∈ u_ws RX6 TX6 8, w ∈ LW := fun w hw => by
  obtain ⟨k, hk, rfl⟩ := List.mem_map.mp hw
  have hk := List.mem_range.mp hk
  match k, hk with
  | 0, _ => exact LW_of 196 (by decide +kernel) (by decide +kernel)
  | 1, _ => exact LW_of 198 (by decide +kernel) (by decide +kernel)
  | 2, _ => exact LW_of 200 (by decide +kernel) (by decide +kernel)
  | 3, _ => exact LW_of 202 (by decide +kernel) (by decide +kernel)
  | 4, _ => exact LW_of 204 (by decide +kernel) (by decide +kernel)
  | 5, _ => exact LW_of 206 (by decide +kernel) (by decide +kernel)
  | 6, _ => exact LW_of 208 (by decide +kernel) (by decide +kernel)
  | 7, _ => exact LW_of 210 (by decide +kernel) (by decide +kernel)
  | j + 8, h => exact absurd h (by omega)
theorem mlL_143 : xML RL 143 yX6_init := LW_of 46 (by decide +kernel) (by decide +kernel)
theorem flX1_9 : xFL RX1 9 1 0 := ⟨_, _, _, rfl, by decide, inW1, LW_of 58 (by decide +kernel) (by decide +kernel), rfl⟩
theorem flX1_15 : xFL RX1 15 1 1 := ⟨_, _, _, rfl, by decide, inW1, LW_of 59 (by decide +kernel) (by decide +kernel), rfl⟩
theorem flX1_18 : xFL RX1 18 1 2 := ⟨_, _, _, rfl, by decide, inW1, LW_of 60 (by decide +kernel) (by decide +kernel), rfl⟩
theorem flX1_21 : xFL RX1 21 1 3 := ⟨_, _, _, rfl, by decide, inW1, LW_of 61 (by decide +kernel) (by decide +kernel), rfl⟩
theorem flX1_24 : xFL RX1 24 1 4 := ⟨_, _, _, rfl, by decide, inW1, LW_of 62 (by decide +kernel) (by decide +kernel), rfl⟩
theorem flX1_28 : xFL RX1 28 1 5 := ⟨_, _, _, rfl, by decide, inW1, LW_of 63 (by decide +kernel) (by decide +kernel), rfl⟩
theorem flX1_35 : xFL RX1 35 1 6 := ⟨_, _, _, rfl, by decide, inW1, LW_of 64 (by decide +kernel) (by decide +kernel), rfl⟩
theorem fnX6_286 : xFN RX6 286 1 6 := ⟨_, "OddChoir", _, _, rfl, by decide, inW1, NW_of 65 (by decide +kernel) (by decide +kernel), rfl⟩
theorem flX1_38 : xFL RX1 38 1 7 := ⟨_, _, _, rfl, by decide, inW1, LW_of 66 (by decide +kernel) (by decide +kernel), rfl⟩
theorem fnX6_289 : xFN RX6 289 1 7 := ⟨_, "OddChoir", _, _, rfl, by decide, inW1, NW_of 67 (by decide +kernel) (by decide +kernel), rfl⟩
theorem flX1_41 : xFL RX1 41 1 8 := ⟨_, _, _, rfl, by decide, inW1, LW_of 68 (by decide +kernel) (by decide +kernel), rfl⟩
theorem fnX6_292 : xFN RX6 292 1 8 := ⟨_, "OddChoir", _, _, rfl, by decide, inW1, NW_of 69 (by decide +kernel) (by decide +kernel), rfl⟩
theorem mlX6_28 : xML RX6 28 yX3_init := LW_of 92 (by decide +kernel) (by decide +kernel)
theorem flX3_11 : xFL RX3 11 3 0 := ⟨_, _, _, rfl, by decide, inW3, LW_of 99 (by decide +kernel) (by decide +kernel), rfl⟩
theorem flX3_22 : xFL RX3 22 3 1 := ⟨_, _, _, rfl, by decide, inW3, LW_of 100 (by decide +kernel) (by decide +kernel), rfl⟩
theorem flX3_18 : xFL RX3 18 3 2 := ⟨_, _, _, rfl, by decide, inW3, LW_of 101 (by decide +kernel) (by decide +kernel), rfl⟩
theorem flX0_9 : xFL RX0 9 0 0 := ⟨_, _, _, rfl, by decide, inW0, LW_of 115 (by decide +kernel) (by decide +kernel), rfl⟩
theorem mlX6_42 : xML RX6 42 yX2_init := LW_of 124 (by decide +kernel) (by decide +kernel)
theorem fnX2_26 : xFN RX2 26 4 0 := ⟨_, "OddChoir", _, _, rfl, by decide, inW4, NW_of 135 (by decide +kernel) (by decide +kernel), rfl⟩
theorem fnX2_29 : xFN RX2 29 4 1 := ⟨_, "OddChoir", _, _, rfl, by decide, inW4, NW_of 136 (by decide +kernel) (by decide +kernel), rfl⟩
theorem fnX2_35 : xFN RX2 35 4 2 := ⟨_, "OddChoir", _, _, rfl, by decide, inW4, NW_of 137 (by decide +kernel) (by decide +kernel), rfl⟩
theorem fnX2_32 : xFN RX2 32 4 3 := ⟨_, "OddChoir", _, _, rfl, by decide, inW4, NW_of 138 (by decide +kernel) (by decide +kernel), rfl⟩
theorem flX2_11 : xFL RX2 11 2 0 := ⟨_, _, _, rfl, by decide, inW2, LW_of 148 (by decide +kernel) (by decide +kernel), rfl⟩
theorem flX2_18 : xFL RX2 18 2 1 := ⟨_, _, _, rfl, by decide, inW2, LW_of 149 (by decide +kernel) (by decide +kernel), rfl⟩
theorem flX2_22 : xFL RX2 22 2 2 := ⟨_, _, _, rfl, by decide, inW2, LW_of 150 (by decide +kernel) (by decide +kernel), rfl⟩
theorem flX5_9 : xFL RX5 9 5 0 := ⟨_, _, _, rfl, by decide, inW5, LW_of 164 (by decide +kernel) (by decide +kernel), rfl⟩
theorem flX5_15 : xFL RX5 15 5 1 := ⟨_, _, _, rfl, by decide, inW5, LW_of 165 (by decide +kernel) (by decide +kernel), rfl⟩
theorem flX5_18 : xFL RX5 18 5 2 := ⟨_, _, _, rfl, by decide, inW5, LW_of 166 (by decide +kernel) (by decide +kernel), rfl⟩
theorem flX5_33 : xFL RX5 33 5 3 := ⟨_, _, _, rfl, by decide, inW5, LW_of 167 (by decide +kernel) (by decide +kernel), rfl⟩
theorem flX5_40 : xFL RX5 40 5 4 := ⟨_, _, _, rfl, by decide, inW5, LW_of 168 (by decide +kernel) (by decide +kernel), rfl⟩
theorem flX5_47 : xFL RX5 47 5 5 := ⟨_, _, _, rfl, by decide, inW5, LW_of 169 (by decide +kernel) (by decide +kernel), rfl⟩
theorem fnX6_276 : xFN RX6 276 5 5 := ⟨_, "OddChoir", _, _, rfl, by decide, inW5, NW_of 170 (by decide +kernel) (by decide +kernel), rfl⟩
theorem flX5_50 : xFL RX5 50 5 6 := ⟨_, _, _, rfl, by decide, inW5, LW_of 171 (by decide +kernel) (by decide +kernel), rfl⟩
theorem fnX6_280 : xFN RX6 280 5 6 := ⟨_, "OddChoir", _, _, rfl, by decide, inW5, NW_of 172 (by decide +kernel) (by decide +kernel), rfl⟩
theorem flX6_12 : xFL RX6 12 6 0 := ⟨_, _, _, rfl, by decide, inW6, LW_of 188 (by decide +kernel) (by decide +kernel), rfl⟩
theorem flX6_16 : xFL RX6 16 6 1 := ⟨_, _, _, rfl, by decide, inW6, LW_of 189 (by decide +kernel) (by decide +kernel), rfl⟩
theorem flX6_19 : xFL RX6 19 6 2 := ⟨_, _, _, rfl, by decide, inW6, LW_of 190 (by decide +kernel) (by decide +kernel), rfl⟩
theorem flX6_22 : xFL RX6 22 6 3 := ⟨_, _, _, rfl, by decide, inW6, LW_of 191 (by decide +kernel) (by decide +kernel), rfl⟩
theorem flX6_29 : xFL RX6 29 6 4 := ⟨_, _, _, rfl, by decide, inW6, LW_of 192 (by decide +kernel) (by decide +kernel), rfl⟩
theorem flX6_36 : xFL RX6 36 6 5 := ⟨_, _, _, rfl, by decide, inW6, LW_of 193 (by decide +kernel) (by decide +kernel), rfl⟩
theorem flX6_43 : xFL RX6 43 6 6 := ⟨_, _, _, rfl, by decide, inW6, LW_of 194 (by decide +kernel) (by decide +kernel), rfl⟩
theorem flX6_50 : xFL RX6 50 6 7 := ⟨_, _, _, rfl, by decide, inW6, LW_of 195 (by decide +kernel) (by decide +kernel), rfl⟩
theorem mlL_152 : xML RL 152 yL_cell := LW_of 213 (by decide +kernel) (by decide +kernel)
theorem mlL_64 : xML RL 64 yL_low := LW_of 217 (by decide +kernel) (by decide +kernel)
theorem mlL_144 : xML RL 144 yL_isSo := LW_of 221 (by decide +kernel) (by decide +kernel)
theorem mlL_9 : xML RL 9 yL_many := LW_of 224 (by decide +kernel) (by decide +kernel)
theorem mlL_40 : xML RL 40 yL_isSinger := LW_of 227 (by decide +kernel) (by decide +kernel)
theorem mlL_15 : xML RL 15 yL_hears := LW_of 230 (by decide +kernel) (by decide +kernel)
theorem mlL_23 : xML RL 23 yX6_singer := LW_of 233 (by decide +kernel) (by decide +kernel)
theorem mlX6_84 : xML RX6 84 yX6_needSinger := LW_of 237 (by decide +kernel) (by decide +kernel)
theorem mlX6_226 : xML RX6 226 yX1_isTaken := LW_of 241 (by decide +kernel) (by decide +kernel)
theorem mlX1_56 : xML RX1 56 yX1_sizeOf := LW_of 245 (by decide +kernel) (by decide +kernel)
theorem mlX6_123 : xML RX6 123 yX6_needIndex := LW_of 249 (by decide +kernel) (by decide +kernel)
theorem mlX6_61 : xML RX6 61 yX6_isBetween := LW_of 315 (by decide +kernel) (by decide +kernel)
theorem mlX6_65 : xML RX6 65 yX6_needArgument := LW_of 318 (by decide +kernel) (by decide +kernel)
theorem mlX6_168 : xML RX6 168 yX6_ofSinger := LW_of 336 (by decide +kernel) (by decide +kernel)
theorem mlX6_250 : xML RX6 250 yX1_numberAt := LW_of 340 (by decide +kernel) (by decide +kernel)
theorem mlX1_60 : xML RX1 60 yX1_spotAt := LW_of 344 (by decide +kernel) (by decide +kernel)
theorem mnX1_63 : xMN RX1 63 yX6_readCell := ⟨"OddChoir", NW_of 347 (by decide +kernel) (by decide +kernel)⟩
theorem mlX6_92 : xML RX6 92 yX1_heightAt := LW_of 350 (by decide +kernel) (by decide +kernel)
theorem mlX6_253 : xML RX6 253 yX1_voiceAt := LW_of 354 (by decide +kernel) (by decide +kernel)
theorem mlX6_256 : xML RX6 256 yX1_heardBy := LW_of 358 (by decide +kernel) (by decide +kernel)
theorem mlX1_108 : xML RX1 108 yX1_singersBetween := LW_of 362 (by decide +kernel) (by decide +kernel)
theorem mlX1_44 : xML RX1 44 yJ9_min_7cf53 := LW_of 366 (by decide +kernel) (by decide +kernel)
theorem mlX1_98 : xML RX1 98 yJ9_max_7cf53 := LW_of 369 (by decide +kernel) (by decide +kernel)
theorem mlX1_111 : xML RX1 111 yX1_rowBehind := LW_of 372 (by decide +kernel) (by decide +kernel)
theorem mlX6_259 : xML RX6 259 yX1_higherHeardBy := LW_of 376 (by decide +kernel) (by decide +kernel)
theorem mlX1_92 : xML RX1 92 yX1_heightAt := LW_of 380 (by decide +kernel) (by decide +kernel)
theorem mlX1_101 : xML RX1 101 yX1_higherBetween := LW_of 381 (by decide +kernel) (by decide +kernel)
theorem mlX6_262 : xML RX6 262 yX1_higherByTree := LW_of 385 (by decide +kernel) (by decide +kernel)
theorem mlX1_117 : xML RX1 117 yX2_fell := LW_of 389 (by decide +kernel) (by decide +kernel)
theorem mlX1_122 : xML RX1 122 yX1_putBetween := LW_of 393 (by decide +kernel) (by decide +kernel)
theorem mlX1_129 : xML RX1 129 yX2_put := LW_of 397 (by decide +kernel) (by decide +kernel)
theorem mlX2_38 : xML RX2 38 yX2_freshNode := LW_of 401 (by decide +kernel) (by decide +kernel)
theorem mlX1_126 : xML RX1 126 yX2_higherThan := LW_of 405 (by decide +kernel) (by decide +kernel)
theorem mlX2_42 : xML RX2 42 yX2_allBelow := LW_of 409 (by decide +kernel) (by decide +kernel)
theorem mlX6_266 : xML RX6 266 yX1_hearersOf := LW_of 412 (by decide +kernel) (by decide +kernel)
theorem mlX1_114 : xML RX1 114 yX1_rowBefore := LW_of 416 (by decide +kernel) (by decide +kernel)
theorem mlL_29 : xML RL 29 yX6_find := LW_of 420 (by decide +kernel) (by decide +kernel)
theorem mlX6_174 : xML RX6 174 yX1_spotOfNumber := LW_of 424 (by decide +kernel) (by decide +kernel)
theorem mlX1_67 : xML RX1 67 yX1_numberAt := LW_of 428 (by decide +kernel) (by decide +kernel)
theorem mlL_33 : xML RL 33 yX6_written := LW_of 429 (by decide +kernel) (by decide +kernel)
theorem mlX6_54 : xML RX6 54 yX6_needRow := LW_of 433 (by decide +kernel) (by decide +kernel)
theorem mlX6_155 : xML RX6 155 yX1_writtenCode := LW_of 436 (by decide +kernel) (by decide +kernel)
theorem mlX1_139 : xML RX1 139 yX1_writtenLength := LW_of 440 (by decide +kernel) (by decide +kernel)
theorem mlX1_95 : xML RX1 95 yX1_voiceAt := LW_of 444 (by decide +kernel) (by decide +kernel)
theorem mlX1_142 : xML RX1 142 yX1_letterOf := LW_of 445 (by decide +kernel) (by decide +kernel)
theorem mlX1_147 : xML RX1 147 yJ0_length_8abf5 := LW_of 449 (by decide +kernel) (by decide +kernel)
theorem mlJ0_335 : xML RJ0 335 yJ0_coder_7d493 := LW_of 453 (by decide +kernel) (by decide +kernel)
theorem mlX1_153 : xML RX1 153 yJ0_charAt_5068e := LW_of 459 (by decide +kernel) (by decide +kernel)
theorem mlJ0_492 : xML RJ0 492 yJ0_isLatin1_aae02 := LW_of 463 (by decide +kernel) (by decide +kernel)
theorem mlJ0_495 : xML RJ0 495 yJ1_charAt_3b067 := LW_of 467 (by decide +kernel) (by decide +kernel)
theorem mlJ1_9 : xML RJ1 9 yJ0_checkIndex_df160 := LW_of 470 (by decide +kernel) (by decide +kernel)
theorem mlJ0_1059 : xML RJ0 1059 yJ3_checkIndex_8e157 := LW_of 475 (by decide +kernel) (by decide +kernel)
theorem mlJ0_498 : xML RJ0 498 yJ2_charAt_3b067 := LW_of 478 (by decide +kernel) (by decide +kernel)
theorem mlJ2_67 : xML RJ2 67 yJ2_checkIndex_2214a := LW_of 481 (by decide +kernel) (by decide +kernel)
theorem mlJ2_48 : xML RJ2 48 yJ2_length_9d52b := LW_of 484 (by decide +kernel) (by decide +kernel)
theorem mlJ2_414 : xML RJ2 414 yJ0_checkIndex_df160 := LW_of 487 (by decide +kernel) (by decide +kernel)
theorem mlJ2_71 : xML RJ2 71 yJ2_getChar_3b067 := LW_of 488 (by decide +kernel) (by decide +kernel)
theorem mlL_37 : xML RL 37 yL_letter := LW_of 497 (by decide +kernel) (by decide +kernel)
theorem mlL_44 : xML RL 44 yL_most := LW_of 500 (by decide +kernel) (by decide +kernel)
theorem mlL_19 : xML RL 19 yL_odd := LW_of 503 (by decide +kernel) (by decide +kernel)
theorem mlL_47 : xML RL 47 yX6_row := LW_of 506 (by decide +kernel) (by decide +kernel)
theorem mlX6_171 : xML RX6 171 yX6_ofRow := LW_of 510 (by decide +kernel) (by decide +kernel)
theorem mlX6_107 : xML RX6 107 yX1_sizeOf := LW_of 514 (by decide +kernel) (by decide +kernel)
theorem mlX6_269 : xML RX6 269 yX1_oddIn := LW_of 515 (by decide +kernel) (by decide +kernel)
theorem mlX1_133 : xML RX1 133 yX1_higherHeardBy := LW_of 519 (by decide +kernel) (by decide +kernel)
theorem mlX6_120 : xML RX6 120 yX1_discordOf := LW_of 520 (by decide +kernel) (by decide +kernel)
theorem mlX6_272 : xML RX6 272 yX5_goThrough := LW_of 524 (by decide +kernel) (by decide +kernel)
theorem mlX5_21 : xML RX5 21 yX1_sizeOf := LW_of 528 (by decide +kernel) (by decide +kernel)
theorem mlX5_27 : xML RX5 27 yJ9_min_7cf53 := LW_of 529 (by decide +kernel) (by decide +kernel)
theorem mlX5_37 : xML RX5 37 yX1_settingAt := LW_of 530 (by decide +kernel) (by decide +kernel)
theorem mlX5_43 : xML RX5 43 yX5_noteSinger := LW_of 534 (by decide +kernel) (by decide +kernel)
theorem mlX5_57 : xML RX5 57 yX1_heightAt := LW_of 538 (by decide +kernel) (by decide +kernel)
theorem mlX5_60 : xML RX5 60 yX1_higherBehind := LW_of 539 (by decide +kernel) (by decide +kernel)
theorem mnX5_64 : xMN RX5 64 yX6_writeCell := ⟨"OddChoir", NW_of 543 (by decide +kernel) (by decide +kernel)⟩
theorem mlX5_53 : xML RX5 53 yX5_choose := LW_of 546 (by decide +kernel) (by decide +kernel)
theorem mlX5_68 : xML RX5 68 yX5_cannotBeBetter := LW_of 550 (by decide +kernel) (by decide +kernel)
theorem mlX5_72 : xML RX5 72 yX5_heardAt := LW_of 554 (by decide +kernel) (by decide +kernel)
theorem mnX5_83 : xMN RX5 83 yX6_readCell := ⟨"OddChoir", NW_of 558 (by decide +kernel) (by decide +kernel)⟩
theorem mlX5_75 : xML RX5 75 yJ6_bitCount_0f7a4 := LW_of 559 (by decide +kernel) (by decide +kernel)
theorem mlX5_80 : xML RX5 80 yX5_parityOf := LW_of 565 (by decide +kernel) (by decide +kernel)
theorem mlX6_283 : xML RX6 283 yX1_highestOf := LW_of 569 (by decide +kernel) (by decide +kernel)
theorem mlL_50 : xML RL 50 yL_discord := LW_of 573 (by decide +kernel) (by decide +kernel)
theorem mlL_53 : xML RL 53 yX6_count := LW_of 576 (by decide +kernel) (by decide +kernel)
theorem mlX6_177 : xML RX6 177 yX6_ofAll := LW_of 580 (by decide +kernel) (by decide +kernel)
theorem mlX6_165 : xML RX6 165 yX1_sizeOfAll := LW_of 584 (by decide +kernel) (by decide +kernel)
theorem mlX6_103 : xML RX6 103 yX1_oddOfAll := LW_of 588 (by decide +kernel) (by decide +kernel)
theorem mlX1_136 : xML RX1 136 yX1_oddIn := LW_of 592 (by decide +kernel) (by decide +kernel)
theorem mlX6_295 : xML RX6 295 yX1_discordOfAll := LW_of 593 (by decide +kernel) (by decide +kernel)
theorem mlX1_105 : xML RX1 105 yX1_discordOf := LW_of 597 (by decide +kernel) (by decide +kernel)
theorem mlX6_126 : xML RX6 126 yX1_settingAt := LW_of 598 (by decide +kernel) (by decide +kernel)
theorem mlX6_158 : xML RX6 158 yX3_size := LW_of 599 (by decide +kernel) (by decide +kernel)
theorem mlL_56 : xML RL 56 yL_allOdd := LW_of 603 (by decide +kernel) (by decide +kernel)
theorem mlL_60 : xML RL 60 yX6_oddShare := LW_of 606 (by decide +kernel) (by decide +kernel)
theorem mlL_148 : xML RL 148 yL_would := LW_of 611 (by decide +kernel) (by decide +kernel)
theorem mlL_67 : xML RL 67 yL_some := LW_of 614 (by decide +kernel) (by decide +kernel)
theorem mlL_70 : xML RL 70 yL_exchange := LW_of 617 (by decide +kernel) (by decide +kernel)
theorem mlL_74 : xML RL 74 yX6_ifSwapped := LW_of 620 (by decide +kernel) (by decide +kernel)
theorem mlX6_162 : xML RX6 162 yX1_become := LW_of 624 (by decide +kernel) (by decide +kernel)
theorem mlX1_31 : xML RX1 31 yX1_copyCells := LW_of 628 (by decide +kernel) (by decide +kernel)
theorem mlX6_180 : xML RX6 180 yX1_swapPlaces := LW_of 634 (by decide +kernel) (by decide +kernel)
theorem mlX1_85 : xML RX1 85 yX1_swapCells := LW_of 638 (by decide +kernel) (by decide +kernel)
theorem mnX1_74 : xMN RX1 74 yX6_writeCell := ⟨"OddChoir", NW_of 641 (by decide +kernel) (by decide +kernel)⟩
theorem mlL_78 : xML RL 78 yX6_bestSwap := LW_of 642 (by decide +kernel) (by decide +kernel)
theorem mlX6_183 : xML RX6 183 yX6_bestPair := LW_of 646 (by decide +kernel) (by decide +kernel)
theorem mlL_81 : xML RL 81 yX6_bestRow := LW_of 650 (by decide +kernel) (by decide +kernel)
theorem mlX6_58 : xML RX6 58 yX6_needHeight := LW_of 654 (by decide +kernel) (by decide +kernel)
theorem mlX6_186 : xML RX6 186 yX6_bestRowFor := LW_of 657 (by decide +kernel) (by decide +kernel)
theorem mlX6_80 : xML RX6 80 yX1_arrive := LW_of 661 (by decide +kernel) (by decide +kernel)
theorem mlX1_70 : xML RX1 70 yX1_changeSize := LW_of 665 (by decide +kernel) (by decide +kernel)
theorem mlL_84 : xML RL 84 yX6_ifReach := LW_of 669 (by decide +kernel) (by decide +kernel)
theorem mlX6_189 : xML RX6 189 yX6_oddWithReach := LW_of 673 (by decide +kernel) (by decide +kernel)
theorem mlX6_129 : xML RX6 129 yX1_changeSetting := LW_of 677 (by decide +kernel) (by decide +kernel)
theorem mlL_155 : xML RL 155 yL_acts := LW_of 681 (by decide +kernel) (by decide +kernel)
theorem mlL_116 : xML RL 116 yL_joins := LW_of 684 (by decide +kernel) (by decide +kernel)
theorem mlL_87 : xML RL 87 yX6_join := LW_of 687 (by decide +kernel) (by decide +kernel)
theorem mlX6_69 : xML RX6 69 yX1_hasRoomFor := LW_of 691 (by decide +kernel) (by decide +kernel)
theorem mlX6_73 : xML RX6 73 yX6_needState := LW_of 695 (by decide +kernel) (by decide +kernel)
theorem mlX6_76 : xML RX6 76 yX3_save := LW_of 713 (by decide +kernel) (by decide +kernel)
theorem mlX3_25 : xML RX3 25 yX3_slotAt := LW_of 717 (by decide +kernel) (by decide +kernel)
theorem mlX3_33 : xML RX3 33 yJ9_floorMod_7cf53 := LW_of 721 (by decide +kernel) (by decide +kernel)
theorem mlX3_29 : xML RX3 29 yX1_become := LW_of 724 (by decide +kernel) (by decide +kernel)
theorem mlL_120 : xML RL 120 yL_leaves := LW_of 725 (by decide +kernel) (by decide +kernel)
theorem mlL_93 : xML RL 93 yL_closesAll := LW_of 728 (by decide +kernel) (by decide +kernel)
theorem mlL_90 : xML RL 90 yL_closes := LW_of 731 (by decide +kernel) (by decide +kernel)
theorem mlL_97 : xML RL 97 yX6_leave := LW_of 734 (by decide +kernel) (by decide +kernel)
theorem mlX6_88 : xML RX6 88 yX1_dismiss := LW_of 738 (by decide +kernel) (by decide +kernel)
theorem mlX1_78 : xML RX1 78 yX1_moveToRightEnd := LW_of 742 (by decide +kernel) (by decide +kernel)
theorem mlX1_81 : xML RX1 81 yX1_swapPlaces := LW_of 746 (by decide +kernel) (by decide +kernel)
theorem mlL_123 : xML RL 123 yX6_grow := LW_of 747 (by decide +kernel) (by decide +kernel)
theorem mlX6_95 : xML RX6 95 yX1_changeHeight := LW_of 751 (by decide +kernel) (by decide +kernel)
theorem mlL_126 : xML RL 126 yL_swaps := LW_of 755 (by decide +kernel) (by decide +kernel)
theorem mlL_103 : xML RL 103 yL_exchangeAll := LW_of 758 (by decide +kernel) (by decide +kernel)
theorem mlL_107 : xML RL 107 yX6_swap := LW_of 761 (by decide +kernel) (by decide +kernel)
theorem mlX6_99 : xML RX6 99 yX1_swapAndCount := LW_of 765 (by decide +kernel) (by decide +kernel)
theorem mlL_129 : xML RL 129 yL_crosses := LW_of 769 (by decide +kernel) (by decide +kernel)
theorem mlL_100 : xML RL 100 yX6_cross := LW_of 772 (by decide +kernel) (by decide +kernel)
theorem mlX6_111 : xML RX6 111 yX1_moveOver := LW_of 776 (by decide +kernel) (by decide +kernel)
theorem mlL_133 : xML RL 133 yL_turns := LW_of 780 (by decide +kernel) (by decide +kernel)
theorem mlL_110 : xML RL 110 yX6_turn := LW_of 783 (by decide +kernel) (by decide +kernel)
theorem mlX6_114 : xML RX6 114 yX1_turnRound := LW_of 787 (by decide +kernel) (by decide +kernel)
theorem mlL_136 : xML RL 136 yL_sorts := LW_of 791 (by decide +kernel) (by decide +kernel)
theorem mlL_113 : xML RL 113 yX6_sort := LW_of 794 (by decide +kernel) (by decide +kernel)
theorem mlX6_117 : xML RX6 117 yX1_putInOrder := LW_of 798 (by decide +kernel) (by decide +kernel)
theorem mlX1_88 : xML RX1 88 yX1_rankAt := LW_of 802 (by decide +kernel) (by decide +kernel)
theorem mlL_140 : xML RL 140 yX6_set := LW_of 806 (by decide +kernel) (by decide +kernel)
theorem mvX1_become : xMV yX1_become cX1_become 2 none 1 := ⟨⟨LW_of 25 (by decide +kernel) (by decide +kernel), by decide, by decide, by decide +kernel⟩, LW_of 627 (by decide +kernel) (by decide +kernel), LW_of 625 (by decide +kernel) (by decide +kernel), LW_of 626 (by decide +kernel) (by decide +kernel)⟩
theorem msX1_copyCells : xMS yX1_copyCells cX1_copyCells 2 none 2 := ⟨⟨LW_of 25 (by decide +kernel) (by decide +kernel), by decide, by decide, by decide +kernel⟩, LW_of 630 (by decide +kernel) (by decide +kernel), LW_of 629 (by decide +kernel) (by decide +kernel)⟩
theorem mvX1_settingAt : xMV yX1_settingAt cX1_settingAt 2 (some FieldType.int) 1 := ⟨⟨LW_of 25 (by decide +kernel) (by decide +kernel), by decide, by decide, by decide +kernel⟩, LW_of 533 (by decide +kernel) (by decide +kernel), LW_of 531 (by decide +kernel) (by decide +kernel), LW_of 532 (by decide +kernel) (by decide +kernel)⟩
theorem mvX1_changeSetting : xMV yX1_changeSetting cX1_changeSetting 3 none 2 := ⟨⟨LW_of 25 (by decide +kernel) (by decide +kernel), by decide, by decide, by decide +kernel⟩, LW_of 680 (by decide +kernel) (by decide +kernel), LW_of 678 (by decide +kernel) (by decide +kernel), LW_of 679 (by decide +kernel) (by decide +kernel)⟩
theorem mvX1_sizeOf : xMV yX1_sizeOf cX1_sizeOf 2 (some FieldType.int) 1 := ⟨⟨LW_of 25 (by decide +kernel) (by decide +kernel), by decide, by decide, by decide +kernel⟩, LW_of 248 (by decide +kernel) (by decide +kernel), LW_of 246 (by decide +kernel) (by decide +kernel), LW_of 247 (by decide +kernel) (by decide +kernel)⟩
theorem mvX1_sizeOfAll : xMV yX1_sizeOfAll cX1_sizeOfAll 3 (some FieldType.int) 0 := ⟨⟨LW_of 25 (by decide +kernel) (by decide +kernel), by decide, by decide, by decide +kernel⟩, LW_of 587 (by decide +kernel) (by decide +kernel), LW_of 585 (by decide +kernel) (by decide +kernel), LW_of 586 (by decide +kernel) (by decide +kernel)⟩
theorem mvX1_changeSize : xMV yX1_changeSize cX1_changeSize 4 none 2 := ⟨⟨LW_of 25 (by decide +kernel) (by decide +kernel), by decide, by decide, by decide +kernel⟩, LW_of 668 (by decide +kernel) (by decide +kernel), LW_of 667 (by decide +kernel) (by decide +kernel), LW_of 18 (by decide +kernel) (by decide +kernel)⟩
theorem mvX1_isTaken : xMV yX1_isTaken cX1_isTaken 3 (some FieldType.boolean) 2 := ⟨⟨LW_of 25 (by decide +kernel) (by decide +kernel), by decide, by decide, by decide +kernel⟩, LW_of 244 (by decide +kernel) (by decide +kernel), LW_of 242 (by decide +kernel) (by decide +kernel), LW_of 243 (by decide +kernel) (by decide +kernel)⟩
theorem mvX1_hasRoomFor : xMV yX1_hasRoomFor cX1_hasRoomFor 2 (some FieldType.boolean) 1 := ⟨⟨LW_of 25 (by decide +kernel) (by decide +kernel), by decide, by decide, by decide +kernel⟩, LW_of 694 (by decide +kernel) (by decide +kernel), LW_of 692 (by decide +kernel) (by decide +kernel), LW_of 693 (by decide +kernel) (by decide +kernel)⟩
theorem msX1_spotAt : xMS yX1_spotAt cX1_spotAt 2 (some FieldType.int) 2 := ⟨⟨LW_of 25 (by decide +kernel) (by decide +kernel), by decide, by decide, by decide +kernel⟩, LW_of 346 (by decide +kernel) (by decide +kernel), LW_of 345 (by decide +kernel) (by decide +kernel)⟩
theorem mvX1_numberAt : xMV yX1_numberAt cX1_numberAt 3 (some FieldType.int) 2 := ⟨⟨LW_of 25 (by decide +kernel) (by decide +kernel), by decide, by decide, by decide +kernel⟩, LW_of 343 (by decide +kernel) (by decide +kernel), LW_of 341 (by decide +kernel) (by decide +kernel), LW_of 342 (by decide +kernel) (by decide +kernel)⟩
theorem mvX1_heightAt : xMV yX1_heightAt cX1_heightAt 3 (some FieldType.int) 2 := ⟨⟨LW_of 25 (by decide +kernel) (by decide +kernel), by decide, by decide, by decide +kernel⟩, LW_of 353 (by decide +kernel) (by decide +kernel), LW_of 351 (by decide +kernel) (by decide +kernel), LW_of 352 (by decide +kernel) (by decide +kernel)⟩
theorem mvX1_voiceAt : xMV yX1_voiceAt cX1_voiceAt 3 (some FieldType.int) 2 := ⟨⟨LW_of 25 (by decide +kernel) (by decide +kernel), by decide, by decide, by decide +kernel⟩, LW_of 357 (by decide +kernel) (by decide +kernel), LW_of 355 (by decide +kernel) (by decide +kernel), LW_of 356 (by decide +kernel) (by decide +kernel)⟩
theorem mvX1_spotOfNumber : xMV yX1_spotOfNumber cX1_spotOfNumber 4 (some FieldType.int) 1 := ⟨⟨LW_of 25 (by decide +kernel) (by decide +kernel), by decide, by decide, by decide +kernel⟩, LW_of 427 (by decide +kernel) (by decide +kernel), LW_of 425 (by decide +kernel) (by decide +kernel), LW_of 426 (by decide +kernel) (by decide +kernel)⟩
theorem mvX1_arrive : xMV yX1_arrive cX1_arrive 7 (some FieldType.int) 3 := ⟨⟨LW_of 25 (by decide +kernel) (by decide +kernel), by decide, by decide, by decide +kernel⟩, LW_of 664 (by decide +kernel) (by decide +kernel), LW_of 662 (by decide +kernel) (by decide +kernel), LW_of 663 (by decide +kernel) (by decide +kernel)⟩
theorem mvX1_dismiss : xMV yX1_dismiss cX1_dismiss 4 (some FieldType.int) 2 := ⟨⟨LW_of 25 (by decide +kernel) (by decide +kernel), by decide, by decide, by decide +kernel⟩, LW_of 741 (by decide +kernel) (by decide +kernel), LW_of 739 (by decide +kernel) (by decide +kernel), LW_of 740 (by decide +kernel) (by decide +kernel)⟩
theorem mvX1_moveOver : xMV yX1_moveOver cX1_moveOver 5 (some FieldType.int) 3 := ⟨⟨LW_of 25 (by decide +kernel) (by decide +kernel), by decide, by decide, by decide +kernel⟩, LW_of 779 (by decide +kernel) (by decide +kernel), LW_of 777 (by decide +kernel) (by decide +kernel), LW_of 778 (by decide +kernel) (by decide +kernel)⟩
theorem mvX1_moveToRightEnd : xMV yX1_moveToRightEnd cX1_moveToRightEnd 4 none 2 := ⟨⟨LW_of 25 (by decide +kernel) (by decide +kernel), by decide, by decide, by decide +kernel⟩, LW_of 745 (by decide +kernel) (by decide +kernel), LW_of 744 (by decide +kernel) (by decide +kernel), LW_of 21 (by decide +kernel) (by decide +kernel)⟩
theorem mvX1_changeHeight : xMV yX1_changeHeight cX1_changeHeight 4 none 3 := ⟨⟨LW_of 25 (by decide +kernel) (by decide +kernel), by decide, by decide, by decide +kernel⟩, LW_of 754 (by decide +kernel) (by decide +kernel), LW_of 752 (by decide +kernel) (by decide +kernel), LW_of 753 (by decide +kernel) (by decide +kernel)⟩
theorem mvX1_swapPlaces : xMV yX1_swapPlaces cX1_swapPlaces 7 none 4 := ⟨⟨LW_of 25 (by decide +kernel) (by decide +kernel), by decide, by decide, by decide +kernel⟩, LW_of 637 (by decide +kernel) (by decide +kernel), LW_of 635 (by decide +kernel) (by decide +kernel), LW_of 636 (by decide +kernel) (by decide +kernel)⟩
theorem msX1_swapCells : xMS yX1_swapCells cX1_swapCells 4 none 3 := ⟨⟨LW_of 25 (by decide +kernel) (by decide +kernel), by decide, by decide, by decide +kernel⟩, LW_of 640 (by decide +kernel) (by decide +kernel), LW_of 639 (by decide +kernel) (by decide +kernel)⟩
theorem mvX1_swapAndCount : xMV yX1_swapAndCount cX1_swapAndCount 5 none 4 := ⟨⟨LW_of 25 (by decide +kernel) (by decide +kernel), by decide, by decide, by decide +kernel⟩, LW_of 768 (by decide +kernel) (by decide +kernel), LW_of 766 (by decide +kernel) (by decide +kernel), LW_of 767 (by decide +kernel) (by decide +kernel)⟩
theorem mvX1_turnRound : xMV yX1_turnRound cX1_turnRound 4 none 1 := ⟨⟨LW_of 25 (by decide +kernel) (by decide +kernel), by decide, by decide, by decide +kernel⟩, LW_of 790 (by decide +kernel) (by decide +kernel), LW_of 788 (by decide +kernel) (by decide +kernel), LW_of 789 (by decide +kernel) (by decide +kernel)⟩
theorem mvX1_putInOrder : xMV yX1_putInOrder cX1_putInOrder 5 none 2 := ⟨⟨LW_of 25 (by decide +kernel) (by decide +kernel), by decide, by decide, by decide +kernel⟩, LW_of 801 (by decide +kernel) (by decide +kernel), LW_of 799 (by decide +kernel) (by decide +kernel), LW_of 800 (by decide +kernel) (by decide +kernel)⟩
theorem mvX1_rankAt : xMV yX1_rankAt cX1_rankAt 4 (some FieldType.int) 3 := ⟨⟨LW_of 25 (by decide +kernel) (by decide +kernel), by decide, by decide, by decide +kernel⟩, LW_of 805 (by decide +kernel) (by decide +kernel), LW_of 804 (by decide +kernel) (by decide +kernel), LW_of 22 (by decide +kernel) (by decide +kernel)⟩
theorem mvX1_highestOf : xMV yX1_highestOf cX1_highestOf 4 (some FieldType.int) 1 := ⟨⟨LW_of 25 (by decide +kernel) (by decide +kernel), by decide, by decide, by decide +kernel⟩, LW_of 572 (by decide +kernel) (by decide +kernel), LW_of 570 (by decide +kernel) (by decide +kernel), LW_of 571 (by decide +kernel) (by decide +kernel)⟩
theorem mvX1_discordOf : xMV yX1_discordOf cX1_discordOf 4 (some FieldType.int) 1 := ⟨⟨LW_of 25 (by decide +kernel) (by decide +kernel), by decide, by decide, by decide +kernel⟩, LW_of 523 (by decide +kernel) (by decide +kernel), LW_of 521 (by decide +kernel) (by decide +kernel), LW_of 522 (by decide +kernel) (by decide +kernel)⟩
theorem mvX1_discordOfAll : xMV yX1_discordOfAll cX1_discordOfAll 3 (some FieldType.int) 0 := ⟨⟨LW_of 25 (by decide +kernel) (by decide +kernel), by decide, by decide, by decide +kernel⟩, LW_of 596 (by decide +kernel) (by decide +kernel), LW_of 594 (by decide +kernel) (by decide +kernel), LW_of 595 (by decide +kernel) (by decide +kernel)⟩
theorem mvX1_rowBehind : xMV yX1_rowBehind cX1_rowBehind 2 (some FieldType.int) 1 := ⟨⟨LW_of 25 (by decide +kernel) (by decide +kernel), by decide, by decide, by decide +kernel⟩, LW_of 375 (by decide +kernel) (by decide +kernel), LW_of 374 (by decide +kernel) (by decide +kernel), LW_of 4 (by decide +kernel) (by decide +kernel)⟩
theorem mvX1_rowBefore : xMV yX1_rowBefore cX1_rowBefore 2 (some FieldType.int) 1 := ⟨⟨LW_of 25 (by decide +kernel) (by decide +kernel), by decide, by decide, by decide +kernel⟩, LW_of 419 (by decide +kernel) (by decide +kernel), LW_of 418 (by decide +kernel) (by decide +kernel), LW_of 8 (by decide +kernel) (by decide +kernel)⟩
theorem mvX1_heardBy : xMV yX1_heardBy cX1_heardBy 3 (some FieldType.int) 2 := ⟨⟨LW_of 25 (by decide +kernel) (by decide +kernel), by decide, by decide, by decide +kernel⟩, LW_of 361 (by decide +kernel) (by decide +kernel), LW_of 359 (by decide +kernel) (by decide +kernel), LW_of 360 (by decide +kernel) (by decide +kernel)⟩
theorem mvX1_hearersOf : xMV yX1_hearersOf cX1_hearersOf 3 (some FieldType.int) 2 := ⟨⟨LW_of 25 (by decide +kernel) (by decide +kernel), by decide, by decide, by decide +kernel⟩, LW_of 415 (by decide +kernel) (by decide +kernel), LW_of 413 (by decide +kernel) (by decide +kernel), LW_of 414 (by decide +kernel) (by decide +kernel)⟩
theorem mvX1_higherHeardBy : xMV yX1_higherHeardBy cX1_higherHeardBy 4 (some FieldType.int) 2 := ⟨⟨LW_of 25 (by decide +kernel) (by decide +kernel), by decide, by decide, by decide +kernel⟩, LW_of 379 (by decide +kernel) (by decide +kernel), LW_of 377 (by decide +kernel) (by decide +kernel), LW_of 378 (by decide +kernel) (by decide +kernel)⟩
theorem mvX1_higherBehind : xMV yX1_higherBehind cX1_higherBehind 4 (some FieldType.int) 3 := ⟨⟨LW_of 25 (by decide +kernel) (by decide +kernel), by decide, by decide, by decide +kernel⟩, LW_of 542 (by decide +kernel) (by decide +kernel), LW_of 540 (by decide +kernel) (by decide +kernel), LW_of 541 (by decide +kernel) (by decide +kernel)⟩
theorem mvX1_higherByTree : xMV yX1_higherByTree cX1_higherByTree 4 (some FieldType.int) 3 := ⟨⟨LW_of 25 (by decide +kernel) (by decide +kernel), by decide, by decide, by decide +kernel⟩, LW_of 388 (by decide +kernel) (by decide +kernel), LW_of 386 (by decide +kernel) (by decide +kernel), LW_of 387 (by decide +kernel) (by decide +kernel)⟩
theorem mvX1_singersBetween : xMV yX1_singersBetween cX1_singersBetween 4 (some FieldType.int) 3 := ⟨⟨LW_of 25 (by decide +kernel) (by decide +kernel), by decide, by decide, by decide +kernel⟩, LW_of 365 (by decide +kernel) (by decide +kernel), LW_of 364 (by decide +kernel) (by decide +kernel), LW_of 3 (by decide +kernel) (by decide +kernel)⟩
theorem mvX1_higherBetween : xMV yX1_higherBetween cX1_higherBetween 8 (some FieldType.int) 4 := ⟨⟨LW_of 25 (by decide +kernel) (by decide +kernel), by decide, by decide, by decide +kernel⟩, LW_of 384 (by decide +kernel) (by decide +kernel), LW_of 383 (by decide +kernel) (by decide +kernel), LW_of 5 (by decide +kernel) (by decide +kernel)⟩
theorem mvX1_putBetween : xMV yX1_putBetween cX1_putBetween 7 none 4 := ⟨⟨LW_of 25 (by decide +kernel) (by decide +kernel), by decide, by decide, by decide +kernel⟩, LW_of 396 (by decide +kernel) (by decide +kernel), LW_of 395 (by decide +kernel) (by decide +kernel), LW_of 6 (by decide +kernel) (by decide +kernel)⟩
theorem mvX1_oddIn : xMV yX1_oddIn cX1_oddIn 4 (some FieldType.int) 1 := ⟨⟨LW_of 25 (by decide +kernel) (by decide +kernel), by decide, by decide, by decide +kernel⟩, LW_of 518 (by decide +kernel) (by decide +kernel), LW_of 516 (by decide +kernel) (by decide +kernel), LW_of 517 (by decide +kernel) (by decide +kernel)⟩
theorem mvX1_oddOfAll : xMV yX1_oddOfAll cX1_oddOfAll 3 (some FieldType.int) 0 := ⟨⟨LW_of 25 (by decide +kernel) (by decide +kernel), by decide, by decide, by decide +kernel⟩, LW_of 591 (by decide +kernel) (by decide +kernel), LW_of 589 (by decide +kernel) (by decide +kernel), LW_of 590 (by decide +kernel) (by decide +kernel)⟩
theorem mvX1_writtenLength : xMV yX1_writtenLength cX1_writtenLength 2 (some FieldType.int) 1 := ⟨⟨LW_of 25 (by decide +kernel) (by decide +kernel), by decide, by decide, by decide +kernel⟩, LW_of 443 (by decide +kernel) (by decide +kernel), LW_of 441 (by decide +kernel) (by decide +kernel), LW_of 442 (by decide +kernel) (by decide +kernel)⟩
theorem mvX1_writtenCode : xMV yX1_writtenCode cX1_writtenCode 5 (some FieldType.int) 2 := ⟨⟨LW_of 25 (by decide +kernel) (by decide +kernel), by decide, by decide, by decide +kernel⟩, LW_of 439 (by decide +kernel) (by decide +kernel), LW_of 437 (by decide +kernel) (by decide +kernel), LW_of 438 (by decide +kernel) (by decide +kernel)⟩
theorem msX1_letterOf : xMS yX1_letterOf cX1_letterOf 1 (some FieldType.int) 1 := ⟨⟨LW_of 25 (by decide +kernel) (by decide +kernel), by decide, by decide, by decide +kernel⟩, LW_of 447 (by decide +kernel) (by decide +kernel), LW_of 446 (by decide +kernel) (by decide +kernel)⟩
theorem mvX2_fell : xMV yX2_fell cX2_fell 1 none 0 := ⟨⟨LW_of 28 (by decide +kernel) (by decide +kernel), by decide, by decide, by decide +kernel⟩, LW_of 392 (by decide +kernel) (by decide +kernel), LW_of 390 (by decide +kernel) (by decide +kernel), LW_of 391 (by decide +kernel) (by decide +kernel)⟩
theorem mvX2_put : xMV yX2_put cX2_put 5 none 1 := ⟨⟨LW_of 28 (by decide +kernel) (by decide +kernel), by decide, by decide, by decide +kernel⟩, LW_of 400 (by decide +kernel) (by decide +kernel), LW_of 398 (by decide +kernel) (by decide +kernel), LW_of 399 (by decide +kernel) (by decide +kernel)⟩
theorem mvX2_freshNode : xMV yX2_freshNode cX2_freshNode 3 (some (FieldType.object "OddChoir$Node")) 1 := ⟨⟨LW_of 28 (by decide +kernel) (by decide +kernel), by decide, by decide, by decide +kernel⟩, LW_of 404 (by decide +kernel) (by decide +kernel), LW_of 403 (by decide +kernel) (by decide +kernel), LW_of 7 (by decide +kernel) (by decide +kernel)⟩
theorem mvX2_higherThan : xMV yX2_higherThan cX2_higherThan 5 (some FieldType.int) 1 := ⟨⟨LW_of 28 (by decide +kernel) (by decide +kernel), by decide, by decide, by decide +kernel⟩, LW_of 408 (by decide +kernel) (by decide +kernel), LW_of 406 (by decide +kernel) (by decide +kernel), LW_of 407 (by decide +kernel) (by decide +kernel)⟩
theorem msX2_allBelow : xMS yX2_allBelow cX2_allBelow 2 (some FieldType.int) 2 := ⟨⟨LW_of 28 (by decide +kernel) (by decide +kernel), by decide, by decide, by decide +kernel⟩, LW_of 411 (by decide +kernel) (by decide +kernel), LW_of 410 (by decide +kernel) (by decide +kernel)⟩
theorem mvX3_size : xMV yX3_size cX3_size 1 (some FieldType.int) 0 := ⟨⟨LW_of 26 (by decide +kernel) (by decide +kernel), by decide, by decide, by decide +kernel⟩, LW_of 602 (by decide +kernel) (by decide +kernel), LW_of 600 (by decide +kernel) (by decide +kernel), LW_of 601 (by decide +kernel) (by decide +kernel)⟩
theorem mvX3_save : xMV yX3_save cX3_save 3 none 1 := ⟨⟨LW_of 26 (by decide +kernel) (by decide +kernel), by decide, by decide, by decide +kernel⟩, LW_of 716 (by decide +kernel) (by decide +kernel), LW_of 714 (by decide +kernel) (by decide +kernel), LW_of 715 (by decide +kernel) (by decide +kernel)⟩
theorem mvX3_slotAt : xMV yX3_slotAt cX3_slotAt 3 (some (FieldType.object "OddChoir$Choir")) 1 := ⟨⟨LW_of 26 (by decide +kernel) (by decide +kernel), by decide, by decide, by decide +kernel⟩, LW_of 720 (by decide +kernel) (by decide +kernel), LW_of 719 (by decide +kernel) (by decide +kernel), LW_of 20 (by decide +kernel) (by decide +kernel)⟩
theorem mvX5_goThrough : xMV yX5_goThrough cX5_goThrough 4 none 2 := ⟨⟨LW_of 30 (by decide +kernel) (by decide +kernel), by decide, by decide, by decide +kernel⟩, LW_of 527 (by decide +kernel) (by decide +kernel), LW_of 525 (by decide +kernel) (by decide +kernel), LW_of 526 (by decide +kernel) (by decide +kernel)⟩
theorem mvX5_noteSinger : xMV yX5_noteSinger cX5_noteSinger 8 none 3 := ⟨⟨LW_of 30 (by decide +kernel) (by decide +kernel), by decide, by decide, by decide +kernel⟩, LW_of 537 (by decide +kernel) (by decide +kernel), LW_of 536 (by decide +kernel) (by decide +kernel), LW_of 10 (by decide +kernel) (by decide +kernel)⟩
theorem mvX5_choose : xMV yX5_choose cX5_choose 9 none 4 := ⟨⟨LW_of 30 (by decide +kernel) (by decide +kernel), by decide, by decide, by decide +kernel⟩, LW_of 549 (by decide +kernel) (by decide +kernel), LW_of 548 (by decide +kernel) (by decide +kernel), LW_of 11 (by decide +kernel) (by decide +kernel)⟩
theorem mvX5_cannotBeBetter : xMV yX5_cannotBeBetter cX5_cannotBeBetter 3 (some FieldType.boolean) 2 := ⟨⟨LW_of 30 (by decide +kernel) (by decide +kernel), by decide, by decide, by decide +kernel⟩, LW_of 553 (by decide +kernel) (by decide +kernel), LW_of 552 (by decide +kernel) (by decide +kernel), LW_of 12 (by decide +kernel) (by decide +kernel)⟩
theorem mvX5_heardAt : xMV yX5_heardAt cX5_heardAt 5 (some FieldType.int) 2 := ⟨⟨LW_of 30 (by decide +kernel) (by decide +kernel), by decide, by decide, by decide +kernel⟩, LW_of 557 (by decide +kernel) (by decide +kernel), LW_of 556 (by decide +kernel) (by decide +kernel), LW_of 13 (by decide +kernel) (by decide +kernel)⟩
theorem mvX5_parityOf : xMV yX5_parityOf cX5_parityOf 5 (some FieldType.int) 3 := ⟨⟨LW_of 30 (by decide +kernel) (by decide +kernel), by decide, by decide, by decide +kernel⟩, LW_of 568 (by decide +kernel) (by decide +kernel), LW_of 567 (by decide +kernel) (by decide +kernel), LW_of 14 (by decide +kernel) (by decide +kernel)⟩
theorem mvX6_join : xMV yX6_join cX6_join 4 (some FieldType.int) 3 := ⟨⟨LW_of 24 (by decide +kernel) (by decide +kernel), by decide, by decide, by decide +kernel⟩, LW_of 690 (by decide +kernel) (by decide +kernel), LW_of 688 (by decide +kernel) (by decide +kernel), LW_of 689 (by decide +kernel) (by decide +kernel)⟩
theorem mvX6_leave : xMV yX6_leave cX6_leave 3 (some FieldType.int) 2 := ⟨⟨LW_of 24 (by decide +kernel) (by decide +kernel), by decide, by decide, by decide +kernel⟩, LW_of 737 (by decide +kernel) (by decide +kernel), LW_of 735 (by decide +kernel) (by decide +kernel), LW_of 736 (by decide +kernel) (by decide +kernel)⟩
theorem mvX6_grow : xMV yX6_grow cX6_grow 5 (some FieldType.int) 3 := ⟨⟨LW_of 24 (by decide +kernel) (by decide +kernel), by decide, by decide, by decide +kernel⟩, LW_of 750 (by decide +kernel) (by decide +kernel), LW_of 748 (by decide +kernel) (by decide +kernel), LW_of 749 (by decide +kernel) (by decide +kernel)⟩
theorem mvX6_swap : xMV yX6_swap cX6_swap 5 (some FieldType.int) 4 := ⟨⟨LW_of 24 (by decide +kernel) (by decide +kernel), by decide, by decide, by decide +kernel⟩, LW_of 764 (by decide +kernel) (by decide +kernel), LW_of 762 (by decide +kernel) (by decide +kernel), LW_of 763 (by decide +kernel) (by decide +kernel)⟩
theorem mvX6_cross : xMV yX6_cross cX6_cross 4 (some FieldType.int) 3 := ⟨⟨LW_of 24 (by decide +kernel) (by decide +kernel), by decide, by decide, by decide +kernel⟩, LW_of 775 (by decide +kernel) (by decide +kernel), LW_of 773 (by decide +kernel) (by decide +kernel), LW_of 774 (by decide +kernel) (by decide +kernel)⟩
theorem mvX6_turn : xMV yX6_turn cX6_turn 2 (some FieldType.int) 1 := ⟨⟨LW_of 24 (by decide +kernel) (by decide +kernel), by decide, by decide, by decide +kernel⟩, LW_of 786 (by decide +kernel) (by decide +kernel), LW_of 784 (by decide +kernel) (by decide +kernel), LW_of 785 (by decide +kernel) (by decide +kernel)⟩
theorem mvX6_sort : xMV yX6_sort cX6_sort 3 (some FieldType.int) 2 := ⟨⟨LW_of 24 (by decide +kernel) (by decide +kernel), by decide, by decide, by decide +kernel⟩, LW_of 797 (by decide +kernel) (by decide +kernel), LW_of 795 (by decide +kernel) (by decide +kernel), LW_of 796 (by decide +kernel) (by decide +kernel)⟩
theorem mvX6_set : xMV yX6_set cX6_set 4 (some FieldType.int) 2 := ⟨⟨LW_of 24 (by decide +kernel) (by decide +kernel), by decide, by decide, by decide +kernel⟩, LW_of 809 (by decide +kernel) (by decide +kernel), LW_of 807 (by decide +kernel) (by decide +kernel), LW_of 808 (by decide +kernel) (by decide +kernel)⟩
theorem mvX6_written : xMV yX6_written cX6_written 3 (some FieldType.int) 2 := ⟨⟨LW_of 24 (by decide +kernel) (by decide +kernel), by decide, by decide, by decide +kernel⟩, LW_of 432 (by decide +kernel) (by decide +kernel), LW_of 430 (by decide +kernel) (by decide +kernel), LW_of 431 (by decide +kernel) (by decide +kernel)⟩
theorem mvX6_singer : xMV yX6_singer cX6_singer 4 (some FieldType.int) 3 := ⟨⟨LW_of 24 (by decide +kernel) (by decide +kernel), by decide, by decide, by decide +kernel⟩, LW_of 236 (by decide +kernel) (by decide +kernel), LW_of 234 (by decide +kernel) (by decide +kernel), LW_of 235 (by decide +kernel) (by decide +kernel)⟩
theorem mvX6_row : xMV yX6_row cX6_row 3 (some FieldType.int) 2 := ⟨⟨LW_of 24 (by decide +kernel) (by decide +kernel), by decide, by decide, by decide +kernel⟩, LW_of 509 (by decide +kernel) (by decide +kernel), LW_of 507 (by decide +kernel) (by decide +kernel), LW_of 508 (by decide +kernel) (by decide +kernel)⟩
theorem mvX6_find : xMV yX6_find cX6_find 2 (some FieldType.int) 1 := ⟨⟨LW_of 24 (by decide +kernel) (by decide +kernel), by decide, by decide, by decide +kernel⟩, LW_of 423 (by decide +kernel) (by decide +kernel), LW_of 421 (by decide +kernel) (by decide +kernel), LW_of 422 (by decide +kernel) (by decide +kernel)⟩
theorem mvX6_count : xMV yX6_count cX6_count 2 (some FieldType.int) 1 := ⟨⟨LW_of 24 (by decide +kernel) (by decide +kernel), by decide, by decide, by decide +kernel⟩, LW_of 579 (by decide +kernel) (by decide +kernel), LW_of 577 (by decide +kernel) (by decide +kernel), LW_of 578 (by decide +kernel) (by decide +kernel)⟩
theorem mvX6_ifSwapped : xMV yX6_ifSwapped cX6_ifSwapped 5 (some FieldType.int) 4 := ⟨⟨LW_of 24 (by decide +kernel) (by decide +kernel), by decide, by decide, by decide +kernel⟩, LW_of 623 (by decide +kernel) (by decide +kernel), LW_of 621 (by decide +kernel) (by decide +kernel), LW_of 622 (by decide +kernel) (by decide +kernel)⟩
theorem mvX6_bestSwap : xMV yX6_bestSwap cX6_bestSwap 2 (some FieldType.int) 1 := ⟨⟨LW_of 24 (by decide +kernel) (by decide +kernel), by decide, by decide, by decide +kernel⟩, LW_of 645 (by decide +kernel) (by decide +kernel), LW_of 643 (by decide +kernel) (by decide +kernel), LW_of 644 (by decide +kernel) (by decide +kernel)⟩
theorem mvX6_bestRow : xMV yX6_bestRow cX6_bestRow 2 (some FieldType.int) 1 := ⟨⟨LW_of 24 (by decide +kernel) (by decide +kernel), by decide, by decide, by decide +kernel⟩, LW_of 653 (by decide +kernel) (by decide +kernel), LW_of 651 (by decide +kernel) (by decide +kernel), LW_of 652 (by decide +kernel) (by decide +kernel)⟩
theorem mvX6_ifReach : xMV yX6_ifReach cX6_ifReach 2 (some FieldType.int) 1 := ⟨⟨LW_of 24 (by decide +kernel) (by decide +kernel), by decide, by decide, by decide +kernel⟩, LW_of 672 (by decide +kernel) (by decide +kernel), LW_of 670 (by decide +kernel) (by decide +kernel), LW_of 671 (by decide +kernel) (by decide +kernel)⟩
theorem mvX6_oddShare : xMV yX6_oddShare cX6_oddShare 2 (some FieldType.double) 0 := ⟨⟨LW_of 24 (by decide +kernel) (by decide +kernel), by decide, by decide, by decide +kernel⟩, LW_of 609 (by decide +kernel) (by decide +kernel), LW_of 607 (by decide +kernel) (by decide +kernel), LW_of 608 (by decide +kernel) (by decide +kernel)⟩
theorem msX6_needIndex : xMS yX6_needIndex cX6_needIndex 1 none 1 := ⟨⟨LW_of 24 (by decide +kernel) (by decide +kernel), by decide, by decide, by decide +kernel⟩, LW_of 251 (by decide +kernel) (by decide +kernel), LW_of 250 (by decide +kernel) (by decide +kernel)⟩
theorem msX6_needArgument : xMS yX6_needArgument cX6_needArgument 1 none 1 := ⟨⟨LW_of 24 (by decide +kernel) (by decide +kernel), by decide, by decide, by decide +kernel⟩, LW_of 320 (by decide +kernel) (by decide +kernel), LW_of 319 (by decide +kernel) (by decide +kernel)⟩
theorem msX6_needState : xMS yX6_needState cX6_needState 1 none 1 := ⟨⟨LW_of 24 (by decide +kernel) (by decide +kernel), by decide, by decide, by decide +kernel⟩, LW_of 697 (by decide +kernel) (by decide +kernel), LW_of 696 (by decide +kernel) (by decide +kernel)⟩
theorem msX6_needRow : xMS yX6_needRow cX6_needRow 1 none 1 := ⟨⟨LW_of 24 (by decide +kernel) (by decide +kernel), by decide, by decide, by decide +kernel⟩, LW_of 435 (by decide +kernel) (by decide +kernel), LW_of 434 (by decide +kernel) (by decide +kernel)⟩
theorem mvX6_needSinger : xMV yX6_needSinger cX6_needSinger 3 none 2 := ⟨⟨LW_of 24 (by decide +kernel) (by decide +kernel), by decide, by decide, by decide +kernel⟩, LW_of 240 (by decide +kernel) (by decide +kernel), LW_of 239 (by decide +kernel) (by decide +kernel), LW_of 0 (by decide +kernel) (by decide +kernel)⟩
theorem msX6_needHeight : xMS yX6_needHeight cX6_needHeight 1 none 1 := ⟨⟨LW_of 24 (by decide +kernel) (by decide +kernel), by decide, by decide, by decide +kernel⟩, LW_of 656 (by decide +kernel) (by decide +kernel), LW_of 655 (by decide +kernel) (by decide +kernel)⟩
theorem msX6_isBetween : xMS yX6_isBetween cX6_isBetween 3 (some FieldType.boolean) 3 := ⟨⟨LW_of 24 (by decide +kernel) (by decide +kernel), by decide, by decide, by decide +kernel⟩, LW_of 317 (by decide +kernel) (by decide +kernel), LW_of 316 (by decide +kernel) (by decide +kernel)⟩
theorem msX6_readCell : xMS yX6_readCell cX6_readCell 2 (some FieldType.int) 2 := ⟨⟨LW_of 24 (by decide +kernel) (by decide +kernel), by decide, by decide, by decide +kernel⟩, LW_of 349 (by decide +kernel) (by decide +kernel), LW_of 348 (by decide +kernel) (by decide +kernel)⟩
theorem msX6_writeCell : xMS yX6_writeCell cX6_writeCell 3 none 3 := ⟨⟨LW_of 24 (by decide +kernel) (by decide +kernel), by decide, by decide, by decide +kernel⟩, LW_of 545 (by decide +kernel) (by decide +kernel), LW_of 544 (by decide +kernel) (by decide +kernel)⟩
theorem mvX6_ofSinger : xMV yX6_ofSinger cX6_ofSinger 4 (some FieldType.int) 3 := ⟨⟨LW_of 24 (by decide +kernel) (by decide +kernel), by decide, by decide, by decide +kernel⟩, LW_of 339 (by decide +kernel) (by decide +kernel), LW_of 338 (by decide +kernel) (by decide +kernel), LW_of 2 (by decide +kernel) (by decide +kernel)⟩
theorem mvX6_ofRow : xMV yX6_ofRow cX6_ofRow 3 (some FieldType.int) 2 := ⟨⟨LW_of 24 (by decide +kernel) (by decide +kernel), by decide, by decide, by decide +kernel⟩, LW_of 513 (by decide +kernel) (by decide +kernel), LW_of 512 (by decide +kernel) (by decide +kernel), LW_of 9 (by decide +kernel) (by decide +kernel)⟩
theorem mvX6_ofAll : xMV yX6_ofAll cX6_ofAll 2 (some FieldType.int) 1 := ⟨⟨LW_of 24 (by decide +kernel) (by decide +kernel), by decide, by decide, by decide +kernel⟩, LW_of 583 (by decide +kernel) (by decide +kernel), LW_of 582 (by decide +kernel) (by decide +kernel), LW_of 15 (by decide +kernel) (by decide +kernel)⟩
theorem mvX6_bestPair : xMV yX6_bestPair cX6_bestPair 8 (some FieldType.int) 1 := ⟨⟨LW_of 24 (by decide +kernel) (by decide +kernel), by decide, by decide, by decide +kernel⟩, LW_of 649 (by decide +kernel) (by decide +kernel), LW_of 648 (by decide +kernel) (by decide +kernel), LW_of 16 (by decide +kernel) (by decide +kernel)⟩
theorem mvX6_bestRowFor : xMV yX6_bestRowFor cX6_bestRowFor 6 (some FieldType.int) 1 := ⟨⟨LW_of 24 (by decide +kernel) (by decide +kernel), by decide, by decide, by decide +kernel⟩, LW_of 660 (by decide +kernel) (by decide +kernel), LW_of 659 (by decide +kernel) (by decide +kernel), LW_of 17 (by decide +kernel) (by decide +kernel)⟩
theorem mvX6_oddWithReach : xMV yX6_oddWithReach cX6_oddWithReach 2 (some FieldType.int) 1 := ⟨⟨LW_of 24 (by decide +kernel) (by decide +kernel), by decide, by decide, by decide +kernel⟩, LW_of 676 (by decide +kernel) (by decide +kernel), LW_of 675 (by decide +kernel) (by decide +kernel), LW_of 19 (by decide +kernel) (by decide +kernel)⟩
theorem msJ6_bitCount_0f7a4 : xMS yJ6_bitCount_0f7a4 cJ6_bitCount_0f7a4 1 (some FieldType.int) 1 := ⟨⟨LW_of 41 (by decide +kernel) (by decide +kernel), by decide, by decide, by decide +kernel⟩, LW_of 561 (by decide +kernel) (by decide +kernel), LW_of 560 (by decide +kernel) (by decide +kernel)⟩
theorem msJ9_floorMod_7cf53 : xMS yJ9_floorMod_7cf53 cJ9_floorMod_7cf53 3 (some FieldType.int) 2 := ⟨⟨LW_of 36 (by decide +kernel) (by decide +kernel), by decide, by decide, by decide +kernel⟩, LW_of 723 (by decide +kernel) (by decide +kernel), LW_of 722 (by decide +kernel) (by decide +kernel)⟩
theorem msJ9_max_7cf53 : xMS yJ9_max_7cf53 cJ9_max_7cf53 2 (some FieldType.int) 2 := ⟨⟨LW_of 36 (by decide +kernel) (by decide +kernel), by decide, by decide, by decide +kernel⟩, LW_of 371 (by decide +kernel) (by decide +kernel), LW_of 370 (by decide +kernel) (by decide +kernel)⟩
theorem msJ9_min_7cf53 : xMS yJ9_min_7cf53 cJ9_min_7cf53 2 (some FieldType.int) 2 := ⟨⟨LW_of 36 (by decide +kernel) (by decide +kernel), by decide, by decide, by decide +kernel⟩, LW_of 368 (by decide +kernel) (by decide +kernel), LW_of 367 (by decide +kernel) (by decide +kernel)⟩
theorem mvJ0_length_8abf5 : xMV yJ0_length_8abf5 cJ0_length_8abf5 1 (some FieldType.int) 0 := ⟨⟨LW_of 37 (by decide +kernel) (by decide +kernel), by decide, by decide, by decide +kernel⟩, LW_of 452 (by decide +kernel) (by decide +kernel), LW_of 450 (by decide +kernel) (by decide +kernel), LW_of 451 (by decide +kernel) (by decide +kernel)⟩
theorem mvJ0_charAt_5068e : xMV yJ0_charAt_5068e cJ0_charAt_5068e 2 (some FieldType.char) 1 := ⟨⟨LW_of 37 (by decide +kernel) (by decide +kernel), by decide, by decide, by decide +kernel⟩, LW_of 462 (by decide +kernel) (by decide +kernel), LW_of 460 (by decide +kernel) (by decide +kernel), LW_of 461 (by decide +kernel) (by decide +kernel)⟩
theorem mvJ0_coder_7d493 : xMV yJ0_coder_7d493 cJ0_coder_7d493 1 (some FieldType.byte) 0 := ⟨⟨LW_of 37 (by decide +kernel) (by decide +kernel), by decide, by decide, by decide +kernel⟩, LW_of 456 (by decide +kernel) (by decide +kernel), LW_of 454 (by decide +kernel) (by decide +kernel), LW_of 455 (by decide +kernel) (by decide +kernel)⟩
theorem mvJ0_isLatin1_aae02 : xMV yJ0_isLatin1_aae02 cJ0_isLatin1_aae02 1 (some FieldType.boolean) 0 := ⟨⟨LW_of 37 (by decide +kernel) (by decide +kernel), by decide, by decide, by decide +kernel⟩, LW_of 466 (by decide +kernel) (by decide +kernel), LW_of 464 (by decide +kernel) (by decide +kernel), LW_of 465 (by decide +kernel) (by decide +kernel)⟩
theorem msJ0_checkIndex_df160 : xMS yJ0_checkIndex_df160 cJ0_checkIndex_df160 2 none 2 := ⟨⟨LW_of 37 (by decide +kernel) (by decide +kernel), by decide, by decide, by decide +kernel⟩, LW_of 472 (by decide +kernel) (by decide +kernel), LW_of 471 (by decide +kernel) (by decide +kernel)⟩
theorem msJ1_charAt_3b067 : xMS yJ1_charAt_3b067 cJ1_charAt_3b067 2 (some FieldType.char) 2 := ⟨⟨LW_of 38 (by decide +kernel) (by decide +kernel), by decide, by decide, by decide +kernel⟩, LW_of 469 (by decide +kernel) (by decide +kernel), LW_of 468 (by decide +kernel) (by decide +kernel)⟩
theorem msJ2_getChar_3b067 : xMS yJ2_getChar_3b067 cJ2_getChar_3b067 2 (some FieldType.char) 2 := ⟨⟨LW_of 40 (by decide +kernel) (by decide +kernel), by decide, by decide, by decide +kernel⟩, LW_of 490 (by decide +kernel) (by decide +kernel), LW_of 489 (by decide +kernel) (by decide +kernel)⟩
theorem msJ2_length_9d52b : xMS yJ2_length_9d52b cJ2_length_9d52b 1 (some FieldType.int) 1 := ⟨⟨LW_of 40 (by decide +kernel) (by decide +kernel), by decide, by decide, by decide +kernel⟩, LW_of 486 (by decide +kernel) (by decide +kernel), LW_of 485 (by decide +kernel) (by decide +kernel)⟩
theorem msJ2_charAt_3b067 : xMS yJ2_charAt_3b067 cJ2_charAt_3b067 2 (some FieldType.char) 2 := ⟨⟨LW_of 40 (by decide +kernel) (by decide +kernel), by decide, by decide, by decide +kernel⟩, LW_of 480 (by decide +kernel) (by decide +kernel), LW_of 479 (by decide +kernel) (by decide +kernel)⟩
theorem msJ2_checkIndex_2214a : xMS yJ2_checkIndex_2214a cJ2_checkIndex_2214a 2 none 2 := ⟨⟨LW_of 40 (by decide +kernel) (by decide +kernel), by decide, by decide, by decide +kernel⟩, LW_of 483 (by decide +kernel) (by decide +kernel), LW_of 482 (by decide +kernel) (by decide +kernel)⟩
theorem msJ3_checkIndex_8e157 : xMS yJ3_checkIndex_8e157 cJ3_checkIndex_8e157 3 (some FieldType.int) 3 := ⟨⟨LW_of 39 (by decide +kernel) (by decide +kernel), by decide, by decide, by decide +kernel⟩, LW_of 477 (by decide +kernel) (by decide +kernel), LW_of 476 (by decide +kernel) (by decide +kernel)⟩
theorem msL_cell : xMS yL_cell cL_cell 2 (some FieldType.int) 2 := ⟨⟨LW_of 23 (by decide +kernel) (by decide +kernel), by decide, by decide, by decide +kernel⟩, LW_of 215 (by decide +kernel) (by decide +kernel), LW_of 214 (by decide +kernel) (by decide +kernel)⟩
theorem msL_low : xMS yL_low cL_low 2 (some FieldType.int) 2 := ⟨⟨LW_of 23 (by decide +kernel) (by decide +kernel), by decide, by decide, by decide +kernel⟩, LW_of 219 (by decide +kernel) (by decide +kernel), LW_of 218 (by decide +kernel) (by decide +kernel)⟩
theorem msL_many : xMS yL_many cL_many 4 (some FieldType.int) 2 := ⟨⟨LW_of 23 (by decide +kernel) (by decide +kernel), by decide, by decide, by decide +kernel⟩, LW_of 226 (by decide +kernel) (by decide +kernel), LW_of 225 (by decide +kernel) (by decide +kernel)⟩
theorem msL_hears : xMS yL_hears cL_hears 9 (some FieldType.int) 4 := ⟨⟨LW_of 23 (by decide +kernel) (by decide +kernel), by decide, by decide, by decide +kernel⟩, LW_of 232 (by decide +kernel) (by decide +kernel), LW_of 231 (by decide +kernel) (by decide +kernel)⟩
theorem msL_odd : xMS yL_odd cL_odd 5 (some FieldType.int) 3 := ⟨⟨LW_of 23 (by decide +kernel) (by decide +kernel), by decide, by decide, by decide +kernel⟩, LW_of 505 (by decide +kernel) (by decide +kernel), LW_of 504 (by decide +kernel) (by decide +kernel)⟩
theorem msL_allOdd : xMS yL_allOdd cL_allOdd 2 (some FieldType.int) 2 := ⟨⟨LW_of 23 (by decide +kernel) (by decide +kernel), by decide, by decide, by decide +kernel⟩, LW_of 605 (by decide +kernel) (by decide +kernel), LW_of 604 (by decide +kernel) (by decide +kernel)⟩
theorem msL_discord : xMS yL_discord cL_discord 5 (some FieldType.int) 2 := ⟨⟨LW_of 23 (by decide +kernel) (by decide +kernel), by decide, by decide, by decide +kernel⟩, LW_of 575 (by decide +kernel) (by decide +kernel), LW_of 574 (by decide +kernel) (by decide +kernel)⟩
theorem msL_most : xMS yL_most cL_most 15 (some FieldType.int) 3 := ⟨⟨LW_of 23 (by decide +kernel) (by decide +kernel), by decide, by decide, by decide +kernel⟩, LW_of 502 (by decide +kernel) (by decide +kernel), LW_of 501 (by decide +kernel) (by decide +kernel)⟩
theorem msL_letter : xMS yL_letter cL_letter 1 (some FieldType.int) 1 := ⟨⟨LW_of 23 (by decide +kernel) (by decide +kernel), by decide, by decide, by decide +kernel⟩, LW_of 499 (by decide +kernel) (by decide +kernel), LW_of 498 (by decide +kernel) (by decide +kernel)⟩
theorem msL_isSinger : xMS yL_isSinger cL_isSinger 11 (some FieldType.boolean) 7 := ⟨⟨LW_of 23 (by decide +kernel) (by decide +kernel), by decide, by decide, by decide +kernel⟩, LW_of 229 (by decide +kernel) (by decide +kernel), LW_of 228 (by decide +kernel) (by decide +kernel)⟩
theorem msL_isSo : xMS yL_isSo cL_isSo 12 (some FieldType.boolean) 5 := ⟨⟨LW_of 23 (by decide +kernel) (by decide +kernel), by decide, by decide, by decide +kernel⟩, LW_of 223 (by decide +kernel) (by decide +kernel), LW_of 222 (by decide +kernel) (by decide +kernel)⟩
theorem msL_exchange : xMS yL_exchange cL_exchange 4 none 3 := ⟨⟨LW_of 23 (by decide +kernel) (by decide +kernel), by decide, by decide, by decide +kernel⟩, LW_of 619 (by decide +kernel) (by decide +kernel), LW_of 618 (by decide +kernel) (by decide +kernel)⟩
theorem msL_some : xMS yL_some cL_some 4 (some FieldType.int) 2 := ⟨⟨LW_of 23 (by decide +kernel) (by decide +kernel), by decide, by decide, by decide +kernel⟩, LW_of 616 (by decide +kernel) (by decide +kernel), LW_of 615 (by decide +kernel) (by decide +kernel)⟩
theorem msL_would : xMS yL_would cL_would 14 (some FieldType.boolean) 4 := ⟨⟨LW_of 23 (by decide +kernel) (by decide +kernel), by decide, by decide, by decide +kernel⟩, LW_of 613 (by decide +kernel) (by decide +kernel), LW_of 612 (by decide +kernel) (by decide +kernel)⟩
theorem msL_joins : xMS yL_joins cL_joins 9 (some FieldType.boolean) 6 := ⟨⟨LW_of 23 (by decide +kernel) (by decide +kernel), by decide, by decide, by decide +kernel⟩, LW_of 686 (by decide +kernel) (by decide +kernel), LW_of 685 (by decide +kernel) (by decide +kernel)⟩
theorem msL_closes : xMS yL_closes cL_closes 4 none 3 := ⟨⟨LW_of 23 (by decide +kernel) (by decide +kernel), by decide, by decide, by decide +kernel⟩, LW_of 733 (by decide +kernel) (by decide +kernel), LW_of 732 (by decide +kernel) (by decide +kernel)⟩
theorem msL_closesAll : xMS yL_closesAll cL_closesAll 4 none 4 := ⟨⟨LW_of 23 (by decide +kernel) (by decide +kernel), by decide, by decide, by decide +kernel⟩, LW_of 730 (by decide +kernel) (by decide +kernel), LW_of 729 (by decide +kernel) (by decide +kernel)⟩
theorem msL_leaves : xMS yL_leaves cL_leaves 8 (some FieldType.boolean) 6 := ⟨⟨LW_of 23 (by decide +kernel) (by decide +kernel), by decide, by decide, by decide +kernel⟩, LW_of 727 (by decide +kernel) (by decide +kernel), LW_of 726 (by decide +kernel) (by decide +kernel)⟩
theorem msL_crosses : xMS yL_crosses cL_crosses 8 (some FieldType.boolean) 5 := ⟨⟨LW_of 23 (by decide +kernel) (by decide +kernel), by decide, by decide, by decide +kernel⟩, LW_of 771 (by decide +kernel) (by decide +kernel), LW_of 770 (by decide +kernel) (by decide +kernel)⟩
theorem msL_exchangeAll : xMS yL_exchangeAll cL_exchangeAll 5 none 5 := ⟨⟨LW_of 23 (by decide +kernel) (by decide +kernel), by decide, by decide, by decide +kernel⟩, LW_of 760 (by decide +kernel) (by decide +kernel), LW_of 759 (by decide +kernel) (by decide +kernel)⟩
theorem msL_swaps : xMS yL_swaps cL_swaps 8 (some FieldType.boolean) 6 := ⟨⟨LW_of 23 (by decide +kernel) (by decide +kernel), by decide, by decide, by decide +kernel⟩, LW_of 757 (by decide +kernel) (by decide +kernel), LW_of 756 (by decide +kernel) (by decide +kernel)⟩
theorem msL_turns : xMS yL_turns cL_turns 8 (some FieldType.boolean) 6 := ⟨⟨LW_of 23 (by decide +kernel) (by decide +kernel), by decide, by decide, by decide +kernel⟩, LW_of 782 (by decide +kernel) (by decide +kernel), LW_of 781 (by decide +kernel) (by decide +kernel)⟩
theorem msL_sorts : xMS yL_sorts cL_sorts 10 (some FieldType.boolean) 6 := ⟨⟨LW_of 23 (by decide +kernel) (by decide +kernel), by decide, by decide, by decide +kernel⟩, LW_of 793 (by decide +kernel) (by decide +kernel), LW_of 792 (by decide +kernel) (by decide +kernel)⟩
theorem msL_acts : xMS yL_acts cL_acts 12 (some FieldType.boolean) 7 := ⟨⟨LW_of 23 (by decide +kernel) (by decide +kernel), by decide, by decide, by decide +kernel⟩, LW_of 683 (by decide +kernel) (by decide +kernel), LW_of 682 (by decide +kernel) (by decide +kernel)⟩
theorem kiL_7 : Cond.constant RL 7 (1759714724) ∈ LW := LW_of 216 (by decide +kernel) (by decide +kernel)
theorem kiL_8 : Cond.constant RL 8 (2147483647) ∈ LW := LW_of 220 (by decide +kernel) (by decide +kernel)
theorem kiJ6_265 : Cond.constant RJ6 265 (1431655765) ∈ LW := LW_of 562 (by decide +kernel) (by decide +kernel)
theorem kiJ6_266 : Cond.constant RJ6 266 (858993459) ∈ LW := LW_of 563 (by decide +kernel) (by decide +kernel)
theorem kiJ6_267 : Cond.constant RJ6 267 (252645135) ∈ LW := LW_of 564 (by decide +kernel) (by decide +kernel)
section XLDC
variable {l : Launch} {E : xE} {R : Room} {A : Nat → Prop} {Y : xY} {cc : ByteArray} {own : String} {nL : Nat} {k n pc : Nat} {ls st : List xV} {M : xM}
theorem x_ldc (F : xFix E A Y cc own nL) {i : Nat} {v : Int32} (h : Cond.constant own i v ∈ LW) (d : decode cc pc = .ok (.ldc i, 2)) (g : WP l E R A Y k n (pc + 2) ls (vI v :: st) M) : WP l E R A Y k n pc ls st M := fun H locs lr hP hS hl hn => lv_ldc F.1 F.2.1 F.2.2.2.1 (F.2.2.2.2.1 _ h) d (g H locs lr hP hS hl hn)
theorem x_ldc2 (F : xFix E A Y cc own nL) {i : Nat} {v : Int64} (h : Cond.constantLong own i v ∈ LW) (d : decode cc pc = .ok (.ldc2_w i, 3)) (g : WP l E R A Y k n (pc + 3) ls (vL v :: st) M) : WP l E R A Y k n pc ls st M := fun H locs lr hP hS hl hn => lv_ldc2 F.1 F.2.1 F.2.2.2.1 (F.2.2.2.2.1 _ h) d (g H locs lr hP hS hl hn)
theorem x_ldc2d (F : xFix E A Y cc own nL) {i : Nat} {v : UInt64} (h : Cond.constantDouble own i v ∈ LW) (d : decode cc pc = .ok (.ldc2_w i, 3)) (g : WP l E R A Y k n (pc + 3) ls (vD v :: st) M) : WP l E R A Y k n pc ls st M := fun H locs lr hP hS hl hn => lv_ldc2d F.1 F.2.1 F.2.2.2.1 (F.2.2.2.2.1 _ h) d (g H locs lr hP hS hl hn)
end XLDC
end
section
/-! CONTRACTS over the world of all cells. XP: the method returns, with post of its answer and the new world (a void method answers vU). XT: it returns, or throws. d: how deep its calls go. -/
def xps : xV → List xV → List xV
  | .inl x, st => .inl x :: st
  | .inr (.inl r), st => .inr (.inl r) :: st
  | .inr (.inr (.inl x)), st => .inr (.inr (.inl x)) :: st
  | .inr (.inr (.inr (.inl x))), st => .inr (.inr (.inr (.inl x))) :: st
  | .inr (.inr (.inr (.inr (.inl q)))), st => .inr (.inr (.inr (.inr (.inl q)))) :: st
  | .inr (.inr (.inr (.inr (.inr _)))), st => st
def xrt (E : xE) : xV → Option Value
  | .inr (.inr (.inr (.inr (.inr _)))) => none
  | v => some (xc E.2.2.1 v)
theorem xrt_ps (E : xE) (r : xV) (st : List xV) : (xrt E r).toList ++ st.map (xc E.2.2.1) = (xps r st).map (xc E.2.2.1) := by
  rcases r with x | r | x | x | q | u <;> rfl
def xPc (E : xE) (args : List xV) (M : xM) : Array Value → State → Prop := va_Pc (args.map (xc E.2.2.1)) (fun U => va_P E.1 vwCl (xws E M) U.heap ∧ xKn E U)
def xQc (E : xE) (post : xV → xM → Prop) : Array Value → State → Outcome → State → Prop := fun _ st o t => (∃ (r : xV) (M' : xM), o = .returned (xrt E r) ∧ post r M' ∧ va_P E.1 vwCl (xws E M') t.heap) ∧ va_F (xA E) st t
def xXc (E : xE) (xpost : String → xM → Prop) : String → State → State → Prop := fun C st t => ∃ M' : xM, xpost C M' ∧ va_P E.1 vwCl (xws E M') t.heap ∧ va_F (xA E) st t
abbrev xRm (d mc ms : Nat) : Room := { frames := d, cells := mc, slots := ms, locals := 64 * d }
def XT (l : Launch) (E : xE) (d mc ms : Nat) (y : MethodName) (cc : ByteArray) (nL : Nat) (rt : Option FieldType) (args : List xV) (M : xM) (post : xV → xM → Prop) (xpost : String → xM → Prop) : Prop :=
  vx_Met l y (Cond.code y cc nL rt :: LW) (xRm d mc ms) (xPc E args M) (xQc E post) (xXc E xpost) mc ms (xA E)
def XP (l : Launch) (E : xE) (d : Nat) (y : MethodName) (cc : ByteArray) (nL : Nat) (rt : Option FieldType) (args : List xV) (M : xM) (post : xV → xM → Prop) : Prop :=
  Met l y (Cond.code y cc nL rt :: LW) (xRm d 0 0) (xPc E args M) (xQc E post) 0 0 (xA E)
/-- the answer and the world behind it are these -/
abbrev XF (l : Launch) (E : xE) (d : Nat) (y : MethodName) (cc : ByteArray) (nL : Nat) (rt : Option FieldType) (args : List xV) (M : xM) (r : xV) (M' : xM) : Prop := XP l E d y cc nL rt args M (fun r' M'' => r' = r ∧ M'' = M')
theorem XP.imp {l : Launch} {E : xE} {d : Nat} {y : MethodName} {cc : ByteArray} {nL : Nat} {rt : Option FieldType} {args : List xV} {M : xM} {post post' : xV → xM → Prop} (h : XP l E d y cc nL rt args M post) (hp : ∀ r M', post r M' → post' r M') : XP l E d y cc nL rt args M post' := by
  unfold XP Met at h ⊢
  exact MetFree.mono h (fun _ _ z => z) (fun _ _ _ _ _ z => z) (fun a st o t _ z => ⟨⟨by obtain ⟨⟨⟨r, M', h1, h2, h3⟩, h4⟩, -⟩ := z; exact ⟨r, M', h1, hp r M' h2, h3⟩, z.1.2⟩, z.2⟩)
theorem XT.imp {l : Launch} {E : xE} {d mc ms : Nat} {y : MethodName} {cc : ByteArray} {nL : Nat} {rt : Option FieldType} {args : List xV} {M : xM} {post post' : xV → xM → Prop} {xpost xpost' : String → xM → Prop} (h : XT l E d mc ms y cc nL rt args M post xpost) (hp : ∀ r M', post r M' → post' r M') (hx : ∀ C M', xpost C M' → xpost' C M') : XT l E d mc ms y cc nL rt args M post' xpost' := by
  unfold XT vx_Met at h ⊢
  exact MetFree.mono h (fun _ _ z => z) (fun _ _ _ _ _ z => z) (fun a st o t _ z => by
    rcases z with z | ⟨q, h1, C, ce, L, ⟨M', h2, h3⟩, h4⟩
    · exact Or.inl ⟨⟨by obtain ⟨⟨⟨r, M', h1, h2, h3⟩, h4⟩, -⟩ := z; exact ⟨r, M', h1, hp r M' h2, h3⟩, z.1.2⟩, z.2⟩
    · exact Or.inr ⟨q, h1, C, ce, L, ⟨M', hx C M' h2, h3⟩, h4⟩)
theorem XP.of_XT {l : Launch} {E : xE} {d : Nat} {y : MethodName} {cc : ByteArray} {nL : Nat} {rt : Option FieldType} {args : List xV} {M : xM} {post : xV → xM → Prop} (h : XT l E d 0 0 y cc nL rt args M post (fun _ _ => False)) : XP l E d y cc nL rt args M post := by
  unfold XT vx_Met at h
  unfold XP Met
  exact MetFree.mono h (fun _ _ z => z) (fun _ _ _ _ _ z => z) (fun a st o t _ z => by
    rcases z with z | ⟨q, -, C, ce, L, ⟨M', h2, -⟩, -⟩
    · exact z
    · exact h2.elim)
theorem XT.of_XP {l : Launch} {E : xE} {d : Nat} {y : MethodName} {cc : ByteArray} {nL : Nat} {rt : Option FieldType} {args : List xV} {M : xM} {post : xV → xM → Prop} {xpost : String → xM → Prop} (h : XP l E d y cc nL rt args M post) : XT l E d 0 0 y cc nL rt args M post xpost := by
  unfold XP Met at h
  unfold XT vx_Met
  exact MetFree.mono h (fun _ _ z => z) (fun _ _ _ _ _ z => z) (fun a st o t _ z => Or.inl z)
/-- what is known goes on through calls -/
theorem xnw_moved {s U : State} (hW : s.WarmedH U.vm) {w : Cond} (hw : xnw w = true) (h : va_Nw w s) : va_Nw w U := by
  cases w <;> simp only [xnw, Bool.false_eq_true] at hw
  all_goals first | exact va_Nw.warmM hW h | exact va_Nw.warmF hW h | exact va_Nw.warmD hW h | exact va_Nw.warmC hW h
theorem xnw_same {u U : State} (hv : u.vm = U.vm) {w : Cond} (hw : xnw w = true) (h : va_Nw w u) : va_Nw w U := by
  cases w <;> simp only [xnw, Bool.false_eq_true] at hw
  all_goals exact va_Nw.same rfl hv h
theorem xKn.go {E : xE} {s U : State} {A : Nat → Prop} {locs : List Loc} {H : Heap} (h : xKn E s) (hA2 : ∀ q, q < s.heap.size → A q → xA E q) (hS : va_S A s.heap H locs) (hU : U.heap = H) (hW : s.WarmedH U.vm) : xKn E U := by
  obtain ⟨h1, h2, h3, h4, h5, s1, s2, s3, s4⟩ := h
  have hq : ∀ a : Nat, a < s.heap.size → ¬ xA E a → U.heap[a]? = s.heap[a]? := fun a ha hn => by rw [hU]; exact hS.2.1 a ha (fun z => hn (hA2 a ha z))
  exact ⟨va_K.moved hW.alike h1, fun w hw => xnw_moved hW (List.mem_filter.mp hw).2 (h2 w hw), h3, (h4.moved hW.alike).kept hq, (h5.moved hW.alike).kept hq, (s1.moved hW.alike).kept hq, fun q hq' => (s2 q hq').warm hW, (s3.moved hW.alike).kept hq, (va_Zq.moved hW.alike s4).kept hq⟩
theorem xKn.blind {E : xE} {U : State} {g : JFrame} {mk : MethodId} {a : Array Value} (h : xKn E U) : xKn E (U.calling g mk a) := by
  obtain ⟨h1, h2, h3, h4, h5, s1, s2, s3, s4⟩ := h
  exact ⟨va_K.moved (u := U) (U := U.calling g mk a) (Vm.Alike.refl U.vm) h1, fun w hw => xnw_same (u := U) (U := U.calling g mk a) rfl (List.mem_filter.mp hw).2 (h2 w hw), h3, vx_Zq.moved (u := U) (U := U.calling g mk a) (Vm.Alike.refl U.vm) h4, vx_Zq.moved (u := U) (U := U.calling g mk a) (Vm.Alike.refl U.vm) h5, vk_S.moved (u := U) (U := U.calling g mk a) (Vm.Alike.refl U.vm) s1, fun q hq => vk_R.same (u := U) (U := U.calling g mk a) rfl (s2 q hq), va_Z.moved (u := U) (U := U.calling g mk a) (Vm.Alike.refl U.vm) s3, va_Zq.moved (u := U) (U := U.calling g mk a) (Vm.Alike.refl U.vm) s4⟩
theorem xPc_blind (E : xE) (args : List xV) (M : xM) : FrameBlind (xPc E args M) := fun a U g mk q => ⟨q.1, q.2.1, q.2.2.blind⟩
/-- a method's entry -/
def xEnt : List xV → List xV
  | [] => []
  | v :: vs => v :: (if xcat v = 2 then vU :: xEnt vs else xEnt vs)
theorem xEnt_len (ad : Nat → Nat) (as : List xV) : (lg_sl (as.map (xc ad))).length = (xEnt as).length := by
  induction as with
  | nil => rfl
  | cons v vs ih =>
    unfold lg_sl at ih
    simp only [lg_sl, List.map_cons, List.flatMap_cons, List.length_append, ih, xEnt, List.length_cons, xc_cat]
    split <;> simp <;> omega
theorem xEnt_at (ad : Nat → Nat) (as : List xV) : ∀ (k i : Nat) (v : xV), (xEnt as)[i]? = some v → xU v = false → (k + i, xc ad v) ∈ lv_args k (as.map (xc ad)) := by
  induction as with
  | nil => intro k i v h; simp [xEnt] at h
  | cons u us ih =>
    intro k i v h hv
    simp only [List.map_cons, lv_args, xc_cat]
    cases i with
    | zero =>
      simp [xEnt] at h
      subst h
      exact List.mem_cons_self
    | succ i =>
      simp only [xEnt, List.getElem?_cons_succ] at h
      refine List.mem_cons_of_mem _ ?_
      by_cases hc : xcat u = 2
      · rw [if_pos hc] at h ⊢
        cases i with
        | zero =>
          simp at h
          subst h
          cases hv
        | succ i =>
          simp only [List.getElem?_cons_succ] at h
          have := ih (k + 2) i v h hv
          rwa [show k + (i + 1 + 1) = k + 2 + i by omega]
      · rw [if_neg hc] at h ⊢
        have := ih (k + 1) i v h hv
        rwa [show k + (i + 1) = k + 1 + i by omega]
theorem xEnt_ls {ad : Nat → Nat} {as : List xV} {nL : Nat} (h : (xEnt as).length ≤ nL) : xLs ad nL (xEnt as ++ List.replicate (nL - (xEnt as).length) vU) ((lg_sl (as.map (xc ad)) ++ List.replicate (nL - (lg_sl (as.map (xc ad))).length) Slot.unset).toArray) := by
  obtain ⟨h1, h2, h3⟩ := lv_entry (as.map (xc ad)) (n := nL) (by rw [xEnt_len]; exact h)
  refine ⟨h1, h2, fun i v hi hv => ?_⟩
  rcases Nat.lt_or_ge i (xEnt as).length with hl | hl
  · rw [List.getElem?_append_left hl] at hi
    have := h3 _ (xEnt_at ad as 0 i v hi hv)
    simpa using this
  · rw [List.getElem?_append_right hl] at hi
    have := List.eq_of_mem_replicate (List.mem_of_getElem? hi)
    subst this
    cases hv
/-- how the method ends -/
def xRet (E : xE) (Y : xY) (rt : Option FieldType) (mc ms : Nat) (post : xV → xM → Prop) (xpost : String → xM → Prop) : Prop :=
  yQ Y = vx_MQ (yb Y) (xQc E post) (xXc E xpost) (ya Y) (ys Y) mc ms (xA E) ∧ (yM Y).sig.returnType = rt ∧ (∀ x ∈ (yc Y).exceptionTable.toList, False)
theorem xx_ofWF {l : Launch} {y : MethodName} {ws ws' : List Cond} {rm : Room} {Pc : Array Value → State → Prop} {Qc : Array Value → State → Outcome → State → Prop} {XC : String → State → State → Prop} {mc ms : Nat} {free : Addr → Prop} {cc : ByteArray} {maxL : Nat} {ret : Option FieldType}
    (hy : plainFor y = true) (hw : ws = Cond.code y cc maxL ret :: ws')
    (body : ∀ p e s m args below meth c s₁, BodyLoose p l y (headSpec ws rm) cc maxL ret e s m args below meth c s₁ → c.maxLocals = maxL → (∀ x ∈ c.exceptionTable.toList, False) → Pc args s →
      W p l e (headSpec ws rm).room s m args below meth c s.heap [] 0 0 (vx_MQ below Qc XC args s mc ms free) (entryFrame m args maxL)) : vx_Met l y ws rm Pc Qc XC mc ms free := by
  have hcw : Cond.code y cc maxL ret ∈ ws := by rw [hw]; exact List.mem_cons_self
  refine MetFree.of_bodySF (code := cc) (maxLocals := maxL) (ret := ret) hy (fun args s m h hn => ?_) (fun p e s m args below meth c s₁ B hml hP _ => ?_)
  · obtain ⟨meth, c, h1, h2, h3, h4, h5, h6, -, -⟩ := Cond.code_spec hn (atoms_spec (ws := ws) h _ hcw)
    exact ⟨meth, c, h1, h2, h3, h4, h5, h6⟩
  · obtain ⟨meth9, c9, h1, h2, -, -, -, -, h7, -⟩ := Cond.code_spec B.named (atoms_spec (ws := ws) B.pre _ hcw)
    have e1 : meth = meth9 := Option.some.inj (B.method.symm.trans h1)
    subst e1
    have e2 : c = c9 := Option.some.inj ((Stand.of_body B).code.symm.trans h2)
    subst e2
    have hnone : ∀ x ∈ c.exceptionTable.toList, False := fun x hx => by rw [Array.isEmpty_iff.mp h7] at hx; cases hx
    obtain ⟨t, a1, o, b1, b2, b3⟩ := body p e s m args below meth c s₁ B hml hnone hP s₁ (by rw [B.state]; rfl) (Stand.of_body B)
    exact ⟨t, o, a1, b1, b2, b3⟩
theorem xt_start {l : Launch} {E : xE} {d mc ms : Nat} {y : MethodName} {cc : ByteArray} {nL : Nat} {rt : Option FieldType} {args : List xV} {M : xM} {post : xV → xM → Prop} {xpost : String → xM → Prop} (hy : plainFor y = true) {ls0 : List xV} (hls : xEnt args ++ List.replicate (nL - (xEnt args).length) vU = ls0) (hlen : (xEnt args).length ≤ nL)
    (body : ∀ Y : xY, xFix E (xA E) Y cc y.cls nL → xRet E Y rt mc ms post xpost → WP l E (xRm d mc ms) (xA E) Y 0 0 0 ls0 [] M) : XT l E d mc ms y cc nL rt args M post xpost := by
  refine xx_ofWF (cc := cc) (maxL := nL) (ret := rt) hy rfl ?_
  intro p e s m args' below meth c s₁ B hml htab hv
  obtain ⟨rfl, hP, hk⟩ := hv
  have hts := atoms_spec (ws := Cond.code y cc nL rt :: LW) B.pre
  have hF : xFix E (xA E) (p, e, s, m, (args.map (xc E.2.2.1)).toArray, below, meth, c, vx_MQ below (xQc E post) (xXc E xpost) (args.map (xc E.2.2.1)).toArray s mc ms (xA E)) cc y.cls nL :=
    ⟨B.exec, B.bytes, hml, findClass_of_methodNamed B.named, fun w hw => hts w (List.mem_cons_of_mem _ hw), hk, fun a ha => ⟨a, ha, rfl⟩, fun q _ z => z, B.notSynchronized⟩
  have hb := body _ hF ⟨rfl, B.returns, htab⟩
  rw [lg_entry_eq]
  subst hls
  refine hb s.heap [] _ hP va_S.rf ?_ ?_
  · show xLs E.2.2.1 c.maxLocals _ _
    rw [hml]
    exact xEnt_ls hlen
  · show _ ≤ c.maxLocals
    rw [hml]
    simp
    omega
theorem xp_start {l : Launch} {E : xE} {d : Nat} {y : MethodName} {cc : ByteArray} {nL : Nat} {rt : Option FieldType} {args : List xV} {M : xM} {post : xV → xM → Prop} (hy : plainFor y = true) {ls0 : List xV} (hls : xEnt args ++ List.replicate (nL - (xEnt args).length) vU = ls0) (hlen : (xEnt args).length ≤ nL)
    (body : ∀ Y : xY, xFix E (xA E) Y cc y.cls nL → xRet E Y rt 0 0 post (fun _ _ => False) → WP l E (xRm d 0 0) (xA E) Y 0 0 0 ls0 [] M) : XP l E d y cc nL rt args M post := XP.of_XT (xt_start hy hls hlen body)
section XEND
variable {l : Launch} {E : xE} {R : Room} {Y : xY} {cc : ByteArray} {own : String} {nL : Nat} {k n pc mc ms : Nat} {ls st : List xV} {M : xM} {post : xV → xM → Prop} {xpost : String → xM → Prop} {rt : FieldType}
theorem x_iret (F : xFix E (xA E) Y cc own nL) (FR : xRet E Y (some rt) mc ms post xpost) {x : Int32} (d : decode cc pc = .ok (.ireturn, 1)) (hn : narrow rt (.int x) = .int x) (hk : k ≤ mc) (hs : n ≤ ms) (h : post (vI x) M) : WP l E R (xA E) Y k n pc ls [vI x] M := by
  intro H locs lr hP hS hl hn9
  rw [show yQ Y = _ from FR.1]
  refine W.widen hk hs (vx_ret ?_)
  exact W.zret F.1 F.2.1 FR.2.1 hn (fun t ht hW => ⟨⟨vI x, M, rfl, h, by rw [ht]; exact hP⟩, hS.F ht⟩) hS.2.2 d F.2.2.2.2.2.2.2.2
theorem x_lret (F : xFix E (xA E) Y cc own nL) (FR : xRet E Y (some .long) mc ms post xpost) {x : Int64} (d : decode cc pc = .ok (.lreturn, 1)) (hk : k ≤ mc) (hs : n ≤ ms) (h : post (vL x) M) : WP l E R (xA E) Y k n pc ls [vL x] M := by
  intro H locs lr hP hS hl hn9
  rw [show yQ Y = _ from FR.1]
  refine W.widen hk hs (vx_ret ?_)
  exact W.lret F.1 F.2.1 FR.2.1 (fun t ht hW => ⟨⟨vL x, M, rfl, h, by rw [ht]; exact hP⟩, hS.F ht⟩) hS.2.2 d F.2.2.2.2.2.2.2.2
theorem x_dret (F : xFix E (xA E) Y cc own nL) (FR : xRet E Y (some .double) mc ms post xpost) {x : UInt64} (d : decode cc pc = .ok (.dreturn, 1)) (hk : k ≤ mc) (hs : n ≤ ms) (h : post (vD x) M) : WP l E R (xA E) Y k n pc ls [vD x] M := by
  intro H locs lr hP hS hl hn9
  rw [show yQ Y = _ from FR.1]
  refine W.widen hk hs (vx_ret ?_)
  exact W.dret F.1 F.2.1 FR.2.1 (fun t ht hW => ⟨⟨vD x, M, rfl, h, by rw [ht]; exact hP⟩, hS.F ht⟩) hS.2.2 d F.2.2.2.2.2.2.2.2
theorem x_vret (F : xFix E (xA E) Y cc own nL) (FR : xRet E Y none mc ms post xpost) (d : decode cc pc = .ok (.return_, 1)) (hk : k ≤ mc) (hs : n ≤ ms) (h : post vU M) : WP l E R (xA E) Y k n pc ls [] M := by
  intro H locs lr hP hS hl hn9
  rw [show yQ Y = _ from FR.1]
  refine W.widen hk hs (vx_ret ?_)
  exact W.vret F.1 F.2.1 FR.2.1 (fun t ht hW => ⟨⟨vU, M, rfl, h, by rw [ht]; exact hP⟩, hS.F ht⟩) hS.2.2 d F.2.2.2.2.2.2.2.2
theorem x_aret (F : xFix E (xA E) Y cc own nL) (FR : xRet E Y (some rt) mc ms post xpost) {r : Option Nat} (d : decode cc pc = .ok (.areturn, 1)) (hrt : (∃ n, rt = .object n) ∨ ∃ t, rt = .array t) (hk : k ≤ mc) (hs : n ≤ ms) (h : post (vR r) M) : WP l E R (xA E) Y k n pc ls [vR r] M := by
  intro H locs lr hP hS hl hn9
  rw [show yQ Y = _ from FR.1]
  refine W.widen hk hs (vx_ret ?_)
  exact W.aret F.1 F.2.1 FR.2.1 hrt (by cases r with
    | none => exact Or.inl rfl
    | some a => exact Or.inr ⟨_, rfl⟩) (fun t ht hW => ⟨⟨vR r, M, rfl, h, by rw [ht]; exact hP⟩, hS.F ht⟩) hS.2.2 d F.2.2.2.2.2.2.2.2
theorem x_aretQ (F : xFix E (xA E) Y cc own nL) (FR : xRet E Y (some rt) mc ms post xpost) {q : Nat} (d : decode cc pc = .ok (.areturn, 1)) (hrt : (∃ n, rt = .object n) ∨ ∃ t, rt = .array t) (hk : k ≤ mc) (hs : n ≤ ms) (h : post (vQ q) M) : WP l E R (xA E) Y k n pc ls [vQ q] M := by
  intro H locs lr hP hS hl hn9
  rw [show yQ Y = _ from FR.1]
  refine W.widen hk hs (vx_ret ?_)
  exact W.aret F.1 F.2.1 FR.2.1 hrt (Or.inr ⟨_, rfl⟩) (fun t ht hW => ⟨⟨vQ q, M, rfl, h, by rw [ht]; exact hP⟩, hS.F ht⟩) hS.2.2 d F.2.2.2.2.2.2.2.2
end XEND
theorem LW_goodIn {ws : List Cond} (h : ∀ w ∈ ws, w ∈ LW) : GoodIn LW ws := fun w hw => ⟨h w hw, good_of_word (LW_good (h w hw))⟩
section XCALL
variable {l : Launch} {E : xE} {R : Room} {A : Nat → Prop} {Y : xY} {cc : ByteArray} {own : String} {nL : Nat} {k n pc : Nat} {ls st st0 : List xV} {M : xM}
variable {y : MethodName} {cy : ByteArray} {nLy : Nat} {rty : Option FieldType} {d' mc ms idx : Nat} {As : List xV} {post : xV → xM → Prop} {xpost : String → xM → Prop} {a : Array Value}
theorem xS_go (F : xFix E A Y cc own nL) {H : Heap} {locs : List Loc} (hS : va_S A (ys Y).heap H locs) {st₀ t T' : State} {L : List Loc} (h0 : st₀.heap = H) (hL : ∀ q ∈ L, xA E q.base) (e1 : T'.heap = t.heap) (hF : va_F (xA E) st₀ t) : va_S A (ys Y).heap T'.heap (locs ++ L) := by
  have hAin : ∀ q, xA E q → A q := fun q ⟨i, hi, e⟩ => by rw [e]; exact F.2.2.2.2.2.2.1 i hi
  obtain ⟨hz, hk⟩ := hF
  rw [h0] at hz hk
  refine ⟨Nat.le_trans hS.1 (by rw [e1]; exact hz), fun q h1 h2 => ?_, fun q hq => ?_⟩
  · rw [e1, hk q (Nat.lt_of_lt_of_le h1 hS.1) (fun z => h2 (hAin q z))]
    exact hS.2.1 q h1 h2
  · rcases List.mem_append.mp hq with h | h
    · exact hS.2.2 q h
    · exact hAin _ (hL q h)
theorem x_run (F : xFix E A Y cc own nL) (hr : ∀ (H : Heap) (locs : List Loc) (lr : Array Slot), va_P E.1 vwCl (xws E M) H → va_S A (ys Y).heap H locs → xLs E.2.2.1 (yc Y).maxLocals ls lr → va_Run (yp Y) l (ye Y) R (ys Y) (ym Y) (ya Y) (yb Y) (yM Y) (yc Y) H locs k n 0 0 (F0 (ym Y) pc lr (st0.map (xc E.2.2.1))) (st.map (xc E.2.2.1)) (xQc E post a) (xA E))
    (g : ∀ r M', post r M' → WP l E R A Y k n (pc + 3) ls (xps r st) M') : WP l E R A Y k n pc ls st0 M := by
  intro H locs lr hP hS hl hn T hT X
  obtain ⟨v, st₀, t, T', L, h0, X', hL, e1, e2, ⟨⟨r, M', hv, hp, hb⟩, hF⟩, hg⟩ := hr H locs lr hP hS hl T hT X
  have hv' : v = xrt E r := Option.some.inj (by simpa using hv)
  subst hv'
  obtain ⟨t2, a1, b1⟩ := g r M' hp T'.heap (locs ++ L) lr (by rw [e1]; exact hb) (xS_go F hS h0 hL e1 hF) hl hn T' rfl X'
  refine ⟨t2, hg t2 ?_, b1⟩
  show Steps _ _ _ (T'.setTop (F0 (ym Y) (pc + 3) lr ((xrt E r).toList ++ st.map (xc E.2.2.1)))) t2
  rw [xrt_ps]
  exact a1
/-- an exception on its way out of a call -/
def WX (l : Launch) (E : xE) (R : Room) (A : Nat → Prop) (Y : xY) (k n pc : Nat) (ls st : List xV) (M : xM) (C : String) : Prop :=
  ∀ (H : Heap) (locs : List Loc) (lr : Array Slot) (q : Addr) (ce : Cell), va_P E.1 vwCl (xws E M) H → va_S A (ys Y).heap H locs → xLs E.2.2.1 (yc Y).maxLocals ls lr → ls.length ≤ (yc Y).maxLocals → H[q]? = some ce → ce.vm = .none → (ys Y).vm.findClass C = some ce.cls →
    vx_W (yp Y) l (ye Y) R (ys Y) (ym Y) (ya Y) (yb Y) (yM Y) (yc Y) H locs k n (yQ Y) (F0 (ym Y) pc lr (st.map (xc E.2.2.1))) q
theorem x_runX (F : xFix E A Y cc own nL) (hr : ∀ (H : Heap) (locs : List Loc) (lr : Array Slot), va_P E.1 vwCl (xws E M) H → va_S A (ys Y).heap H locs → xLs E.2.2.1 (yc Y).maxLocals ls lr → vx_Run (yp Y) l (ye Y) R (ys Y) (ym Y) (ya Y) (yb Y) (yM Y) (yc Y) H locs k n mc ms (F0 (ym Y) pc lr (st0.map (xc E.2.2.1))) (st.map (xc E.2.2.1)) (xQc E post a) (xXc E xpost) (xA E))
    (gx : ∀ C M', xpost C M' → WX l E R A Y (k + mc) (n + ms) pc ls st M' C) (g : ∀ r M', post r M' → WP l E R A Y (k + mc) (n + ms) (pc + 3) ls (xps r st) M') : WP l E R A Y k n pc ls st0 M := by
  intro H locs lr hP hS hl hn T hT X
  rcases hr H locs lr hP hS hl T hT X with ⟨v, st₀, t, T', L, h0, X', hL, e1, e2, ⟨⟨r, M', hv, hp, hb⟩, hF⟩, hg⟩ | ⟨q, st₀, t, T', L, C, ce, h0, X', hL, e1, e2, ⟨M', hp, hb, hF⟩, hce, hcv, hcl, hg⟩
  · have hv' : v = xrt E r := Option.some.inj (by simpa using hv)
    subst hv'
    obtain ⟨t2, a1, b1⟩ := g r M' hp T'.heap (locs ++ L) lr (by rw [e1]; exact hb) (xS_go F hS h0 hL e1 hF) hl hn T' rfl X'
    refine ⟨t2, hg t2 ?_, b1⟩
    show Steps _ _ _ (T'.setTop (F0 (ym Y) (pc + 3) lr ((xrt E r).toList ++ st.map (xc E.2.2.1)))) t2
    rw [xrt_ps]
    exact a1
  · obtain ⟨t2, a1, b1⟩ := gx C M' hp T'.heap (locs ++ L) lr q ce (by rw [e1]; exact hb) (xS_go F hS h0 hL e1 hF) hl hn (by rw [e1]; exact hce) hcv hcl T' rfl X'
    exact ⟨t2, hg.trans a1, b1⟩
theorem xst_sum {st : List xV} (ad : Nat → Nat) (h : (st.map xcat).sum ≤ 8) : ((st.map (xc ad)).map fun v => v.category).sum ≤ 8 := by
  rw [List.map_map]
  have : (fun v => v.category) ∘ xc ad = xcat := funext fun v => xc_cat ad v
  rw [this]
  exact h
theorem xcw_V {i : Nat} (F : xFix E A Y cc own nL) (hl : xML own idx y) (hv : xMV y cy nLy rty i) (hR : d' + 1 ≤ R.frames ∧ 8 + (nLy + 11) + 64 * d' ≤ R.locals) : CallW R (ys Y) (ya Y) own y.cls idx y cy nLy rty (Cond.code y cy nLy rty :: LW) (xRm d' mc ms) mc ms i := by
  obtain ⟨⟨i1, i2, i3, i4⟩, c1, c2, c3⟩ := hv
  refine cwV (Ts := LW) i F.2.2.2.2.1 (LW_goodIn ?_) rfl rfl rfl ⟨rfl, i2, i3, i4⟩ hR
  intro w hw
  rcases List.mem_append.mp hw with h | h
  · rcases List.mem_cons.mp h with rfl | h
    · exact hl
    rcases List.mem_cons.mp h with rfl | h
    · exact c2
    rcases List.mem_cons.mp h with rfl | h
    · exact c3
    rcases List.mem_cons.mp h with rfl | h
    · exact i1
    cases h
  · rcases List.mem_cons.mp h with rfl | h
    · exact c1
    · exact h
theorem xcw_S {i : Nat} (F : xFix E A Y cc own nL) (hl : xML own idx y) (hv : xMS y cy nLy rty i) (hR : d' + 1 ≤ R.frames ∧ 8 + (nLy + 11) + 64 * d' ≤ R.locals) : CallB R (ys Y) (ya Y) own idx y cy nLy rty (Cond.code y cy nLy rty :: LW) (xRm d' mc ms) mc ms i ∧ (Cond.static y).before (ya Y) (ys Y) = true := by
  obtain ⟨⟨i1, i2, i3, i4⟩, c1, c2⟩ := hv
  refine ⟨callB_of (Ts := LW) i F.2.2.2.2.1 (LW_goodIn ?_) rfl rfl rfl (F.2.2.2.2.1 _ i1) (F.2.2.2.2.1 _ hl) ⟨i2, i3, i4⟩ hR, F.2.2.2.2.1 _ c2⟩
  intro w h
  rcases List.mem_cons.mp h with rfl | h
  · exact c1
  · exact h
theorem xcw_N {i : Nat} {host : String} (F : xFix E A Y cc own nL) (hl : Cond.methodLinkNest own idx y host ∈ NW) (hv : xMS y cy nLy rty i) (hR : d' + 1 ≤ R.frames ∧ 8 + (nLy + 11) + 64 * d' ≤ R.locals) : va_CN R (ys Y) (ya Y) own idx y host cy nLy rty (Cond.code y cy nLy rty :: LW) (xRm d' mc ms) mc ms i := by
  obtain ⟨⟨i1, i2, i3, i4⟩, c1, c2⟩ := hv
  refine va_cnB (Ts := LW) i F.2.2.2.2.1 (LW_goodIn ?_) rfl rfl rfl (F.2.2.2.2.2.1.2.1 _ hl) (F.2.2.2.2.1 _ i1) ⟨i2, i3, i4⟩ hR
  intro w h
  rcases List.mem_cons.mp h with rfl | h
  · exact c1
  · exact h
theorem xpre (F : xFix E A Y cc own nL) (as : List xV) {H : Heap} {locs : List Loc} (hP : va_P E.1 vwCl (xws E M) H) (hS : va_S A (ys Y).heap H locs) : ∀ U : State, U.heap = H → (ys Y).WarmedH U.vm → xPc E as M (as.map (xc E.2.2.1)).toArray U := fun U hU hW => ⟨rfl, by rw [hU]; exact hP, F.2.2.2.2.2.1.go F.2.2.2.2.2.2.2.1 hS hU hW⟩
theorem x_callVP (F : xFix E A Y cc own nL) {b ci N9 : Nat} (hM : XP l E d' y cy nLy rty (vA b :: As) M post) (hl : xML own idx y) (hv : xMV y cy nLy rty As.length) (hk : xk b = (ci, N9)) (hc8 : ci < 8) (hci : vwCl[ci]?.map (fun q => q.1) = some y.cls) (hR : d' + 1 ≤ R.frames ∧ 8 + (nLy + 11) + 64 * d' ≤ R.locals) (hcs : k ≤ R.cells ∧ n ≤ R.slots) (hst : (st.map xcat).sum ≤ 8) (hs : st0 = As.reverse ++ vA b :: st) (d : decode cc pc = .ok (.invokevirtual idx, 3)) (g : ∀ r M', post r M' → WP l E R A Y k n (pc + 3) ls (xps r st) M') : WP l E R A Y k n pc ls st0 M := by
  subst hs
  refine x_run (a := (xc E.2.2.1 (vA b) :: As.map (xc E.2.2.1)).toArray) F ?_ g
  intro H locs lr hP hS hlr
  cases hq : vwCl[ci]? with
  | none => rw [hq] at hci; cases hci
  | some q =>
    have hq1 : q.1 = y.cls := by rw [hq] at hci; exact Option.some.inj hci
    have hrecv := va_recv F.2.2.2.2.2.1.1 hP hq (xws_obj E M hk hc8)
    rw [hq1] at hrecv
    exact va_runV (As := As.map (xc E.2.2.1)) ⟨F.1, F.2.1, F.2.2.1, F.2.2.2.1, F.2.2.2.2.1⟩ hM (xcw_V F hl hv hR) ⟨xPc_blind _ _ _, hrecv, xpre F (vA b :: As) hP hS⟩ rfl (by simp) (by rw [← F.2.2.1]; exact hlr.1) (by simp [xc, xrv]) (lv_room (xst_sum _ hst)) d hcs
theorem x_callSP (F : xFix E A Y cc own nL) (hM : XP l E d' y cy nLy rty As M post) (hl : xML own idx y) (hv : xMS y cy nLy rty As.length) (hR : d' + 1 ≤ R.frames ∧ 8 + (nLy + 11) + 64 * d' ≤ R.locals) (hcs : k ≤ R.cells ∧ n ≤ R.slots) (hst : (st.map xcat).sum ≤ 8) (hs : st0 = As.reverse ++ st) (d : decode cc pc = .ok (.invokestatic idx, 3)) (g : ∀ r M', post r M' → WP l E R A Y k n (pc + 3) ls (xps r st) M') : WP l E R A Y k n pc ls st0 M := by
  subst hs
  refine x_run (a := (As.map (xc E.2.2.1)).toArray) F ?_ g
  intro H locs lr hP hS hlr
  exact va_runS (As := As.map (xc E.2.2.1)) ⟨F.1, F.2.1, F.2.2.1, F.2.2.2.1, F.2.2.2.2.1⟩ hM (xcw_S F hl hv hR) ⟨xPc_blind _ _ _, xpre F As hP hS⟩ rfl (by simp) (by rw [← F.2.2.1]; exact hlr.1) (by simp) (lv_room (xst_sum _ hst)) d hcs
theorem x_callNP (F : xFix E A Y cc own nL) (hM : XP l E d' y cy nLy rty As M post) (hl : xMN own idx y) (hv : xMS y cy nLy rty As.length) (hR : d' + 1 ≤ R.frames ∧ 8 + (nLy + 11) + 64 * d' ≤ R.locals) (hcs : k ≤ R.cells ∧ n ≤ R.slots) (hst : (st.map xcat).sum ≤ 8) (hs : st0 = As.reverse ++ st) (d : decode cc pc = .ok (.invokestatic idx, 3)) (g : ∀ r M', post r M' → WP l E R A Y k n (pc + 3) ls (xps r st) M') : WP l E R A Y k n pc ls st0 M := by
  subst hs
  obtain ⟨host, hl⟩ := hl
  refine x_run (a := (As.map (xc E.2.2.1)).toArray) F ?_ g
  intro H locs lr hP hS hlr
  exact va_runSN (As := As.map (xc E.2.2.1)) ⟨F.1, F.2.1, F.2.2.1, F.2.2.2.1, F.2.2.2.2.1⟩ hM ⟨xcw_N F hl hv hR, F.2.2.2.2.1 _ hv.2.2, trivial⟩ ⟨xPc_blind _ _ _, xpre F As hP hS⟩ rfl (by simp) (by rw [← F.2.2.1]; exact hlr.1) (by simp) (lv_room (xst_sum _ hst)) d hcs
theorem x_callVT (F : xFix E A Y cc own nL) {b ci N9 : Nat} (hM : XT l E d' mc ms y cy nLy rty (vA b :: As) M post xpost) (hl : xML own idx y) (hv : xMV y cy nLy rty As.length) (hk : xk b = (ci, N9)) (hc8 : ci < 8) (hci : vwCl[ci]?.map (fun q => q.1) = some y.cls) (hR : d' + 1 ≤ R.frames ∧ 8 + (nLy + 11) + 64 * d' ≤ R.locals) (hcs : k + mc ≤ R.cells ∧ n + ms ≤ R.slots) (hst : (st.map xcat).sum ≤ 8) (hs : st0 = As.reverse ++ vA b :: st) (d : decode cc pc = .ok (.invokevirtual idx, 3)) (gx : ∀ C M', xpost C M' → WX l E R A Y (k + mc) (n + ms) pc ls st M' C) (g : ∀ r M', post r M' → WP l E R A Y (k + mc) (n + ms) (pc + 3) ls (xps r st) M') : WP l E R A Y k n pc ls st0 M := by
  subst hs
  refine x_runX (a := (xc E.2.2.1 (vA b) :: As.map (xc E.2.2.1)).toArray) F ?_ gx g
  intro H locs lr hP hS hlr
  cases hq : vwCl[ci]? with
  | none => rw [hq] at hci; cases hci
  | some q =>
    have hq1 : q.1 = y.cls := by rw [hq] at hci; exact Option.some.inj hci
    have hrecv := va_recv F.2.2.2.2.2.1.1 hP hq (xws_obj E M hk hc8)
    rw [hq1] at hrecv
    exact vx_runV (As := As.map (xc E.2.2.1)) ⟨F.1, F.2.1, F.2.2.1, F.2.2.2.1, F.2.2.2.2.1⟩ hM (xcw_V F hl hv hR) ⟨xPc_blind _ _ _, hrecv, xpre F (vA b :: As) hP hS⟩ rfl (by simp) (by rw [← F.2.2.1]; exact hlr.1) (by simp [xc, xrv]) (lv_room (xst_sum _ hst)) d hcs
theorem x_callST (F : xFix E A Y cc own nL) (hM : XT l E d' mc ms y cy nLy rty As M post xpost) (hl : xML own idx y) (hv : xMS y cy nLy rty As.length) (hR : d' + 1 ≤ R.frames ∧ 8 + (nLy + 11) + 64 * d' ≤ R.locals) (hcs : k + mc ≤ R.cells ∧ n + ms ≤ R.slots) (hst : (st.map xcat).sum ≤ 8) (hs : st0 = As.reverse ++ st) (d : decode cc pc = .ok (.invokestatic idx, 3)) (gx : ∀ C M', xpost C M' → WX l E R A Y (k + mc) (n + ms) pc ls st M' C) (g : ∀ r M', post r M' → WP l E R A Y (k + mc) (n + ms) (pc + 3) ls (xps r st) M') : WP l E R A Y k n pc ls st0 M := by
  subst hs
  refine x_runX (a := (As.map (xc E.2.2.1)).toArray) F ?_ gx g
  intro H locs lr hP hS hlr
  exact vx_runS (As := As.map (xc E.2.2.1)) ⟨F.1, F.2.1, F.2.2.1, F.2.2.2.1, F.2.2.2.2.1⟩ hM (xcw_S F hl hv hR) ⟨xPc_blind _ _ _, xpre F As hP hS⟩ rfl (by simp) (by rw [← F.2.2.1]; exact hlr.1) (by simp) (lv_room (xst_sum _ hst)) d hcs
end XCALL
/-- an exception that is not caught here goes on to the caller -/
theorem x_out {l : Launch} {E : xE} {R : Room} {Y : xY} {cc : ByteArray} {own : String} {nL : Nat} {k n pc mc ms : Nat} {ls st : List xV} {M : xM} {post : xV → xM → Prop} {xpost : String → xM → Prop} {rt : Option FieldType} {C : String} (F : xFix E (xA E) Y cc own nL) (FR : xRet E Y rt mc ms post xpost) (hk : k ≤ mc) (hs : n ≤ ms) (h : xpost C M) : WX l E R (xA E) Y k n pc ls st M C := by
  intro H locs lr q ce hP hS hl hn hq hv hcl
  rw [show yQ Y = _ from FR.1]
  exact vx_out (fun x hx => (FR.2.2 x hx).elim) F.2.2.2.2.2.2.2.2 hq hv hcl (fun t ht hW => ⟨M, h, by rw [ht]; exact hP, hS.F ht⟩) hS.2.2 hk hs
theorem x_V0 {l : Launch} {E : xE} {R : Room} {A : Nat → Prop} {Y : xY} {cc : ByteArray} {own : String} {nL : Nat} {k n pc : Nat} {ls st : List xV} {M : xM} {y : MethodName} {cy : ByteArray} {nLy : Nat} {rty : Option FieldType} {d' idx : Nat} {r : xV} {M' : xM} (F : xFix E A Y cc own nL) {b ci N9 : Nat} (hM : XF l E d' y cy nLy rty (vA b :: []) M r M') (hl : xML own idx y) (hv : xMV y cy nLy rty 0) (hk : xk b = (ci, N9)) (d : decode cc pc = .ok (.invokevirtual idx, 3)) (hc8 : ci < 8) (hci : vwCl[ci]?.map (fun q => q.1) = some y.cls) (hR : d' + 1 ≤ R.frames ∧ 8 + (nLy + 11) + 64 * d' ≤ R.locals) (hcs : k ≤ R.cells ∧ n ≤ R.slots) (hst : (st.map xcat).sum ≤ 8) (g : WP l E R A Y k n (pc + 3) ls (xps r st) M') : WP l E R A Y k n pc ls (vA b :: st) M := x_callVP F hM hl hv hk hc8 hci hR hcs hst rfl d (fun _ _ h => by rw [h.1, h.2]; exact g)
theorem x_V0P {l : Launch} {E : xE} {R : Room} {A : Nat → Prop} {Y : xY} {cc : ByteArray} {own : String} {nL : Nat} {k n pc : Nat} {ls st : List xV} {M : xM} {y : MethodName} {cy : ByteArray} {nLy : Nat} {rty : Option FieldType} {d' idx : Nat} {post : xV → xM → Prop} (F : xFix E A Y cc own nL) {b ci N9 : Nat} (hM : XP l E d' y cy nLy rty (vA b :: []) M post) (hl : xML own idx y) (hv : xMV y cy nLy rty 0) (hk : xk b = (ci, N9)) (d : decode cc pc = .ok (.invokevirtual idx, 3)) (hc8 : ci < 8) (hci : vwCl[ci]?.map (fun q => q.1) = some y.cls) (hR : d' + 1 ≤ R.frames ∧ 8 + (nLy + 11) + 64 * d' ≤ R.locals) (hcs : k ≤ R.cells ∧ n ≤ R.slots) (hst : (st.map xcat).sum ≤ 8) (g : ∀ r M', post r M' → WP l E R A Y k n (pc + 3) ls (xps r st) M') : WP l E R A Y k n pc ls (vA b :: st) M := x_callVP F hM hl hv hk hc8 hci hR hcs hst rfl d g
theorem x_S0 {l : Launch} {E : xE} {R : Room} {A : Nat → Prop} {Y : xY} {cc : ByteArray} {own : String} {nL : Nat} {k n pc : Nat} {ls st : List xV} {M : xM} {y : MethodName} {cy : ByteArray} {nLy : Nat} {rty : Option FieldType} {d' idx : Nat} {r : xV} {M' : xM} (F : xFix E A Y cc own nL) (hM : XF l E d' y cy nLy rty [] M r M') (hl : xML own idx y) (hv : xMS y cy nLy rty 0) (d : decode cc pc = .ok (.invokestatic idx, 3)) (hR : d' + 1 ≤ R.frames ∧ 8 + (nLy + 11) + 64 * d' ≤ R.locals) (hcs : k ≤ R.cells ∧ n ≤ R.slots) (hst : (st.map xcat).sum ≤ 8) (g : WP l E R A Y k n (pc + 3) ls (xps r st) M') : WP l E R A Y k n pc ls (st) M := x_callSP F hM hl hv hR hcs hst rfl d (fun _ _ h => by rw [h.1, h.2]; exact g)
theorem x_S0P {l : Launch} {E : xE} {R : Room} {A : Nat → Prop} {Y : xY} {cc : ByteArray} {own : String} {nL : Nat} {k n pc : Nat} {ls st : List xV} {M : xM} {y : MethodName} {cy : ByteArray} {nLy : Nat} {rty : Option FieldType} {d' idx : Nat} {post : xV → xM → Prop} (F : xFix E A Y cc own nL) (hM : XP l E d' y cy nLy rty [] M post) (hl : xML own idx y) (hv : xMS y cy nLy rty 0) (d : decode cc pc = .ok (.invokestatic idx, 3)) (hR : d' + 1 ≤ R.frames ∧ 8 + (nLy + 11) + 64 * d' ≤ R.locals) (hcs : k ≤ R.cells ∧ n ≤ R.slots) (hst : (st.map xcat).sum ≤ 8) (g : ∀ r M', post r M' → WP l E R A Y k n (pc + 3) ls (xps r st) M') : WP l E R A Y k n pc ls (st) M := x_callSP F hM hl hv hR hcs hst rfl d g
theorem x_N0 {l : Launch} {E : xE} {R : Room} {A : Nat → Prop} {Y : xY} {cc : ByteArray} {own : String} {nL : Nat} {k n pc : Nat} {ls st : List xV} {M : xM} {y : MethodName} {cy : ByteArray} {nLy : Nat} {rty : Option FieldType} {d' idx : Nat} {r : xV} {M' : xM} (F : xFix E A Y cc own nL) (hM : XF l E d' y cy nLy rty [] M r M') (hl : xMN own idx y) (hv : xMS y cy nLy rty 0) (d : decode cc pc = .ok (.invokestatic idx, 3)) (hR : d' + 1 ≤ R.frames ∧ 8 + (nLy + 11) + 64 * d' ≤ R.locals) (hcs : k ≤ R.cells ∧ n ≤ R.slots) (hst : (st.map xcat).sum ≤ 8) (g : WP l E R A Y k n (pc + 3) ls (xps r st) M') : WP l E R A Y k n pc ls (st) M := x_callNP F hM hl hv hR hcs hst rfl d (fun _ _ h => by rw [h.1, h.2]; exact g)
theorem x_V1 {l : Launch} {E : xE} {R : Room} {A : Nat → Prop} {Y : xY} {cc : ByteArray} {own : String} {nL : Nat} {k n pc : Nat} {ls st : List xV} {M : xM} {y : MethodName} {cy : ByteArray} {nLy : Nat} {rty : Option FieldType} {d' idx : Nat} {r : xV} {M' : xM} {v0 : xV} (F : xFix E A Y cc own nL) {b ci N9 : Nat} (hM : XF l E d' y cy nLy rty (vA b :: [v0]) M r M') (hl : xML own idx y) (hv : xMV y cy nLy rty 1) (hk : xk b = (ci, N9)) (d : decode cc pc = .ok (.invokevirtual idx, 3)) (hc8 : ci < 8) (hci : vwCl[ci]?.map (fun q => q.1) = some y.cls) (hR : d' + 1 ≤ R.frames ∧ 8 + (nLy + 11) + 64 * d' ≤ R.locals) (hcs : k ≤ R.cells ∧ n ≤ R.slots) (hst : (st.map xcat).sum ≤ 8) (g : WP l E R A Y k n (pc + 3) ls (xps r st) M') : WP l E R A Y k n pc ls (v0 :: vA b :: st) M := x_callVP F hM hl hv hk hc8 hci hR hcs hst rfl d (fun _ _ h => by rw [h.1, h.2]; exact g)
theorem x_V1P {l : Launch} {E : xE} {R : Room} {A : Nat → Prop} {Y : xY} {cc : ByteArray} {own : String} {nL : Nat} {k n pc : Nat} {ls st : List xV} {M : xM} {y : MethodName} {cy : ByteArray} {nLy : Nat} {rty : Option FieldType} {d' idx : Nat} {post : xV → xM → Prop} {v0 : xV} (F : xFix E A Y cc own nL) {b ci N9 : Nat} (hM : XP l E d' y cy nLy rty (vA b :: [v0]) M post) (hl : xML own idx y) (hv : xMV y cy nLy rty 1) (hk : xk b = (ci, N9)) (d : decode cc pc = .ok (.invokevirtual idx, 3)) (hc8 : ci < 8) (hci : vwCl[ci]?.map (fun q => q.1) = some y.cls) (hR : d' + 1 ≤ R.frames ∧ 8 + (nLy + 11) + 64 * d' ≤ R.locals) (hcs : k ≤ R.cells ∧ n ≤ R.slots) (hst : (st.map xcat).sum ≤ 8) (g : ∀ r M', post r M' → WP l E R A Y k n (pc + 3) ls (xps r st) M') : WP l E R A Y k n pc ls (v0 :: vA b :: st) M := x_callVP F hM hl hv hk hc8 hci hR hcs hst rfl d g
theorem x_S1 {l : Launch} {E : xE} {R : Room} {A : Nat → Prop} {Y : xY} {cc : ByteArray} {own : String} {nL : Nat} {k n pc : Nat} {ls st : List xV} {M : xM} {y : MethodName} {cy : ByteArray} {nLy : Nat} {rty : Option FieldType} {d' idx : Nat} {r : xV} {M' : xM} {v0 : xV} (F : xFix E A Y cc own nL) (hM : XF l E d' y cy nLy rty [v0] M r M') (hl : xML own idx y) (hv : xMS y cy nLy rty 1) (d : decode cc pc = .ok (.invokestatic idx, 3)) (hR : d' + 1 ≤ R.frames ∧ 8 + (nLy + 11) + 64 * d' ≤ R.locals) (hcs : k ≤ R.cells ∧ n ≤ R.slots) (hst : (st.map xcat).sum ≤ 8) (g : WP l E R A Y k n (pc + 3) ls (xps r st) M') : WP l E R A Y k n pc ls (v0 :: st) M := x_callSP F hM hl hv hR hcs hst rfl d (fun _ _ h => by rw [h.1, h.2]; exact g)
theorem x_S1P {l : Launch} {E : xE} {R : Room} {A : Nat → Prop} {Y : xY} {cc : ByteArray} {own : String} {nL : Nat} {k n pc : Nat} {ls st : List xV} {M : xM} {y : MethodName} {cy : ByteArray} {nLy : Nat} {rty : Option FieldType} {d' idx : Nat} {post : xV → xM → Prop} {v0 : xV} (F : xFix E A Y cc own nL) (hM : XP l E d' y cy nLy rty [v0] M post) (hl : xML own idx y) (hv : xMS y cy nLy rty 1) (d : decode cc pc = .ok (.invokestatic idx, 3)) (hR : d' + 1 ≤ R.frames ∧ 8 + (nLy + 11) + 64 * d' ≤ R.locals) (hcs : k ≤ R.cells ∧ n ≤ R.slots) (hst : (st.map xcat).sum ≤ 8) (g : ∀ r M', post r M' → WP l E R A Y k n (pc + 3) ls (xps r st) M') : WP l E R A Y k n pc ls (v0 :: st) M := x_callSP F hM hl hv hR hcs hst rfl d g
theorem x_N1 {l : Launch} {E : xE} {R : Room} {A : Nat → Prop} {Y : xY} {cc : ByteArray} {own : String} {nL : Nat} {k n pc : Nat} {ls st : List xV} {M : xM} {y : MethodName} {cy : ByteArray} {nLy : Nat} {rty : Option FieldType} {d' idx : Nat} {r : xV} {M' : xM} {v0 : xV} (F : xFix E A Y cc own nL) (hM : XF l E d' y cy nLy rty [v0] M r M') (hl : xMN own idx y) (hv : xMS y cy nLy rty 1) (d : decode cc pc = .ok (.invokestatic idx, 3)) (hR : d' + 1 ≤ R.frames ∧ 8 + (nLy + 11) + 64 * d' ≤ R.locals) (hcs : k ≤ R.cells ∧ n ≤ R.slots) (hst : (st.map xcat).sum ≤ 8) (g : WP l E R A Y k n (pc + 3) ls (xps r st) M') : WP l E R A Y k n pc ls (v0 :: st) M := x_callNP F hM hl hv hR hcs hst rfl d (fun _ _ h => by rw [h.1, h.2]; exact g)
theorem x_V2 {l : Launch} {E : xE} {R : Room} {A : Nat → Prop} {Y : xY} {cc : ByteArray} {own : String} {nL : Nat} {k n pc : Nat} {ls st : List xV} {M : xM} {y : MethodName} {cy : ByteArray} {nLy : Nat} {rty : Option FieldType} {d' idx : Nat} {r : xV} {M' : xM} {v0 v1 : xV} (F : xFix E A Y cc own nL) {b ci N9 : Nat} (hM : XF l E d' y cy nLy rty (vA b :: [v0, v1]) M r M') (hl : xML own idx y) (hv : xMV y cy nLy rty 2) (hk : xk b = (ci, N9)) (d : decode cc pc = .ok (.invokevirtual idx, 3)) (hc8 : ci < 8) (hci : vwCl[ci]?.map (fun q => q.1) = some y.cls) (hR : d' + 1 ≤ R.frames ∧ 8 + (nLy + 11) + 64 * d' ≤ R.locals) (hcs : k ≤ R.cells ∧ n ≤ R.slots) (hst : (st.map xcat).sum ≤ 8) (g : WP l E R A Y k n (pc + 3) ls (xps r st) M') : WP l E R A Y k n pc ls (v1 :: v0 :: vA b :: st) M := x_callVP F hM hl hv hk hc8 hci hR hcs hst rfl d (fun _ _ h => by rw [h.1, h.2]; exact g)
theorem x_V2P {l : Launch} {E : xE} {R : Room} {A : Nat → Prop} {Y : xY} {cc : ByteArray} {own : String} {nL : Nat} {k n pc : Nat} {ls st : List xV} {M : xM} {y : MethodName} {cy : ByteArray} {nLy : Nat} {rty : Option FieldType} {d' idx : Nat} {post : xV → xM → Prop} {v0 v1 : xV} (F : xFix E A Y cc own nL) {b ci N9 : Nat} (hM : XP l E d' y cy nLy rty (vA b :: [v0, v1]) M post) (hl : xML own idx y) (hv : xMV y cy nLy rty 2) (hk : xk b = (ci, N9)) (d : decode cc pc = .ok (.invokevirtual idx, 3)) (hc8 : ci < 8) (hci : vwCl[ci]?.map (fun q => q.1) = some y.cls) (hR : d' + 1 ≤ R.frames ∧ 8 + (nLy + 11) + 64 * d' ≤ R.locals) (hcs : k ≤ R.cells ∧ n ≤ R.slots) (hst : (st.map xcat).sum ≤ 8) (g : ∀ r M', post r M' → WP l E R A Y k n (pc + 3) ls (xps r st) M') : WP l E R A Y k n pc ls (v1 :: v0 :: vA b :: st) M := x_callVP F hM hl hv hk hc8 hci hR hcs hst rfl d g
theorem x_S2 {l : Launch} {E : xE} {R : Room} {A : Nat → Prop} {Y : xY} {cc : ByteArray} {own : String} {nL : Nat} {k n pc : Nat} {ls st : List xV} {M : xM} {y : MethodName} {cy : ByteArray} {nLy : Nat} {rty : Option FieldType} {d' idx : Nat} {r : xV} {M' : xM} {v0 v1 : xV} (F : xFix E A Y cc own nL) (hM : XF l E d' y cy nLy rty [v0, v1] M r M') (hl : xML own idx y) (hv : xMS y cy nLy rty 2) (d : decode cc pc = .ok (.invokestatic idx, 3)) (hR : d' + 1 ≤ R.frames ∧ 8 + (nLy + 11) + 64 * d' ≤ R.locals) (hcs : k ≤ R.cells ∧ n ≤ R.slots) (hst : (st.map xcat).sum ≤ 8) (g : WP l E R A Y k n (pc + 3) ls (xps r st) M') : WP l E R A Y k n pc ls (v1 :: v0 :: st) M := x_callSP F hM hl hv hR hcs hst rfl d (fun _ _ h => by rw [h.1, h.2]; exact g)
theorem x_S2P {l : Launch} {E : xE} {R : Room} {A : Nat → Prop} {Y : xY} {cc : ByteArray} {own : String} {nL : Nat} {k n pc : Nat} {ls st : List xV} {M : xM} {y : MethodName} {cy : ByteArray} {nLy : Nat} {rty : Option FieldType} {d' idx : Nat} {post : xV → xM → Prop} {v0 v1 : xV} (F : xFix E A Y cc own nL) (hM : XP l E d' y cy nLy rty [v0, v1] M post) (hl : xML own idx y) (hv : xMS y cy nLy rty 2) (d : decode cc pc = .ok (.invokestatic idx, 3)) (hR : d' + 1 ≤ R.frames ∧ 8 + (nLy + 11) + 64 * d' ≤ R.locals) (hcs : k ≤ R.cells ∧ n ≤ R.slots) (hst : (st.map xcat).sum ≤ 8) (g : ∀ r M', post r M' → WP l E R A Y k n (pc + 3) ls (xps r st) M') : WP l E R A Y k n pc ls (v1 :: v0 :: st) M := x_callSP F hM hl hv hR hcs hst rfl d g
theorem x_N2 {l : Launch} {E : xE} {R : Room} {A : Nat → Prop} {Y : xY} {cc : ByteArray} {own : String} {nL : Nat} {k n pc : Nat} {ls st : List xV} {M : xM} {y : MethodName} {cy : ByteArray} {nLy : Nat} {rty : Option FieldType} {d' idx : Nat} {r : xV} {M' : xM} {v0 v1 : xV} (F : xFix E A Y cc own nL) (hM : XF l E d' y cy nLy rty [v0, v1] M r M') (hl : xMN own idx y) (hv : xMS y cy nLy rty 2) (d : decode cc pc = .ok (.invokestatic idx, 3)) (hR : d' + 1 ≤ R.frames ∧ 8 + (nLy + 11) + 64 * d' ≤ R.locals) (hcs : k ≤ R.cells ∧ n ≤ R.slots) (hst : (st.map xcat).sum ≤ 8) (g : WP l E R A Y k n (pc + 3) ls (xps r st) M') : WP l E R A Y k n pc ls (v1 :: v0 :: st) M := x_callNP F hM hl hv hR hcs hst rfl d (fun _ _ h => by rw [h.1, h.2]; exact g)
theorem x_V3 {l : Launch} {E : xE} {R : Room} {A : Nat → Prop} {Y : xY} {cc : ByteArray} {own : String} {nL : Nat} {k n pc : Nat} {ls st : List xV} {M : xM} {y : MethodName} {cy : ByteArray} {nLy : Nat} {rty : Option FieldType} {d' idx : Nat} {r : xV} {M' : xM} {v0 v1 v2 : xV} (F : xFix E A Y cc own nL) {b ci N9 : Nat} (hM : XF l E d' y cy nLy rty (vA b :: [v0, v1, v2]) M r M') (hl : xML own idx y) (hv : xMV y cy nLy rty 3) (hk : xk b = (ci, N9)) (d : decode cc pc = .ok (.invokevirtual idx, 3)) (hc8 : ci < 8) (hci : vwCl[ci]?.map (fun q => q.1) = some y.cls) (hR : d' + 1 ≤ R.frames ∧ 8 + (nLy + 11) + 64 * d' ≤ R.locals) (hcs : k ≤ R.cells ∧ n ≤ R.slots) (hst : (st.map xcat).sum ≤ 8) (g : WP l E R A Y k n (pc + 3) ls (xps r st) M') : WP l E R A Y k n pc ls (v2 :: v1 :: v0 :: vA b :: st) M := x_callVP F hM hl hv hk hc8 hci hR hcs hst rfl d (fun _ _ h => by rw [h.1, h.2]; exact g)
theorem x_V3P {l : Launch} {E : xE} {R : Room} {A : Nat → Prop} {Y : xY} {cc : ByteArray} {own : String} {nL : Nat} {k n pc : Nat} {ls st : List xV} {M : xM} {y : MethodName} {cy : ByteArray} {nLy : Nat} {rty : Option FieldType} {d' idx : Nat} {post : xV → xM → Prop} {v0 v1 v2 : xV} (F : xFix E A Y cc own nL) {b ci N9 : Nat} (hM : XP l E d' y cy nLy rty (vA b :: [v0, v1, v2]) M post) (hl : xML own idx y) (hv : xMV y cy nLy rty 3) (hk : xk b = (ci, N9)) (d : decode cc pc = .ok (.invokevirtual idx, 3)) (hc8 : ci < 8) (hci : vwCl[ci]?.map (fun q => q.1) = some y.cls) (hR : d' + 1 ≤ R.frames ∧ 8 + (nLy + 11) + 64 * d' ≤ R.locals) (hcs : k ≤ R.cells ∧ n ≤ R.slots) (hst : (st.map xcat).sum ≤ 8) (g : ∀ r M', post r M' → WP l E R A Y k n (pc + 3) ls (xps r st) M') : WP l E R A Y k n pc ls (v2 :: v1 :: v0 :: vA b :: st) M := x_callVP F hM hl hv hk hc8 hci hR hcs hst rfl d g
theorem x_S3 {l : Launch} {E : xE} {R : Room} {A : Nat → Prop} {Y : xY} {cc : ByteArray} {own : String} {nL : Nat} {k n pc : Nat} {ls st : List xV} {M : xM} {y : MethodName} {cy : ByteArray} {nLy : Nat} {rty : Option FieldType} {d' idx : Nat} {r : xV} {M' : xM} {v0 v1 v2 : xV} (F : xFix E A Y cc own nL) (hM : XF l E d' y cy nLy rty [v0, v1, v2] M r M') (hl : xML own idx y) (hv : xMS y cy nLy rty 3) (d : decode cc pc = .ok (.invokestatic idx, 3)) (hR : d' + 1 ≤ R.frames ∧ 8 + (nLy + 11) + 64 * d' ≤ R.locals) (hcs : k ≤ R.cells ∧ n ≤ R.slots) (hst : (st.map xcat).sum ≤ 8) (g : WP l E R A Y k n (pc + 3) ls (xps r st) M') : WP l E R A Y k n pc ls (v2 :: v1 :: v0 :: st) M := x_callSP F hM hl hv hR hcs hst rfl d (fun _ _ h => by rw [h.1, h.2]; exact g)
theorem x_S3P {l : Launch} {E : xE} {R : Room} {A : Nat → Prop} {Y : xY} {cc : ByteArray} {own : String} {nL : Nat} {k n pc : Nat} {ls st : List xV} {M : xM} {y : MethodName} {cy : ByteArray} {nLy : Nat} {rty : Option FieldType} {d' idx : Nat} {post : xV → xM → Prop} {v0 v1 v2 : xV} (F : xFix E A Y cc own nL) (hM : XP l E d' y cy nLy rty [v0, v1, v2] M post) (hl : xML own idx y) (hv : xMS y cy nLy rty 3) (d : decode cc pc = .ok (.invokestatic idx, 3)) (hR : d' + 1 ≤ R.frames ∧ 8 + (nLy + 11) + 64 * d' ≤ R.locals) (hcs : k ≤ R.cells ∧ n ≤ R.slots) (hst : (st.map xcat).sum ≤ 8) (g : ∀ r M', post r M' → WP l E R A Y k n (pc + 3) ls (xps r st) M') : WP l E R A Y k n pc ls (v2 :: v1 :: v0 :: st) M := x_callSP F hM hl hv hR hcs hst rfl d g
theorem x_N3 {l : Launch} {E : xE} {R : Room} {A : Nat → Prop} {Y : xY} {cc : ByteArray} {own : String} {nL : Nat} {k n pc : Nat} {ls st : List xV} {M : xM} {y : MethodName} {cy : ByteArray} {nLy : Nat} {rty : Option FieldType} {d' idx : Nat} {r : xV} {M' : xM} {v0 v1 v2 : xV} (F : xFix E A Y cc own nL) (hM : XF l E d' y cy nLy rty [v0, v1, v2] M r M') (hl : xMN own idx y) (hv : xMS y cy nLy rty 3) (d : decode cc pc = .ok (.invokestatic idx, 3)) (hR : d' + 1 ≤ R.frames ∧ 8 + (nLy + 11) + 64 * d' ≤ R.locals) (hcs : k ≤ R.cells ∧ n ≤ R.slots) (hst : (st.map xcat).sum ≤ 8) (g : WP l E R A Y k n (pc + 3) ls (xps r st) M') : WP l E R A Y k n pc ls (v2 :: v1 :: v0 :: st) M := x_callNP F hM hl hv hR hcs hst rfl d (fun _ _ h => by rw [h.1, h.2]; exact g)
theorem x_V4 {l : Launch} {E : xE} {R : Room} {A : Nat → Prop} {Y : xY} {cc : ByteArray} {own : String} {nL : Nat} {k n pc : Nat} {ls st : List xV} {M : xM} {y : MethodName} {cy : ByteArray} {nLy : Nat} {rty : Option FieldType} {d' idx : Nat} {r : xV} {M' : xM} {v0 v1 v2 v3 : xV} (F : xFix E A Y cc own nL) {b ci N9 : Nat} (hM : XF l E d' y cy nLy rty (vA b :: [v0, v1, v2, v3]) M r M') (hl : xML own idx y) (hv : xMV y cy nLy rty 4) (hk : xk b = (ci, N9)) (d : decode cc pc = .ok (.invokevirtual idx, 3)) (hc8 : ci < 8) (hci : vwCl[ci]?.map (fun q => q.1) = some y.cls) (hR : d' + 1 ≤ R.frames ∧ 8 + (nLy + 11) + 64 * d' ≤ R.locals) (hcs : k ≤ R.cells ∧ n ≤ R.slots) (hst : (st.map xcat).sum ≤ 8) (g : WP l E R A Y k n (pc + 3) ls (xps r st) M') : WP l E R A Y k n pc ls (v3 :: v2 :: v1 :: v0 :: vA b :: st) M := x_callVP F hM hl hv hk hc8 hci hR hcs hst rfl d (fun _ _ h => by rw [h.1, h.2]; exact g)
theorem x_V4P {l : Launch} {E : xE} {R : Room} {A : Nat → Prop} {Y : xY} {cc : ByteArray} {own : String} {nL : Nat} {k n pc : Nat} {ls st : List xV} {M : xM} {y : MethodName} {cy : ByteArray} {nLy : Nat} {rty : Option FieldType} {d' idx : Nat} {post : xV → xM → Prop} {v0 v1 v2 v3 : xV} (F : xFix E A Y cc own nL) {b ci N9 : Nat} (hM : XP l E d' y cy nLy rty (vA b :: [v0, v1, v2, v3]) M post) (hl : xML own idx y) (hv : xMV y cy nLy rty 4) (hk : xk b = (ci, N9)) (d : decode cc pc = .ok (.invokevirtual idx, 3)) (hc8 : ci < 8) (hci : vwCl[ci]?.map (fun q => q.1) = some y.cls) (hR : d' + 1 ≤ R.frames ∧ 8 + (nLy + 11) + 64 * d' ≤ R.locals) (hcs : k ≤ R.cells ∧ n ≤ R.slots) (hst : (st.map xcat).sum ≤ 8) (g : ∀ r M', post r M' → WP l E R A Y k n (pc + 3) ls (xps r st) M') : WP l E R A Y k n pc ls (v3 :: v2 :: v1 :: v0 :: vA b :: st) M := x_callVP F hM hl hv hk hc8 hci hR hcs hst rfl d g
theorem x_S4 {l : Launch} {E : xE} {R : Room} {A : Nat → Prop} {Y : xY} {cc : ByteArray} {own : String} {nL : Nat} {k n pc : Nat} {ls st : List xV} {M : xM} {y : MethodName} {cy : ByteArray} {nLy : Nat} {rty : Option FieldType} {d' idx : Nat} {r : xV} {M' : xM} {v0 v1 v2 v3 : xV} (F : xFix E A Y cc own nL) (hM : XF l E d' y cy nLy rty [v0, v1, v2, v3] M r M') (hl : xML own idx y) (hv : xMS y cy nLy rty 4) (d : decode cc pc = .ok (.invokestatic idx, 3)) (hR : d' + 1 ≤ R.frames ∧ 8 + (nLy + 11) + 64 * d' ≤ R.locals) (hcs : k ≤ R.cells ∧ n ≤ R.slots) (hst : (st.map xcat).sum ≤ 8) (g : WP l E R A Y k n (pc + 3) ls (xps r st) M') : WP l E R A Y k n pc ls (v3 :: v2 :: v1 :: v0 :: st) M := x_callSP F hM hl hv hR hcs hst rfl d (fun _ _ h => by rw [h.1, h.2]; exact g)
theorem x_S4P {l : Launch} {E : xE} {R : Room} {A : Nat → Prop} {Y : xY} {cc : ByteArray} {own : String} {nL : Nat} {k n pc : Nat} {ls st : List xV} {M : xM} {y : MethodName} {cy : ByteArray} {nLy : Nat} {rty : Option FieldType} {d' idx : Nat} {post : xV → xM → Prop} {v0 v1 v2 v3 : xV} (F : xFix E A Y cc own nL) (hM : XP l E d' y cy nLy rty [v0, v1, v2, v3] M post) (hl : xML own idx y) (hv : xMS y cy nLy rty 4) (d : decode cc pc = .ok (.invokestatic idx, 3)) (hR : d' + 1 ≤ R.frames ∧ 8 + (nLy + 11) + 64 * d' ≤ R.locals) (hcs : k ≤ R.cells ∧ n ≤ R.slots) (hst : (st.map xcat).sum ≤ 8) (g : ∀ r M', post r M' → WP l E R A Y k n (pc + 3) ls (xps r st) M') : WP l E R A Y k n pc ls (v3 :: v2 :: v1 :: v0 :: st) M := x_callSP F hM hl hv hR hcs hst rfl d g
theorem x_N4 {l : Launch} {E : xE} {R : Room} {A : Nat → Prop} {Y : xY} {cc : ByteArray} {own : String} {nL : Nat} {k n pc : Nat} {ls st : List xV} {M : xM} {y : MethodName} {cy : ByteArray} {nLy : Nat} {rty : Option FieldType} {d' idx : Nat} {r : xV} {M' : xM} {v0 v1 v2 v3 : xV} (F : xFix E A Y cc own nL) (hM : XF l E d' y cy nLy rty [v0, v1, v2, v3] M r M') (hl : xMN own idx y) (hv : xMS y cy nLy rty 4) (d : decode cc pc = .ok (.invokestatic idx, 3)) (hR : d' + 1 ≤ R.frames ∧ 8 + (nLy + 11) + 64 * d' ≤ R.locals) (hcs : k ≤ R.cells ∧ n ≤ R.slots) (hst : (st.map xcat).sum ≤ 8) (g : WP l E R A Y k n (pc + 3) ls (xps r st) M') : WP l E R A Y k n pc ls (v3 :: v2 :: v1 :: v0 :: st) M := x_callNP F hM hl hv hR hcs hst rfl d (fun _ _ h => by rw [h.1, h.2]; exact g)
end
section
/-! WHOLE NUMBERS: the ints of the walk as jI z, z : Int; booleans as jb p -/
abbrev rg (z : Int) : Prop := -2147483648 ≤ z ∧ z < 2147483648
def jI (z : Int) : Int32 := Int32.ofInt z
def jb (p : Prop) [Decidable p] : Int32 := if p then jI 1 else jI 0
theorem jb_t {p : Prop} [Decidable p] (h : p) : jb p = jI 1 := if_pos h
theorem jb_f {p : Prop} [Decidable p] (h : ¬ p) : jb p = jI 0 := if_neg h
theorem jb_c {p q : Prop} [Decidable p] [Decidable q] (h : p ↔ q) : jb p = jb q := by
  by_cases hp : p
  · rw [jb_t hp, jb_t (h.mp hp)]
  · rw [jb_f hp, jb_f (fun z => hp (h.mpr z))]
theorem jI_toInt {z : Int} (h : rg z) : (jI z).toInt = z := Int32.toInt_ofInt_of_le h.1 h.2
theorem jI_of (x : Int32) : jI x.toInt = x := Int32.ofInt_toInt x
theorem rg_of (x : Int32) : rg x.toInt := ⟨Int32.le_toInt x, Int32.toInt_lt x⟩
theorem jI_ex (x : Int32) : ∃ z : Int, rg z ∧ x = jI z := ⟨x.toInt, rg_of x, (jI_of x).symm⟩
theorem jI_bv (z : Int) : (jI z).toBitVec = BitVec.ofInt 32 z := rfl
theorem jI_add (a b : Int) : jI a + jI b = jI (a + b) := by
  apply Int32.toBitVec.inj; rw [Int32.toBitVec_add, jI_bv, jI_bv, jI_bv, BitVec.ofInt_add]
theorem jI_mul (a b : Int) : jI a * jI b = jI (a * b) := by
  apply Int32.toBitVec.inj; rw [Int32.toBitVec_mul, jI_bv, jI_bv, jI_bv, BitVec.ofInt_mul]
theorem jI_neg (a : Int) : -jI a = jI (-a) := Int32.neg_ofInt
theorem jI_sub (a b : Int) : jI a - jI b = jI (a - b) := by
  rw [Int32.sub_eq_add_neg, jI_neg, jI_add, Int.sub_eq_add_neg]
theorem jI_le {a b : Int} (ha : rg a) (hb : rg b) : jI a ≤ jI b ↔ a ≤ b := by
  rw [Int32.le_iff_toInt_le, jI_toInt ha, jI_toInt hb]
theorem jI_lt {a b : Int} (ha : rg a) (hb : rg b) : jI a < jI b ↔ a < b := by
  rw [Int32.lt_iff_toInt_lt, jI_toInt ha, jI_toInt hb]
theorem jI_eq {a b : Int} (ha : rg a) (hb : rg b) : jI a = jI b ↔ a = b := by
  rw [← Int32.toInt_inj, jI_toInt ha, jI_toInt hb]
theorem jI_0 : jI 0 = 0 := rfl
theorem jI_nat (n : Nat) : jI (n : Int) = nI n := by
  unfold jI nI; exact Int32.ofInt_eq_ofNat
theorem jI_clamp {z : Int} (h : rg z) : (jI z).toNatClampNeg = z.toNat := Int32.toNatClampNeg_ofInt_of_le h.1 h.2
theorem jI_in {z : Int} {n : Nat} (h : 0 ≤ z ∧ z < n) (hz : rg z) : vp_in (jI z) n := by
  unfold vp_in
  rw [show (0 : Int32) = jI 0 from rfl, jI_lt hz (by omega), jI_clamp hz]
  omega
theorem jI_div {a b : Int} (ha : rg a) (h0 : 0 ≤ a) (hb : rg b) (h1 : 0 < b) : jI a / jI b = jI (a / b) := by
  have e1 : jI a = nI a.toNat := by rw [← jI_nat, Int.toNat_of_nonneg h0]
  have e2 : jI b = nI b.toNat := by rw [← jI_nat, Int.toNat_of_nonneg (by omega)]
  rw [e1, e2, pk_div (by omega) (by omega) (by omega), ← jI_nat]
  congr 1
  rw [Int.natCast_ediv, Int.toNat_of_nonneg h0, Int.toNat_of_nonneg (by omega)]
theorem jI_rem {a b : Int} (ha : rg a) (h0 : 0 ≤ a) (hb : rg b) (h1 : 0 < b) : jI a - jI a / jI b * jI b = jI (a % b) := by
  rw [jI_div ha h0 hb h1, jI_mul, jI_sub]
  congr 1
  have := Int.emod_add_mul_ediv a b
  rw [Int.mul_comm]
  omega
theorem jI_and1 {a : Int} (ha : rg a) (h0 : 0 ≤ a) : jI a &&& jI 1 = jI (a % 2) := by
  have e1 : jI a = nI a.toNat := by rw [← jI_nat, Int.toNat_of_nonneg h0]
  rw [e1, show jI 1 = nI 1 from rfl, pk_andN (by omega) 1 (by decide), ← jI_nat]
  congr 1
  omega
theorem jI_max {a b : Int} : (if a ≤ b then jI b else jI a) = jI (max a b) := by
  by_cases h : a ≤ b
  · rw [if_pos h, Int.max_eq_right h]
  · rw [if_neg h, Int.max_eq_left (by omega)]
section XJ
variable {l : Launch} {E : xE} {R : Room} {A : Nat → Prop} {Y : xY} {cc : ByteArray} {own : String} {nL : Nat} {k n pc : Nat} {ls st : List xV} {M : xM}
theorem xj_iadd (F : xFix E A Y cc own nL) {a b : Int} (d : decode cc pc = .ok (.iadd, 1)) (g : WP l E R A Y k n (pc + 1) ls (vI (jI (a + b)) :: st) M) : WP l E R A Y k n pc ls (vI (jI b) :: vI (jI a) :: st) M := x_iadd F d (by rw [jI_add]; exact g)
theorem xj_isub (F : xFix E A Y cc own nL) {a b : Int} (d : decode cc pc = .ok (.isub, 1)) (g : WP l E R A Y k n (pc + 1) ls (vI (jI (a - b)) :: st) M) : WP l E R A Y k n pc ls (vI (jI b) :: vI (jI a) :: st) M := x_isub F d (by rw [jI_sub]; exact g)
theorem xj_imul (F : xFix E A Y cc own nL) {a b : Int} (d : decode cc pc = .ok (.imul, 1)) (g : WP l E R A Y k n (pc + 1) ls (vI (jI (a * b)) :: st) M) : WP l E R A Y k n pc ls (vI (jI b) :: vI (jI a) :: st) M := x_imul F d (by rw [jI_mul]; exact g)
theorem xj_ineg (F : xFix E A Y cc own nL) {a : Int} (d : decode cc pc = .ok (.ineg, 1)) (g : WP l E R A Y k n (pc + 1) ls (vI (jI (-a)) :: st) M) : WP l E R A Y k n pc ls (vI (jI a) :: st) M := x_ineg F d (by rw [jI_neg]; exact g)
theorem xj_idiv (F : xFix E A Y cc own nL) {a b : Int} (d : decode cc pc = .ok (.idiv, 1)) (h : rg a ∧ 0 ≤ a ∧ rg b ∧ 0 < b) (g : WP l E R A Y k n (pc + 1) ls (vI (jI (a / b)) :: st) M) : WP l E R A Y k n pc ls (vI (jI b) :: vI (jI a) :: st) M := x_idiv F d (fun z => by rw [show (0 : Int32) = jI 0 from rfl, jI_eq h.2.2.1 (by omega)] at z; omega) (by rw [jI_div h.1 h.2.1 h.2.2.1 h.2.2.2]; exact g)
theorem xj_irem (F : xFix E A Y cc own nL) {a b : Int} (d : decode cc pc = .ok (.irem, 1)) (h : rg a ∧ 0 ≤ a ∧ rg b ∧ 0 < b) (g : WP l E R A Y k n (pc + 1) ls (vI (jI (a % b)) :: st) M) : WP l E R A Y k n pc ls (vI (jI b) :: vI (jI a) :: st) M := x_irem F d (fun z => by rw [show (0 : Int32) = jI 0 from rfl, jI_eq h.2.2.1 (by omega)] at z; omega) (by rw [jI_rem h.1 h.2.1 h.2.2.1 h.2.2.2]; exact g)
theorem xj_and1 (F : xFix E A Y cc own nL) {a : Int} (d : decode cc pc = .ok (.iand, 1)) (h : rg a ∧ 0 ≤ a) (g : WP l E R A Y k n (pc + 1) ls (vI (jI (a % 2)) :: st) M) : WP l E R A Y k n pc ls (vI (jI 1) :: vI (jI a) :: st) M := x_iand F d (by rw [jI_and1 h.1 h.2]; exact g)
theorem xj_iconst (F : xFix E A Y cc own nL) {i : Int} (d : decode cc pc = .ok (.iconst i, 1)) (g : WP l E R A Y k n (pc + 1) ls (vI (jI i) :: st) M) : WP l E R A Y k n pc ls st M := x_iconst F d rfl g
theorem xj_bipush (F : xFix E A Y cc own nL) {i : Int} (d : decode cc pc = .ok (.bipush i, 2)) (h : (Int8.ofInt i).toInt32 = jI i) (g : WP l E R A Y k n (pc + 2) ls (vI (jI i) :: st) M) : WP l E R A Y k n pc ls st M := x_bipush F d h g
theorem xj_sipush (F : xFix E A Y cc own nL) {i : Int} (d : decode cc pc = .ok (.sipush i, 3)) (h : (Int16.ofInt i).toInt32 = jI i) (g : WP l E R A Y k n (pc + 3) ls (vI (jI i) :: st) M) : WP l E R A Y k n pc ls st M := x_sipush F d h g
theorem xj_iinc (F : xFix E A Y cc own nL) {i : Nat} {c z : Int} (d : decode cc pc = .ok (.iinc i c, 3)) (hv : ls[i]? = some (vI (jI z))) (g : WP l E R A Y k n (pc + 3) (stl ls i (vI (jI (z + c)))) st M) : WP l E R A Y k n pc ls st M := x_iinc F d hv (jI_add z c) g
theorem xj_iald (F : xFix E A Y cc own nL) {a N9 : Nat} {z : Int} (hk : xk a = (8, N9)) (d : decode cc pc = .ok (.iaload, 1)) (h : 0 ≤ z ∧ z < N9 ∧ z < 2147483648) (g : WP l E R A Y k n (pc + 1) ls (vI (M.1 a z.toNat) :: st) M) : WP l E R A Y k n pc ls (vI (jI z) :: vA a :: st) M := x_iald F hk d (jI_in ⟨h.1, h.2.1⟩ (by omega)) (by rw [jI_clamp (by omega)]; exact g)
theorem xj_cald (F : xFix E A Y cc own nL) {a N9 : Nat} {z : Int} (hk : xk a = (9, N9)) (d : decode cc pc = .ok (.caload, 1)) (h : 0 ≤ z ∧ z < N9 ∧ z < 2147483648) (g : WP l E R A Y k n (pc + 1) ls (vI (M.1 a z.toNat) :: st) M) : WP l E R A Y k n pc ls (vI (jI z) :: vA a :: st) M := x_cald F hk d (jI_in ⟨h.1, h.2.1⟩ (by omega)) (by rw [jI_clamp (by omega)]; exact g)
theorem xj_aaldC (F : xFix E A Y cc own nL) {a N9 : Nat} {z : Int} (hk : xk a = (11, N9)) (d : decode cc pc = .ok (.aaload, 1)) (h : 0 ≤ z ∧ z < N9 ∧ z < 2147483648) (g : WP l E R A Y k n (pc + 1) ls (vA (18 + 5 * z.toNat) :: st) M) : WP l E R A Y k n pc ls (vI (jI z) :: vA a :: st) M := x_aaldC F hk d (jI_in ⟨h.1, h.2.1⟩ (by omega)) (by rw [jI_clamp (by omega)]; exact g)
theorem xj_aaldN (F : xFix E A Y cc own nL) {a N9 : Nat} {z : Int} (hk : xk a = (12, N9)) (d : decode cc pc = .ok (.aaload, 1)) (h : 0 ≤ z ∧ z < N9 ∧ z < 2147483648) (g : WP l E R A Y k n (pc + 1) ls (vA (52 + z.toNat) :: st) M) : WP l E R A Y k n pc ls (vI (jI z) :: vA a :: st) M := x_aaldN F hk d (jI_in ⟨h.1, h.2.1⟩ (by omega)) (by rw [jI_clamp (by omega)]; exact g)
theorem xj_iast (F : xFix E A Y cc own nL) {a N9 : Nat} {z : Int} {x : Int32} (hk : xk a = (8, N9)) (d : decode cc pc = .ok (.iastore, 1)) (h : 0 ≤ z ∧ z < N9 ∧ z < 2147483648) (g : WP l E R A Y k n (pc + 1) ls st (upI M a z.toNat x)) : WP l E R A Y k n pc ls (vI x :: vI (jI z) :: vA a :: st) M := x_iast F hk d (jI_in ⟨h.1, h.2.1⟩ (by omega)) (by rw [jI_clamp (by omega)]; exact g)
theorem xj_cast (F : xFix E A Y cc own nL) {a N9 : Nat} {z : Int} {x : Int32} (hk : xk a = (9, N9)) (d : decode cc pc = .ok (.castore, 1)) (h : 0 ≤ z ∧ z < N9 ∧ z < 2147483648) (hx : vp_nar .char x = x) (g : WP l E R A Y k n (pc + 1) ls st (upI M a z.toNat x)) : WP l E R A Y k n pc ls (vI x :: vI (jI z) :: vA a :: st) M := x_cast F hk d (jI_in ⟨h.1, h.2.1⟩ (by omega)) hx (by rw [jI_clamp (by omega)]; exact g)
theorem xj_alen (F : xFix E A Y cc own nL) {a t9 N9 : Nat} (hk : xk a = (t9, N9)) (d : decode cc pc = .ok (.arraylength, 1)) (ht : t9 = 8 ∨ t9 = 9 ∨ t9 = 11 ∨ t9 = 12) (g : WP l E R A Y k n (pc + 1) ls (vI (jI (N9 : Int)) :: st) M) : WP l E R A Y k n pc ls (vA a :: st) M := x_alen F hk ht (by rw [jI_nat]; rfl) d g
theorem xj_icmp_eq (F : xFix E A Y cc own nL) {a b : Int} {off : Int} {tgt : Nat} (d : decode cc pc = .ok (.if_icmp .eq off, 3)) (ht : (pc : Int) + off = (tgt : Int)) (h : rg a ∧ rg b) (g1 : a = b → WP l E R A Y k n tgt ls st M) (g2 : a ≠ b → WP l E R A Y k n (pc + 3) ls st M) : WP l E R A Y k n pc ls (vI (jI b) :: vI (jI a) :: st) M := x_icmp_eq F d ht (fun q => g1 ((jI_eq h.1 h.2).mp q)) (fun q => g2 (fun z => q ((jI_eq h.1 h.2).mpr z)))
theorem xj_icmp_ne (F : xFix E A Y cc own nL) {a b : Int} {off : Int} {tgt : Nat} (d : decode cc pc = .ok (.if_icmp .ne off, 3)) (ht : (pc : Int) + off = (tgt : Int)) (h : rg a ∧ rg b) (g1 : a ≠ b → WP l E R A Y k n tgt ls st M) (g2 : a = b → WP l E R A Y k n (pc + 3) ls st M) : WP l E R A Y k n pc ls (vI (jI b) :: vI (jI a) :: st) M := x_icmp_ne F d ht (fun q => g1 (fun z => q ((jI_eq h.1 h.2).mpr z))) (fun q => g2 ((jI_eq h.1 h.2).mp q))
theorem xj_icmp_lt (F : xFix E A Y cc own nL) {a b : Int} {off : Int} {tgt : Nat} (d : decode cc pc = .ok (.if_icmp .lt off, 3)) (ht : (pc : Int) + off = (tgt : Int)) (h : rg a ∧ rg b) (g1 : a < b → WP l E R A Y k n tgt ls st M) (g2 : b ≤ a → WP l E R A Y k n (pc + 3) ls st M) : WP l E R A Y k n pc ls (vI (jI b) :: vI (jI a) :: st) M := x_icmp_lt F d ht (fun q => g1 ((jI_lt h.1 h.2).mp q)) (fun q => g2 (by rw [jI_lt h.1 h.2] at q; omega))
theorem xj_icmp_ge (F : xFix E A Y cc own nL) {a b : Int} {off : Int} {tgt : Nat} (d : decode cc pc = .ok (.if_icmp .ge off, 3)) (ht : (pc : Int) + off = (tgt : Int)) (h : rg a ∧ rg b) (g1 : b ≤ a → WP l E R A Y k n tgt ls st M) (g2 : a < b → WP l E R A Y k n (pc + 3) ls st M) : WP l E R A Y k n pc ls (vI (jI b) :: vI (jI a) :: st) M := x_icmp_ge F d ht (fun q => g1 ((jI_le h.2 h.1).mp q)) (fun q => g2 (by rw [jI_le h.2 h.1] at q; omega))
theorem xj_icmp_gt (F : xFix E A Y cc own nL) {a b : Int} {off : Int} {tgt : Nat} (d : decode cc pc = .ok (.if_icmp .gt off, 3)) (ht : (pc : Int) + off = (tgt : Int)) (h : rg a ∧ rg b) (g1 : b < a → WP l E R A Y k n tgt ls st M) (g2 : a ≤ b → WP l E R A Y k n (pc + 3) ls st M) : WP l E R A Y k n pc ls (vI (jI b) :: vI (jI a) :: st) M := x_icmp_gt F d ht (fun q => g1 ((jI_lt h.2 h.1).mp q)) (fun q => g2 (by rw [jI_lt h.2 h.1] at q; omega))
theorem xj_icmp_le (F : xFix E A Y cc own nL) {a b : Int} {off : Int} {tgt : Nat} (d : decode cc pc = .ok (.if_icmp .le off, 3)) (ht : (pc : Int) + off = (tgt : Int)) (h : rg a ∧ rg b) (g1 : a ≤ b → WP l E R A Y k n tgt ls st M) (g2 : b < a → WP l E R A Y k n (pc + 3) ls st M) : WP l E R A Y k n pc ls (vI (jI b) :: vI (jI a) :: st) M := x_icmp_le F d ht (fun q => g1 ((jI_le h.1 h.2).mp q)) (fun q => g2 (by rw [jI_le h.1 h.2] at q; omega))
theorem xj_if_eq (F : xFix E A Y cc own nL) {a : Int} {off : Int} {tgt : Nat} (d : decode cc pc = .ok (.ifCond .eq off, 3)) (ht : (pc : Int) + off = (tgt : Int)) (h : rg a) (g1 : a = 0 → WP l E R A Y k n tgt ls st M) (g2 : a ≠ 0 → WP l E R A Y k n (pc + 3) ls st M) : WP l E R A Y k n pc ls (vI (jI a) :: st) M := x_if_eq F d ht (fun q => g1 ((jI_eq h (by omega)).mp q)) (fun q => g2 (fun z => q ((jI_eq h (by omega)).mpr z)))
theorem xj_if_ne (F : xFix E A Y cc own nL) {a : Int} {off : Int} {tgt : Nat} (d : decode cc pc = .ok (.ifCond .ne off, 3)) (ht : (pc : Int) + off = (tgt : Int)) (h : rg a) (g1 : a ≠ 0 → WP l E R A Y k n tgt ls st M) (g2 : a = 0 → WP l E R A Y k n (pc + 3) ls st M) : WP l E R A Y k n pc ls (vI (jI a) :: st) M := x_if_ne F d ht (fun q => g1 (fun z => q ((jI_eq h (by omega)).mpr z))) (fun q => g2 ((jI_eq h (by omega)).mp q))
theorem xj_if_lt (F : xFix E A Y cc own nL) {a : Int} {off : Int} {tgt : Nat} (d : decode cc pc = .ok (.ifCond .lt off, 3)) (ht : (pc : Int) + off = (tgt : Int)) (h : rg a) (g1 : a < 0 → WP l E R A Y k n tgt ls st M) (g2 : 0 ≤ a → WP l E R A Y k n (pc + 3) ls st M) : WP l E R A Y k n pc ls (vI (jI a) :: st) M := x_if_lt F d ht (fun q => g1 ((jI_lt h (by omega)).mp q)) (fun q => g2 (by rw [show (0 : Int32) = jI 0 from rfl, jI_lt h (by omega)] at q; omega))
theorem xj_if_ge (F : xFix E A Y cc own nL) {a : Int} {off : Int} {tgt : Nat} (d : decode cc pc = .ok (.ifCond .ge off, 3)) (ht : (pc : Int) + off = (tgt : Int)) (h : rg a) (g1 : 0 ≤ a → WP l E R A Y k n tgt ls st M) (g2 : a < 0 → WP l E R A Y k n (pc + 3) ls st M) : WP l E R A Y k n pc ls (vI (jI a) :: st) M := x_if_ge F d ht (fun q => g1 ((jI_le (by omega) h).mp q)) (fun q => g2 (by rw [show (0 : Int32) = jI 0 from rfl, jI_le (by omega) h] at q; omega))
theorem xj_if_gt (F : xFix E A Y cc own nL) {a : Int} {off : Int} {tgt : Nat} (d : decode cc pc = .ok (.ifCond .gt off, 3)) (ht : (pc : Int) + off = (tgt : Int)) (h : rg a) (g1 : 0 < a → WP l E R A Y k n tgt ls st M) (g2 : a ≤ 0 → WP l E R A Y k n (pc + 3) ls st M) : WP l E R A Y k n pc ls (vI (jI a) :: st) M := x_if_gt F d ht (fun q => g1 ((jI_lt (by omega) h).mp q)) (fun q => g2 (by rw [show (0 : Int32) = jI 0 from rfl, jI_lt (by omega) h] at q; omega))
theorem xj_if_le (F : xFix E A Y cc own nL) {a : Int} {off : Int} {tgt : Nat} (d : decode cc pc = .ok (.ifCond .le off, 3)) (ht : (pc : Int) + off = (tgt : Int)) (h : rg a) (g1 : a ≤ 0 → WP l E R A Y k n tgt ls st M) (g2 : 0 < a → WP l E R A Y k n (pc + 3) ls st M) : WP l E R A Y k n pc ls (vI (jI a) :: st) M := x_if_le F d ht (fun q => g1 ((jI_le h (by omega)).mp q)) (fun q => g2 (by rw [show (0 : Int32) = jI 0 from rfl, jI_le h (by omega)] at q; omega))
theorem xb_if_eq (F : xFix E A Y cc own nL) {p : Prop} [Decidable p] {off : Int} {tgt : Nat} (d : decode cc pc = .ok (.ifCond .eq off, 3)) (ht : (pc : Int) + off = (tgt : Int)) (g1 : ¬ p → WP l E R A Y k n tgt ls st M) (g2 : p → WP l E R A Y k n (pc + 3) ls st M) : WP l E R A Y k n pc ls (vI (jb p) :: st) M := x_if_eq F d ht (fun q => g1 (fun hp => by rw [jb_t hp] at q; exact absurd q (by decide))) (fun q => by
  by_cases hp : p
  · exact g2 hp
  · rw [jb_f hp] at q; exact absurd rfl q)
theorem xb_if_ne (F : xFix E A Y cc own nL) {p : Prop} [Decidable p] {off : Int} {tgt : Nat} (d : decode cc pc = .ok (.ifCond .ne off, 3)) (ht : (pc : Int) + off = (tgt : Int)) (g1 : p → WP l E R A Y k n tgt ls st M) (g2 : ¬ p → WP l E R A Y k n (pc + 3) ls st M) : WP l E R A Y k n pc ls (vI (jb p) :: st) M := x_if_ne F d ht (fun q => by
  by_cases hp : p
  · exact g1 hp
  · rw [jb_f hp] at q; exact absurd rfl q) (fun q => g2 (fun hp => by rw [jb_t hp] at q; exact absurd q (by decide)))
end XJ
theorem jb_nar (p : Prop) [Decidable p] : narrow .boolean (.int (jb p)) = .int (jb p) := by
  by_cases h : p
  · rw [jb_t h]; rfl
  · rw [jb_f h]; rfl
section XJ2
variable {l : Launch} {E : xE} {R : Room} {A : Nat → Prop} {Y : xY} {cc : ByteArray} {own : String} {nL : Nat} {k n pc : Nat} {ls st : List xV} {M : xM}
theorem xj_geti (F : xFix E A Y cc own nL) {idx ci j a N9 : Nat} (h : xFL own idx ci j) (hk : xk a = (ci, N9)) (d : decode cc pc = .ok (.getfield idx, 3)) (hc : ci < 8) (hj : j < N9) (hf : xft ci j = 0) (g : rg (M.1 a j).toInt → WP l E R A Y k n (pc + 3) ls (vI (jI (M.1 a j).toInt) :: st) M) : WP l E R A Y k n pc ls (vA a :: st) M := x_geti F h hk d hc hj hf (by have := g (rg_of _); rw [jI_of] at this; exact this)
theorem xj_getiN (F : xFix E A Y cc own nL) {idx ci j a N9 : Nat} (h : xFN own idx ci j) (hk : xk a = (ci, N9)) (d : decode cc pc = .ok (.getfield idx, 3)) (hc : ci < 8) (hj : j < N9) (hf : xft ci j = 0) (g : rg (M.1 a j).toInt → WP l E R A Y k n (pc + 3) ls (vI (jI (M.1 a j).toInt) :: st) M) : WP l E R A Y k n pc ls (vA a :: st) M := x_getiN F h hk d hc hj hf (by have := g (rg_of _); rw [jI_of] at this; exact this)
theorem xj_lald2 (F : xFix E A Y cc own nL) {a N9 : Nat} {z : Int} (hk : xk a = (8, N9)) (d : decode cc pc = .ok (.iaload, 1)) (h : 0 ≤ z ∧ z < N9 ∧ z < 2147483648) (g : rg (M.1 a z.toNat).toInt → WP l E R A Y k n (pc + 1) ls (vI (jI (M.1 a z.toNat).toInt) :: st) M) : WP l E R A Y k n pc ls (vI (jI z) :: vA a :: st) M := xj_iald F hk d h (by have := g (rg_of _); rw [jI_of] at this; exact this)
theorem xj_cald2 (F : xFix E A Y cc own nL) {a N9 : Nat} {z : Int} (hk : xk a = (9, N9)) (d : decode cc pc = .ok (.caload, 1)) (h : 0 ≤ z ∧ z < N9 ∧ z < 2147483648) (g : rg (M.1 a z.toNat).toInt → WP l E R A Y k n (pc + 1) ls (vI (jI (M.1 a z.toNat).toInt) :: st) M) : WP l E R A Y k n pc ls (vI (jI z) :: vA a :: st) M := xj_cald F hk d h (by have := g (rg_of _); rw [jI_of] at this; exact this)
end XJ2
section XJ3
variable {l : Launch} {E : xE} {R : Room} {A : Nat → Prop} {Y : xY} {cc : ByteArray} {own : String} {nL : Nat} {k n pc : Nat} {ls st : List xV} {M : xM}
theorem xj_look (F : xFix E A Y cc own nL) {dflt : Int} {ps : Array (Int × Int)} {len : Nat} {z : Int} {off : Int} {tgt : Nat} (d : decode cc pc = .ok (.lookupswitch dflt ps, len)) (hp : (ps.toList.zip (ps.toList.drop 1)).all (fun (a, next) => a.1 < next.1) = true) (ho : Op.lookupswitch.offset ps.toList dflt z = off) (ht : (pc : Int) + off = (tgt : Int)) (hz : rg z) (g : WP l E R A Y k n tgt ls st M) : WP l E R A Y k n pc ls (vI (jI z) :: st) M := fun H locs lr hP hS hl hn => lv_lookup F.1 F.2.1 d hp (by rw [jI_toInt hz]; exact ho) ht (g H locs lr hP hS hl hn)
theorem xj_tabIn (F : xFix E A Y cc own nL) {dflt lo hi : Int} {offs : Array Int} {len : Nat} {z : Int} {off : Int} {tgt : Nat} (d : decode cc pc = .ok (.tableswitch dflt lo hi offs, len)) (h1 : ¬ z < lo) (h2 : ¬ hi < z) (ho : offs[(z - lo).toNat]? = some off) (ht : (pc : Int) + off = (tgt : Int)) (hz : rg z) (g : WP l E R A Y k n tgt ls st M) : WP l E R A Y k n pc ls (vI (jI z) :: st) M := fun H locs lr hP hS hl hn => lv_tableIn F.1 F.2.1 d (by rw [jI_toInt hz]; exact h1) (by rw [jI_toInt hz]; exact h2) (by rw [jI_toInt hz]; exact ho) ht (g H locs lr hP hS hl hn)
theorem xj_tabOut (F : xFix E A Y cc own nL) {dflt lo hi : Int} {offs : Array Int} {len : Nat} {z : Int} {tgt : Nat} (d : decode cc pc = .ok (.tableswitch dflt lo hi offs, len)) (h : z < lo ∨ hi < z) (ht : (pc : Int) + dflt = (tgt : Int)) (hz : rg z) (g : WP l E R A Y k n tgt ls st M) : WP l E R A Y k n pc ls (vI (jI z) :: st) M := fun H locs lr hP hS hl hn => lv_tableOut F.1 F.2.1 d (by rw [jI_toInt hz]; exact h) ht (g H locs lr hP hS hl hn)
theorem x_lcmp (F : xFix E A Y cc own nL) {x y : Int64} (d : decode cc pc = .ok (.lcmp, 1)) (g : WP l E R A Y k n (pc + 1) ls (vI (lg_cmp x y) :: st) M) : WP l E R A Y k n pc ls (vL y :: vL x :: st) M := fun H locs lr hP hS hl hn => W.lcmp F.1 F.2.1 d (g H locs lr hP hS hl hn)
theorem x_dcmp (F : xFix E A Y cc own nL) {x y : UInt64} {op : CmpOp} (d : decode cc pc = .ok (.dcmp op, 1)) (g : WP l E R A Y k n (pc + 1) ls (vI (Op.cmpValue (FP.dcmp x y) op) :: st) M) : WP l E R A Y k n pc ls (vD y :: vD x :: st) M := fun H locs lr hP hS hl hn => lv_dcmp F.1 F.2.1 d (g H locs lr hP hS hl hn)
theorem x_dconst0 (F : xFix E A Y cc own nL) (d : decode cc pc = .ok (.dconst 0, 1)) (g : WP l E R A Y k n (pc + 1) ls (vD FP.dconst0 :: st) M) : WP l E R A Y k n pc ls st M := fun H locs lr hP hS hl hn => lv_dconst0 F.1 F.2.1 d (g H locs lr hP hS hl hn)
theorem x_dconst1 (F : xFix E A Y cc own nL) (d : decode cc pc = .ok (.dconst 1, 1)) (g : WP l E R A Y k n (pc + 1) ls (vD FP.dconst1 :: st) M) : WP l E R A Y k n pc ls st M := fun H locs lr hP hS hl hn => lv_dconst1 F.1 F.2.1 d (g H locs lr hP hS hl hn)
theorem x_i2d (F : xFix E A Y cc own nL) {x : Int32} (d : decode cc pc = .ok (.i2d, 1)) (g : WP l E R A Y k n (pc + 1) ls (vD (FP.i2d x) :: st) M) : WP l E R A Y k n pc ls (vI x :: st) M := fun H locs lr hP hS hl hn => lv_i2d F.1 F.2.1 d (g H locs lr hP hS hl hn)
theorem x_d2l (F : xFix E A Y cc own nL) {x : UInt64} (d : decode cc pc = .ok (.d2l, 1)) (g : WP l E R A Y k n (pc + 1) ls (vL (FP.d2l x) :: st) M) : WP l E R A Y k n pc ls (vD x :: st) M := fun H locs lr hP hS hl hn => lv_d2l F.1 F.2.1 d (g H locs lr hP hS hl hn)
theorem x_dmul (F : xFix E A Y cc own nL) {x y : UInt64} (d : decode cc pc = .ok (.dmul, 1)) (hne : vf_n64 (FP.dmul x y)) (g : WP l E R A Y k n (pc + 1) ls (vD (FP.dmul x y) :: st) M) : WP l E R A Y k n pc ls (vD y :: vD x :: st) M := fun H locs lr hP hS hl hn => lv_dmul F.1 F.2.1 d hne (g H locs lr hP hS hl hn)
theorem x_dsub (F : xFix E A Y cc own nL) {x y : UInt64} (d : decode cc pc = .ok (.dsub, 1)) (hne : vf_n64 (FP.dsub x y)) (g : WP l E R A Y k n (pc + 1) ls (vD (FP.dsub x y) :: st) M) : WP l E R A Y k n pc ls (vD y :: vD x :: st) M := fun H locs lr hP hS hl hn => lv_dsub F.1 F.2.1 d hne (g H locs lr hP hS hl hn)
theorem x_ddiv (F : xFix E A Y cc own nL) {x y : UInt64} (d : decode cc pc = .ok (.ddiv, 1)) (hne : vf_n64 (FP.ddiv x y)) (g : WP l E R A Y k n (pc + 1) ls (vD (FP.ddiv x y) :: st) M) : WP l E R A Y k n pc ls (vD y :: vD x :: st) M := fun H locs lr hP hS hl hn => lv_ddiv F.1 F.2.1 d hne (g H locs lr hP hS hl hn)
theorem x_lshl (F : xFix E A Y cc own nL) {x : Int64} {y : Int32} (d : decode cc pc = .ok (.lshl, 1)) (g : WP l E R A Y k n (pc + 1) ls (vL (x <<< (y.toInt64 &&& 63)) :: st) M) : WP l E R A Y k n pc ls (vI y :: vL x :: st) M := fun H locs lr hP hS hl hn => lv_lshl F.1 F.2.1 d rfl (g H locs lr hP hS hl hn)
theorem x_ishl (F : xFix E A Y cc own nL) {x y : Int32} (d : decode cc pc = .ok (.ishl, 1)) (g : WP l E R A Y k n (pc + 1) ls (vI (x <<< (y &&& 31)) :: st) M) : WP l E R A Y k n pc ls (vI y :: vI x :: st) M := fun H locs lr hP hS hl hn => lv_ishl F.1 F.2.1 d (g H locs lr hP hS hl hn)
theorem x_ishr (F : xFix E A Y cc own nL) {x y : Int32} (d : decode cc pc = .ok (.ishr, 1)) (g : WP l E R A Y k n (pc + 1) ls (vI (x >>> (y &&& 31)) :: st) M) : WP l E R A Y k n pc ls (vI y :: vI x :: st) M := fun H locs lr hP hS hl hn => lv_ishr F.1 F.2.1 d (g H locs lr hP hS hl hn)
theorem x_iushr (F : xFix E A Y cc own nL) {x y v : Int32} (d : decode cc pc = .ok (.iushr, 1)) (hv : (x.toUInt32 >>> (y.toUInt32 &&& Int32.toUInt32 31)).toInt32 = v) (g : WP l E R A Y k n (pc + 1) ls (vI v :: st) M) : WP l E R A Y k n pc ls (vI y :: vI x :: st) M := fun H locs lr hP hS hl hn => lv_iushr F.1 F.2.1 d hv (g H locs lr hP hS hl hn)
end XJ3
end
