/-! THE CLAIM OUT OF ONE WALK OF THE LAW'S BODY. Your part is whole_start (and what it stands on); all else here is the same for every law, but numbers. -/
def R_law : String := "OddChoirLaw"
def lw_P (b : Addr) (xs : List Int32) (args : Array Value) (s : State) : Prop := args = #[.ref b] ∧ s.IntsAt b xs ∧ xs.length ≤ 260 ∧ (Jvm.Cond.and given_1 narrow_1).before args s = true
/-- what a walk over the start with the record d0 says of its end, said of the start itself -/
theorem lw_closed {s t : State} {o : Outcome} {d0 : Drawn} {L : List Loc} {k n : Nat} (hd0 : s.drawn.sameBut d0 lw_cs) (hv : ∃ v, o = .returned v) (hW : (s.setDrawn d0).WarmedH t.vm) (hs : (s.setDrawn d0).sameButNew ({ t with vm := s.vm } : State) L k n) : State.butDraws s t lw_cs (fun t1 => Framed s o t1 L k n) := by
  have h2 : t.drawn = d0 := congrArg State.drawn hs.1
  refine ⟨⟨hv, hW, State.sameButNew.setDrawn hs s.drawn⟩, ?_, by decide⟩
  rw [h2]
  exact hd0
def lw_Q (_ : Array Value) (s : State) (o : Outcome) (t : State) : Prop := o = .returned (some (.int 1)) ∧ State.butDraws s t lw_cs (fun t1 => Framed s o t1 [] 600104 7301314)
def lw_Z (below : List Frame) (a : Array Value) (s : State) : State → Prop := fun t => ∃ o, t.status = .running ∧ Ended t below o ∧ lw_Q a s o t
/-- the law's own end, with 1 on the stack, nothing written that was there before, its room as the claim has it; d0: the record of draws at this point (at the entry s.drawn: begin with 'refine W.base ?_' and 'have hd0 := Drawn.sameBut.refl s.drawn lw_cs') -/
theorem lw_ret {p : Program} {l : Launch} {e : Env} {s : State} {m : MethodId} {below : List Frame} {meth : Method} {c : Code} {b : Nat} {d0 : Drawn} (hd0 : s.drawn.sameBut d0 lw_cs) (hx : p.tables.exec = Jvm.exec) (hb : c.code = code) (hr : meth.sig.returnType = ret) (hlocks : meth.locks = false) {pc : Nat} {H : Heap} {ls : Array Slot} (hdg : decode code pc = .ok (.ireturn, 1)) : W p l e room_1 (s.setDrawn d0) m #[Value.ref b] below meth c H [] 600104 7301314 (lw_Z below #[Value.ref b] s) (F0 m pc ls [.int 1]) := by
  intro T hT X
  obtain ⟨fs, hret, hrun, hended, hW, hframe⟩ := X.leave (v := some (.int 1)) (hlocks := hlocks) (fun h => by rw [hr] at h; cases h)
  have hmeth' : T.vm.method? m = some meth := X.method'
  refine ⟨T.setFrames fs, ?_, .returned (some (.int 1)), hrun, hended, rfl, lw_closed hd0 ⟨_, rfl⟩ hW hframe⟩
  jvm_step X.here [X.here.top, hx, hb, hdg, hmeth', hr, ret, narrow_b1]
  (try refine ⟨rfl, ?_⟩); (try refine ⟨rfl, ?_⟩)
  first | (intro acts; rw [hret _ acts rfl rfl rfl]) | rw [hret _ _ rfl rfl rfl]
  exact Steps.refl _
/-- what holds at the law's entry: the machine, the code, the tables' words (any of lw_tbl by 'hts w (by decide +kernel)'), the script of L ints xs at the cell b, what the Statement gives of the start (any of its parts by flat_of_before) -/
def lw_At (p : Program) (s : State) (m : MethodId) (meth : Method) (c : Code) (b L : Nat) (xs : Nat → Int32) : Prop :=
  p.tables.exec = Jvm.exec ∧ c.code = code ∧ meth.sig.returnType = ret ∧ c.maxLocals = 9 ∧ s.vm.findClass R_law = some m.cls ∧ (∀ w ∈ lw_tbl, w.before #[Value.ref b] s = true) ∧ va_X b L xs s s.heap ∧ b < s.heap.size ∧ meth.locks = false ∧ (Jvm.Cond.and given_1 narrow_1).before #[Value.ref b] s = true
-- ===== YOUR PART BEGINS =====
/-- YOUR PART: from the entry, for every script of at most 260 ints, the law comes to its end with true ('hflags': the launch's flags, for a law that throws: no stack traces) -/
theorem whole_start {p : Program} {e : Env} {s : State} {m : MethodId} {below : List Frame} {meth : Method} {c : Code} (l : Launch) (hflags : l.flags = flags0) {b L : Nat} {xs : Nat → Int32} (hL : L ≤ 260) (C0 : lw_At p s m meth c b L xs) : W p l e room_1 s m #[Value.ref b] below meth c s.heap [] 0 0 (lw_Z below #[Value.ref b] s) (entryFrame m ([Value.ref b] : List Value).toArray 9) := by
  obtain ⟨hx, hb, hr, hml, hown, hts, hX, hbl, hlocks, hgv⟩ := id C0
  have hl : l.stackTraces = false := by
    unfold Launch.stackTraces
    rw [hflags]
    decide
  obtain ⟨G, adK, adV, hKn⟩ := lw_known hts hgv
  have hbA : ¬ lwA s b := Nat.not_le.mpr hbl
  obtain ⟨Y, hY⟩ : ∃ Y : xY, Y = (p, e, s, m, #[Value.ref b], below, meth, c, lw_Z below #[Value.ref b] s) := ⟨_, rfl⟩
  have FN : nFix G (lwA s) Y cL_law RL 9 := by
    rw [hY]
    exact ⟨hx, hb, hml, hown, fun w hw => hts w (LW_in hw), hKn.1, fun q h => h, hlocks⟩
  have HE : ∀ (E : xE) (k n pc : Nat) (ls : List xV) (M : xM), k ≤ 600104 → n ≤ 7301314 → decode cL_law pc = .ok (.ireturn, 1) → WP l E room_1 (lwA s) Y k n pc ls [vI (jI 1)] M := by
    intro E k n pc ls M hk hn d
    rw [hY]
    intro H locs lr hP hS hls hn9
    refine W.widen hk hn ?_
    refine va_forget (fun q hq => hS.2.2 q hq) ?_
    exact W.base (lw_ret (Drawn.sameBut.refl s.drawn lw_cs) hx hb hr hlocks d)
  have K : WN l G room_1 (lwA s) Y 0 0 0 [vQ b, vU, vU, vU, vU, vU, vU, vU, vU] [] [] := by
    refine n_new FN (ci := 6) (N := 8) (C := RX6) (T := TX6) rfl inW6 (LW_of 44 (by decide +kernel) (by decide +kernel)) (LW_of 45 (by decide +kernel) (by decide +kernel)) (LW_of 24 (by decide +kernel) (by decide +kernel)) dL_law_0 tyX6_ok (fs := [.null, .null, .null, .int 0, .null, .null, .null, .null]) dvX6 ⟨Nat.le_of_ble_eq_true rfl, Nat.le_of_ble_eq_true rfl⟩ (fun q9 => ?_)
    refine n_dup FN dL_law_3 rfl ?_
    refine n_callI FN (n_X6 (l := l) G) mlL_143 mi_X6 dL_law_4 ⟨Nat.le_of_ble_eq_true rfl, Nat.le_of_ble_eq_true rfl⟩ ⟨Nat.le_of_ble_eq_true rfl, Nat.le_of_ble_eq_true rfl⟩ (Nat.le_of_ble_eq_true rfl) (fun w hw => ?_)
    obtain ⟨f1, h9, e9⟩ := hw
    subst e9
    subst h9
    refine n_astore_n FN dL_law_7 (by decide) ?_
    show WN l G room_1 (lwA s) Y 68 1008 8 [vQ b, vQ (f1 0), vU, vU, vU, vU, vU, vU, vU] [] (oddW G f1 0)
    refine n_bipush FN (v := 24) dL_law_8 rfl ?_
    refine n_newI FN (N := 24) dL_law_10 (by decide) (by decide) (by decide) ⟨Nat.le_of_ble_eq_true rfl, Nat.le_of_ble_eq_true rfl⟩ (fun q1 => ?_)
    refine n_astore_n FN dL_law_12 (by decide) ?_
    show WN l G room_1 (lwA s) Y 69 1032 13 [vQ b, vQ (f1 0), vQ q1, vU, vU, vU, vU, vU, vU] [] (oddW G f1 0 ++ [(q1, .inl (G.2 0, 24, .inl (fun _ => 0)))])
    refine n_bipush FN (v := 24) dL_law_13 rfl ?_
    refine n_newI FN (N := 24) dL_law_15 (by decide) (by decide) (by decide) ⟨Nat.le_of_ble_eq_true rfl, Nat.le_of_ble_eq_true rfl⟩ (fun q2 => ?_)
    refine n_astore_n FN dL_law_17 (by decide) ?_
    show WN l G room_1 (lwA s) Y 70 1056 18 [vQ b, vQ (f1 0), vQ q1, vQ q2, vU, vU, vU, vU, vU] [] (oddW G f1 0 ++ [(q1, .inl (G.2 0, 24, .inl (fun _ => 0)))] ++ [(q2, .inl (G.2 0, 24, .inl (fun _ => 0)))])
    refine n_bipush FN (v := 24) dL_law_18 rfl ?_
    refine n_newI FN (N := 24) dL_law_20 (by decide) (by decide) (by decide) ⟨Nat.le_of_ble_eq_true rfl, Nat.le_of_ble_eq_true rfl⟩ (fun q3 => ?_)
    refine n_astore FN dL_law_22 (by decide) ?_
    show WN l G room_1 (lwA s) Y 71 1080 24 [vQ b, vQ (f1 0), vQ q1, vQ q2, vQ q3, vU, vU, vU, vU] [] (oddW G f1 0 ++ [(q1, .inl (G.2 0, 24, .inl (fun _ => 0)))] ++ [(q2, .inl (G.2 0, 24, .inl (fun _ => 0)))] ++ [(q3, .inl (G.2 0, 24, .inl (fun _ => 0)))])
    refine n_iconst FN (v := 5) dL_law_24 rfl ?_
    refine n_newI FN (N := 5) dL_law_25 (by decide) (by decide) (by decide) ⟨Nat.le_of_ble_eq_true rfl, Nat.le_of_ble_eq_true rfl⟩ (fun q4 => ?_)
    refine n_astore FN dL_law_27 (by decide) ?_
    show WN l G room_1 (lwA s) Y 72 1085 29 [vQ b, vQ (f1 0), vQ q1, vQ q2, vQ q3, vQ q4, vU, vU, vU] [] (oddW G f1 0 ++ [(q1, .inl (G.2 0, 24, .inl (fun _ => 0)))] ++ [(q2, .inl (G.2 0, 24, .inl (fun _ => 0)))] ++ [(q3, .inl (G.2 0, 24, .inl (fun _ => 0)))] ++ [(q4, .inl (G.2 0, 5, .inl (fun _ => 0)))])
    refine n_aload FN dL_law_29 rfl ?_
    refine n_iconst FN (v := 0) dL_law_31 rfl ?_
    refine n_bipush FN (v := 6) dL_law_32 rfl ?_
    refine n_iast FN (q0 := 71) (N := 5) (f := fun _ => 0) rfl (by unfold vp_in; decide) dL_law_34 ?_
    show WN l G room_1 (lwA s) Y 72 1085 35 [vQ b, vQ (f1 0), vQ q1, vQ q2, vQ q3, vQ q4, vU, vU, vU] [] (oddW G f1 0 ++ [(q1, .inl (G.2 0, 24, .inl (fun _ => 0)))] ++ [(q2, .inl (G.2 0, 24, .inl (fun _ => 0)))] ++ [(q3, .inl (G.2 0, 24, .inl (fun _ => 0)))] ++ [(q4, .inl (G.2 0, 5, .inl (upd (fun _ => 0) 0 6)))])
    refine n_aload FN dL_law_35 rfl ?_
    refine n_iconst FN (v := 1) dL_law_37 rfl ?_
    refine n_iconst FN (v := 1) dL_law_38 rfl ?_
    refine n_iast FN (q0 := 71) (N := 5) (f := upd (fun _ => 0) 0 6) rfl (by unfold vp_in; decide) dL_law_39 ?_
    show WN l G room_1 (lwA s) Y 72 1085 40 [vQ b, vQ (f1 0), vQ q1, vQ q2, vQ q3, vQ q4, vU, vU, vU] [] (lwS G f1 q1 q2 q3 q4)
    intro H locs lr hP hD hS hls hn9
    obtain ⟨d1, d2⟩ := lw_hf hD
    obtain ⟨hN, hk⟩ := lw_xKn (f := lwFx f1 q1 q2 q3 q4) hKn rfl d1 d2
    have F : xFix (G.1, G.2, lwFx f1 q1 q2 q3 q4, adK, adV) (lwA s) Y cL_law RL 9 := by
      rw [hY]
      exact ⟨hx, hb, hml, hown, fun w hw => hts w (LW_in hw), hk, fun a ha => d1 a (by rw [hN] at ha; exact ha), fun q h1 h2 => absurd h1 (Nat.not_lt.mpr h2), hlocks⟩
    have hs : ys Y = s := by rw [hY]
    have g := law_40 (xs := xs) (L := L) (b := b) (k := 72) (n := 1085) F hN (by rw [hs]; exact hX) (by rw [hs]; exact hbl) hbA hL (HE _) lw_Cl (by decide) (by decide)
    refine g H locs lr (lw_P0 hP) hS ⟨hls.1, hls.2.1, fun i v hv hu => ?_⟩ hn9
    rcases (show i = 0 ∨ i = 1 ∨ i = 2 ∨ i = 3 ∨ i = 4 ∨ i = 5 ∨ i = 6 ∨ i = 7 ∨ i = 8 by
      have := (List.getElem?_eq_some_iff.mp hv).1
      simp at this
      omega) with rfl | rfl | rfl | rfl | rfl | rfl | rfl | rfl | rfl
    · cases hv; exact hls.2.2 0 (vQ b) rfl rfl
    · cases hv; exact hls.2.2 1 (vQ (f1 0)) rfl rfl
    · cases hv; exact hls.2.2 2 (vQ q1) rfl rfl
    · cases hv; exact hls.2.2 3 (vQ q2) rfl rfl
    · cases hv; exact hls.2.2 4 (vQ q3) rfl rfl
    · cases hv; exact hls.2.2 5 (vQ q4) rfl rfl
    · cases hv; cases hu
    · cases hv; cases hu
    · cases hv; cases hu
  rw [lg_entry_eq]
  rw [hY] at K
  refine K s.heap [] _ (fun k q h => by simp at h) ⟨fun i j p q h => by simp at h, fun k q h => by simp at h⟩ va_S.rf ?_ ?_
  · show xLs id c.maxLocals _ _
    rw [hml]
    exact xEnt_ls (ad := id) (as := [vQ b]) (nL := 9) (Nat.le_of_ble_eq_true rfl)
  · show _ ≤ c.maxLocals
    rw [hml]
    exact Nat.le_of_ble_eq_true rfl
-- ===== YOUR PART ENDS =====
set_option maxHeartbeats 4000000 in
theorem lw_walk (l : Launch) (hflags : l.flags = flags0) (b : Addr) (xs : List Int32) : MetFree l x (headSpec (Jvm.Cond.code x code maxLocals ret :: tables_1) room_1) (lw_P b xs) (fun _ _ _ _ _ => True) lw_Q := by
  refine MetFree.of_bodyS (code := code) (maxLocals := maxLocals) (ret := ret) (by decide) ?_ ?_
  · intro args s m h hn
    obtain ⟨meth, c, h1, h2, h3, h4, h5, h6, -, -⟩ := Cond.code_spec hn (atoms_spec (ws := Jvm.Cond.code x code maxLocals ret :: tables_1) h _ List.mem_cons_self)
    exact ⟨meth, c, h1, h2, h3, h4, h5, h6⟩
  · intro p e s m args below meth c s₁ B hml0 hP _
    obtain ⟨rfl, hx, hbd, hgv⟩ := hP
    obtain ⟨scr, harrAt, hlist, hof, hsmall⟩ := hx
    obtain ⟨hcb, hkn, -, -⟩ := State.arrayAt?_spec harrAt
    have hown : s.vm.findClass R_law = some m.cls := findClass_of_methodNamed B.named
    have hts0 : ∀ c ∈ (Jvm.Cond.code x code maxLocals ret :: tables_1), c.before #[Value.ref b] s = true := atoms_spec (ws := Jvm.Cond.code x code maxLocals ret :: tables_1) B.pre
    have hts : ∀ w ∈ lw_tbl, w.before #[Value.ref b] s = true := k2_hts_sels lw_privs (fun w hw => hts0 w (List.mem_cons_of_mem _ hw)) lw_privs_ok
    have hml : c.maxLocals = 9 := B.maxLocals_eq (hts0 _ List.mem_cons_self)
    have X₀ : Stand p l e room_1 s m #[Value.ref b] below meth c s₁ [] 0 0 := Stand.of_body B
    have hh0 : s₁.heap = s.heap := by rw [B.state]; rfl
    have hsz : scr.slots.size = xs.length := by rw [← Array.length_toList, hlist, List.length_map]
    have hval : ∀ j : Nat, j < xs.length → scr.slots[j]? = some (.int (xs.getD j 0)) := fun j hj => by
      rw [← Array.getElem?_toList, hlist]
      simp [hj]
    have hbl : b < s.heap.size := (Array.getElem?_eq_some_iff.mp hcb).1
    have hX : va_X b xs.length (fun j => xs.getD j 0) s s.heap := ⟨scr, hcb, hof, hkn, hsz, hval⟩
    have K : W p l e room_1 s m #[Value.ref b] below meth c s₁.heap [] 0 0 (lw_Z below #[Value.ref b] s) (entryFrame m ([Value.ref b] : List Value).toArray 9) := by
      rw [hh0]
      exact whole_start l hflags hbd ⟨B.exec, B.bytes, B.returns, hml, hown, hts, hX, hbl, B.notSynchronized, hgv⟩
    obtain ⟨t, a1, o, b1, b2, b3⟩ := K s₁ rfl X₀
    exact ⟨t, o, a1, b1, b2, b3⟩
theorem lw_pre_spec {args : Array Value} {s : State} (h : (Jvm.Cond.and given_1 narrow_1).before args s = true) (hr : rest_1_c.before args s = true) : ∃ (b : Addr) (xs : List Int32), lw_P b xs args s := by
  have hs := flat_of_before _ h
  have hq := flat_of_before _ hr
  have hc : (Cond.count 1).before args s = true := hs _ (by decide +kernel)
  have harr : (Cond.arrayOf (.arg 0) .int).before args s = true := hs _ (by decide +kernel)
  have hle : (Cond.le (.length (.arg 0)) (.int 260)).before args s = true := hs _ (by decide +kernel)
  have hlen : (Cond.isInt (.length (.arg 0))).before args s = true := hq _ (by decide +kernel)
  have hall : (Cond.all (.arg 0) (.isInt (.elem (.arg 0) (.index 0)))).before args s = true := hq _ (by decide +kernel)
  obtain ⟨b, xs, hb, hx⟩ := State.ints_of_pre rfl harr hlen hall
  have hsm : xs.length < 2 ^ 31 := hx.choose_spec.2.2.2
  have hev : (Term.length (.arg 0)).eval args s none [] s = some (.int xs.length.toInt32) := hx.length_eval hb
  have hv := Cond.le_ints hev (show (Term.int 260).eval args s none [] s = some (.int 260) from rfl)
  have hd : xs.length.toInt32 ≤ 260 := by
    simpa [Cond.before, Cond.holds, hv] using hle
  have hN : xs.length ≤ 260 := (Int32.ofNat_le_ofNat hsm (by decide)).mp (show Int32.ofNat xs.length ≤ Int32.ofNat 260 from hd)
  exact ⟨b, xs, Cond.one_arg hc (show args[0]? = some (.ref b) from hb), hx, hN, h⟩
theorem lw_comes (l : Launch) (hflags : l.flags = flags0) : Comes l x (Jvm.Cond.code x code maxLocals ret :: tables_1) room_1 (fun tb e args s => Calls_1 tb e args s ∧ rest_1 tb e args s ∧ Pre_1 tb e args s)
    (fun _ _ args s o t => lw_Q args s o t) := by
  intro p e ha hc hk s m args below hf hfit hheap happ hpre
  obtain ⟨b, xs, hP⟩ := lw_pre_spec hpre.2.2 hpre.2.1
  obtain ⟨k, o, h1, h2, h3, hQ⟩ := lw_walk l hflags b xs p e ha hc hk s m args below hf ((Spec.applies_iff_loose hf).mp happ).1 hP trivial
  exact ⟨k, o, h1, h2, h3, hQ⟩
theorem lw_frame {s t : State} {o : Outcome} {args : Array Value} (h : State.butDraws s t lw_cs (fun t1 => Framed s o t1 [] 600104 7301314)) :
    State.butDraws s t [Jvm.Choice.named "NaN.bits"] (fun t1 => Framed s o t1 (fieldLocs frame_1_writes args s ++ arrayLocs frame_1_arrays args s ++ staticLocs frame_1_statics s) 600104 7301314) := h
theorem lw_limb (L : Cond) (hL : ∀ (args : Array Value) (s t : State), L.after args s (.returned (some (.int 1))) t = true) :
    ArmFor flags0 classFile x code maxLocals ret World_1 tables_1 room_1 Calls_1 rest_1 Pre_1
      (fun tb e a s o t => postC L tb e a s o t ∧ State.butDraws s t [Jvm.Choice.named "NaN.bits"] (fun t1 => Framed s o t1 (fieldLocs frame_1_writes a s ++ arrayLocs frame_1_arrays a s ++ staticLocs frame_1_statics s) 600104 7301314)) := by
  intro l hflags _ _ p e ha hc hk s m args below hf hfit hheap happ hpre
  obtain ⟨k, o, h1, h2, h3, rfl, hF⟩ := lw_comes l hflags p e ha hc hk s m args below hf hfit hheap happ hpre
  exact ⟨k, _, h1, h2, h3, hL args s _, lw_frame hF⟩
theorem i_vc : Claimed_1_1 ∧ Claimed_1_2 := ⟨lw_limb limb_1_1 (fun args s t => by simp [limb_1_1, Cond.after, Cond.holds, Cond.value]), lw_limb limb_1_2 (fun args s t => Cond.after_iff.mpr (by
  first | (rw [show limb_1_2 = Cond.eq .result (.int 1) from rfl, Cond.eq_ints (x := 1) (y := 1) rfl rfl]; simp; done) | (simp [limb_1_2, Cond.value, Term.eval]; done)))⟩
