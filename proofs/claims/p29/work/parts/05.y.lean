/-! CONTRACTS over the world of all cells. XP: the method returns, with post of its answer and the new world (a void method answers vU). XT: it returns, or throws. d: how deep its calls go. -/
def xps : xV → List xV → List xV
  | .inl x, st => .inl x :: st
  | .inr (.inl r), st => .inr (.inl r) :: st
  | .inr (.inr (.inl x)), st => .inr (.inr (.inl x)) :: st
  | .inr (.inr (.inr (.inl x))), st => .inr (.inr (.inr (.inl x))) :: st
  | .inr (.inr (.inr (.inr (.inl q)))), st => .inr (.inr (.inr (.inr (.inl q)))) :: st
  | .inr (.inr (.inr (.inr (.inr _)))), st => st
def xrt (E : xE) : xV → Option Value
  | .inr (.inr (.inr (.inr (.inr _)))) => none
  | v => some (xc E.2.2.1 v)
theorem xrt_ps (E : xE) (r : xV) (st : List xV) : (xrt E r).toList ++ st.map (xc E.2.2.1) = (xps r st).map (xc E.2.2.1) := by
  rcases r with x | r | x | x | q | u <;> rfl
def xPc (E : xE) (args : List xV) (M : xM) : Array Value → State → Prop := va_Pc (args.map (xc E.2.2.1)) (fun U => va_P E.1 vwCl (xws E M) U.heap ∧ xKn E U)
def xQc (E : xE) (post : xV → xM → Prop) : Array Value → State → Outcome → State → Prop := fun _ st o t => (∃ (r : xV) (M' : xM), o = .returned (xrt E r) ∧ post r M' ∧ va_P E.1 vwCl (xws E M') t.heap) ∧ va_F (xA E) st t
def xXc (E : xE) (xpost : String → xM → Prop) : String → State → State → Prop := fun C st t => ∃ M' : xM, xpost C M' ∧ va_P E.1 vwCl (xws E M') t.heap ∧ va_F (xA E) st t
abbrev xRm (d mc ms : Nat) : Room := { frames := d, cells := mc, slots := ms, locals := 64 * d }
def XT (l : Launch) (E : xE) (d mc ms : Nat) (y : MethodName) (cc : ByteArray) (nL : Nat) (rt : Option FieldType) (args : List xV) (M : xM) (post : xV → xM → Prop) (xpost : String → xM → Prop) : Prop :=
  vx_Met l y (Cond.code y cc nL rt :: LW) (xRm d mc ms) (xPc E args M) (xQc E post) (xXc E xpost) mc ms (xA E)
def XP (l : Launch) (E : xE) (d : Nat) (y : MethodName) (cc : ByteArray) (nL : Nat) (rt : Option FieldType) (args : List xV) (M : xM) (post : xV → xM → Prop) : Prop :=
  Met l y (Cond.code y cc nL rt :: LW) (xRm d 0 0) (xPc E args M) (xQc E post) 0 0 (xA E)
/-- the answer and the world behind it are these -/
abbrev XF (l : Launch) (E : xE) (d : Nat) (y : MethodName) (cc : ByteArray) (nL : Nat) (rt : Option FieldType) (args : List xV) (M : xM) (r : xV) (M' : xM) : Prop := XP l E d y cc nL rt args M (fun r' M'' => r' = r ∧ M'' = M')
theorem XP.imp {l : Launch} {E : xE} {d : Nat} {y : MethodName} {cc : ByteArray} {nL : Nat} {rt : Option FieldType} {args : List xV} {M : xM} {post post' : xV → xM → Prop} (h : XP l E d y cc nL rt args M post) (hp : ∀ r M', post r M' → post' r M') : XP l E d y cc nL rt args M post' := by
  unfold XP Met at h ⊢
  exact MetFree.mono h (fun _ _ z => z) (fun _ _ _ _ _ z => z) (fun a st o t _ z => ⟨⟨by obtain ⟨⟨⟨r, M', h1, h2, h3⟩, h4⟩, -⟩ := z; exact ⟨r, M', h1, hp r M' h2, h3⟩, z.1.2⟩, z.2⟩)
theorem XT.imp {l : Launch} {E : xE} {d mc ms : Nat} {y : MethodName} {cc : ByteArray} {nL : Nat} {rt : Option FieldType} {args : List xV} {M : xM} {post post' : xV → xM → Prop} {xpost xpost' : String → xM → Prop} (h : XT l E d mc ms y cc nL rt args M post xpost) (hp : ∀ r M', post r M' → post' r M') (hx : ∀ C M', xpost C M' → xpost' C M') : XT l E d mc ms y cc nL rt args M post' xpost' := by
  unfold XT vx_Met at h ⊢
  exact MetFree.mono h (fun _ _ z => z) (fun _ _ _ _ _ z => z) (fun a st o t _ z => by
    rcases z with z | ⟨q, h1, C, ce, L, ⟨M', h2, h3⟩, h4⟩
    · exact Or.inl ⟨⟨by obtain ⟨⟨⟨r, M', h1, h2, h3⟩, h4⟩, -⟩ := z; exact ⟨r, M', h1, hp r M' h2, h3⟩, z.1.2⟩, z.2⟩
    · exact Or.inr ⟨q, h1, C, ce, L, ⟨M', hx C M' h2, h3⟩, h4⟩)
theorem XP.of_XT {l : Launch} {E : xE} {d : Nat} {y : MethodName} {cc : ByteArray} {nL : Nat} {rt : Option FieldType} {args : List xV} {M : xM} {post : xV → xM → Prop} (h : XT l E d 0 0 y cc nL rt args M post (fun _ _ => False)) : XP l E d y cc nL rt args M post := by
  unfold XT vx_Met at h
  unfold XP Met
  exact MetFree.mono h (fun _ _ z => z) (fun _ _ _ _ _ z => z) (fun a st o t _ z => by
    rcases z with z | ⟨q, -, C, ce, L, ⟨M', h2, -⟩, -⟩
    · exact z
    · exact h2.elim)
theorem XT.of_XP {l : Launch} {E : xE} {d : Nat} {y : MethodName} {cc : ByteArray} {nL : Nat} {rt : Option FieldType} {args : List xV} {M : xM} {post : xV → xM → Prop} {xpost : String → xM → Prop} (h : XP l E d y cc nL rt args M post) : XT l E d 0 0 y cc nL rt args M post xpost := by
  unfold XP Met at h
  unfold XT vx_Met
  exact MetFree.mono h (fun _ _ z => z) (fun _ _ _ _ _ z => z) (fun a st o t _ z => Or.inl z)
/-- what is known goes on through calls -/
theorem xnw_moved {s U : State} (hW : s.WarmedH U.vm) {w : Cond} (hw : xnw w = true) (h : va_Nw w s) : va_Nw w U := by
  cases w <;> simp only [xnw, Bool.false_eq_true] at hw
  all_goals first | exact va_Nw.warmM hW h | exact va_Nw.warmF hW h | exact va_Nw.warmD hW h | exact va_Nw.warmC hW h
theorem xnw_same {u U : State} (hv : u.vm = U.vm) {w : Cond} (hw : xnw w = true) (h : va_Nw w u) : va_Nw w U := by
  cases w <;> simp only [xnw, Bool.false_eq_true] at hw
  all_goals exact va_Nw.same rfl hv h
theorem xKn.go {E : xE} {s U : State} {A : Nat → Prop} {locs : List Loc} {H : Heap} (h : xKn E s) (hA2 : ∀ q, q < s.heap.size → A q → xA E q) (hS : va_S A s.heap H locs) (hU : U.heap = H) (hW : s.WarmedH U.vm) : xKn E U := by
  obtain ⟨h1, h2, h3, h4, h5, s1, s2, s3, s4⟩ := h
  have hq : ∀ a : Nat, a < s.heap.size → ¬ xA E a → U.heap[a]? = s.heap[a]? := fun a ha hn => by rw [hU]; exact hS.2.1 a ha (fun z => hn (hA2 a ha z))
  exact ⟨va_K.moved hW.alike h1, fun w hw => xnw_moved hW (List.mem_filter.mp hw).2 (h2 w hw), h3, (h4.moved hW.alike).kept hq, (h5.moved hW.alike).kept hq, (s1.moved hW.alike).kept hq, fun q hq' => (s2 q hq').warm hW, (s3.moved hW.alike).kept hq, (va_Zq.moved hW.alike s4).kept hq⟩
theorem xKn.blind {E : xE} {U : State} {g : JFrame} {mk : MethodId} {a : Array Value} (h : xKn E U) : xKn E (U.calling g mk a) := by
  obtain ⟨h1, h2, h3, h4, h5, s1, s2, s3, s4⟩ := h
  exact ⟨va_K.moved (u := U) (U := U.calling g mk a) (Vm.Alike.refl U.vm) h1, fun w hw => xnw_same (u := U) (U := U.calling g mk a) rfl (List.mem_filter.mp hw).2 (h2 w hw), h3, vx_Zq.moved (u := U) (U := U.calling g mk a) (Vm.Alike.refl U.vm) h4, vx_Zq.moved (u := U) (U := U.calling g mk a) (Vm.Alike.refl U.vm) h5, vk_S.moved (u := U) (U := U.calling g mk a) (Vm.Alike.refl U.vm) s1, fun q hq => vk_R.same (u := U) (U := U.calling g mk a) rfl (s2 q hq), va_Z.moved (u := U) (U := U.calling g mk a) (Vm.Alike.refl U.vm) s3, va_Zq.moved (u := U) (U := U.calling g mk a) (Vm.Alike.refl U.vm) s4⟩
theorem xPc_blind (E : xE) (args : List xV) (M : xM) : FrameBlind (xPc E args M) := fun a U g mk q => ⟨q.1, q.2.1, q.2.2.blind⟩
/-- a method's entry -/
def xEnt : List xV → List xV
  | [] => []
  | v :: vs => v :: (if xcat v = 2 then vU :: xEnt vs else xEnt vs)
theorem xEnt_len (ad : Nat → Nat) (as : List xV) : (lg_sl (as.map (xc ad))).length = (xEnt as).length := by
  induction as with
  | nil => rfl
  | cons v vs ih =>
    unfold lg_sl at ih
    simp only [lg_sl, List.map_cons, List.flatMap_cons, List.length_append, ih, xEnt, List.length_cons, xc_cat]
    split <;> simp <;> omega
theorem xEnt_at (ad : Nat → Nat) (as : List xV) : ∀ (k i : Nat) (v : xV), (xEnt as)[i]? = some v → xU v = false → (k + i, xc ad v) ∈ lv_args k (as.map (xc ad)) := by
  induction as with
  | nil => intro k i v h; simp [xEnt] at h
  | cons u us ih =>
    intro k i v h hv
    simp only [List.map_cons, lv_args, xc_cat]
    cases i with
    | zero =>
      simp [xEnt] at h
      subst h
      exact List.mem_cons_self
    | succ i =>
      simp only [xEnt, List.getElem?_cons_succ] at h
      refine List.mem_cons_of_mem _ ?_
      by_cases hc : xcat u = 2
      · rw [if_pos hc] at h ⊢
        cases i with
        | zero =>
          simp at h
          subst h
          cases hv
        | succ i =>
          simp only [List.getElem?_cons_succ] at h
          have := ih (k + 2) i v h hv
          rwa [show k + (i + 1 + 1) = k + 2 + i by omega]
      · rw [if_neg hc] at h ⊢
        have := ih (k + 1) i v h hv
        rwa [show k + (i + 1) = k + 1 + i by omega]
theorem xEnt_ls {ad : Nat → Nat} {as : List xV} {nL : Nat} (h : (xEnt as).length ≤ nL) : xLs ad nL (xEnt as ++ List.replicate (nL - (xEnt as).length) vU) ((lg_sl (as.map (xc ad)) ++ List.replicate (nL - (lg_sl (as.map (xc ad))).length) Slot.unset).toArray) := by
  obtain ⟨h1, h2, h3⟩ := lv_entry (as.map (xc ad)) (n := nL) (by rw [xEnt_len]; exact h)
  refine ⟨h1, h2, fun i v hi hv => ?_⟩
  rcases Nat.lt_or_ge i (xEnt as).length with hl | hl
  · rw [List.getElem?_append_left hl] at hi
    have := h3 _ (xEnt_at ad as 0 i v hi hv)
    simpa using this
  · rw [List.getElem?_append_right hl] at hi
    have := List.eq_of_mem_replicate (List.mem_of_getElem? hi)
    subst this
    cases hv
/-- how the method ends -/
def xRet (E : xE) (Y : xY) (rt : Option FieldType) (mc ms : Nat) (post : xV → xM → Prop) (xpost : String → xM → Prop) : Prop :=
  yQ Y = vx_MQ (yb Y) (xQc E post) (xXc E xpost) (ya Y) (ys Y) mc ms (xA E) ∧ (yM Y).sig.returnType = rt ∧ (∀ x ∈ (yc Y).exceptionTable.toList, False)
theorem xx_ofWF {l : Launch} {y : MethodName} {ws ws' : List Cond} {rm : Room} {Pc : Array Value → State → Prop} {Qc : Array Value → State → Outcome → State → Prop} {XC : String → State → State → Prop} {mc ms : Nat} {free : Addr → Prop} {cc : ByteArray} {maxL : Nat} {ret : Option FieldType}
    (hy : plainFor y = true) (hw : ws = Cond.code y cc maxL ret :: ws')
    (body : ∀ p e s m args below meth c s₁, BodyLoose p l y (headSpec ws rm) cc maxL ret e s m args below meth c s₁ → c.maxLocals = maxL → (∀ x ∈ c.exceptionTable.toList, False) → Pc args s →
      W p l e (headSpec ws rm).room s m args below meth c s.heap [] 0 0 (vx_MQ below Qc XC args s mc ms free) (entryFrame m args maxL)) : vx_Met l y ws rm Pc Qc XC mc ms free := by
  have hcw : Cond.code y cc maxL ret ∈ ws := by rw [hw]; exact List.mem_cons_self
  refine MetFree.of_bodySF (code := cc) (maxLocals := maxL) (ret := ret) hy (fun args s m h hn => ?_) (fun p e s m args below meth c s₁ B hml hP _ => ?_)
  · obtain ⟨meth, c, h1, h2, h3, h4, h5, h6, -, -⟩ := Cond.code_spec hn (atoms_spec (ws := ws) h _ hcw)
    exact ⟨meth, c, h1, h2, h3, h4, h5, h6⟩
  · obtain ⟨meth9, c9, h1, h2, -, -, -, -, h7, -⟩ := Cond.code_spec B.named (atoms_spec (ws := ws) B.pre _ hcw)
    have e1 : meth = meth9 := Option.some.inj (B.method.symm.trans h1)
    subst e1
    have e2 : c = c9 := Option.some.inj ((Stand.of_body B).code.symm.trans h2)
    subst e2
    have hnone : ∀ x ∈ c.exceptionTable.toList, False := fun x hx => by rw [Array.isEmpty_iff.mp h7] at hx; cases hx
    obtain ⟨t, a1, o, b1, b2, b3⟩ := body p e s m args below meth c s₁ B hml hnone hP s₁ (by rw [B.state]; rfl) (Stand.of_body B)
    exact ⟨t, o, a1, b1, b2, b3⟩
theorem xt_start {l : Launch} {E : xE} {d mc ms : Nat} {y : MethodName} {cc : ByteArray} {nL : Nat} {rt : Option FieldType} {args : List xV} {M : xM} {post : xV → xM → Prop} {xpost : String → xM → Prop} (hy : plainFor y = true) {ls0 : List xV} (hls : xEnt args ++ List.replicate (nL - (xEnt args).length) vU = ls0) (hlen : (xEnt args).length ≤ nL)
    (body : ∀ Y : xY, xFix E (xA E) Y cc y.cls nL → xRet E Y rt mc ms post xpost → WP l E (xRm d mc ms) (xA E) Y 0 0 0 ls0 [] M) : XT l E d mc ms y cc nL rt args M post xpost := by
  refine xx_ofWF (cc := cc) (maxL := nL) (ret := rt) hy rfl ?_
  intro p e s m args' below meth c s₁ B hml htab hv
  obtain ⟨rfl, hP, hk⟩ := hv
  have hts := atoms_spec (ws := Cond.code y cc nL rt :: LW) B.pre
  have hF : xFix E (xA E) (p, e, s, m, (args.map (xc E.2.2.1)).toArray, below, meth, c, vx_MQ below (xQc E post) (xXc E xpost) (args.map (xc E.2.2.1)).toArray s mc ms (xA E)) cc y.cls nL :=
    ⟨B.exec, B.bytes, hml, findClass_of_methodNamed B.named, fun w hw => hts w (List.mem_cons_of_mem _ hw), hk, fun a ha => ⟨a, ha, rfl⟩, fun q _ z => z, B.notSynchronized⟩
  have hb := body _ hF ⟨rfl, B.returns, htab⟩
  rw [lg_entry_eq]
  subst hls
  refine hb s.heap [] _ hP va_S.rf ?_ ?_
  · show xLs E.2.2.1 c.maxLocals _ _
    rw [hml]
    exact xEnt_ls hlen
  · show _ ≤ c.maxLocals
    rw [hml]
    simp
    omega
theorem xp_start {l : Launch} {E : xE} {d : Nat} {y : MethodName} {cc : ByteArray} {nL : Nat} {rt : Option FieldType} {args : List xV} {M : xM} {post : xV → xM → Prop} (hy : plainFor y = true) {ls0 : List xV} (hls : xEnt args ++ List.replicate (nL - (xEnt args).length) vU = ls0) (hlen : (xEnt args).length ≤ nL)
    (body : ∀ Y : xY, xFix E (xA E) Y cc y.cls nL → xRet E Y rt 0 0 post (fun _ _ => False) → WP l E (xRm d 0 0) (xA E) Y 0 0 0 ls0 [] M) : XP l E d y cc nL rt args M post := XP.of_XT (xt_start hy hls hlen body)
section XEND
variable {l : Launch} {E : xE} {R : Room} {Y : xY} {cc : ByteArray} {own : String} {nL : Nat} {k n pc mc ms : Nat} {ls st : List xV} {M : xM} {post : xV → xM → Prop} {xpost : String → xM → Prop} {rt : FieldType}
theorem x_iret (F : xFix E (xA E) Y cc own nL) (FR : xRet E Y (some rt) mc ms post xpost) {x : Int32} (d : decode cc pc = .ok (.ireturn, 1)) (hn : narrow rt (.int x) = .int x) (hk : k ≤ mc) (hs : n ≤ ms) (h : post (vI x) M) : WP l E R (xA E) Y k n pc ls [vI x] M := by
  intro H locs lr hP hS hl hn9
  rw [show yQ Y = _ from FR.1]
  refine W.widen hk hs (vx_ret ?_)
  exact W.zret F.1 F.2.1 FR.2.1 hn (fun t ht hW => ⟨⟨vI x, M, rfl, h, by rw [ht]; exact hP⟩, hS.F ht⟩) hS.2.2 d F.2.2.2.2.2.2.2.2
theorem x_lret (F : xFix E (xA E) Y cc own nL) (FR : xRet E Y (some .long) mc ms post xpost) {x : Int64} (d : decode cc pc = .ok (.lreturn, 1)) (hk : k ≤ mc) (hs : n ≤ ms) (h : post (vL x) M) : WP l E R (xA E) Y k n pc ls [vL x] M := by
  intro H locs lr hP hS hl hn9
  rw [show yQ Y = _ from FR.1]
  refine W.widen hk hs (vx_ret ?_)
  exact W.lret F.1 F.2.1 FR.2.1 (fun t ht hW => ⟨⟨vL x, M, rfl, h, by rw [ht]; exact hP⟩, hS.F ht⟩) hS.2.2 d F.2.2.2.2.2.2.2.2
theorem x_dret (F : xFix E (xA E) Y cc own nL) (FR : xRet E Y (some .double) mc ms post xpost) {x : UInt64} (d : decode cc pc = .ok (.dreturn, 1)) (hk : k ≤ mc) (hs : n ≤ ms) (h : post (vD x) M) : WP l E R (xA E) Y k n pc ls [vD x] M := by
  intro H locs lr hP hS hl hn9
  rw [show yQ Y = _ from FR.1]
  refine W.widen hk hs (vx_ret ?_)
  exact W.dret F.1 F.2.1 FR.2.1 (fun t ht hW => ⟨⟨vD x, M, rfl, h, by rw [ht]; exact hP⟩, hS.F ht⟩) hS.2.2 d F.2.2.2.2.2.2.2.2
theorem x_vret (F : xFix E (xA E) Y cc own nL) (FR : xRet E Y none mc ms post xpost) (d : decode cc pc = .ok (.return_, 1)) (hk : k ≤ mc) (hs : n ≤ ms) (h : post vU M) : WP l E R (xA E) Y k n pc ls [] M := by
  intro H locs lr hP hS hl hn9
  rw [show yQ Y = _ from FR.1]
  refine W.widen hk hs (vx_ret ?_)
  exact W.vret F.1 F.2.1 FR.2.1 (fun t ht hW => ⟨⟨vU, M, rfl, h, by rw [ht]; exact hP⟩, hS.F ht⟩) hS.2.2 d F.2.2.2.2.2.2.2.2
theorem x_aret (F : xFix E (xA E) Y cc own nL) (FR : xRet E Y (some rt) mc ms post xpost) {r : Option Nat} (d : decode cc pc = .ok (.areturn, 1)) (hrt : (∃ n, rt = .object n) ∨ ∃ t, rt = .array t) (hk : k ≤ mc) (hs : n ≤ ms) (h : post (vR r) M) : WP l E R (xA E) Y k n pc ls [vR r] M := by
  intro H locs lr hP hS hl hn9
  rw [show yQ Y = _ from FR.1]
  refine W.widen hk hs (vx_ret ?_)
  exact W.aret F.1 F.2.1 FR.2.1 hrt (by cases r with
    | none => exact Or.inl rfl
    | some a => exact Or.inr ⟨_, rfl⟩) (fun t ht hW => ⟨⟨vR r, M, rfl, h, by rw [ht]; exact hP⟩, hS.F ht⟩) hS.2.2 d F.2.2.2.2.2.2.2.2
theorem x_aretQ (F : xFix E (xA E) Y cc own nL) (FR : xRet E Y (some rt) mc ms post xpost) {q : Nat} (d : decode cc pc = .ok (.areturn, 1)) (hrt : (∃ n, rt = .object n) ∨ ∃ t, rt = .array t) (hk : k ≤ mc) (hs : n ≤ ms) (h : post (vQ q) M) : WP l E R (xA E) Y k n pc ls [vQ q] M := by
  intro H locs lr hP hS hl hn9
  rw [show yQ Y = _ from FR.1]
  refine W.widen hk hs (vx_ret ?_)
  exact W.aret F.1 F.2.1 FR.2.1 hrt (Or.inr ⟨_, rfl⟩) (fun t ht hW => ⟨⟨vQ q, M, rfl, h, by rw [ht]; exact hP⟩, hS.F ht⟩) hS.2.2 d F.2.2.2.2.2.2.2.2
end XEND
theorem LW_goodIn {ws : List Cond} (h : ∀ w ∈ ws, w ∈ LW) : GoodIn LW ws := fun w hw => ⟨h w hw, good_of_word (LW_good (h w hw))⟩
section XCALL
variable {l : Launch} {E : xE} {R : Room} {A : Nat → Prop} {Y : xY} {cc : ByteArray} {own : String} {nL : Nat} {k n pc : Nat} {ls st st0 : List xV} {M : xM}
variable {y : MethodName} {cy : ByteArray} {nLy : Nat} {rty : Option FieldType} {d' mc ms idx : Nat} {As : List xV} {post : xV → xM → Prop} {xpost : String → xM → Prop} {a : Array Value}
theorem xS_go (F : xFix E A Y cc own nL) {H : Heap} {locs : List Loc} (hS : va_S A (ys Y).heap H locs) {st₀ t T' : State} {L : List Loc} (h0 : st₀.heap = H) (hL : ∀ q ∈ L, xA E q.base) (e1 : T'.heap = t.heap) (hF : va_F (xA E) st₀ t) : va_S A (ys Y).heap T'.heap (locs ++ L) := by
  have hAin : ∀ q, xA E q → A q := fun q ⟨i, hi, e⟩ => by rw [e]; exact F.2.2.2.2.2.2.1 i hi
  obtain ⟨hz, hk⟩ := hF
  rw [h0] at hz hk
  refine ⟨Nat.le_trans hS.1 (by rw [e1]; exact hz), fun q h1 h2 => ?_, fun q hq => ?_⟩
  · rw [e1, hk q (Nat.lt_of_lt_of_le h1 hS.1) (fun z => h2 (hAin q z))]
    exact hS.2.1 q h1 h2
  · rcases List.mem_append.mp hq with h | h
    · exact hS.2.2 q h
    · exact hAin _ (hL q h)
theorem x_run (F : xFix E A Y cc own nL) (hr : ∀ (H : Heap) (locs : List Loc) (lr : Array Slot), va_P E.1 vwCl (xws E M) H → va_S A (ys Y).heap H locs → xLs E.2.2.1 (yc Y).maxLocals ls lr → va_Run (yp Y) l (ye Y) R (ys Y) (ym Y) (ya Y) (yb Y) (yM Y) (yc Y) H locs k n 0 0 (F0 (ym Y) pc lr (st0.map (xc E.2.2.1))) (st.map (xc E.2.2.1)) (xQc E post a) (xA E))
    (g : ∀ r M', post r M' → WP l E R A Y k n (pc + 3) ls (xps r st) M') : WP l E R A Y k n pc ls st0 M := by
  intro H locs lr hP hS hl hn T hT X
  obtain ⟨v, st₀, t, T', L, h0, X', hL, e1, e2, ⟨⟨r, M', hv, hp, hb⟩, hF⟩, hg⟩ := hr H locs lr hP hS hl T hT X
  have hv' : v = xrt E r := Option.some.inj (by simpa using hv)
  subst hv'
  obtain ⟨t2, a1, b1⟩ := g r M' hp T'.heap (locs ++ L) lr (by rw [e1]; exact hb) (xS_go F hS h0 hL e1 hF) hl hn T' rfl X'
  refine ⟨t2, hg t2 ?_, b1⟩
  show Steps _ _ _ (T'.setTop (F0 (ym Y) (pc + 3) lr ((xrt E r).toList ++ st.map (xc E.2.2.1)))) t2
  rw [xrt_ps]
  exact a1
/-- an exception on its way out of a call -/
def WX (l : Launch) (E : xE) (R : Room) (A : Nat → Prop) (Y : xY) (k n pc : Nat) (ls st : List xV) (M : xM) (C : String) : Prop :=
  ∀ (H : Heap) (locs : List Loc) (lr : Array Slot) (q : Addr) (ce : Cell), va_P E.1 vwCl (xws E M) H → va_S A (ys Y).heap H locs → xLs E.2.2.1 (yc Y).maxLocals ls lr → ls.length ≤ (yc Y).maxLocals → H[q]? = some ce → ce.vm = .none → (ys Y).vm.findClass C = some ce.cls →
    vx_W (yp Y) l (ye Y) R (ys Y) (ym Y) (ya Y) (yb Y) (yM Y) (yc Y) H locs k n (yQ Y) (F0 (ym Y) pc lr (st.map (xc E.2.2.1))) q
theorem x_runX (F : xFix E A Y cc own nL) (hr : ∀ (H : Heap) (locs : List Loc) (lr : Array Slot), va_P E.1 vwCl (xws E M) H → va_S A (ys Y).heap H locs → xLs E.2.2.1 (yc Y).maxLocals ls lr → vx_Run (yp Y) l (ye Y) R (ys Y) (ym Y) (ya Y) (yb Y) (yM Y) (yc Y) H locs k n mc ms (F0 (ym Y) pc lr (st0.map (xc E.2.2.1))) (st.map (xc E.2.2.1)) (xQc E post a) (xXc E xpost) (xA E))
    (gx : ∀ C M', xpost C M' → WX l E R A Y (k + mc) (n + ms) pc ls st M' C) (g : ∀ r M', post r M' → WP l E R A Y (k + mc) (n + ms) (pc + 3) ls (xps r st) M') : WP l E R A Y k n pc ls st0 M := by
  intro H locs lr hP hS hl hn T hT X
  rcases hr H locs lr hP hS hl T hT X with ⟨v, st₀, t, T', L, h0, X', hL, e1, e2, ⟨⟨r, M', hv, hp, hb⟩, hF⟩, hg⟩ | ⟨q, st₀, t, T', L, C, ce, h0, X', hL, e1, e2, ⟨M', hp, hb, hF⟩, hce, hcv, hcl, hg⟩
  · have hv' : v = xrt E r := Option.some.inj (by simpa using hv)
    subst hv'
    obtain ⟨t2, a1, b1⟩ := g r M' hp T'.heap (locs ++ L) lr (by rw [e1]; exact hb) (xS_go F hS h0 hL e1 hF) hl hn T' rfl X'
    refine ⟨t2, hg t2 ?_, b1⟩
    show Steps _ _ _ (T'.setTop (F0 (ym Y) (pc + 3) lr ((xrt E r).toList ++ st.map (xc E.2.2.1)))) t2
    rw [xrt_ps]
    exact a1
  · obtain ⟨t2, a1, b1⟩ := gx C M' hp T'.heap (locs ++ L) lr q ce (by rw [e1]; exact hb) (xS_go F hS h0 hL e1 hF) hl hn (by rw [e1]; exact hce) hcv hcl T' rfl X'
    exact ⟨t2, hg.trans a1, b1⟩
theorem xst_sum {st : List xV} (ad : Nat → Nat) (h : (st.map xcat).sum ≤ 8) : ((st.map (xc ad)).map fun v => v.category).sum ≤ 8 := by
  rw [List.map_map]
  have : (fun v => v.category) ∘ xc ad = xcat := funext fun v => xc_cat ad v
  rw [this]
  exact h
theorem xcw_V {i : Nat} (F : xFix E A Y cc own nL) (hl : xML own idx y) (hv : xMV y cy nLy rty i) (hR : d' + 1 ≤ R.frames ∧ 8 + (nLy + 11) + 64 * d' ≤ R.locals) : CallW R (ys Y) (ya Y) own y.cls idx y cy nLy rty (Cond.code y cy nLy rty :: LW) (xRm d' mc ms) mc ms i := by
  obtain ⟨⟨i1, i2, i3, i4⟩, c1, c2, c3⟩ := hv
  refine cwV (Ts := LW) i F.2.2.2.2.1 (LW_goodIn ?_) rfl rfl rfl ⟨rfl, i2, i3, i4⟩ hR
  intro w hw
  rcases List.mem_append.mp hw with h | h
  · rcases List.mem_cons.mp h with rfl | h
    · exact hl
    rcases List.mem_cons.mp h with rfl | h
    · exact c2
    rcases List.mem_cons.mp h with rfl | h
    · exact c3
    rcases List.mem_cons.mp h with rfl | h
    · exact i1
    cases h
  · rcases List.mem_cons.mp h with rfl | h
    · exact c1
    · exact h
theorem xcw_S {i : Nat} (F : xFix E A Y cc own nL) (hl : xML own idx y) (hv : xMS y cy nLy rty i) (hR : d' + 1 ≤ R.frames ∧ 8 + (nLy + 11) + 64 * d' ≤ R.locals) : CallB R (ys Y) (ya Y) own idx y cy nLy rty (Cond.code y cy nLy rty :: LW) (xRm d' mc ms) mc ms i ∧ (Cond.static y).before (ya Y) (ys Y) = true := by
  obtain ⟨⟨i1, i2, i3, i4⟩, c1, c2⟩ := hv
  refine ⟨callB_of (Ts := LW) i F.2.2.2.2.1 (LW_goodIn ?_) rfl rfl rfl (F.2.2.2.2.1 _ i1) (F.2.2.2.2.1 _ hl) ⟨i2, i3, i4⟩ hR, F.2.2.2.2.1 _ c2⟩
  intro w h
  rcases List.mem_cons.mp h with rfl | h
  · exact c1
  · exact h
theorem xcw_N {i : Nat} {host : String} (F : xFix E A Y cc own nL) (hl : Cond.methodLinkNest own idx y host ∈ NW) (hv : xMS y cy nLy rty i) (hR : d' + 1 ≤ R.frames ∧ 8 + (nLy + 11) + 64 * d' ≤ R.locals) : va_CN R (ys Y) (ya Y) own idx y host cy nLy rty (Cond.code y cy nLy rty :: LW) (xRm d' mc ms) mc ms i := by
  obtain ⟨⟨i1, i2, i3, i4⟩, c1, c2⟩ := hv
  refine va_cnB (Ts := LW) i F.2.2.2.2.1 (LW_goodIn ?_) rfl rfl rfl (F.2.2.2.2.2.1.2.1 _ hl) (F.2.2.2.2.1 _ i1) ⟨i2, i3, i4⟩ hR
  intro w h
  rcases List.mem_cons.mp h with rfl | h
  · exact c1
  · exact h
theorem xpre (F : xFix E A Y cc own nL) (as : List xV) {H : Heap} {locs : List Loc} (hP : va_P E.1 vwCl (xws E M) H) (hS : va_S A (ys Y).heap H locs) : ∀ U : State, U.heap = H → (ys Y).WarmedH U.vm → xPc E as M (as.map (xc E.2.2.1)).toArray U := fun U hU hW => ⟨rfl, by rw [hU]; exact hP, F.2.2.2.2.2.1.go F.2.2.2.2.2.2.2.1 hS hU hW⟩
theorem x_callVP (F : xFix E A Y cc own nL) {b ci N9 : Nat} (hM : XP l E d' y cy nLy rty (vA b :: As) M post) (hl : xML own idx y) (hv : xMV y cy nLy rty As.length) (hk : xk b = (ci, N9)) (hc8 : ci < 8) (hci : vwCl[ci]?.map (fun q => q.1) = some y.cls) (hR : d' + 1 ≤ R.frames ∧ 8 + (nLy + 11) + 64 * d' ≤ R.locals) (hcs : k ≤ R.cells ∧ n ≤ R.slots) (hst : (st.map xcat).sum ≤ 8) (hs : st0 = As.reverse ++ vA b :: st) (d : decode cc pc = .ok (.invokevirtual idx, 3)) (g : ∀ r M', post r M' → WP l E R A Y k n (pc + 3) ls (xps r st) M') : WP l E R A Y k n pc ls st0 M := by
  subst hs
  refine x_run (a := (xc E.2.2.1 (vA b) :: As.map (xc E.2.2.1)).toArray) F ?_ g
  intro H locs lr hP hS hlr
  cases hq : vwCl[ci]? with
  | none => rw [hq] at hci; cases hci
  | some q =>
    have hq1 : q.1 = y.cls := by rw [hq] at hci; exact Option.some.inj hci
    have hrecv := va_recv F.2.2.2.2.2.1.1 hP hq (xws_obj E M hk hc8)
    rw [hq1] at hrecv
    exact va_runV (As := As.map (xc E.2.2.1)) ⟨F.1, F.2.1, F.2.2.1, F.2.2.2.1, F.2.2.2.2.1⟩ hM (xcw_V F hl hv hR) ⟨xPc_blind _ _ _, hrecv, xpre F (vA b :: As) hP hS⟩ rfl (by simp) (by rw [← F.2.2.1]; exact hlr.1) (by simp [xc, xrv]) (lv_room (xst_sum _ hst)) d hcs
theorem x_callSP (F : xFix E A Y cc own nL) (hM : XP l E d' y cy nLy rty As M post) (hl : xML own idx y) (hv : xMS y cy nLy rty As.length) (hR : d' + 1 ≤ R.frames ∧ 8 + (nLy + 11) + 64 * d' ≤ R.locals) (hcs : k ≤ R.cells ∧ n ≤ R.slots) (hst : (st.map xcat).sum ≤ 8) (hs : st0 = As.reverse ++ st) (d : decode cc pc = .ok (.invokestatic idx, 3)) (g : ∀ r M', post r M' → WP l E R A Y k n (pc + 3) ls (xps r st) M') : WP l E R A Y k n pc ls st0 M := by
  subst hs
  refine x_run (a := (As.map (xc E.2.2.1)).toArray) F ?_ g
  intro H locs lr hP hS hlr
  exact va_runS (As := As.map (xc E.2.2.1)) ⟨F.1, F.2.1, F.2.2.1, F.2.2.2.1, F.2.2.2.2.1⟩ hM (xcw_S F hl hv hR) ⟨xPc_blind _ _ _, xpre F As hP hS⟩ rfl (by simp) (by rw [← F.2.2.1]; exact hlr.1) (by simp) (lv_room (xst_sum _ hst)) d hcs
theorem x_callNP (F : xFix E A Y cc own nL) (hM : XP l E d' y cy nLy rty As M post) (hl : xMN own idx y) (hv : xMS y cy nLy rty As.length) (hR : d' + 1 ≤ R.frames ∧ 8 + (nLy + 11) + 64 * d' ≤ R.locals) (hcs : k ≤ R.cells ∧ n ≤ R.slots) (hst : (st.map xcat).sum ≤ 8) (hs : st0 = As.reverse ++ st) (d : decode cc pc = .ok (.invokestatic idx, 3)) (g : ∀ r M', post r M' → WP l E R A Y k n (pc + 3) ls (xps r st) M') : WP l E R A Y k n pc ls st0 M := by
  subst hs
  obtain ⟨host, hl⟩ := hl
  refine x_run (a := (As.map (xc E.2.2.1)).toArray) F ?_ g
  intro H locs lr hP hS hlr
  exact va_runSN (As := As.map (xc E.2.2.1)) ⟨F.1, F.2.1, F.2.2.1, F.2.2.2.1, F.2.2.2.2.1⟩ hM ⟨xcw_N F hl hv hR, F.2.2.2.2.1 _ hv.2.2, trivial⟩ ⟨xPc_blind _ _ _, xpre F As hP hS⟩ rfl (by simp) (by rw [← F.2.2.1]; exact hlr.1) (by simp) (lv_room (xst_sum _ hst)) d hcs
theorem x_callVT (F : xFix E A Y cc own nL) {b ci N9 : Nat} (hM : XT l E d' mc ms y cy nLy rty (vA b :: As) M post xpost) (hl : xML own idx y) (hv : xMV y cy nLy rty As.length) (hk : xk b = (ci, N9)) (hc8 : ci < 8) (hci : vwCl[ci]?.map (fun q => q.1) = some y.cls) (hR : d' + 1 ≤ R.frames ∧ 8 + (nLy + 11) + 64 * d' ≤ R.locals) (hcs : k + mc ≤ R.cells ∧ n + ms ≤ R.slots) (hst : (st.map xcat).sum ≤ 8) (hs : st0 = As.reverse ++ vA b :: st) (d : decode cc pc = .ok (.invokevirtual idx, 3)) (gx : ∀ C M', xpost C M' → WX l E R A Y (k + mc) (n + ms) pc ls st M' C) (g : ∀ r M', post r M' → WP l E R A Y (k + mc) (n + ms) (pc + 3) ls (xps r st) M') : WP l E R A Y k n pc ls st0 M := by
  subst hs
  refine x_runX (a := (xc E.2.2.1 (vA b) :: As.map (xc E.2.2.1)).toArray) F ?_ gx g
  intro H locs lr hP hS hlr
  cases hq : vwCl[ci]? with
  | none => rw [hq] at hci; cases hci
  | some q =>
    have hq1 : q.1 = y.cls := by rw [hq] at hci; exact Option.some.inj hci
    have hrecv := va_recv F.2.2.2.2.2.1.1 hP hq (xws_obj E M hk hc8)
    rw [hq1] at hrecv
    exact vx_runV (As := As.map (xc E.2.2.1)) ⟨F.1, F.2.1, F.2.2.1, F.2.2.2.1, F.2.2.2.2.1⟩ hM (xcw_V F hl hv hR) ⟨xPc_blind _ _ _, hrecv, xpre F (vA b :: As) hP hS⟩ rfl (by simp) (by rw [← F.2.2.1]; exact hlr.1) (by simp [xc, xrv]) (lv_room (xst_sum _ hst)) d hcs
theorem x_callST (F : xFix E A Y cc own nL) (hM : XT l E d' mc ms y cy nLy rty As M post xpost) (hl : xML own idx y) (hv : xMS y cy nLy rty As.length) (hR : d' + 1 ≤ R.frames ∧ 8 + (nLy + 11) + 64 * d' ≤ R.locals) (hcs : k + mc ≤ R.cells ∧ n + ms ≤ R.slots) (hst : (st.map xcat).sum ≤ 8) (hs : st0 = As.reverse ++ st) (d : decode cc pc = .ok (.invokestatic idx, 3)) (gx : ∀ C M', xpost C M' → WX l E R A Y (k + mc) (n + ms) pc ls st M' C) (g : ∀ r M', post r M' → WP l E R A Y (k + mc) (n + ms) (pc + 3) ls (xps r st) M') : WP l E R A Y k n pc ls st0 M := by
  subst hs
  refine x_runX (a := (As.map (xc E.2.2.1)).toArray) F ?_ gx g
  intro H locs lr hP hS hlr
  exact vx_runS (As := As.map (xc E.2.2.1)) ⟨F.1, F.2.1, F.2.2.1, F.2.2.2.1, F.2.2.2.2.1⟩ hM (xcw_S F hl hv hR) ⟨xPc_blind _ _ _, xpre F As hP hS⟩ rfl (by simp) (by rw [← F.2.2.1]; exact hlr.1) (by simp) (lv_room (xst_sum _ hst)) d hcs
end XCALL
/-- an exception that is not caught here goes on to the caller -/
theorem x_out {l : Launch} {E : xE} {R : Room} {Y : xY} {cc : ByteArray} {own : String} {nL : Nat} {k n pc mc ms : Nat} {ls st : List xV} {M : xM} {post : xV → xM → Prop} {xpost : String → xM → Prop} {rt : Option FieldType} {C : String} (F : xFix E (xA E) Y cc own nL) (FR : xRet E Y rt mc ms post xpost) (hk : k ≤ mc) (hs : n ≤ ms) (h : xpost C M) : WX l E R (xA E) Y k n pc ls st M C := by
  intro H locs lr q ce hP hS hl hn hq hv hcl
  rw [show yQ Y = _ from FR.1]
  exact vx_out (fun x hx => (FR.2.2 x hx).elim) F.2.2.2.2.2.2.2.2 hq hv hcl (fun t ht hW => ⟨M, h, by rw [ht]; exact hP, hS.F ht⟩) hS.2.2 hk hs
theorem x_V0 {l : Launch} {E : xE} {R : Room} {A : Nat → Prop} {Y : xY} {cc : ByteArray} {own : String} {nL : Nat} {k n pc : Nat} {ls st : List xV} {M : xM} {y : MethodName} {cy : ByteArray} {nLy : Nat} {rty : Option FieldType} {d' idx : Nat} {r : xV} {M' : xM} (F : xFix E A Y cc own nL) {b ci N9 : Nat} (hM : XF l E d' y cy nLy rty (vA b :: []) M r M') (hl : xML own idx y) (hv : xMV y cy nLy rty 0) (hk : xk b = (ci, N9)) (d : decode cc pc = .ok (.invokevirtual idx, 3)) (hc8 : ci < 8) (hci : vwCl[ci]?.map (fun q => q.1) = some y.cls) (hR : d' + 1 ≤ R.frames ∧ 8 + (nLy + 11) + 64 * d' ≤ R.locals) (hcs : k ≤ R.cells ∧ n ≤ R.slots) (hst : (st.map xcat).sum ≤ 8) (g : WP l E R A Y k n (pc + 3) ls (xps r st) M') : WP l E R A Y k n pc ls (vA b :: st) M := x_callVP F hM hl hv hk hc8 hci hR hcs hst rfl d (fun _ _ h => by rw [h.1, h.2]; exact g)
theorem x_V0P {l : Launch} {E : xE} {R : Room} {A : Nat → Prop} {Y : xY} {cc : ByteArray} {own : String} {nL : Nat} {k n pc : Nat} {ls st : List xV} {M : xM} {y : MethodName} {cy : ByteArray} {nLy : Nat} {rty : Option FieldType} {d' idx : Nat} {post : xV → xM → Prop} (F : xFix E A Y cc own nL) {b ci N9 : Nat} (hM : XP l E d' y cy nLy rty (vA b :: []) M post) (hl : xML own idx y) (hv : xMV y cy nLy rty 0) (hk : xk b = (ci, N9)) (d : decode cc pc = .ok (.invokevirtual idx, 3)) (hc8 : ci < 8) (hci : vwCl[ci]?.map (fun q => q.1) = some y.cls) (hR : d' + 1 ≤ R.frames ∧ 8 + (nLy + 11) + 64 * d' ≤ R.locals) (hcs : k ≤ R.cells ∧ n ≤ R.slots) (hst : (st.map xcat).sum ≤ 8) (g : ∀ r M', post r M' → WP l E R A Y k n (pc + 3) ls (xps r st) M') : WP l E R A Y k n pc ls (vA b :: st) M := x_callVP F hM hl hv hk hc8 hci hR hcs hst rfl d g
theorem x_S0 {l : Launch} {E : xE} {R : Room} {A : Nat → Prop} {Y : xY} {cc : ByteArray} {own : String} {nL : Nat} {k n pc : Nat} {ls st : List xV} {M : xM} {y : MethodName} {cy : ByteArray} {nLy : Nat} {rty : Option FieldType} {d' idx : Nat} {r : xV} {M' : xM} (F : xFix E A Y cc own nL) (hM : XF l E d' y cy nLy rty [] M r M') (hl : xML own idx y) (hv : xMS y cy nLy rty 0) (d : decode cc pc = .ok (.invokestatic idx, 3)) (hR : d' + 1 ≤ R.frames ∧ 8 + (nLy + 11) + 64 * d' ≤ R.locals) (hcs : k ≤ R.cells ∧ n ≤ R.slots) (hst : (st.map xcat).sum ≤ 8) (g : WP l E R A Y k n (pc + 3) ls (xps r st) M') : WP l E R A Y k n pc ls (st) M := x_callSP F hM hl hv hR hcs hst rfl d (fun _ _ h => by rw [h.1, h.2]; exact g)
theorem x_S0P {l : Launch} {E : xE} {R : Room} {A : Nat → Prop} {Y : xY} {cc : ByteArray} {own : String} {nL : Nat} {k n pc : Nat} {ls st : List xV} {M : xM} {y : MethodName} {cy : ByteArray} {nLy : Nat} {rty : Option FieldType} {d' idx : Nat} {post : xV → xM → Prop} (F : xFix E A Y cc own nL) (hM : XP l E d' y cy nLy rty [] M post) (hl : xML own idx y) (hv : xMS y cy nLy rty 0) (d : decode cc pc = .ok (.invokestatic idx, 3)) (hR : d' + 1 ≤ R.frames ∧ 8 + (nLy + 11) + 64 * d' ≤ R.locals) (hcs : k ≤ R.cells ∧ n ≤ R.slots) (hst : (st.map xcat).sum ≤ 8) (g : ∀ r M', post r M' → WP l E R A Y k n (pc + 3) ls (xps r st) M') : WP l E R A Y k n pc ls (st) M := x_callSP F hM hl hv hR hcs hst rfl d g
theorem x_N0 {l : Launch} {E : xE} {R : Room} {A : Nat → Prop} {Y : xY} {cc : ByteArray} {own : String} {nL : Nat} {k n pc : Nat} {ls st : List xV} {M : xM} {y : MethodName} {cy : ByteArray} {nLy : Nat} {rty : Option FieldType} {d' idx : Nat} {r : xV} {M' : xM} (F : xFix E A Y cc own nL) (hM : XF l E d' y cy nLy rty [] M r M') (hl : xMN own idx y) (hv : xMS y cy nLy rty 0) (d : decode cc pc = .ok (.invokestatic idx, 3)) (hR : d' + 1 ≤ R.frames ∧ 8 + (nLy + 11) + 64 * d' ≤ R.locals) (hcs : k ≤ R.cells ∧ n ≤ R.slots) (hst : (st.map xcat).sum ≤ 8) (g : WP l E R A Y k n (pc + 3) ls (xps r st) M') : WP l E R A Y k n pc ls (st) M := x_callNP F hM hl hv hR hcs hst rfl d (fun _ _ h => by rw [h.1, h.2]; exact g)
theorem x_V1 {l : Launch} {E : xE} {R : Room} {A : Nat → Prop} {Y : xY} {cc : ByteArray} {own : String} {nL : Nat} {k n pc : Nat} {ls st : List xV} {M : xM} {y : MethodName} {cy : ByteArray} {nLy : Nat} {rty : Option FieldType} {d' idx : Nat} {r : xV} {M' : xM} {v0 : xV} (F : xFix E A Y cc own nL) {b ci N9 : Nat} (hM : XF l E d' y cy nLy rty (vA b :: [v0]) M r M') (hl : xML own idx y) (hv : xMV y cy nLy rty 1) (hk : xk b = (ci, N9)) (d : decode cc pc = .ok (.invokevirtual idx, 3)) (hc8 : ci < 8) (hci : vwCl[ci]?.map (fun q => q.1) = some y.cls) (hR : d' + 1 ≤ R.frames ∧ 8 + (nLy + 11) + 64 * d' ≤ R.locals) (hcs : k ≤ R.cells ∧ n ≤ R.slots) (hst : (st.map xcat).sum ≤ 8) (g : WP l E R A Y k n (pc + 3) ls (xps r st) M') : WP l E R A Y k n pc ls (v0 :: vA b :: st) M := x_callVP F hM hl hv hk hc8 hci hR hcs hst rfl d (fun _ _ h => by rw [h.1, h.2]; exact g)
theorem x_V1P {l : Launch} {E : xE} {R : Room} {A : Nat → Prop} {Y : xY} {cc : ByteArray} {own : String} {nL : Nat} {k n pc : Nat} {ls st : List xV} {M : xM} {y : MethodName} {cy : ByteArray} {nLy : Nat} {rty : Option FieldType} {d' idx : Nat} {post : xV → xM → Prop} {v0 : xV} (F : xFix E A Y cc own nL) {b ci N9 : Nat} (hM : XP l E d' y cy nLy rty (vA b :: [v0]) M post) (hl : xML own idx y) (hv : xMV y cy nLy rty 1) (hk : xk b = (ci, N9)) (d : decode cc pc = .ok (.invokevirtual idx, 3)) (hc8 : ci < 8) (hci : vwCl[ci]?.map (fun q => q.1) = some y.cls) (hR : d' + 1 ≤ R.frames ∧ 8 + (nLy + 11) + 64 * d' ≤ R.locals) (hcs : k ≤ R.cells ∧ n ≤ R.slots) (hst : (st.map xcat).sum ≤ 8) (g : ∀ r M', post r M' → WP l E R A Y k n (pc + 3) ls (xps r st) M') : WP l E R A Y k n pc ls (v0 :: vA b :: st) M := x_callVP F hM hl hv hk hc8 hci hR hcs hst rfl d g
theorem x_S1 {l : Launch} {E : xE} {R : Room} {A : Nat → Prop} {Y : xY} {cc : ByteArray} {own : String} {nL : Nat} {k n pc : Nat} {ls st : List xV} {M : xM} {y : MethodName} {cy : ByteArray} {nLy : Nat} {rty : Option FieldType} {d' idx : Nat} {r : xV} {M' : xM} {v0 : xV} (F : xFix E A Y cc own nL) (hM : XF l E d' y cy nLy rty [v0] M r M') (hl : xML own idx y) (hv : xMS y cy nLy rty 1) (d : decode cc pc = .ok (.invokestatic idx, 3)) (hR : d' + 1 ≤ R.frames ∧ 8 + (nLy + 11) + 64 * d' ≤ R.locals) (hcs : k ≤ R.cells ∧ n ≤ R.slots) (hst : (st.map xcat).sum ≤ 8) (g : WP l E R A Y k n (pc + 3) ls (xps r st) M') : WP l E R A Y k n pc ls (v0 :: st) M := x_callSP F hM hl hv hR hcs hst rfl d (fun _ _ h => by rw [h.1, h.2]; exact g)
theorem x_S1P {l : Launch} {E : xE} {R : Room} {A : Nat → Prop} {Y : xY} {cc : ByteArray} {own : String} {nL : Nat} {k n pc : Nat} {ls st : List xV} {M : xM} {y : MethodName} {cy : ByteArray} {nLy : Nat} {rty : Option FieldType} {d' idx : Nat} {post : xV → xM → Prop} {v0 : xV} (F : xFix E A Y cc own nL) (hM : XP l E d' y cy nLy rty [v0] M post) (hl : xML own idx y) (hv : xMS y cy nLy rty 1) (d : decode cc pc = .ok (.invokestatic idx, 3)) (hR : d' + 1 ≤ R.frames ∧ 8 + (nLy + 11) + 64 * d' ≤ R.locals) (hcs : k ≤ R.cells ∧ n ≤ R.slots) (hst : (st.map xcat).sum ≤ 8) (g : ∀ r M', post r M' → WP l E R A Y k n (pc + 3) ls (xps r st) M') : WP l E R A Y k n pc ls (v0 :: st) M := x_callSP F hM hl hv hR hcs hst rfl d g
theorem x_N1 {l : Launch} {E : xE} {R : Room} {A : Nat → Prop} {Y : xY} {cc : ByteArray} {own : String} {nL : Nat} {k n pc : Nat} {ls st : List xV} {M : xM} {y : MethodName} {cy : ByteArray} {nLy : Nat} {rty : Option FieldType} {d' idx : Nat} {r : xV} {M' : xM} {v0 : xV} (F : xFix E A Y cc own nL) (hM : XF l E d' y cy nLy rty [v0] M r M') (hl : xMN own idx y) (hv : xMS y cy nLy rty 1) (d : decode cc pc = .ok (.invokestatic idx, 3)) (hR : d' + 1 ≤ R.frames ∧ 8 + (nLy + 11) + 64 * d' ≤ R.locals) (hcs : k ≤ R.cells ∧ n ≤ R.slots) (hst : (st.map xcat).sum ≤ 8) (g : WP l E R A Y k n (pc + 3) ls (xps r st) M') : WP l E R A Y k n pc ls (v0 :: st) M := x_callNP F hM hl hv hR hcs hst rfl d (fun _ _ h => by rw [h.1, h.2]; exact g)
theorem x_V2 {l : Launch} {E : xE} {R : Room} {A : Nat → Prop} {Y : xY} {cc : ByteArray} {own : String} {nL : Nat} {k n pc : Nat} {ls st : List xV} {M : xM} {y : MethodName} {cy : ByteArray} {nLy : Nat} {rty : Option FieldType} {d' idx : Nat} {r : xV} {M' : xM} {v0 v1 : xV} (F : xFix E A Y cc own nL) {b ci N9 : Nat} (hM : XF l E d' y cy nLy rty (vA b :: [v0, v1]) M r M') (hl : xML own idx y) (hv : xMV y cy nLy rty 2) (hk : xk b = (ci, N9)) (d : decode cc pc = .ok (.invokevirtual idx, 3)) (hc8 : ci < 8) (hci : vwCl[ci]?.map (fun q => q.1) = some y.cls) (hR : d' + 1 ≤ R.frames ∧ 8 + (nLy + 11) + 64 * d' ≤ R.locals) (hcs : k ≤ R.cells ∧ n ≤ R.slots) (hst : (st.map xcat).sum ≤ 8) (g : WP l E R A Y k n (pc + 3) ls (xps r st) M') : WP l E R A Y k n pc ls (v1 :: v0 :: vA b :: st) M := x_callVP F hM hl hv hk hc8 hci hR hcs hst rfl d (fun _ _ h => by rw [h.1, h.2]; exact g)
theorem x_V2P {l : Launch} {E : xE} {R : Room} {A : Nat → Prop} {Y : xY} {cc : ByteArray} {own : String} {nL : Nat} {k n pc : Nat} {ls st : List xV} {M : xM} {y : MethodName} {cy : ByteArray} {nLy : Nat} {rty : Option FieldType} {d' idx : Nat} {post : xV → xM → Prop} {v0 v1 : xV} (F : xFix E A Y cc own nL) {b ci N9 : Nat} (hM : XP l E d' y cy nLy rty (vA b :: [v0, v1]) M post) (hl : xML own idx y) (hv : xMV y cy nLy rty 2) (hk : xk b = (ci, N9)) (d : decode cc pc = .ok (.invokevirtual idx, 3)) (hc8 : ci < 8) (hci : vwCl[ci]?.map (fun q => q.1) = some y.cls) (hR : d' + 1 ≤ R.frames ∧ 8 + (nLy + 11) + 64 * d' ≤ R.locals) (hcs : k ≤ R.cells ∧ n ≤ R.slots) (hst : (st.map xcat).sum ≤ 8) (g : ∀ r M', post r M' → WP l E R A Y k n (pc + 3) ls (xps r st) M') : WP l E R A Y k n pc ls (v1 :: v0 :: vA b :: st) M := x_callVP F hM hl hv hk hc8 hci hR hcs hst rfl d g
theorem x_S2 {l : Launch} {E : xE} {R : Room} {A : Nat → Prop} {Y : xY} {cc : ByteArray} {own : String} {nL : Nat} {k n pc : Nat} {ls st : List xV} {M : xM} {y : MethodName} {cy : ByteArray} {nLy : Nat} {rty : Option FieldType} {d' idx : Nat} {r : xV} {M' : xM} {v0 v1 : xV} (F : xFix E A Y cc own nL) (hM : XF l E d' y cy nLy rty [v0, v1] M r M') (hl : xML own idx y) (hv : xMS y cy nLy rty 2) (d : decode cc pc = .ok (.invokestatic idx, 3)) (hR : d' + 1 ≤ R.frames ∧ 8 + (nLy + 11) + 64 * d' ≤ R.locals) (hcs : k ≤ R.cells ∧ n ≤ R.slots) (hst : (st.map xcat).sum ≤ 8) (g : WP l E R A Y k n (pc + 3) ls (xps r st) M') : WP l E R A Y k n pc ls (v1 :: v0 :: st) M := x_callSP F hM hl hv hR hcs hst rfl d (fun _ _ h => by rw [h.1, h.2]; exact g)
theorem x_S2P {l : Launch} {E : xE} {R : Room} {A : Nat → Prop} {Y : xY} {cc : ByteArray} {own : String} {nL : Nat} {k n pc : Nat} {ls st : List xV} {M : xM} {y : MethodName} {cy : ByteArray} {nLy : Nat} {rty : Option FieldType} {d' idx : Nat} {post : xV → xM → Prop} {v0 v1 : xV} (F : xFix E A Y cc own nL) (hM : XP l E d' y cy nLy rty [v0, v1] M post) (hl : xML own idx y) (hv : xMS y cy nLy rty 2) (d : decode cc pc = .ok (.invokestatic idx, 3)) (hR : d' + 1 ≤ R.frames ∧ 8 + (nLy + 11) + 64 * d' ≤ R.locals) (hcs : k ≤ R.cells ∧ n ≤ R.slots) (hst : (st.map xcat).sum ≤ 8) (g : ∀ r M', post r M' → WP l E R A Y k n (pc + 3) ls (xps r st) M') : WP l E R A Y k n pc ls (v1 :: v0 :: st) M := x_callSP F hM hl hv hR hcs hst rfl d g
theorem x_N2 {l : Launch} {E : xE} {R : Room} {A : Nat → Prop} {Y : xY} {cc : ByteArray} {own : String} {nL : Nat} {k n pc : Nat} {ls st : List xV} {M : xM} {y : MethodName} {cy : ByteArray} {nLy : Nat} {rty : Option FieldType} {d' idx : Nat} {r : xV} {M' : xM} {v0 v1 : xV} (F : xFix E A Y cc own nL) (hM : XF l E d' y cy nLy rty [v0, v1] M r M') (hl : xMN own idx y) (hv : xMS y cy nLy rty 2) (d : decode cc pc = .ok (.invokestatic idx, 3)) (hR : d' + 1 ≤ R.frames ∧ 8 + (nLy + 11) + 64 * d' ≤ R.locals) (hcs : k ≤ R.cells ∧ n ≤ R.slots) (hst : (st.map xcat).sum ≤ 8) (g : WP l E R A Y k n (pc + 3) ls (xps r st) M') : WP l E R A Y k n pc ls (v1 :: v0 :: st) M := x_callNP F hM hl hv hR hcs hst rfl d (fun _ _ h => by rw [h.1, h.2]; exact g)
theorem x_V3 {l : Launch} {E : xE} {R : Room} {A : Nat → Prop} {Y : xY} {cc : ByteArray} {own : String} {nL : Nat} {k n pc : Nat} {ls st : List xV} {M : xM} {y : MethodName} {cy : ByteArray} {nLy : Nat} {rty : Option FieldType} {d' idx : Nat} {r : xV} {M' : xM} {v0 v1 v2 : xV} (F : xFix E A Y cc own nL) {b ci N9 : Nat} (hM : XF l E d' y cy nLy rty (vA b :: [v0, v1, v2]) M r M') (hl : xML own idx y) (hv : xMV y cy nLy rty 3) (hk : xk b = (ci, N9)) (d : decode cc pc = .ok (.invokevirtual idx, 3)) (hc8 : ci < 8) (hci : vwCl[ci]?.map (fun q => q.1) = some y.cls) (hR : d' + 1 ≤ R.frames ∧ 8 + (nLy + 11) + 64 * d' ≤ R.locals) (hcs : k ≤ R.cells ∧ n ≤ R.slots) (hst : (st.map xcat).sum ≤ 8) (g : WP l E R A Y k n (pc + 3) ls (xps r st) M') : WP l E R A Y k n pc ls (v2 :: v1 :: v0 :: vA b :: st) M := x_callVP F hM hl hv hk hc8 hci hR hcs hst rfl d (fun _ _ h => by rw [h.1, h.2]; exact g)
theorem x_V3P {l : Launch} {E : xE} {R : Room} {A : Nat → Prop} {Y : xY} {cc : ByteArray} {own : String} {nL : Nat} {k n pc : Nat} {ls st : List xV} {M : xM} {y : MethodName} {cy : ByteArray} {nLy : Nat} {rty : Option FieldType} {d' idx : Nat} {post : xV → xM → Prop} {v0 v1 v2 : xV} (F : xFix E A Y cc own nL) {b ci N9 : Nat} (hM : XP l E d' y cy nLy rty (vA b :: [v0, v1, v2]) M post) (hl : xML own idx y) (hv : xMV y cy nLy rty 3) (hk : xk b = (ci, N9)) (d : decode cc pc = .ok (.invokevirtual idx, 3)) (hc8 : ci < 8) (hci : vwCl[ci]?.map (fun q => q.1) = some y.cls) (hR : d' + 1 ≤ R.frames ∧ 8 + (nLy + 11) + 64 * d' ≤ R.locals) (hcs : k ≤ R.cells ∧ n ≤ R.slots) (hst : (st.map xcat).sum ≤ 8) (g : ∀ r M', post r M' → WP l E R A Y k n (pc + 3) ls (xps r st) M') : WP l E R A Y k n pc ls (v2 :: v1 :: v0 :: vA b :: st) M := x_callVP F hM hl hv hk hc8 hci hR hcs hst rfl d g
theorem x_S3 {l : Launch} {E : xE} {R : Room} {A : Nat → Prop} {Y : xY} {cc : ByteArray} {own : String} {nL : Nat} {k n pc : Nat} {ls st : List xV} {M : xM} {y : MethodName} {cy : ByteArray} {nLy : Nat} {rty : Option FieldType} {d' idx : Nat} {r : xV} {M' : xM} {v0 v1 v2 : xV} (F : xFix E A Y cc own nL) (hM : XF l E d' y cy nLy rty [v0, v1, v2] M r M') (hl : xML own idx y) (hv : xMS y cy nLy rty 3) (d : decode cc pc = .ok (.invokestatic idx, 3)) (hR : d' + 1 ≤ R.frames ∧ 8 + (nLy + 11) + 64 * d' ≤ R.locals) (hcs : k ≤ R.cells ∧ n ≤ R.slots) (hst : (st.map xcat).sum ≤ 8) (g : WP l E R A Y k n (pc + 3) ls (xps r st) M') : WP l E R A Y k n pc ls (v2 :: v1 :: v0 :: st) M := x_callSP F hM hl hv hR hcs hst rfl d (fun _ _ h => by rw [h.1, h.2]; exact g)
theorem x_S3P {l : Launch} {E : xE} {R : Room} {A : Nat → Prop} {Y : xY} {cc : ByteArray} {own : String} {nL : Nat} {k n pc : Nat} {ls st : List xV} {M : xM} {y : MethodName} {cy : ByteArray} {nLy : Nat} {rty : Option FieldType} {d' idx : Nat} {post : xV → xM → Prop} {v0 v1 v2 : xV} (F : xFix E A Y cc own nL) (hM : XP l E d' y cy nLy rty [v0, v1, v2] M post) (hl : xML own idx y) (hv : xMS y cy nLy rty 3) (d : decode cc pc = .ok (.invokestatic idx, 3)) (hR : d' + 1 ≤ R.frames ∧ 8 + (nLy + 11) + 64 * d' ≤ R.locals) (hcs : k ≤ R.cells ∧ n ≤ R.slots) (hst : (st.map xcat).sum ≤ 8) (g : ∀ r M', post r M' → WP l E R A Y k n (pc + 3) ls (xps r st) M') : WP l E R A Y k n pc ls (v2 :: v1 :: v0 :: st) M := x_callSP F hM hl hv hR hcs hst rfl d g
theorem x_N3 {l : Launch} {E : xE} {R : Room} {A : Nat → Prop} {Y : xY} {cc : ByteArray} {own : String} {nL : Nat} {k n pc : Nat} {ls st : List xV} {M : xM} {y : MethodName} {cy : ByteArray} {nLy : Nat} {rty : Option FieldType} {d' idx : Nat} {r : xV} {M' : xM} {v0 v1 v2 : xV} (F : xFix E A Y cc own nL) (hM : XF l E d' y cy nLy rty [v0, v1, v2] M r M') (hl : xMN own idx y) (hv : xMS y cy nLy rty 3) (d : decode cc pc = .ok (.invokestatic idx, 3)) (hR : d' + 1 ≤ R.frames ∧ 8 + (nLy + 11) + 64 * d' ≤ R.locals) (hcs : k ≤ R.cells ∧ n ≤ R.slots) (hst : (st.map xcat).sum ≤ 8) (g : WP l E R A Y k n (pc + 3) ls (xps r st) M') : WP l E R A Y k n pc ls (v2 :: v1 :: v0 :: st) M := x_callNP F hM hl hv hR hcs hst rfl d (fun _ _ h => by rw [h.1, h.2]; exact g)
theorem x_V4 {l : Launch} {E : xE} {R : Room} {A : Nat → Prop} {Y : xY} {cc : ByteArray} {own : String} {nL : Nat} {k n pc : Nat} {ls st : List xV} {M : xM} {y : MethodName} {cy : ByteArray} {nLy : Nat} {rty : Option FieldType} {d' idx : Nat} {r : xV} {M' : xM} {v0 v1 v2 v3 : xV} (F : xFix E A Y cc own nL) {b ci N9 : Nat} (hM : XF l E d' y cy nLy rty (vA b :: [v0, v1, v2, v3]) M r M') (hl : xML own idx y) (hv : xMV y cy nLy rty 4) (hk : xk b = (ci, N9)) (d : decode cc pc = .ok (.invokevirtual idx, 3)) (hc8 : ci < 8) (hci : vwCl[ci]?.map (fun q => q.1) = some y.cls) (hR : d' + 1 ≤ R.frames ∧ 8 + (nLy + 11) + 64 * d' ≤ R.locals) (hcs : k ≤ R.cells ∧ n ≤ R.slots) (hst : (st.map xcat).sum ≤ 8) (g : WP l E R A Y k n (pc + 3) ls (xps r st) M') : WP l E R A Y k n pc ls (v3 :: v2 :: v1 :: v0 :: vA b :: st) M := x_callVP F hM hl hv hk hc8 hci hR hcs hst rfl d (fun _ _ h => by rw [h.1, h.2]; exact g)
theorem x_V4P {l : Launch} {E : xE} {R : Room} {A : Nat → Prop} {Y : xY} {cc : ByteArray} {own : String} {nL : Nat} {k n pc : Nat} {ls st : List xV} {M : xM} {y : MethodName} {cy : ByteArray} {nLy : Nat} {rty : Option FieldType} {d' idx : Nat} {post : xV → xM → Prop} {v0 v1 v2 v3 : xV} (F : xFix E A Y cc own nL) {b ci N9 : Nat} (hM : XP l E d' y cy nLy rty (vA b :: [v0, v1, v2, v3]) M post) (hl : xML own idx y) (hv : xMV y cy nLy rty 4) (hk : xk b = (ci, N9)) (d : decode cc pc = .ok (.invokevirtual idx, 3)) (hc8 : ci < 8) (hci : vwCl[ci]?.map (fun q => q.1) = some y.cls) (hR : d' + 1 ≤ R.frames ∧ 8 + (nLy + 11) + 64 * d' ≤ R.locals) (hcs : k ≤ R.cells ∧ n ≤ R.slots) (hst : (st.map xcat).sum ≤ 8) (g : ∀ r M', post r M' → WP l E R A Y k n (pc + 3) ls (xps r st) M') : WP l E R A Y k n pc ls (v3 :: v2 :: v1 :: v0 :: vA b :: st) M := x_callVP F hM hl hv hk hc8 hci hR hcs hst rfl d g
theorem x_S4 {l : Launch} {E : xE} {R : Room} {A : Nat → Prop} {Y : xY} {cc : ByteArray} {own : String} {nL : Nat} {k n pc : Nat} {ls st : List xV} {M : xM} {y : MethodName} {cy : ByteArray} {nLy : Nat} {rty : Option FieldType} {d' idx : Nat} {r : xV} {M' : xM} {v0 v1 v2 v3 : xV} (F : xFix E A Y cc own nL) (hM : XF l E d' y cy nLy rty [v0, v1, v2, v3] M r M') (hl : xML own idx y) (hv : xMS y cy nLy rty 4) (d : decode cc pc = .ok (.invokestatic idx, 3)) (hR : d' + 1 ≤ R.frames ∧ 8 + (nLy + 11) + 64 * d' ≤ R.locals) (hcs : k ≤ R.cells ∧ n ≤ R.slots) (hst : (st.map xcat).sum ≤ 8) (g : WP l E R A Y k n (pc + 3) ls (xps r st) M') : WP l E R A Y k n pc ls (v3 :: v2 :: v1 :: v0 :: st) M := x_callSP F hM hl hv hR hcs hst rfl d (fun _ _ h => by rw [h.1, h.2]; exact g)
theorem x_S4P {l : Launch} {E : xE} {R : Room} {A : Nat → Prop} {Y : xY} {cc : ByteArray} {own : String} {nL : Nat} {k n pc : Nat} {ls st : List xV} {M : xM} {y : MethodName} {cy : ByteArray} {nLy : Nat} {rty : Option FieldType} {d' idx : Nat} {post : xV → xM → Prop} {v0 v1 v2 v3 : xV} (F : xFix E A Y cc own nL) (hM : XP l E d' y cy nLy rty [v0, v1, v2, v3] M post) (hl : xML own idx y) (hv : xMS y cy nLy rty 4) (d : decode cc pc = .ok (.invokestatic idx, 3)) (hR : d' + 1 ≤ R.frames ∧ 8 + (nLy + 11) + 64 * d' ≤ R.locals) (hcs : k ≤ R.cells ∧ n ≤ R.slots) (hst : (st.map xcat).sum ≤ 8) (g : ∀ r M', post r M' → WP l E R A Y k n (pc + 3) ls (xps r st) M') : WP l E R A Y k n pc ls (v3 :: v2 :: v1 :: v0 :: st) M := x_callSP F hM hl hv hR hcs hst rfl d g
theorem x_N4 {l : Launch} {E : xE} {R : Room} {A : Nat → Prop} {Y : xY} {cc : ByteArray} {own : String} {nL : Nat} {k n pc : Nat} {ls st : List xV} {M : xM} {y : MethodName} {cy : ByteArray} {nLy : Nat} {rty : Option FieldType} {d' idx : Nat} {r : xV} {M' : xM} {v0 v1 v2 v3 : xV} (F : xFix E A Y cc own nL) (hM : XF l E d' y cy nLy rty [v0, v1, v2, v3] M r M') (hl : xMN own idx y) (hv : xMS y cy nLy rty 4) (d : decode cc pc = .ok (.invokestatic idx, 3)) (hR : d' + 1 ≤ R.frames ∧ 8 + (nLy + 11) + 64 * d' ≤ R.locals) (hcs : k ≤ R.cells ∧ n ≤ R.slots) (hst : (st.map xcat).sum ≤ 8) (g : WP l E R A Y k n (pc + 3) ls (xps r st) M') : WP l E R A Y k n pc ls (v3 :: v2 :: v1 :: v0 :: st) M := x_callNP F hM hl hv hR hcs hst rfl d (fun _ _ h => by rw [h.1, h.2]; exact g)
