/-! CONSTRUCTORS: calls of them, and the small ones -/
def xMI (y : MethodName) (cy : ByteArray) (nLy : Nat) : Prop := Cond.initialized y.cls ∈ LW ∧ Cond.code y cy nLy none ∈ LW ∧ Cond.instanceMethod y ∈ LW ∧ y.name = "<init>" ∧ (y.cls ≠ "java/lang/invoke/MethodHandle" ∧ y.cls ≠ "java/lang/invoke/VarHandle" ∧ (parseMethodDescriptor y.desc).map (fun d => d.parameters.length) = some 0)
theorem nPc_blind (G : nC) (h0 sz : Nat) (e0 : va_E) : FrameBlind (nPc G h0 sz e0) := fun a U g mk q => ⟨q.1, q.2.1, q.2.2.1, q.2.2.2.blind⟩
theorem nG_code {y : MethodName} {cy : ByteArray} {nLy : Nat} (h : Cond.code y cy nLy none ∈ LW) : GoodIn LW (Cond.code y cy nLy none :: LW) := LW_goodIn (fun w hw => by
  rcases List.mem_cons.mp hw with rfl | hw
  · exact h
  · exact hw)
section WN3
variable {l : Launch} {G : nC} {R : Room} {A : Nat → Prop} {Y : xY} {cc : ByteArray} {own : String} {nL : Nat} {k n pc mc ms d' idx nLy b : Nat} {ls st : List xV} {ws : va_W} {e0 : va_E} {y : MethodName} {cy : ByteArray} {post : Nat → va_W → Prop}
theorem nPre (F : nFix G A Y cc own nL) {H : Heap} (hP : va_P G.1 vwCl (ws ++ [(b, e0)]) H) : PreS (ys Y) H (nPc G b H.size e0) [.ref b] :=
  ⟨nPc_blind _ _ _ _, fun U hU hW => ⟨rfl, by rw [hU], by rw [hU]; exact hP.sub (ws' := [(b, e0)]) [ws.length] (by simp), F.2.2.2.2.2.1.go hW⟩⟩
theorem n_callI (F : nFix G A Y cc own nL) (hM : XN l G d' mc ms y cy nLy e0 post) (hl : xML own idx y) (hv : xMI y cy nLy) (d : decode cc pc = .ok (.invokespecial idx, 3)) (hR : d' + 1 ≤ R.frames ∧ 8 + (nLy + 11) + 64 * d' ≤ R.locals) (hcs : k + mc ≤ R.cells ∧ n + ms ≤ R.slots) (hst : (st.map xcat).sum ≤ 8) (g : ∀ w : va_W, post b w → WN l G R A Y (k + mc) (n + ms) (pc + 3) ls st (ws ++ w)) : WN l G R A Y k n pc ls (vQ b :: st) (ws ++ [(b, e0)]) := by
  obtain ⟨i1, i2, i3, i4, i5⟩ := hv
  refine n_go F (fun H locs lr hP hD hS hlr => ?_) g
  exact va_runI (As := []) ⟨F.1, F.2.1, F.2.2.1, F.2.2.2.1, F.2.2.2.2.1⟩ (hM b H.size) (cwI 0 F.2.2.2.2.1 (nG_code i2) rfl rfl rfl (F.2.2.2.2.1 _ i1) (F.2.2.2.2.1 _ hl) (F.2.2.2.2.1 _ i3) i4 i5 hR) (nPre F hP) rfl rfl (by rw [← F.2.2.1]; exact hlr.1) rfl (lv_room (xst_sum _ hst)) d hcs
theorem n_callN (F : nFix G A Y cc own nL) (hM : XN l G d' mc ms y cy nLy e0 post) (hl : xMN own idx y) (hv : xMI y cy nLy) (d : decode cc pc = .ok (.invokespecial idx, 3)) (hR : d' + 1 ≤ R.frames ∧ 8 + (nLy + 11) + 64 * d' ≤ R.locals) (hcs : k + mc ≤ R.cells ∧ n + ms ≤ R.slots) (hst : (st.map xcat).sum ≤ 8) (g : ∀ w : va_W, post b w → WN l G R A Y (k + mc) (n + ms) (pc + 3) ls st (ws ++ w)) : WN l G R A Y k n pc ls (vQ b :: st) (ws ++ [(b, e0)]) := by
  obtain ⟨host, hl⟩ := hl
  obtain ⟨i1, i2, i3, i4, i5⟩ := hv
  refine n_go F (fun H locs lr hP hD hS hlr => ?_) g
  exact va_runIN (As := []) ⟨F.1, F.2.1, F.2.2.1, F.2.2.2.1, F.2.2.2.2.1⟩ (hM b H.size) ⟨va_cnB (host := host) 0 F.2.2.2.2.1 (nG_code i2) rfl rfl rfl (F.2.2.2.2.2.1.2.1 _ hl) (F.2.2.2.2.1 _ i1) i5 hR, i4, F.2.2.2.2.1 _ i3⟩ (nPre F hP) rfl rfl (by rw [← F.2.2.1]; exact hlr.1) rfl (lv_room (xst_sum _ hst)) d hcs
end WN3
theorem mi_X1 : xMI yX1_init cX1_init 1 := ⟨LW_of 25 (by decide +kernel) (by decide +kernel), LW_of 56 (by decide +kernel) (by decide +kernel), LW_of 55 (by decide +kernel) (by decide +kernel), rfl, by decide, by decide, by decide +kernel⟩
