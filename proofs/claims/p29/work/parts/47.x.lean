/-! THE LAW'S START: what the claim's premises say of the machine -/
abbrev lwA (s : State) : Nat → Prop := fun q => s.heap.size ≤ q
abbrev lwL : List Cond := flatC (Jvm.Cond.and given_1 narrow_1)
def lwTm : List Term := [Term.string RX1 145]
def lwT (i : Nat) : Term := lwTm.getD i (Term.string RX1 145)
theorem lw_eqR {args : Array Value} {s : State} {t u : Term} {a : Nat} (h : (Cond.eq t u).before args s = true) (ht : t.eval args s none [] s = some (.ref a)) : u.eval args s none [] s = some (.ref a) := by
  cases hu : u.eval args s none [] s with
  | none => simp [Cond.before, Cond.holds, Cond.value, ht, hu] at h
  | some w =>
    cases w with
    | ref b =>
      simp [Cond.before, Cond.holds, Cond.value, ht, hu] at h
      rw [h]
    | _ => simp [Cond.before, Cond.holds, Cond.value, ht, hu] at h
/-- the classes -/
def lwKn (s : State) (G : nC) (adK adV : Nat → Nat) : Prop :=
  nKn G s ∧ vx_Zq Bundle.tN "UNASSIGNED_STACK" Bundle.steD (lwA s) s s.heap ∧ vx_Zq Bundle.tN "SUPPRESSED_SENTINEL" Bundle.listD (lwA s) s s.heap ∧ vk_S 1 xsLen xsByt adK adV (lwA s) s s.heap ∧ (∀ q ∈ xsR, vk_R q.1 q.2.1 q.2.2.1 (adK q.2.2.2) s) ∧ va_Z "java/lang/String" "COMPACT_STRINGS" "Z" (.int 1) (lwA s) s s.heap ∧ va_Zq "jdk/internal/util/Preconditions" "SIOOBE_FORMATTER" "Ljava/util/function/BiFunction;" (lwA s) s s.heap
theorem lw_arr {s : State} {args : Array Value} {ty : FieldType} (hp : ∀ C, ty ≠ .object C) (h : (Cond.arrayClass ty).before args s = true) : ∃ c : ClassId, ArrOfT s c ty ∧ va_RA s c ty := by
  obtain ⟨c, k, comp, h1, h2, h3⟩ := Cond.arrayClass_spec h
  refine ⟨c, fun n z => ⟨fun k h => (by cases h), k, h2, comp, h3⟩, ?_⟩
  cases ty with
  | object C => exact absurd rfl (hp C)
  | _ => exact h1
theorem lw_arq {s : State} {C : String} (h : va_AO C s) : ∃ c : ClassId, ArrOfT s c (.object C) ∧ va_RA s c (.object C) := by
  obtain ⟨comp, c, k, h1, h2, h3, h4, h5⟩ := Cond.arrayOver_spec h
  exact ⟨c, fun n z => ⟨fun k h => (by cases h), k, h3, comp, h4⟩, k, comp, h3, h4, h1, h5⟩
set_option maxRecDepth 100000 in
set_option maxHeartbeats 4000000 in
theorem lw_known {s : State} {args : Array Value} (hts : ∀ w ∈ lw_tbl, w.before args s = true) (hgv : (Jvm.Cond.and given_1 narrow_1).before args s = true) : ∃ (G : nC) (adK adV : Nat → Nat), lwKn s G adK adV := by
  have hq := flat_of_before _ hgv
  have hL : ∀ w ∈ LW, w.before args s = true := fun w hw => hts w (LW_in hw)
  have hA : ∀ a : Nat, a < s.heap.size → ¬ lwA s a := fun a h z => absurd h (Nat.not_lt.mpr z)
  obtain ⟨c0, i0, K0⟩ := u_known (C := RX0) (T := TX0) (N := 2) (n := 2) hL inW0 (hts (.instantiable RX0 2) (by decide +kernel))
  obtain ⟨c1, i1, K1⟩ := u_known (C := RX1) (T := TX1) (N := 9) (n := 9) hL inW1 (hts (.instantiable RX1 9) (by decide +kernel))
  obtain ⟨c2, i2, K2⟩ := u_known (C := RX2) (T := TX2) (N := 3) (n := 3) hL inW2 (hts (.instantiable RX2 3) (by decide +kernel))
  obtain ⟨c3, i3, K3⟩ := u_known (C := RX3) (T := TX3) (N := 3) (n := 3) hL inW3 (hts (.instantiable RX3 3) (by decide +kernel))
  obtain ⟨c4, i4, K4⟩ := u_known (C := RX4) (T := TX4) (N := 4) (n := 4) hL inW4 (hts (.instantiable RX4 4) (by decide +kernel))
  obtain ⟨c5, i5, K5⟩ := u_known (C := RX5) (T := TX5) (N := 7) (n := 7) hL inW5 (hts (.instantiable RX5 7) (by decide +kernel))
  obtain ⟨c6, i6, K6⟩ := u_known (C := RX6) (T := TX6) (N := 8) (n := 8) hL inW6 (hts (.instantiable RX6 8) (by decide +kernel))
  obtain ⟨a0, A0⟩ := lw_arr (ty := .int) (fun _ h => by cases h) (hts (.arrayClass .int) (by decide +kernel))
  obtain ⟨a1, A1⟩ := lw_arr (ty := .char) (fun _ h => by cases h) (hts (.arrayClass .char) (by decide +kernel))
  have O3 : va_AO RX1 s := va_AO.of (hts (.arrayOver (.object RX1)) (by decide +kernel))
  have O4 : va_AO RX4 s := va_AO.of (hts (.arrayOver (.object RX4)) (by decide +kernel))
  obtain ⟨a2, A2⟩ := lw_arq O3
  obtain ⟨a3, A3⟩ := lw_arq O4
  obtain ⟨adK, adV, hS, hT⟩ := vk_Sof (args := args) (s := s) (N := 1) (tm := lwT) (len := xsLen) (byt := xsByt) (A := lwA s) (by decide)
    (fun i hi => hq _ ((show ∀ i : Nat, i < 1 → Cond.exactly (lwT i) "java/lang/String" ∈ lwL by decide +kernel) i hi))
    (fun i hi => hq _ ((show ∀ i : Nat, i < 1 → Cond.eq (.field (lwT i) "java/lang/String" "coder" "B") (.int 0) ∈ lwL by decide +kernel) i hi))
    (fun i hi => hq _ ((show ∀ i : Nat, i < 1 → Cond.arrayOf (.field (lwT i) "java/lang/String" "value" "[B") .byte ∈ lwL by decide +kernel) i hi))
    (fun i hi => hq _ ((show ∀ i : Nat, i < 1 → Cond.eq (.length (.field (lwT i) "java/lang/String" "value" "[B")) (.int (Int32.ofNat (xsLen.getD i 0))) ∈ lwL by decide +kernel) i hi))
    (fun i hi j hj => hq _ ((show ∀ i : Nat, i < 1 → ∀ j : Nat, j < xsLen.getD i 0 → Cond.eq (.elem (.field (lwT i) "java/lang/String" "value" "[B") (.int (Int32.ofNat j))) (.int ((xsByt.getD i []).getD j 0)) ∈ lwL by decide +kernel) i hi j hj))
    (fun i j hi hj hne => by
      rcases (show ∀ i : Nat, i < 1 → ∀ j : Nat, j < 1 → i ≠ j → Cond.not (Cond.eq (lwT i) (lwT j)) ∈ lwL ∨ Cond.not (Cond.eq (lwT j) (lwT i)) ∈ lwL by decide +kernel) i hi j hj hne with h | h
      · exact Or.inl (hq _ h)
      · exact Or.inr (hq _ h)) hA
  refine ⟨((fun k => ([c0, c1, c2, c3, c4, c5, c6] : List ClassId).getD k c0, fun k => ([i0, i1, i2, i3, i4, i5, i6] : List (Nat → Nat)).getD k i0), fun k => ([a0, a1, a2, a3] : List ClassId).getD k a0), adK, adV, ⟨⟨?_, ?_⟩, ?_, O3, O4⟩, ?_, ?_, hS, ?_, ?_, ?_⟩
  · intro c q hq9
    rcases (show c = 0 ∨ c = 1 ∨ c = 2 ∨ c = 3 ∨ c = 4 ∨ c = 5 ∨ c = 6 by
      have := (List.getElem?_eq_some_iff.mp hq9).1
      simp at this
      omega) with rfl | rfl | rfl | rfl | rfl | rfl | rfl
    · cases hq9; exact K0
    · cases hq9; exact K1
    · cases hq9; exact K2
    · cases hq9; exact K3
    · cases hq9; exact K4
    · cases hq9; exact K5
    · cases hq9; exact K6
  · intro c q hq9
    rcases (show c = 0 ∨ c = 1 ∨ c = 2 ∨ c = 3 by
      have := (List.getElem?_eq_some_iff.mp hq9).1
      simp [nTy] at this
      omega) with rfl | rfl | rfl | rfl
    · cases hq9; exact A0
    · cases hq9; exact A1
    · cases hq9; exact A2
    · cases hq9; exact A3
  · intro w hw
    obtain ⟨h1, h2⟩ := List.mem_filter.mp hw
    refine va_Nw.of ?_ (hts w h1)
    cases w <;> first | rfl | cases h2
  · exact vx_Zqof (hts (.laysStatic Bundle.tN "UNASSIGNED_STACK" Bundle.steD) (by decide +kernel)) (hts (.initialized Bundle.tN) (by decide +kernel)) (hq (Cond.isRef (.static Bundle.tN "UNASSIGNED_STACK" Bundle.steD)) (by decide +kernel)) hA
  · exact vx_Zqof (hts (.laysStatic Bundle.tN "SUPPRESSED_SENTINEL" Bundle.listD) (by decide +kernel)) (hts (.initialized Bundle.tN) (by decide +kernel)) (hq (Cond.isRef (.static Bundle.tN "SUPPRESSED_SENTINEL" Bundle.listD)) (by decide +kernel)) hA
  · have hR : ∀ q ∈ xsR, (Cond.stringRef q.1 q.2.1 q.2.2.1).before args s = true := fun q hq9 => hts _ ((show ∀ q ∈ xsR, Cond.stringRef q.1 q.2.1 q.2.2.1 ∈ lw_tbl by decide +kernel) q hq9)
    intro q hq9
    refine vk_R.of (hR q hq9) ?_
    simp only [xsR, List.mem_cons, List.not_mem_nil, or_false] at hq9
    subst hq9
    exact hT 0 (by decide)
  · exact va_Zof (hts (.laysStatic "java/lang/String" "COMPACT_STRINGS" "Z") (by decide +kernel)) (hts (.initialized "java/lang/String") (by decide +kernel)) (va_eqt (hq (Cond.eq (Term.static "java/lang/String" "COMPACT_STRINGS" "Z") (.int 1)) (by decide +kernel))) hA
  · exact va_Zqof (hts (.laysStatic "jdk/internal/util/Preconditions" "SIOOBE_FORMATTER" "Ljava/util/function/BiFunction;") (by decide +kernel)) (hts (.initialized "jdk/internal/util/Preconditions") (by decide +kernel)) (hq (Cond.isRef (.static "jdk/internal/util/Preconditions" "SIOOBE_FORMATTER" "Ljava/util/function/BiFunction;")) (by decide +kernel)) hA
/-- the world of 72 cells, once they are made -/
theorem lw_xKn {s : State} {G : nC} {adK adV f : Nat → Nat} (h : lwKn s G adK adV) (h9 : f 99 = 0) (hf : ∀ a, a < 72 → s.heap.size ≤ f a) (hi : ∀ i j, i < 72 → j < 72 → f i = f j → i = j) : xN (G.1, G.2, f, adK, adV) = 72 ∧ xKn (G.1, G.2, f, adK, adV) s := by
  have e : xN (G.1, G.2, f, adK, adV) = 72 := if_neg (show ¬ f 99 = 1 by omega)
  refine ⟨e, ?_⟩
  obtain ⟨⟨h1, h2, -, -⟩, h3, h4, h5, h6, h7, h8⟩ := h
  have hN : ∀ q, xA (G.1, G.2, f, adK, adV) q → lwA s q := by
    rintro q ⟨a, ha, rfl⟩
    exact hf a (by omega)
  exact ⟨h1, h2, fun i j a b => hi i j (by omega) (by omega), h3.narrow hN, h4.narrow hN, h5.narrow hN, h6, h7.narrow hN, h8.narrow hN⟩
