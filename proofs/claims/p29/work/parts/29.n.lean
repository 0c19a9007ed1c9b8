/-! ONE CELL MORE: while most() runs, the world has the cell that it made; at its end the world is as before -/
section WIDE
variable {A B : Nat → Prop} {U : State} {H : Heap}
theorem va_Z.wide {C n d : String} {v : Value} (h : va_Z C n d v A U H) (hAB : ∀ q, B q → A q ∨ H.size ≤ q) : va_Z C n d v B U H := by
  obtain ⟨cf, kf, fi, f, a, cell, h1, h2, h3, h4, h5, h6, h7, h8⟩ := h
  have hlt := (Array.getElem?_eq_some_iff.mp h5).1
  exact ⟨cf, kf, fi, f, a, cell, h1, h2, h3, h4, h5, h6, h7, fun z => (hAB a z).elim h8 (fun z2 => absurd hlt (Nat.not_lt.mpr z2))⟩
theorem va_Zq.wide {C n d : String} (h : va_Zq C n d A U H) (hAB : ∀ q, B q → A q ∨ H.size ≤ q) : va_Zq C n d B U H := by
  rcases h with h | ⟨t, h⟩
  · exact Or.inl (h.wide hAB)
  · exact Or.inr ⟨t, h.wide hAB⟩
theorem vx_L.wide {C n d : String} (h : vx_L C n d A U H) (hAB : ∀ q, B q → A q ∨ H.size ≤ q) : vx_L C n d B U H := by
  obtain ⟨c, k, i, f, a, cell, h1, h2, h3, h4, h5, h6, h7, h8, h9, h10⟩ := h
  have hlt := (Array.getElem?_eq_some_iff.mp h5).1
  exact ⟨c, k, i, f, a, cell, h1, h2, h3, h4, h5, h6, h7, h8, h9, fun z => (hAB a z).elim h10 (fun z2 => absurd hlt (Nat.not_lt.mpr z2))⟩
theorem vx_Zq.wide {C n d : String} (h : vx_Zq C n d A U H) (hAB : ∀ q, B q → A q ∨ H.size ≤ q) : vx_Zq C n d B U H := ⟨h.1.wide hAB, h.2.wide hAB⟩
theorem va_O.wide {E : String} {t : Nat} (h : va_O E t A U H) (hAB : ∀ q, B q → A q ∨ H.size ≤ q) : va_O E t B U H := by
  obtain ⟨cell, h1, h2, h3, h4⟩ := h
  have hlt := (Array.getElem?_eq_some_iff.mp h1).1
  exact ⟨cell, h1, h2, h3, fun z => (hAB t z).elim h4 (fun z2 => absurd hlt (Nat.not_lt.mpr z2))⟩
theorem va_OF.wide {o n d : String} {v : Value} {t : Nat} (h : va_OF o n d v t A U H) (hAB : ∀ q, B q → A q ∨ H.size ≤ q) : va_OF o n d v t B U H := by
  obtain ⟨cf, k, i, f, cell, h1, h2, h3, h4, h5, h6⟩ := h
  have hlt := (Array.getElem?_eq_some_iff.mp h3).1
  exact ⟨cf, k, i, f, cell, h1, h2, h3, h4, h5, fun z => (hAB t z).elim h6 (fun z2 => absurd hlt (Nat.not_lt.mpr z2))⟩
theorem va_T.wide {ty : FieldType} {t N : Nat} {f : Nat → Value} (h : va_T ty t N f A U H) (hAB : ∀ q, B q → A q ∨ H.size ≤ q) : va_T ty t N f B U H := by
  obtain ⟨cell, h1, h2, h3, h4, h5, h6, h7⟩ := h
  have hlt := (Array.getElem?_eq_some_iff.mp h1).1
  exact ⟨cell, h1, h2, h3, h4, h5, h6, fun z => (hAB t z).elim h7 (fun z2 => absurd hlt (Nat.not_lt.mpr z2))⟩
theorem vk_S.wide {N : Nat} {len : List Nat} {byt : List (List Int32)} {adK adV : Nat → Nat} (h : vk_S N len byt adK adV A U H) (hAB : ∀ q, B q → A q ∨ H.size ≤ q) : vk_S N len byt adK adV B U H :=
  ⟨fun i hi => ⟨(h.1 i hi).1.wide hAB, (h.1 i hi).2.1.wide hAB, (h.1 i hi).2.2.1.wide hAB, (h.1 i hi).2.2.2.wide hAB⟩, h.2⟩
end WIDE
/-- addresses with one more -/
def adN (ad : Nat → Nat) (q a : Nat) : Nat := if a = 72 then q else if a = 99 then 1 else ad a
def exE (E : xE) (q : Nat) : xE := (E.1, E.2.1, adN E.2.2.1 q, E.2.2.2)
theorem adN_lt {ad : Nat → Nat} {q a : Nat} (h : a < 72) : adN ad q a = ad a := by
  unfold adN
  rw [if_neg (by omega), if_neg (by omega)]
theorem exE_N (E : xE) (q : Nat) : xN (exE E q) = 73 := rfl
theorem exE_A {E : xE} {q : Nat} (hN : xN E = 72) {x : Nat} : xA (exE E q) x ↔ xA E x ∨ x = q := by
  constructor
  · rintro ⟨a, ha, rfl⟩
    rw [exE_N] at ha
    by_cases h : a < 72
    · exact Or.inl ⟨a, by omega, adN_lt h⟩
    · rw [show a = 72 by omega]; exact Or.inr rfl
  · rintro (⟨a, ha, rfl⟩ | rfl)
    · exact ⟨a, by rw [exE_N]; omega, (adN_lt (by omega)).symm⟩
    · exact ⟨72, by rw [exE_N]; omega, rfl⟩
def newM (M : xM) : xM := (fun b j => if b = 72 then 0 else M.1 b j, M.2)
theorem xcr_lt : ∀ a, a < 72 → ∀ k, k < 10 → xft (xk a).1 k = 1 → xcr (xk a).1 a k < 72 := by decide +kernel
theorem xk_9 : ∀ a, a < 72 → (xk a).1 < 8 → (xk a).2 < 10 := by decide +kernel
theorem xk_no0 : ∀ a, a < 72 → ((xk a).1 = 8 ∨ (xk a).1 = 9 ∨ (xk a).1 = 11 ∨ (xk a).1 = 12 ∨ (xk a).1 = 13 ∨ (xk a).1 < 8) := by decide +kernel
theorem xk_no (a : Nat) (ha : a < 72) (h8 : (xk a).1 ≠ 8) (h9 : (xk a).1 ≠ 9) (h11 : (xk a).1 ≠ 11) (h12 : (xk a).1 ≠ 12) (h13 : (xk a).1 ≠ 13) : (xk a).1 < 8 := by
  have := xk_no0 a ha
  omega
/-- an old cell is as it was -/
theorem xent_ex {E : xE} {q : Nat} {M M' : xM} (hT : okT M) {a : Nat} (ha : a < 72) (h1 : M'.1 a = M.1 a) (h2 : M'.2 = M.2) : xent (exE E q) M' a = xent E M a := by
  unfold xent
  rw [h1]
  show (if (xk a).1 = 8 then Sum.inl (E.2.1 0, (xk a).2, Sum.inl (M.1 a)) else if (xk a).1 = 9 then Sum.inl (E.2.1 1, (xk a).2, Sum.inl (M.1 a)) else if (xk a).1 = 11 then Sum.inl (E.2.1 2, (xk a).2, Sum.inr (Sum.inr (Sum.inr (Sum.inr (fun k => some (adN E.2.2.1 q (18 + 5 * k)))))))
    else if (xk a).1 = 12 then Sum.inl (E.2.1 3, (xk a).2, Sum.inr (Sum.inr (Sum.inr (Sum.inr (fun k => some (adN E.2.2.1 q (52 + k % 12))))))) else if (xk a).1 = 13 then Sum.inl (E.2.1 0, (xk a).2, Sum.inl (M.1 a)) else Sum.inr ((xk a).1, (List.range (xk a).2).map (xfv (adN E.2.2.1 q) M' (xk a).1 a))) = _
  have e1 : (fun k => some (adN E.2.2.1 q (18 + 5 * k))) = (fun k => some (E.2.2.1 (18 + 5 * k))) := by
    funext k
    unfold adN
    rw [if_neg (by omega), if_neg (by omega)]
  have e2 : (fun k => some (adN E.2.2.1 q (52 + k % 12))) = (fun k => some (E.2.2.1 (52 + k % 12))) := by
    funext k
    rw [adN_lt (by omega)]
  rw [e1, e2]
  by_cases h8 : (xk a).1 = 8
  · rw [if_pos h8, if_pos h8]
  rw [if_neg h8, if_neg h8]
  by_cases h9 : (xk a).1 = 9
  · rw [if_pos h9, if_pos h9]
  rw [if_neg h9, if_neg h9]
  by_cases h11 : (xk a).1 = 11
  · rw [if_pos h11, if_pos h11]
  rw [if_neg h11, if_neg h11]
  by_cases h12 : (xk a).1 = 12
  · rw [if_pos h12, if_pos h12]
  rw [if_neg h12, if_neg h12]
  by_cases h13 : (xk a).1 = 13
  · rw [if_pos h13, if_pos h13]
  rw [if_neg h13, if_neg h13]
  have hk := xk_9 a ha (xk_no a ha h8 h9 h11 h12 h13)
  congr 2
  refine List.map_congr_left (fun k hk2 => ?_)
  have hk3 := List.mem_range.mp hk2
  unfold xfv
  rw [h1, h2]
  split
  · rfl
  · split
    · rfl
    · unfold xgr
      rw [h2]
      by_cases hf : xft (xk a).1 k = 1
      · rw [if_pos hf]
        show Value.ref (adN E.2.2.1 q _) = Value.ref (E.2.2.1 _)
        rw [adN_lt (xcr_lt a ha k (by omega) hf)]
      · rw [if_neg hf]
        cases hr : M.2.1 a k with
        | none => rfl
        | some b =>
          have := hT a k b hr
          show Value.ref (adN E.2.2.1 q b) = Value.ref (E.2.2.1 b)
          rw [adN_lt (by omega)]
theorem xws_ex {E : xE} {q : Nat} {M M' : xM} (hN : xN E = 72) (hT : okT M) (h1 : ∀ a, a < 72 → M'.1 a = M.1 a) (h2 : M'.2 = M.2) {k : Nat} (hk : k < 72) : (xws (exE E q) M')[k]? = (xws E M)[k]? := by
  rw [xws_at (exE E q) M' (by rw [exE_N]; omega), xws_at E M (by omega), xent_ex hT hk (h1 k hk) h2]
  show some (adN E.2.2.1 q k, _) = _
  rw [adN_lt hk]
theorem xws_len (E : xE) (M : xM) : (xws E M).length = xN E := by unfold xws; simp
/-- a local that the new cell doesn't touch -/
def xlow : xV → Bool
  | .inr (.inl (some a)) => decide (a < 72)
  | _ => true
theorem xc_ex {ad : Nat → Nat} {q : Nat} {v : xV} (h : xlow v = true) : xc (adN ad q) v = xc ad v := by
  rcases v with x | r | x | x | q9 | u
  · rfl
  · cases r with
    | none => rfl
    | some a => show Value.ref (adN ad q a) = Value.ref (ad a); rw [adN_lt (of_decide_eq_true h)]
  · rfl
  · rfl
  · rfl
  · rfl
theorem nRA_int {U : State} {c1 c2 : ClassId} (h1 : va_RA U c1 .int) (h2 : va_RA U c2 .int) : c1 = c2 := Option.some.inj (Eq.trans (Eq.symm h1) h2)
theorem nK_last {D : va_G} {tys : List (ClassId × FieldType)} {cA : ClassId} {ty : FieldType} {U : State} (h : va_K D vwCl (tys ++ [(cA, ty)]) U) : va_RA U cA ty := (h.2 tys.length (cA, ty) (by simp)).2
theorem x_newT {l : Launch} {E : xE} {R : Room} {Y : xY} {cc : ByteArray} {own : String} {nL : Nat} {k n pc : Nat} {ls : List xV} {M : xM} (F : xFix E (xA E) Y cc own nL) (hN : xN E = 72) (hT : okT M) (d : decode cc pc = .ok (.newarray .int, 2)) (hcs : k + 1 ≤ R.cells ∧ n + 24 ≤ R.slots) (hls : ls.all xlow = true)
    (g : ∀ q : Nat, (ys Y).heap.size ≤ q → xFix (exE E q) (xA (exE E q)) Y cc own nL → WP l (exE E q) R (xA (exE E q)) Y (k + 1) (n + 24) (pc + 2) ls [vA 72] (newM M)) : WP l E R (xA E) Y k n pc ls [vI (jI 24)] M := by
  intro H locs lr hP hS hl hn
  obtain ⟨B, hB⟩ : ∃ B : Nat → Prop, B = fun q => xA E q ∨ (ys Y).heap.size ≤ q := ⟨_, rfl⟩
  have hSB : va_S B (ys Y).heap H locs := ⟨hS.1, fun q h1 h2 => hS.2.1 q h1 (fun z => h2 (by rw [hB]; exact Or.inl z)), fun q hq => by rw [hB]; exact Or.inl (hS.2.2 q hq)⟩
  have hDB : va_D B (xws E M) := ⟨(xD F M).1, fun i q hi => by rw [hB]; exact Or.inl ((xD F M).2 i q hi)⟩
  refine va_newa (atype := .int) F.1 F.2.1 (F.2.2.2.2.1 _ (LW_of 89 (by decide +kernel) (by decide +kernel))) rfl F.2.2.2.2.2.1.1 hP hDB hSB (fun q h => by rw [hB]; exact Or.inr h) (a0 := (24, .inl (fun _ => 0))) (fun _ => rfl) (by decide) (N' := 24) (by decide) (by decide) hcs.1 hcs.2 d (fun q cA H1 hK1 hP1 hD1 hS1 => ?_)
  have e : cA = E.2.1 0 := nRA_int (nK_last hK1) (F.2.2.2.2.2.1.1.2 0 _ rfl).2
  subst e
  have hlast : (xws E M ++ [(q, (Sum.inl (E.2.1 0, 24, Sum.inl (fun _ => 0)) : va_E))])[72]? = some (q, .inl (E.2.1 0, 24, .inl (fun _ => 0))) := by
    rw [List.getElem?_append_right (by rw [xws_len, hN]; exact Nat.le_refl _), xws_len, hN]
    rfl
  have hold : ∀ i, i < 72 → (xws E M ++ [(q, (Sum.inl (E.2.1 0, 24, Sum.inl (fun _ => 0)) : va_E))])[i]? = (xws E M)[i]? := fun i hi => List.getElem?_append_left (by rw [xws_len, hN]; exact hi)
  have hne : ∀ i, i < 72 → E.2.2.1 i ≠ q := fun i hi z => by
    have := hD1.1 i 72 _ _ (by rw [hold i hi, xws_at E M (by omega)]) hlast z
    omega
  have hnA : ¬ xA E q := by
    rintro ⟨a, ha, e⟩
    exact hne a (by omega) e.symm
  have hq : (ys Y).heap.size ≤ q := by
    have := hD1.2 72 _ hlast
    rw [hB] at this
    rcases this with h | h
    · exact absurd h hnA
    · exact h
  have hAB : ∀ x, xA (exE E q) x → xA E x ∨ (ys Y).heap.size ≤ x := fun x hx => by
    rcases (exE_A hN).mp hx with h | h
    · exact Or.inl h
    · rw [h]; exact Or.inr hq
  have hkn : xKn (exE E q) (ys Y) := by
    obtain ⟨h1, h2, h3, h4, h5, h6, h7, h8, h9⟩ := F.2.2.2.2.2.1
    refine ⟨h1, h2, fun i j hi hj e => ?_, h4.wide hAB, h5.wide hAB, h6.wide hAB, h7, h8.wide hAB, h9.wide hAB⟩
    rw [exE_N] at hi hj
    by_cases i72 : i < 72
    · by_cases j72 : j < 72
      · have e2 : adN E.2.2.1 q i = adN E.2.2.1 q j := e
        rw [adN_lt i72, adN_lt j72] at e2
        exact h3 i j (by omega) (by omega) e2
      · have e2 : adN E.2.2.1 q i = adN E.2.2.1 q j := e
        rw [adN_lt i72, show j = 72 by omega] at e2
        exact absurd e2 (hne i i72)
    · by_cases j72 : j < 72
      · have e2 : adN E.2.2.1 q i = adN E.2.2.1 q j := e
        rw [adN_lt j72, show i = 72 by omega] at e2
        exact absurd e2.symm (hne j j72)
      · omega
  have F' : xFix (exE E q) (xA (exE E q)) Y cc own nL := ⟨F.1, F.2.1, F.2.2.1, F.2.2.2.1, F.2.2.2.2.1, hkn, fun a ha => ⟨a, ha, rfl⟩, fun x _ hx => hx, F.2.2.2.2.2.2.2.2⟩
  refine g q hq F' H1 locs lr ?_ ⟨hS1.1, fun x h1 h2 => ?_, fun x hx => (exE_A hN).mpr (Or.inl (hS.2.2 x hx))⟩ ⟨hl.1, hl.2.1, fun i v hv hu => ?_⟩ hn
  · intro i x hi
    have hi2 : i < 73 := by
      have := (List.getElem?_eq_some_iff.mp hi).1
      rw [xws_len, exE_N] at this
      exact this
    by_cases i72 : i < 72
    · rw [xws_ex (M' := newM M) hN hT (fun a ha => ?_) rfl i72] at hi
      · exact hP1 i x (by rw [hold i i72]; exact hi)
      · funext j
        show (if a = 72 then (0 : Int32) else M.1 a j) = M.1 a j
        rw [if_neg (by omega)]
    · have e72 : i = 72 := by omega
      subst e72
      rw [xws_at (exE E q) _ (by rw [exE_N]; omega), xent_scr (n := 24) rfl] at hi
      have hx : x = (q, .inl (E.2.1 0, 24, .inl (fun _ => 0))) := (Option.some.inj hi).symm
      rw [hx]
      exact hP1 72 _ hlast
  · refine hS1.2.1 x h1 (fun z => h2 ?_)
    rw [hB] at z
    rcases z with z | z
    · exact (exE_A hN).mpr (Or.inl z)
    · exact absurd h1 (Nat.not_lt.mpr z)
  · rw [show xc (exE E q).2.2.1 v = xc E.2.2.1 v from xc_ex (List.all_eq_true.mp hls v (List.mem_of_getElem? hv))]
    exact hl.2.2 i v hv hu
/-- the end: the new cell is forgotten -/
theorem x_iretT {l : Launch} {E : xE} {R : Room} {Y : xY} {cc : ByteArray} {own : String} {nL : Nat} {k n pc mc ms q : Nat} {ls : List xV} {M M0 : xM} {post : xV → xM → Prop} {xpost : String → xM → Prop} {rt : FieldType} (F : xFix (exE E q) (xA (exE E q)) Y cc own nL) (FR : xRet E Y (some rt) mc ms post xpost) (hN : xN E = 72) (hq : (ys Y).heap.size ≤ q) (hT : okT M0) {x : Int32} (d : decode cc pc = .ok (.ireturn, 1)) (hn : narrow rt (.int x) = .int x) (hk : k ≤ mc) (hs : n ≤ ms) (h1 : ∀ a, a < 72 → M.1 a = M0.1 a) (h2 : M.2 = M0.2) (h : post (vI x) M0) : WP l (exE E q) R (xA (exE E q)) Y k n pc ls [vI x] M := by
  intro H locs lr hP hS hl hn9
  have hlow : ∀ y, xA (exE E q) y → y < (ys Y).heap.size → xA E y := fun y hy hlt => by
    rcases (exE_A hN).mp hy with z | z
    · exact z
    · omega
  have hS' : va_S (xA E) (ys Y).heap H (locs.filter (fun z => decide (z.base < (ys Y).heap.size))) := by
    refine ⟨hS.1, fun y g1 g2 => hS.2.1 y g1 (fun z => g2 (hlow y z g1)), fun z hz => ?_⟩
    obtain ⟨z1, z2⟩ := List.mem_filter.mp hz
    exact hlow _ (hS.2.2 z z1) (of_decide_eq_true z2)
  have hP' : va_P E.1 vwCl (xws E M0) H := fun i y hi => by
    have hi2 : i < 72 := by
      have := (List.getElem?_eq_some_iff.mp hi).1
      rw [xws_len, hN] at this
      exact this
    exact hP i y (by rw [xws_ex hN hT h1 h2 hi2]; exact hi)
  intro T hT9 X
  have X' : Stand (yp Y) l (ye Y) R (ys Y) (ym Y) (ya Y) (yb Y) (yM Y) (yc Y) T (locs.filter (fun z => decide (z.base < (ys Y).heap.size))) k n := { X with same := X.same.weaken (fun y hy hlt => List.mem_filter.mpr ⟨hy, decide_eq_true hlt⟩) (Nat.le_refl _) (Nat.le_refl _) }
  have key : W (yp Y) l (ye Y) R (ys Y) (ym Y) (ya Y) (yb Y) (yM Y) (yc Y) H (locs.filter (fun z => decide (z.base < (ys Y).heap.size))) k n (yQ Y) (F0 (ym Y) pc lr ([vI x].map (xc (exE E q).2.2.1))) := by
    rw [show yQ Y = _ from FR.1]
    refine W.widen hk hs (vx_ret ?_)
    exact W.zret F.1 F.2.1 FR.2.1 hn (fun t ht hW => ⟨⟨vI x, M0, rfl, h, by rw [ht]; exact hP'⟩, hS'.F ht⟩) hS'.2.2 d F.2.2.2.2.2.2.2.2
  exact key T hT9 X'
