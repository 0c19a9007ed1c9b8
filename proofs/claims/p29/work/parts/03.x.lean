/-! VALUES, THE WORLD, THE WALK. All cells of the run lie in ONE picture: 72 cells by their numbers (OddChoir 0, its choirs 1, 6, 11, the history 16 with choirs 18, 23 .., the text 48, the tree 50, the orders 64, the law's own heights 68, voices 69, numbers 70, counts 71), and a 73rd one (the heights that most() tries) while it is there: xN says how many there are. xM: what they hold. WP: the machine, at this instruction with these locals, stack and world, comes to an end with Q. -/
abbrev xV : Type := Int32 ⊕ ((Option Nat) ⊕ (Int64 ⊕ (UInt64 ⊕ (Nat ⊕ Unit))))
abbrev vI (x : Int32) : xV := Sum.inl x
abbrev vR (r : Option Nat) : xV := Sum.inr (Sum.inl r)
abbrev vL (x : Int64) : xV := Sum.inr (Sum.inr (Sum.inl x))
abbrev vD (x : UInt64) : xV := Sum.inr (Sum.inr (Sum.inr (Sum.inl x)))
abbrev vQ (q : Nat) : xV := Sum.inr (Sum.inr (Sum.inr (Sum.inr (Sum.inl q))))
abbrev vU : xV := Sum.inr (Sum.inr (Sum.inr (Sum.inr (Sum.inr ()))))
abbrev vA (a : Nat) : xV := vR (some a)
abbrev xM : Type := (Nat → Nat → Int32) × ((Nat → Nat → Option Nat) × (Nat → Nat → Int64))
def xrv (ad : Nat → Nat) : Option Nat → Value
  | none => .null
  | some a => .ref (ad a)
def xc (ad : Nat → Nat) : xV → Value
  | .inl x => .int x
  | .inr (.inl r) => xrv ad r
  | .inr (.inr (.inl x)) => .long x
  | .inr (.inr (.inr (.inl x))) => .double x
  | .inr (.inr (.inr (.inr (.inl q)))) => .ref q
  | .inr (.inr (.inr (.inr (.inr _)))) => .null
def xcat : xV → Nat
  | .inl _ => 1
  | .inr (.inl _) => 1
  | .inr (.inr (.inl _)) => 2
  | .inr (.inr (.inr (.inl _))) => 2
  | .inr (.inr (.inr (.inr _))) => 1
def xU : xV → Bool
  | .inr (.inr (.inr (.inr (.inr _)))) => true
  | _ => false
/-- what stays of a value below one that is stored behind it -/
def xn2 : xV → xV
  | .inr (.inr (.inl _)) => vU
  | .inr (.inr (.inr (.inl _))) => vU
  | v => v
theorem xrv_cat (ad : Nat → Nat) (r : Option Nat) : (xrv ad r).category = 1 := by cases r <;> rfl
theorem xc_cat (ad : Nat → Nat) (v : xV) : (xc ad v).category = xcat v := by
  rcases v with x | r | x | x | q | u
  · rfl
  · exact xrv_cat ad r
  · rfl
  · rfl
  · rfl
  · rfl
theorem xn2_of {v w : xV} (h : xn2 v = w) (hu : xU w = false) : v = w ∧ xcat v = 1 := by
  rcases v with x | r | x | x | q | u
  · exact ⟨h, rfl⟩
  · exact ⟨h, rfl⟩
  · subst h; cases hu
  · subst h; cases hu
  · exact ⟨h, rfl⟩
  · subst h; cases hu
/-- the cells: class (0 to 7) or kind of array (8 int, 9 char, 10 long, 11 of choirs, 12 of nodes), and how many fields or places -/
def xkL : List (Nat × Nat) := [(6,8),(1,9),(8,4),(8,24),(8,24),(8,24),(1,9),(8,4),(8,24),(8,24),(8,24),(1,9),(8,4),(8,24),(8,24),(8,24),(3,3),(11,6),(1,9),(8,4),(8,24),(8,24),(8,24),(1,9),(8,4),(8,24),(8,24),(8,24),(1,9),(8,4),(8,24),(8,24),(8,24),(1,9),(8,4),(8,24),(8,24),(8,24),(1,9),(8,4),(8,24),(8,24),(8,24),(1,9),(8,4),(8,24),(8,24),(8,24),(0,2),(9,60),(2,3),(12,12),(4,4),(4,4),(4,4),(4,4),(4,4),(4,4),(4,4),(4,4),(4,4),(4,4),(4,4),(4,4),(5,7),(8,6),(8,6),(8,6),(8,24),(8,24),(8,24),(8,5),(13,24)]
def xk (a : Nat) : Nat × Nat := xkL.getD a (99, 0)
theorem xk_lt {a : Nat} {q : Nat × Nat} (h : xk a = q) (hq : q.1 < 13) : a < 72 := by
  rcases Nat.lt_or_ge a 72 with g | g
  · exact g
  · exfalso
    rcases Nat.eq_or_lt_of_le g with g | g
    · subst g; rw [← h] at hq; exact absurd hq (by decide)
    · rw [← h] at hq; unfold xk at hq; rw [List.getD_eq_getElem?_getD, List.getElem?_eq_none (show xkL.length ≤ a from g)] at hq; exact absurd hq (by decide)
/-- the types of the fields: 0 int or boolean, 1 a reference that never changes, 2 a reference, 3 long -/
def xftL : List (List Nat) := [[1,0],[1,1,1,1,0,0,0,0,0],[1,2,0],[1,0,0],[0,0,2,2],[1,1,1,0,0,0,0],[1,1,1,0,1,1,1,1],[1,1,0,1,0,0,1,1,0,0,1,0,0,0,1,1,1,1,3]]
def xft (ci k : Nat) : Nat := (xftL.getD ci []).getD k 0
def xcr (ci a k : Nat) : Nat := if ci = 6 then [1,6,11,0,16,48,50,64].getD k 0 else if ci = 7 then [69,70,0,71,0,0,72,73,0,0,74,0,0,0,75,76,77,78,0].getD k 0 else a + 1 + k
def xgr (M : xM) (ci a k : Nat) : Option Nat := if xft ci k = 1 then some (xcr ci a k) else M.2.1 a k
def xfv (ad : Nat → Nat) (M : xM) (ci a k : Nat) : Value := if xft ci k = 0 then .int (M.1 a k) else if xft ci k = 3 then .long (M.2.2 a k) else xrv ad (xgr M ci a k)
/-- where the run stands: the classes, the array classes, the cells' addresses, the texts' and their bytes' -/
abbrev xE : Type := va_G × ((Nat → ClassId) × ((Nat → Nat) × ((Nat → Nat) × (Nat → Nat))))
/-- how many cells there are: 73 while the cell that most() makes is there -/
def xN (E : xE) : Nat := if E.2.2.1 99 = 1 then 73 else 72
theorem xN_ge (E : xE) : 72 ≤ xN E := by unfold xN; split <;> omega
theorem xN_le (E : xE) : xN E ≤ 73 := by unfold xN; split <;> omega
theorem xN_of {E : xE} {a : Nat} (h : a < 72) : a < xN E := Nat.lt_of_lt_of_le h (xN_ge E)
def xent (E : xE) (M : xM) (a : Nat) : va_E :=
  if (xk a).1 = 8 then .inl (E.2.1 0, (xk a).2, .inl (M.1 a))
  else if (xk a).1 = 9 then .inl (E.2.1 1, (xk a).2, .inl (M.1 a))
  else if (xk a).1 = 11 then .inl (E.2.1 2, (xk a).2, .inr (.inr (.inr (.inr (fun k => some (E.2.2.1 (18 + 5 * k)))))))
  else if (xk a).1 = 12 then .inl (E.2.1 3, (xk a).2, .inr (.inr (.inr (.inr (fun k => some (E.2.2.1 (52 + k % 12)))))))
  else if (xk a).1 = 13 then .inl (E.2.1 0, (xk a).2, .inl (M.1 a))
  else .inr ((xk a).1, (List.range (xk a).2).map (xfv E.2.2.1 M (xk a).1 a))
abbrev xTy (E : xE) : List (ClassId × FieldType) := [(E.2.1 0, .int), (E.2.1 1, .char), (E.2.1 2, .object RX1), (E.2.1 3, .object RX4)]
def xws (E : xE) (M : xM) : va_W := (List.range (xN E)).map (fun a => (E.2.2.1 a, xent E M a))
def xA (E : xE) : Nat → Prop := fun q => ∃ a, a < xN E ∧ q = E.2.2.1 a
theorem xws_at (E : xE) (M : xM) {a : Nat} (h : a < xN E) : (xws E M)[a]? = some (E.2.2.1 a, xent E M a) := by
  simp [xws, h]
theorem xent_arr {E : xE} {M : xM} {a n : Nat} (h : xk a = (8, n)) : xent E M a = .inl (E.2.1 0, n, .inl (M.1 a)) := by simp [xent, h]
theorem xent_chr {E : xE} {M : xM} {a n : Nat} (h : xk a = (9, n)) : xent E M a = .inl (E.2.1 1, n, .inl (M.1 a)) := by simp [xent, h]
theorem xent_chs {E : xE} {M : xM} {a n : Nat} (h : xk a = (11, n)) : xent E M a = .inl (E.2.1 2, n, .inr (.inr (.inr (.inr (fun k => some (E.2.2.1 (18 + 5 * k))))))) := by simp [xent, h]
theorem xent_nds {E : xE} {M : xM} {a n : Nat} (h : xk a = (12, n)) : xent E M a = .inl (E.2.1 3, n, .inr (.inr (.inr (.inr (fun k => some (E.2.2.1 (52 + k % 12))))))) := by simp [xent, h]
theorem xent_scr {E : xE} {M : xM} {a n : Nat} (h : xk a = (13, n)) : xent E M a = .inl (E.2.1 0, n, .inl (M.1 a)) := by simp [xent, h]
theorem xent_obj {E : xE} {M : xM} {a ci n : Nat} (h : xk a = (ci, n)) (hc : ci < 8) : xent E M a = .inr (ci, (List.range n).map (xfv E.2.2.1 M ci a)) := by
  have h1 : ci ≠ 8 := by omega
  have h2 : ci ≠ 9 := by omega
  have h3 : ci ≠ 13 := by omega
  have h4 : ci ≠ 11 := by omega
  have h5 : ci ≠ 12 := by omega
  simp [xent, h, h1, h2, h3, h4, h5]
theorem xws_obj (E : xE) (M : xM) {a ci n : Nat} (h : xk a = (ci, n)) (hc : ci < 8) : (xws E M)[a]? = some (E.2.2.1 a, .inr (ci, (List.range n).map (xfv E.2.2.1 M ci a))) := by
  rw [xws_at E M (xN_of (xk_lt h (by show ci < 13; omega))), xent_obj h hc]
theorem xws_arr (E : xE) (M : xM) {a n : Nat} (h : xk a = (8, n)) : (xws E M)[a]? = some (E.2.2.1 a, .inl (E.2.1 0, n, .inl (M.1 a))) := by
  rw [xws_at E M (xN_of (xk_lt h (show (8 : Nat) < 13 by decide))), xent_arr h]
theorem xws_chr (E : xE) (M : xM) {a n : Nat} (h : xk a = (9, n)) : (xws E M)[a]? = some (E.2.2.1 a, .inl (E.2.1 1, n, .inl (M.1 a))) := by
  rw [xws_at E M (xN_of (xk_lt h (show (9 : Nat) < 13 by decide))), xent_chr h]
theorem xws_chs (E : xE) (M : xM) {a n : Nat} (h : xk a = (11, n)) : (xws E M)[a]? = some (E.2.2.1 a, .inl (E.2.1 2, n, .inr (.inr (.inr (.inr (fun k => some (E.2.2.1 (18 + 5 * k)))))))) := by
  rw [xws_at E M (xN_of (xk_lt h (show (11 : Nat) < 13 by decide))), xent_chs h]
theorem xws_nds (E : xE) (M : xM) {a n : Nat} (h : xk a = (12, n)) : (xws E M)[a]? = some (E.2.2.1 a, .inl (E.2.1 3, n, .inr (.inr (.inr (.inr (fun k => some (E.2.2.1 (52 + k % 12)))))))) := by
  rw [xws_at E M (xN_of (xk_lt h (show (12 : Nat) < 13 by decide))), xent_nds h]
/-- writes -/
def upI (M : xM) (a k : Nat) (x : Int32) : xM := (fun b j => if b = a ∧ j = k then x else M.1 b j, M.2)
def upR (M : xM) (a k : Nat) (r : Option Nat) : xM := (M.1, (fun b j => if b = a ∧ j = k then r else M.2.1 b j, M.2.2))
def upL (M : xM) (a k : Nat) (x : Int64) : xM := (M.1, (M.2.1, fun b j => if b = a ∧ j = k then x else M.2.2 b j))
theorem upI_row {M : xM} {a k : Nat} {x : Int32} {b : Nat} (h : b ≠ a) : (upI M a k x).1 b = M.1 b := by
  funext j; show (if b = a ∧ j = k then x else M.1 b j) = M.1 b j; rw [if_neg (fun z => h z.1)]
theorem upI_self {M : xM} {a k : Nat} {x : Int32} : (upI M a k x).1 a = upd (M.1 a) k x := by
  funext j; show (if a = a ∧ j = k then x else M.1 a j) = upd (M.1 a) k x j
  unfold upd
  by_cases h : j = k
  · rw [if_pos ⟨rfl, h⟩, if_pos h]
  · rw [if_neg (fun z => h z.2), if_neg h]
theorem upR_row {M : xM} {a k : Nat} {x : Option Nat} {b : Nat} (h : b ≠ a) : (upR M a k x).2.1 b = M.2.1 b := by
  funext j; show (if b = a ∧ j = k then x else M.2.1 b j) = M.2.1 b j; rw [if_neg (fun z => h z.1)]
theorem upL_row {M : xM} {a k : Nat} {x : Int64} {b : Nat} (h : b ≠ a) : (upL M a k x).2.2 b = M.2.2 b := by
  funext j; show (if b = a ∧ j = k then x else M.2.2 b j) = M.2.2 b j; rw [if_neg (fun z => h z.1)]
theorem upL_self {M : xM} {a k : Nat} {x : Int64} : (upL M a k x).2.2 a = fun j => if j = k then x else M.2.2 a j := by
  funext j; show (if a = a ∧ j = k then x else M.2.2 a j) = _
  by_cases h : j = k
  · rw [if_pos ⟨rfl, h⟩, if_pos h]
  · rw [if_neg (fun z => h z.2), if_neg h]
/-- a cell of the world's list is changed -/
theorem xws_set {E : xE} {M M' : xM} {a : Nat} {e : va_E} (ha : a < xN E) (he : xent E M' a = e) (ho : ∀ b, b ≠ a → xent E M' b = xent E M b) : (xws E M).set a (E.2.2.1 a, e) = xws E M' := by
  apply List.ext_getElem?
  intro i
  rw [List.getElem?_set]
  by_cases hi : a = i
  · subst hi
    rw [if_pos rfl, if_pos (by simp [xws, ha]), xws_at E M' ha, he]
  · rw [if_neg hi]
    unfold xws
    rw [List.getElem?_map, List.getElem?_map]
    cases hr : (List.range (xN E))[i]? with
    | none => rfl
    | some j =>
      have hj : j = i := by
        have := List.getElem?_eq_some_iff.mp hr
        obtain ⟨h1, h2⟩ := this
        rw [← h2]; simp
      subst hj
      simp only [Option.map_some]
      rw [ho j (fun z => hi z.symm)]
theorem xent_of {E : xE} {M M' : xM} {b : Nat} (h1 : M'.1 b = M.1 b) (h2 : M'.2.1 b = M.2.1 b) (h3 : M'.2.2 b = M.2.2 b) : xent E M' b = xent E M b := by
  unfold xent
  rw [h1]
  have : ∀ k, xfv E.2.2.1 M' (xk b).1 b k = xfv E.2.2.1 M (xk b).1 b k := fun k => by unfold xfv xgr; rw [h1, h2, h3]
  rw [show xfv E.2.2.1 M' (xk b).1 b = xfv E.2.2.1 M (xk b).1 b from funext this]
theorem xws_putI {E : xE} {M : xM} {a ci n k : Nat} {x : Int32} (h : xk a = (ci, n)) (hc : ci < 8) (hf : xft ci k = 0) (hk : k < n) :
    (xws E M).set a (E.2.2.1 a, .inr (ci, ((List.range n).map (xfv E.2.2.1 M ci a)).set k (.int x))) = xws E (upI M a k x) := by
  refine xws_set (xN_of (xk_lt h (by show ci < 13; omega))) ?_ (fun b hb => xent_of (upI_row hb) rfl rfl)
  rw [xent_obj h hc]
  congr 2
  apply List.ext_getElem?
  intro i
  rw [List.getElem?_set]
  by_cases hi : k = i
  · subst hi
    rw [if_pos rfl, if_pos (by simpa using hk)]
    simp [hk, xfv, hf, upI]
  · rw [if_neg hi, List.getElem?_map, List.getElem?_map]
    cases hr : (List.range n)[i]? with
    | none => rfl
    | some j =>
      obtain ⟨h1, h2⟩ := List.getElem?_eq_some_iff.mp hr
      have hj : j = i := by rw [← h2]; simp
      subst hj
      simp only [Option.map_some]
      have hjk : j ≠ k := fun z => hi z.symm
      simp [xfv, xgr, upI, hjk]
theorem xws_putR {E : xE} {M : xM} {a ci n k : Nat} {x : Option Nat} (h : xk a = (ci, n)) (hc : ci < 8) (hf : xft ci k = 2) (hk : k < n) :
    (xws E M).set a (E.2.2.1 a, .inr (ci, ((List.range n).map (xfv E.2.2.1 M ci a)).set k (xrv E.2.2.1 x))) = xws E (upR M a k x) := by
  refine xws_set (xN_of (xk_lt h (by show ci < 13; omega))) ?_ (fun b hb => xent_of rfl (upR_row hb) rfl)
  rw [xent_obj h hc]
  congr 2
  apply List.ext_getElem?
  intro i
  rw [List.getElem?_set]
  by_cases hi : k = i
  · subst hi
    rw [if_pos rfl, if_pos (by simpa using hk)]
    simp [hk, xfv, xgr, hf, upR]
  · rw [if_neg hi, List.getElem?_map, List.getElem?_map]
    cases hr : (List.range n)[i]? with
    | none => rfl
    | some j =>
      obtain ⟨h1, h2⟩ := List.getElem?_eq_some_iff.mp hr
      have hj : j = i := by rw [← h2]; simp
      subst hj
      simp only [Option.map_some]
      have hjk : j ≠ k := fun z => hi z.symm
      simp [xfv, xgr, upR, hjk]
theorem xws_putL {E : xE} {M : xM} {a ci n k : Nat} {x : Int64} (h : xk a = (ci, n)) (hc : ci < 8) (hf : xft ci k = 3) (hk : k < n) :
    (xws E M).set a (E.2.2.1 a, .inr (ci, ((List.range n).map (xfv E.2.2.1 M ci a)).set k (.long x))) = xws E (upL M a k x) := by
  refine xws_set (xN_of (xk_lt h (by show ci < 13; omega))) ?_ (fun b hb => xent_of rfl rfl (upL_row hb))
  rw [xent_obj h hc]
  congr 2
  apply List.ext_getElem?
  intro i
  rw [List.getElem?_set]
  by_cases hi : k = i
  · subst hi
    rw [if_pos rfl, if_pos (by simpa using hk)]
    simp [hk, xfv, hf, upL]
  · rw [if_neg hi, List.getElem?_map, List.getElem?_map]
    cases hr : (List.range n)[i]? with
    | none => rfl
    | some j =>
      obtain ⟨h1, h2⟩ := List.getElem?_eq_some_iff.mp hr
      have hj : j = i := by rw [← h2]; simp
      subst hj
      simp only [Option.map_some]
      have hjk : j ≠ k := fun z => hi z.symm
      simp [xfv, xgr, upL, hjk]
theorem xws_sti {E : xE} {M : xM} {a n k : Nat} {x : Int32} (h : xk a = (8, n)) : (xws E M).set a (E.2.2.1 a, .inl (E.2.1 0, n, .inl (upd (M.1 a) k x))) = xws E (upI M a k x) :=
  xws_set (xN_of (xk_lt h (show (8 : Nat) < 13 by decide))) (by rw [xent_arr h, upI_self]) (fun b hb => xent_of (upI_row hb) rfl rfl)
theorem xws_stc {E : xE} {M : xM} {a n k : Nat} {x : Int32} (h : xk a = (9, n)) : (xws E M).set a (E.2.2.1 a, .inl (E.2.1 1, n, .inl (upd (M.1 a) k x))) = xws E (upI M a k x) :=
  xws_set (xN_of (xk_lt h (show (9 : Nat) < 13 by decide))) (by rw [xent_chr h, upI_self]) (fun b hb => xent_of (upI_row hb) rfl rfl)
/-- the cell that most() makes is an array like h -/
def isH (E : xE) (a : Nat) : Prop := xk a = (8, 24) ∨ (a = 72 ∧ xN E = 73)
theorem xws_h {E : xE} (M : xM) {a : Nat} (h : isH E a) : (xws E M)[a]? = some (E.2.2.1 a, .inl (E.2.1 0, 24, .inl (M.1 a))) := by
  rcases h with h | ⟨rfl, h⟩
  · exact xws_arr E M h
  · rw [xws_at E M (by omega), xent_scr (n := 24) rfl]
theorem xws_sth {E : xE} {M : xM} {a k : Nat} {x : Int32} (h : isH E a) : (xws E M).set a (E.2.2.1 a, .inl (E.2.1 0, 24, .inl (upd (M.1 a) k x))) = xws E (upI M a k x) := by
  rcases h with h | ⟨rfl, h⟩
  · exact xws_sti h
  · exact xws_set (by omega) (by rw [xent_scr (n := 24) rfl, upI_self]) (fun b hb => xent_of (upI_row hb) rfl rfl)
/-- the words that all methods may use -/
def LW : List Cond := lw_tbl.filter goodWord
theorem LW_good {w : Cond} (h : w ∈ LW) : goodWord w = true := (List.mem_filter.mp h).2
theorem LW_in {w : Cond} (h : w ∈ LW) : w ∈ lw_tbl := (List.mem_filter.mp h).1
theorem LW_of {w : Cond} (i : Nat) (h : lw_tbl[i]? = some w) (hg : goodWord w = true) : w ∈ LW := List.mem_filter.mpr ⟨List.mem_of_getElem? h, hg⟩
def xnw : Cond → Bool
  | .fieldLinkNest _ _ _ _ _ _ => true
  | .methodLinkNest _ _ _ _ => true
  | .declares _ => true
  | .castable _ _ => true
  | _ => false
/-- the words on nest mates -/
def NW : List Cond := lw_tbl.filter xnw
theorem NW_of {w : Cond} (i : Nat) (h : lw_tbl[i]? = some w) (hg : xnw w = true) : w ∈ NW := List.mem_filter.mpr ⟨List.mem_of_getElem? h, hg⟩
/-- locals -/
def xLs (ad : Nat → Nat) (nL : Nat) (ls : List xV) (lr : Array Slot) : Prop := lr.size = nL ∧ lv_wf lr ∧ ∀ (i : Nat) (v : xV), ls[i]? = some v → xU v = false → lr[i]? = some (.val (xc ad v))
def xll (ad : Nat → Nat) (nL : Nat) (ls : List xV) : List (Nat × Value) := (List.range nL).filterMap (fun i => match ls[i]? with
  | some v => if xU v = true then none else some (i, xc ad v)
  | none => none)
theorem xll_mem {ad : Nat → Nat} {nL : Nat} {ls : List xV} {q : Nat × Value} : q ∈ xll ad nL ls ↔ q.1 < nL ∧ ∃ v, ls[q.1]? = some v ∧ xU v = false ∧ q.2 = xc ad v := by
  unfold xll
  rw [List.mem_filterMap]
  constructor
  · rintro ⟨i, hi, he⟩
    rw [List.mem_range] at hi
    cases hv : ls[i]? with
    | none => rw [hv] at he; cases he
    | some v =>
      rw [hv] at he
      cases hu : xU v with
      | true => simp [hu] at he
      | false =>
        simp only [hu, Bool.false_eq_true, if_false, Option.some.injEq] at he
        subst he
        exact ⟨hi, v, hv, hu, rfl⟩
  · rintro ⟨hi, v, hv, hu, he⟩
    refine ⟨q.1, List.mem_range.mpr hi, ?_⟩
    rw [hv]
    simp only [hu, Bool.false_eq_true, if_false, ← he]
theorem xLs.has {ad : Nat → Nat} {nL : Nat} {ls : List xV} {lr : Array Slot} (h : xLs ad nL ls lr) : lv_has lr nL (xll ad nL ls) := by
  refine ⟨h.1, h.2.1, fun q hq => ?_⟩
  obtain ⟨-, v, h1, h2, h3⟩ := xll_mem.mp hq
  rw [h3]
  exact h.2.2 _ _ h1 h2
/-- a store -/
def stl (ls : List xV) : Nat → xV → List xV
  | 0, v => ls.set 0 v
  | j + 1, v => (ls.set j (xn2 (ls.getD j vU))).set (j + 1) v
def stl2 (ls : List xV) (i : Nat) (v : xV) : List xV := (stl ls i v).set (i + 1) vU
theorem stl_at {ls : List xV} {i j : Nat} {v w : xV} (h : (stl ls i v)[j]? = some w) (hw : xU w = false) : (j = i ∧ w = v) ∨ (j ≠ i ∧ ls[j]? = some w ∧ (j + 1 = i → xcat w = 1)) := by
  cases i with
  | zero =>
    unfold stl at h
    rw [List.getElem?_set] at h
    by_cases hj : 0 = j
    · rw [if_pos hj] at h
      split at h
      · exact Or.inl ⟨hj.symm, (Option.some.inj h).symm⟩
      · cases h
    · rw [if_neg hj] at h
      exact Or.inr ⟨fun z => hj z.symm, h, fun z => by omega⟩
  | succ i =>
    unfold stl at h
    rw [List.getElem?_set] at h
    by_cases hj : i + 1 = j
    · rw [if_pos hj] at h
      split at h
      · exact Or.inl ⟨hj.symm, (Option.some.inj h).symm⟩
      · cases h
    · rw [if_neg hj, List.getElem?_set] at h
      by_cases hk : i = j
      · subst hk
        rw [if_pos rfl] at h
        split at h
        · rename_i hl
          obtain ⟨e, c⟩ := xn2_of (Option.some.inj h) hw
          have he : ls[i]? = some (ls.getD i vU) := by simp [List.getElem?_eq_getElem hl]
          rw [e] at he c
          exact Or.inr ⟨fun z => hj z.symm, he, fun _ => c⟩
        · cases h
      · rw [if_neg hk] at h
        exact Or.inr ⟨fun z => hj z.symm, h, fun z => by omega⟩
theorem xLs.st {ad : Nat → Nat} {nL : Nat} {ls : List xV} {lr' : Array Slot} {i : Nat} {v : xV} (hi : i < nL) (h2 : lv_has lr' nL ((i, xc ad v) :: (xll ad nL ls).filter (fun q => !(q.1 == i) && !(q.1 + 1 == i && q.2.category == 2)))) (hlen : ls.length ≤ nL) : xLs ad nL (stl ls i v) lr' := by
  refine ⟨h2.1, h2.2.1, fun j w hj hw => ?_⟩
  rcases stl_at hj hw with ⟨rfl, rfl⟩ | ⟨h3, h4, h5⟩
  · exact h2.2.2 _ List.mem_cons_self
  · have hjl : j < ls.length := (List.getElem?_eq_some_iff.mp h4).1
    refine h2.2.2 (j, xc ad w) (List.mem_cons_of_mem _ (List.mem_filter.mpr ⟨xll_mem.mpr ⟨by show j < nL; omega, w, h4, hw, rfl⟩, ?_⟩))
    have e1 : (j == i) = false := by simpa using h3
    have e2 : (j + 1 == i && (xc ad w).category == 2) = false := by
      by_cases z : j + 1 = i
      · rw [xc_cat, h5 z]; simp
      · simp [z]
    simp only [e1, e2, Bool.not_false, Bool.and_self]
theorem xLs.st2 {ad : Nat → Nat} {nL : Nat} {ls : List xV} {lr' : Array Slot} {i : Nat} {v : xV} (hi : i + 1 < nL) (h2 : lv_has lr' nL ((i, xc ad v) :: (xll ad nL ls).filter (fun q => !(q.1 == i) && (!(q.1 == i + 1) && !(q.1 + 1 == i && q.2.category == 2))))) (hlen : ls.length ≤ nL) : xLs ad nL (stl2 ls i v) lr' := by
  refine ⟨h2.1, h2.2.1, fun j w hj hw => ?_⟩
  unfold stl2 at hj
  rw [List.getElem?_set] at hj
  by_cases hji : i + 1 = j
  · rw [if_pos hji] at hj
    split at hj
    · cases hj; cases hw
    · cases hj
  rw [if_neg hji] at hj
  rcases stl_at hj hw with ⟨rfl, rfl⟩ | ⟨h3, h4, h5⟩
  · exact h2.2.2 _ List.mem_cons_self
  · have hjl : j < ls.length := (List.getElem?_eq_some_iff.mp h4).1
    refine h2.2.2 (j, xc ad w) (List.mem_cons_of_mem _ (List.mem_filter.mpr ⟨xll_mem.mpr ⟨by show j < nL; omega, w, h4, hw, rfl⟩, ?_⟩))
    have e1 : (j == i) = false := by simpa using h3
    have e3 : (j == i + 1) = false := by simpa using fun z => hji (Eq.symm z)
    have e2 : (j + 1 == i && (xc ad w).category == 2) = false := by
      by_cases z : j + 1 = i
      · rw [xc_cat, h5 z]; simp
      · simp [z]
    simp only [e1, e2, e3, Bool.not_false, Bool.and_self]
theorem stl_len (ls : List xV) (i : Nat) (v : xV) : (stl ls i v).length = ls.length := by cases i <;> simp [stl]
theorem stl2_len (ls : List xV) (i : Nat) (v : xV) : (stl2 ls i v).length = ls.length := by simp [stl2, stl_len]
/-- fewer locals known -/
theorem xLs.le {ad : Nat → Nat} {nL : Nat} {ls ls' : List xV} {lr : Array Slot} (h : xLs ad nL ls lr) (hl : ∀ (i : Nat) (v : xV), ls'[i]? = some v → xU v = false → ls[i]? = some v) : xLs ad nL ls' lr :=
  ⟨h.1, h.2.1, fun i v hv hu => h.2.2 i v (hl i v hv hu) hu⟩
/-- the texts: their lengths, their signs, and where they stand: class, entry, text, number -/
def xsLen : List Nat := [4]
def xsByt : List (List Int32) := [[98, 116, 97, 115]]
def xsR : List (String × Nat × String × Nat) := [(RX1, 145, "btas", 0)]
def xStr (E : xE) (U : State) : Prop := vk_S 1 xsLen xsByt E.2.2.2.1 E.2.2.2.2 (xA E) U U.heap ∧ (∀ q ∈ xsR, vk_R q.1 q.2.1 q.2.2.1 (E.2.2.2.1 q.2.2.2) U) ∧ va_Z "java/lang/String" "COMPACT_STRINGS" "Z" (.int 1) (xA E) U U.heap ∧ va_Zq "jdk/internal/util/Preconditions" "SIOOBE_FORMATTER" "Ljava/util/function/BiFunction;" (xA E) U U.heap
/-- what is known of the machine in the state U -/
def xKn (E : xE) (U : State) : Prop := va_K E.1 vwCl (xTy E) U ∧ (∀ w ∈ NW, va_Nw w U) ∧ (∀ i j, i < xN E → j < xN E → E.2.2.1 i = E.2.2.1 j → i = j) ∧ vx_Zq Bundle.tN "UNASSIGNED_STACK" Bundle.steD (xA E) U U.heap ∧ vx_Zq Bundle.tN "SUPPRESSED_SENTINEL" Bundle.listD (xA E) U U.heap ∧ xStr E U
abbrev xY : Type := Program × (Env × (State × (MethodId × (Array Value × (List Frame × (Method × (Code × (State → Prop))))))))
abbrev yp (Y : xY) := Y.1
abbrev ye (Y : xY) := Y.2.1
abbrev ys (Y : xY) := Y.2.2.1
abbrev ym (Y : xY) := Y.2.2.2.1
abbrev ya (Y : xY) := Y.2.2.2.2.1
abbrev yb (Y : xY) := Y.2.2.2.2.2.1
abbrev yM (Y : xY) := Y.2.2.2.2.2.2.1
abbrev yc (Y : xY) := Y.2.2.2.2.2.2.2.1
abbrev yQ (Y : xY) := Y.2.2.2.2.2.2.2.2
/-- a walk: from here the machine comes to an end with yQ Y; k cells with n slots are made so far -/
def WP (l : Launch) (E : xE) (R : Room) (A : Nat → Prop) (Y : xY) (k n pc : Nat) (ls st : List xV) (M : xM) : Prop :=
  ∀ (H : Heap) (locs : List Loc) (lr : Array Slot), va_P E.1 vwCl (xws E M) H → va_S A (ys Y).heap H locs → xLs E.2.2.1 (yc Y).maxLocals ls lr → ls.length ≤ (yc Y).maxLocals →
    W (yp Y) l (ye Y) R (ys Y) (ym Y) (ya Y) (yb Y) (yM Y) (yc Y) H locs k n (yQ Y) (F0 (ym Y) pc lr (st.map (xc E.2.2.1)))
/-- what holds of the method that is walked -/
def xFix (E : xE) (A : Nat → Prop) (Y : xY) (cc : ByteArray) (own : String) (nL : Nat) : Prop :=
  (yp Y).tables.exec = Jvm.exec ∧ (yc Y).code = cc ∧ (yc Y).maxLocals = nL ∧ (ys Y).vm.findClass own = some (ym Y).cls ∧ (∀ w ∈ LW, w.before (ya Y) (ys Y) = true) ∧ xKn E (ys Y) ∧ (∀ a, a < xN E → A (E.2.2.1 a)) ∧ (∀ q, q < (ys Y).heap.size → A q → xA E q) ∧ (yM Y).locks = false
theorem xD {E : xE} {A : Nat → Prop} {Y : xY} {cc : ByteArray} {own : String} {nL : Nat} (F : xFix E A Y cc own nL) (M : xM) : va_D A (xws E M) := by
  obtain ⟨-, -, -, -, -, hk, hA, -, -⟩ := F
  refine ⟨fun i j p q hi hj e => ?_, fun i q hi => ?_⟩
  · have h1 : i < xN E := by have := (List.getElem?_eq_some_iff.mp hi).1; simpa [xws] using this
    have h2 : j < xN E := by have := (List.getElem?_eq_some_iff.mp hj).1; simpa [xws] using this
    rw [xws_at E M h1] at hi
    rw [xws_at E M h2] at hj
    cases hi; cases hj
    exact hk.2.2.1 i j h1 h2 e
  · have h1 : i < xN E := by have := (List.getElem?_eq_some_iff.mp hi).1; simpa [xws] using this
    rw [xws_at E M h1] at hi
    cases hi
    exact hA i h1
section XR
variable {l : Launch} {E : xE} {R : Room} {A : Nat → Prop} {Y : xY} {cc : ByteArray} {own : String} {nL : Nat} {k n pc : Nat} {ls st : List xV} {M : xM}
theorem x_iadd (F : xFix E A Y cc own nL) {x y : Int32} (d : decode cc pc = .ok (.iadd, 1)) (g : WP l E R A Y k n (pc + 1) ls (vI (x + y) :: st) M) : WP l E R A Y k n pc ls (vI y :: vI x :: st) M := fun H locs lr hP hS hl hn => lv_iadd F.1 F.2.1 d (g H locs lr hP hS hl hn)
theorem x_isub (F : xFix E A Y cc own nL) {x y : Int32} (d : decode cc pc = .ok (.isub, 1)) (g : WP l E R A Y k n (pc + 1) ls (vI (x - y) :: st) M) : WP l E R A Y k n pc ls (vI y :: vI x :: st) M := fun H locs lr hP hS hl hn => lv_isub F.1 F.2.1 d (g H locs lr hP hS hl hn)
theorem x_imul (F : xFix E A Y cc own nL) {x y : Int32} (d : decode cc pc = .ok (.imul, 1)) (g : WP l E R A Y k n (pc + 1) ls (vI (x * y) :: st) M) : WP l E R A Y k n pc ls (vI y :: vI x :: st) M := fun H locs lr hP hS hl hn => lv_imul F.1 F.2.1 d (g H locs lr hP hS hl hn)
theorem x_iand (F : xFix E A Y cc own nL) {x y : Int32} (d : decode cc pc = .ok (.iand, 1)) (g : WP l E R A Y k n (pc + 1) ls (vI (x &&& y) :: st) M) : WP l E R A Y k n pc ls (vI y :: vI x :: st) M := fun H locs lr hP hS hl hn => lv_iand F.1 F.2.1 d (g H locs lr hP hS hl hn)
theorem x_ior (F : xFix E A Y cc own nL) {x y : Int32} (d : decode cc pc = .ok (.ior, 1)) (g : WP l E R A Y k n (pc + 1) ls (vI (x ||| y) :: st) M) : WP l E R A Y k n pc ls (vI y :: vI x :: st) M := fun H locs lr hP hS hl hn => lv_ior F.1 F.2.1 d (g H locs lr hP hS hl hn)
theorem x_ixor (F : xFix E A Y cc own nL) {x y : Int32} (d : decode cc pc = .ok (.ixor, 1)) (g : WP l E R A Y k n (pc + 1) ls (vI (x ^^^ y) :: st) M) : WP l E R A Y k n pc ls (vI y :: vI x :: st) M := fun H locs lr hP hS hl hn => lv_ixor F.1 F.2.1 d (g H locs lr hP hS hl hn)
theorem x_idiv (F : xFix E A Y cc own nL) {x y : Int32} (d : decode cc pc = .ok (.idiv, 1)) (hne : ¬ y = 0) (g : WP l E R A Y k n (pc + 1) ls (vI (x / y) :: st) M) : WP l E R A Y k n pc ls (vI y :: vI x :: st) M := fun H locs lr hP hS hl hn => lv_idiv F.1 F.2.1 d hne (g H locs lr hP hS hl hn)
theorem x_irem (F : xFix E A Y cc own nL) {x y : Int32} (d : decode cc pc = .ok (.irem, 1)) (hne : ¬ y = 0) (g : WP l E R A Y k n (pc + 1) ls (vI (x - x / y * y) :: st) M) : WP l E R A Y k n pc ls (vI y :: vI x :: st) M := fun H locs lr hP hS hl hn => lv_irem F.1 F.2.1 d hne (g H locs lr hP hS hl hn)
theorem x_ineg (F : xFix E A Y cc own nL) {x : Int32} (d : decode cc pc = .ok (.ineg, 1)) (g : WP l E R A Y k n (pc + 1) ls (vI (-x) :: st) M) : WP l E R A Y k n pc ls (vI x :: st) M := fun H locs lr hP hS hl hn => lv_ineg F.1 F.2.1 d (g H locs lr hP hS hl hn)
theorem x_ladd (F : xFix E A Y cc own nL) {x y : Int64} (d : decode cc pc = .ok (.ladd, 1)) (g : WP l E R A Y k n (pc + 1) ls (vL (x + y) :: st) M) : WP l E R A Y k n pc ls (vL y :: vL x :: st) M := fun H locs lr hP hS hl hn => lv_ladd F.1 F.2.1 d (g H locs lr hP hS hl hn)
theorem x_lsub (F : xFix E A Y cc own nL) {x y : Int64} (d : decode cc pc = .ok (.lsub, 1)) (g : WP l E R A Y k n (pc + 1) ls (vL (x - y) :: st) M) : WP l E R A Y k n pc ls (vL y :: vL x :: st) M := fun H locs lr hP hS hl hn => lv_lsub F.1 F.2.1 d (g H locs lr hP hS hl hn)
theorem x_lmul (F : xFix E A Y cc own nL) {x y : Int64} (d : decode cc pc = .ok (.lmul, 1)) (g : WP l E R A Y k n (pc + 1) ls (vL (x * y) :: st) M) : WP l E R A Y k n pc ls (vL y :: vL x :: st) M := fun H locs lr hP hS hl hn => lv_lmul F.1 F.2.1 d (g H locs lr hP hS hl hn)
theorem x_iconst (F : xFix E A Y cc own nL) {i : Int} {v : Int32} (d : decode cc pc = .ok (.iconst i, 1)) (hv : Int32.ofInt i = v) (g : WP l E R A Y k n (pc + 1) ls (vI v :: st) M) : WP l E R A Y k n pc ls (st) M := fun H locs lr hP hS hl hn => lv_iconst F.1 F.2.1 d hv (g H locs lr hP hS hl hn)
theorem x_bipush (F : xFix E A Y cc own nL) {i : Int} {v : Int32} (d : decode cc pc = .ok (.bipush i, 2)) (hv : (Int8.ofInt i).toInt32 = v) (g : WP l E R A Y k n (pc + 2) ls (vI v :: st) M) : WP l E R A Y k n pc ls (st) M := fun H locs lr hP hS hl hn => lv_bipush F.1 F.2.1 d hv (g H locs lr hP hS hl hn)
theorem x_sipush (F : xFix E A Y cc own nL) {i : Int} {v : Int32} (d : decode cc pc = .ok (.sipush i, 3)) (hv : (Int16.ofInt i).toInt32 = v) (g : WP l E R A Y k n (pc + 3) ls (vI v :: st) M) : WP l E R A Y k n pc ls (st) M := fun H locs lr hP hS hl hn => lv_sipush F.1 F.2.1 d hv (g H locs lr hP hS hl hn)
theorem x_lconst (F : xFix E A Y cc own nL) {i : Fin 2} {v : Int64} (d : decode cc pc = .ok (.lconst i, 1)) (hv : Int64.ofNat (i : Nat) = v) (g : WP l E R A Y k n (pc + 1) ls (vL v :: st) M) : WP l E R A Y k n pc ls (st) M := fun H locs lr hP hS hl hn => lv_lconst F.1 F.2.1 d hv (g H locs lr hP hS hl hn)
theorem x_i2l (F : xFix E A Y cc own nL) {x : Int32} (d : decode cc pc = .ok (.i2l, 1)) (g : WP l E R A Y k n (pc + 1) ls (vL x.toInt64 :: st) M) : WP l E R A Y k n pc ls (vI x :: st) M := fun H locs lr hP hS hl hn => lv_i2l F.1 F.2.1 d rfl (g H locs lr hP hS hl hn)
theorem x_i2c (F : xFix E A Y cc own nL) {x : Int32} (d : decode cc pc = .ok (.i2c, 1)) (g : WP l E R A Y k n (pc + 1) ls (vI ((x.toUInt32 % 65536).toInt32) :: st) M) : WP l E R A Y k n pc ls (vI x :: st) M := fun H locs lr hP hS hl hn => lv_i2c F.1 F.2.1 d rfl (g H locs lr hP hS hl hn)
theorem x_null (F : xFix E A Y cc own nL) (d : decode cc pc = .ok (.aconst_null, 1)) (g : WP l E R A Y k n (pc + 1) ls (vR none :: st) M) : WP l E R A Y k n pc ls (st) M := fun H locs lr hP hS hl hn => lv_null F.1 F.2.1 d (g H locs lr hP hS hl hn)
theorem x_pop (F : xFix E A Y cc own nL) {v : xV} (d : decode cc pc = .ok (.pop, 1)) (hc : xcat v = 1) (g : WP l E R A Y k n (pc + 1) ls (st) M) : WP l E R A Y k n pc ls (v :: st) M := fun H locs lr hP hS hl hn => lv_pop F.1 F.2.1 d (by rw [xc_cat]; exact hc) (g H locs lr hP hS hl hn)
theorem x_dup (F : xFix E A Y cc own nL) {v : xV} (d : decode cc pc = .ok (.dup, 1)) (hc : xcat v = 1) (g : WP l E R A Y k n (pc + 1) ls (v :: v :: st) M) : WP l E R A Y k n pc ls (v :: st) M := fun H locs lr hP hS hl hn => lv_dup F.1 F.2.1 d (by rw [xc_cat]; exact hc) (g H locs lr hP hS hl hn)
theorem x_dup_x1 (F : xFix E A Y cc own nL) {v u : xV} (d : decode cc pc = .ok (.dup_x1, 1)) (hc : xcat v = 1) (hu : xcat u = 1) (g : WP l E R A Y k n (pc + 1) ls (v :: u :: v :: st) M) : WP l E R A Y k n pc ls (v :: u :: st) M := fun H locs lr hP hS hl hn => lv_dup_x1 F.1 F.2.1 d (by rw [xc_cat]; exact hc) (by rw [xc_cat]; exact hu) (g H locs lr hP hS hl hn)
theorem x_dup2 (F : xFix E A Y cc own nL) {v u : xV} (d : decode cc pc = .ok (.dup2, 1)) (hc : xcat v = 1) (hu : xcat u = 1) (g : WP l E R A Y k n (pc + 1) ls (v :: u :: v :: u :: st) M) : WP l E R A Y k n pc ls (v :: u :: st) M := fun H locs lr hP hS hl hn => lv_dup2_11 F.1 F.2.1 d (by rw [xc_cat]; exact hc) (by rw [xc_cat]; exact hu) (g H locs lr hP hS hl hn)
theorem x_iload_n (F : xFix E A Y cc own nL) {i : Fin 4} {x : Int32} (d : decode cc pc = .ok (.iload_n i, 1)) (hv : ls[(i : Nat)]? = some (vI x)) (g : WP l E R A Y k n (pc + 1) ls (vI x :: st) M) : WP l E R A Y k n pc ls st M := fun H locs lr hP hS hl hn => lv_iload_n F.1 F.2.1 d rfl (hl.2.2 _ _ hv rfl) (g H locs lr hP hS hl hn)
theorem x_iload (F : xFix E A Y cc own nL) {i : Nat} {x : Int32} (d : decode cc pc = .ok (.iload i, 2)) (hv : ls[i]? = some (vI x)) (g : WP l E R A Y k n (pc + 2) ls (vI x :: st) M) : WP l E R A Y k n pc ls st M := fun H locs lr hP hS hl hn => lv_iload F.1 F.2.1 d (hl.2.2 _ _ hv rfl) (g H locs lr hP hS hl hn)
theorem x_lload_n (F : xFix E A Y cc own nL) {i : Fin 4} {x : Int64} (d : decode cc pc = .ok (.lload_n i, 1)) (hv : ls[(i : Nat)]? = some (vL x)) (g : WP l E R A Y k n (pc + 1) ls (vL x :: st) M) : WP l E R A Y k n pc ls st M := fun H locs lr hP hS hl hn => lv_lload_n F.1 F.2.1 d rfl (hl.2.2 _ _ hv rfl) (g H locs lr hP hS hl hn)
theorem x_lload (F : xFix E A Y cc own nL) {i : Nat} {x : Int64} (d : decode cc pc = .ok (.lload i, 2)) (hv : ls[i]? = some (vL x)) (g : WP l E R A Y k n (pc + 2) ls (vL x :: st) M) : WP l E R A Y k n pc ls st M := fun H locs lr hP hS hl hn => lv_lload F.1 F.2.1 d (hl.2.2 _ _ hv rfl) (g H locs lr hP hS hl hn)
theorem x_dload_n (F : xFix E A Y cc own nL) {i : Fin 4} {x : UInt64} (d : decode cc pc = .ok (.dload_n i, 1)) (hv : ls[(i : Nat)]? = some (vD x)) (g : WP l E R A Y k n (pc + 1) ls (vD x :: st) M) : WP l E R A Y k n pc ls st M := fun H locs lr hP hS hl hn => lv_dload_n F.1 F.2.1 d rfl (hl.2.2 _ _ hv rfl) (g H locs lr hP hS hl hn)
theorem x_dload (F : xFix E A Y cc own nL) {i : Nat} {x : UInt64} (d : decode cc pc = .ok (.dload i, 2)) (hv : ls[i]? = some (vD x)) (g : WP l E R A Y k n (pc + 2) ls (vD x :: st) M) : WP l E R A Y k n pc ls st M := fun H locs lr hP hS hl hn => lv_dload F.1 F.2.1 d (hl.2.2 _ _ hv rfl) (g H locs lr hP hS hl hn)
theorem x_aload_n (F : xFix E A Y cc own nL) {i : Fin 4} {r : Option Nat} (d : decode cc pc = .ok (.aload_n i, 1)) (hv : ls[(i : Nat)]? = some (vR r)) (g : WP l E R A Y k n (pc + 1) ls (vR r :: st) M) : WP l E R A Y k n pc ls st M := fun H locs lr hP hS hl hn => by
  cases r with
  | none => exact lv_aload_nN F.1 F.2.1 d rfl (hl.2.2 _ _ hv rfl) (g H locs lr hP hS hl hn)
  | some a => exact lv_aload_n F.1 F.2.1 d rfl (hl.2.2 _ _ hv rfl) (g H locs lr hP hS hl hn)
theorem x_aload (F : xFix E A Y cc own nL) {i : Nat} {r : Option Nat} (d : decode cc pc = .ok (.aload i, 2)) (hv : ls[i]? = some (vR r)) (g : WP l E R A Y k n (pc + 2) ls (vR r :: st) M) : WP l E R A Y k n pc ls st M := fun H locs lr hP hS hl hn => by
  cases r with
  | none => exact lv_aloadN F.1 F.2.1 d (hl.2.2 _ _ hv rfl) (g H locs lr hP hS hl hn)
  | some a => exact lv_aload F.1 F.2.1 d (hl.2.2 _ _ hv rfl) (g H locs lr hP hS hl hn)
theorem x_aload_nQ (F : xFix E A Y cc own nL) {i : Fin 4} {q : Nat} (d : decode cc pc = .ok (.aload_n i, 1)) (hv : ls[(i : Nat)]? = some (vQ q)) (g : WP l E R A Y k n (pc + 1) ls (vQ q :: st) M) : WP l E R A Y k n pc ls st M := fun H locs lr hP hS hl hn => lv_aload_n F.1 F.2.1 d rfl (hl.2.2 _ _ hv rfl) (g H locs lr hP hS hl hn)
theorem x_aloadQ (F : xFix E A Y cc own nL) {i : Nat} {q : Nat} (d : decode cc pc = .ok (.aload i, 2)) (hv : ls[i]? = some (vQ q)) (g : WP l E R A Y k n (pc + 2) ls (vQ q :: st) M) : WP l E R A Y k n pc ls st M := fun H locs lr hP hS hl hn => lv_aload F.1 F.2.1 d (hl.2.2 _ _ hv rfl) (g H locs lr hP hS hl hn)
theorem x_istore_n (F : xFix E A Y cc own nL) {i : Fin 4} {x : Int32} (d : decode cc pc = .ok (.istore_n i, 1)) (hi : (i : Nat) < nL) (g : WP l E R A Y k n (pc + 1) (stl ls (i : Nat) (vI x)) st M) : WP l E R A Y k n pc ls (vI x :: st) M := fun H locs lr hP hS hl hn => by
  have hi' := hi
  rw [← F.2.2.1] at hi'
  exact lv_istore_n F.1 F.2.1 d rfl hl.has hi' rfl (fun ls' h' => g H locs ls' hP hS (xLs.st hi' h' hn) (by rw [stl_len]; exact hn))
theorem x_istore (F : xFix E A Y cc own nL) {i : Nat} {x : Int32} (d : decode cc pc = .ok (.istore i, 2)) (hi : i < nL) (g : WP l E R A Y k n (pc + 2) (stl ls i (vI x)) st M) : WP l E R A Y k n pc ls (vI x :: st) M := fun H locs lr hP hS hl hn => by
  have hi' := hi
  rw [← F.2.2.1] at hi'
  exact lv_istore F.1 F.2.1 d hl.has hi' rfl (fun ls' h' => g H locs ls' hP hS (xLs.st hi' h' hn) (by rw [stl_len]; exact hn))
theorem x_lstore_n (F : xFix E A Y cc own nL) {i : Fin 4} {x : Int64} (d : decode cc pc = .ok (.lstore_n i, 1)) (hi : (i : Nat) + 1 < nL) (g : WP l E R A Y k n (pc + 1) (stl2 ls (i : Nat) (vL x)) st M) : WP l E R A Y k n pc ls (vL x :: st) M := fun H locs lr hP hS hl hn => by
  have hi' := hi
  rw [← F.2.2.1] at hi'
  exact lv_lstore_n F.1 F.2.1 d rfl hl.has hi' rfl (fun ls' h' => g H locs ls' hP hS (xLs.st2 hi' h' hn) (by rw [stl2_len]; exact hn))
theorem x_lstore (F : xFix E A Y cc own nL) {i : Nat} {x : Int64} (d : decode cc pc = .ok (.lstore i, 2)) (hi : i + 1 < nL) (g : WP l E R A Y k n (pc + 2) (stl2 ls i (vL x)) st M) : WP l E R A Y k n pc ls (vL x :: st) M := fun H locs lr hP hS hl hn => by
  have hi' := hi
  rw [← F.2.2.1] at hi'
  exact lv_lstore F.1 F.2.1 d hl.has hi' rfl (fun ls' h' => g H locs ls' hP hS (xLs.st2 hi' h' hn) (by rw [stl2_len]; exact hn))
theorem x_dstore_n (F : xFix E A Y cc own nL) {i : Fin 4} {x : UInt64} (d : decode cc pc = .ok (.dstore_n i, 1)) (hi : (i : Nat) + 1 < nL) (g : WP l E R A Y k n (pc + 1) (stl2 ls (i : Nat) (vD x)) st M) : WP l E R A Y k n pc ls (vD x :: st) M := fun H locs lr hP hS hl hn => by
  have hi' := hi
  rw [← F.2.2.1] at hi'
  exact lv_dstore_n F.1 F.2.1 d rfl hl.has hi' rfl (fun ls' h' => g H locs ls' hP hS (xLs.st2 hi' h' hn) (by rw [stl2_len]; exact hn))
theorem x_dstore (F : xFix E A Y cc own nL) {i : Nat} {x : UInt64} (d : decode cc pc = .ok (.dstore i, 2)) (hi : i + 1 < nL) (g : WP l E R A Y k n (pc + 2) (stl2 ls i (vD x)) st M) : WP l E R A Y k n pc ls (vD x :: st) M := fun H locs lr hP hS hl hn => by
  have hi' := hi
  rw [← F.2.2.1] at hi'
  exact lv_dstore F.1 F.2.1 d hl.has hi' rfl (fun ls' h' => g H locs ls' hP hS (xLs.st2 hi' h' hn) (by rw [stl2_len]; exact hn))
theorem x_astore_nQ (F : xFix E A Y cc own nL) {i : Fin 4} {x : Nat} (d : decode cc pc = .ok (.astore_n i, 1)) (hi : (i : Nat) < nL) (g : WP l E R A Y k n (pc + 1) (stl ls (i : Nat) (vQ x)) st M) : WP l E R A Y k n pc ls (vQ x :: st) M := fun H locs lr hP hS hl hn => by
  have hi' := hi
  rw [← F.2.2.1] at hi'
  exact lv_astore_n F.1 F.2.1 d rfl hl.has hi' rfl (fun ls' h' => g H locs ls' hP hS (xLs.st hi' h' hn) (by rw [stl_len]; exact hn))
theorem x_astoreQ (F : xFix E A Y cc own nL) {i : Nat} {x : Nat} (d : decode cc pc = .ok (.astore i, 2)) (hi : i < nL) (g : WP l E R A Y k n (pc + 2) (stl ls i (vQ x)) st M) : WP l E R A Y k n pc ls (vQ x :: st) M := fun H locs lr hP hS hl hn => by
  have hi' := hi
  rw [← F.2.2.1] at hi'
  exact lv_astore F.1 F.2.1 d hl.has hi' rfl (fun ls' h' => g H locs ls' hP hS (xLs.st hi' h' hn) (by rw [stl_len]; exact hn))
theorem x_astore_n (F : xFix E A Y cc own nL) {i : Fin 4} {r : Option Nat} (d : decode cc pc = .ok (.astore_n i, 1)) (hi : (i : Nat) < nL) (g : WP l E R A Y k n (pc + 1) (stl ls (i : Nat) (vR r)) st M) : WP l E R A Y k n pc ls (vR r :: st) M := fun H locs lr hP hS hl hn => by
  have hi' := hi
  rw [← F.2.2.1] at hi'
  cases r with
  | none => exact lv_astore_nN F.1 F.2.1 d rfl hl.has hi' rfl (fun ls' h' => g H locs ls' hP hS (xLs.st (v := vR none) hi' h' hn) (by rw [stl_len]; exact hn))
  | some a => exact lv_astore_n F.1 F.2.1 d rfl hl.has hi' rfl (fun ls' h' => g H locs ls' hP hS (xLs.st (v := vR (some a)) hi' h' hn) (by rw [stl_len]; exact hn))
theorem x_astore (F : xFix E A Y cc own nL) {i : Nat} {r : Option Nat} (d : decode cc pc = .ok (.astore i, 2)) (hi : i < nL) (g : WP l E R A Y k n (pc + 2) (stl ls i (vR r)) st M) : WP l E R A Y k n pc ls (vR r :: st) M := fun H locs lr hP hS hl hn => by
  have hi' := hi
  rw [← F.2.2.1] at hi'
  cases r with
  | none => exact lv_astoreN F.1 F.2.1 d hl.has hi' rfl (fun ls' h' => g H locs ls' hP hS (xLs.st (v := vR none) hi' h' hn) (by rw [stl_len]; exact hn))
  | some a => exact lv_astore F.1 F.2.1 d hl.has hi' rfl (fun ls' h' => g H locs ls' hP hS (xLs.st (v := vR (some a)) hi' h' hn) (by rw [stl_len]; exact hn))
theorem x_iinc (F : xFix E A Y cc own nL) {i : Nat} {c : Int} {x v : Int32} (d : decode cc pc = .ok (.iinc i c, 3)) (hv : ls[i]? = some (vI x)) (he : x + Int32.ofInt c = v) (g : WP l E R A Y k n (pc + 3) (stl ls i (vI v)) st M) : WP l E R A Y k n pc ls st M := fun H locs lr hP hS hl hn => by
  have hil : i < ls.length := (List.getElem?_eq_some_iff.mp hv).1
  have hi' : i < (yc Y).maxLocals := by omega
  have hm : (i, Value.int x) ∈ xll E.2.2.1 (yc Y).maxLocals ls := xll_mem.mpr ⟨hi', _, hv, rfl, rfl⟩
  obtain ⟨q, hq⟩ := List.getElem?_of_mem hm
  exact lv_iinc F.1 F.2.1 d hl.has hq he hi' rfl (fun ls' h' => g H locs ls' hP hS (xLs.st (v := vI v) hi' h' hn) (by rw [stl_len]; exact hn))
theorem x_goto (F : xFix E A Y cc own nL) {off : Int} {tgt : Nat} (d : decode cc pc = .ok (.goto off, 3)) (ht : (pc : Int) + off = (tgt : Int)) (g : WP l E R A Y k n tgt ls st M) : WP l E R A Y k n pc ls st M := fun H locs lr hP hS hl hn => lv_goto F.1 F.2.1 d ht (g H locs lr hP hS hl hn)
theorem x_ifnull (F : xFix E A Y cc own nL) {r : Option Nat} {off : Int} {tgt : Nat} (d : decode cc pc = .ok (.ifnull off, 3)) (ht : (pc : Int) + off = (tgt : Int)) (g1 : r = none → WP l E R A Y k n tgt ls st M) (g2 : ∀ a, r = some a → WP l E R A Y k n (pc + 3) ls st M) : WP l E R A Y k n pc ls (vR r :: st) M := fun H locs lr hP hS hl hn => by
  cases r with
  | none => exact lv_ifnullN F.1 F.2.1 d ht (g1 rfl H locs lr hP hS hl hn)
  | some a => exact lv_ifnull F.1 F.2.1 d (g2 a rfl H locs lr hP hS hl hn)
theorem x_ifnonnull (F : xFix E A Y cc own nL) {r : Option Nat} {off : Int} {tgt : Nat} (d : decode cc pc = .ok (.ifnonnull off, 3)) (ht : (pc : Int) + off = (tgt : Int)) (g1 : ∀ a, r = some a → WP l E R A Y k n tgt ls st M) (g2 : r = none → WP l E R A Y k n (pc + 3) ls st M) : WP l E R A Y k n pc ls (vR r :: st) M := fun H locs lr hP hS hl hn => by
  cases r with
  | none => exact lv_ifnonnullN F.1 F.2.1 d (g2 rfl H locs lr hP hS hl hn)
  | some a => exact lv_ifnonnull F.1 F.2.1 d ht (g1 a rfl H locs lr hP hS hl hn)
theorem x_icmp_eq (F : xFix E A Y cc own nL) {x y : Int32} {off : Int} {tgt : Nat} (d : decode cc pc = .ok (.if_icmp .eq off, 3)) (ht : (pc : Int) + off = (tgt : Int)) (g1 : x = y → WP l E R A Y k n tgt ls st M) (g2 : ¬ x = y → WP l E R A Y k n (pc + 3) ls st M) : WP l E R A Y k n pc ls (vI y :: vI x :: st) M := fun H locs lr hP hS hl hn => lv_icmp_eq F.1 F.2.1 d ht (fun q => g1 q H locs lr hP hS hl hn) (fun q => g2 q H locs lr hP hS hl hn)
theorem x_if_eq (F : xFix E A Y cc own nL) {x : Int32} {off : Int} {tgt : Nat} (d : decode cc pc = .ok (.ifCond .eq off, 3)) (ht : (pc : Int) + off = (tgt : Int)) (g1 : x = 0 → WP l E R A Y k n tgt ls st M) (g2 : ¬ x = 0 → WP l E R A Y k n (pc + 3) ls st M) : WP l E R A Y k n pc ls (vI x :: st) M := fun H locs lr hP hS hl hn => lv_if_eq F.1 F.2.1 d ht (fun q => g1 q H locs lr hP hS hl hn) (fun q => g2 q H locs lr hP hS hl hn)
theorem x_icmp_ne (F : xFix E A Y cc own nL) {x y : Int32} {off : Int} {tgt : Nat} (d : decode cc pc = .ok (.if_icmp .ne off, 3)) (ht : (pc : Int) + off = (tgt : Int)) (g1 : ¬ x = y → WP l E R A Y k n tgt ls st M) (g2 : x = y → WP l E R A Y k n (pc + 3) ls st M) : WP l E R A Y k n pc ls (vI y :: vI x :: st) M := fun H locs lr hP hS hl hn => lv_icmp_ne F.1 F.2.1 d ht (fun q => g1 q H locs lr hP hS hl hn) (fun q => g2 q H locs lr hP hS hl hn)
theorem x_if_ne (F : xFix E A Y cc own nL) {x : Int32} {off : Int} {tgt : Nat} (d : decode cc pc = .ok (.ifCond .ne off, 3)) (ht : (pc : Int) + off = (tgt : Int)) (g1 : ¬ x = 0 → WP l E R A Y k n tgt ls st M) (g2 : x = 0 → WP l E R A Y k n (pc + 3) ls st M) : WP l E R A Y k n pc ls (vI x :: st) M := fun H locs lr hP hS hl hn => lv_if_ne F.1 F.2.1 d ht (fun q => g1 q H locs lr hP hS hl hn) (fun q => g2 q H locs lr hP hS hl hn)
theorem x_icmp_lt (F : xFix E A Y cc own nL) {x y : Int32} {off : Int} {tgt : Nat} (d : decode cc pc = .ok (.if_icmp .lt off, 3)) (ht : (pc : Int) + off = (tgt : Int)) (g1 : x < y → WP l E R A Y k n tgt ls st M) (g2 : ¬ x < y → WP l E R A Y k n (pc + 3) ls st M) : WP l E R A Y k n pc ls (vI y :: vI x :: st) M := fun H locs lr hP hS hl hn => lv_icmp_lt F.1 F.2.1 d ht (fun q => g1 q H locs lr hP hS hl hn) (fun q => g2 q H locs lr hP hS hl hn)
theorem x_if_lt (F : xFix E A Y cc own nL) {x : Int32} {off : Int} {tgt : Nat} (d : decode cc pc = .ok (.ifCond .lt off, 3)) (ht : (pc : Int) + off = (tgt : Int)) (g1 : x < 0 → WP l E R A Y k n tgt ls st M) (g2 : ¬ x < 0 → WP l E R A Y k n (pc + 3) ls st M) : WP l E R A Y k n pc ls (vI x :: st) M := fun H locs lr hP hS hl hn => lv_if_lt F.1 F.2.1 d ht (fun q => g1 q H locs lr hP hS hl hn) (fun q => g2 q H locs lr hP hS hl hn)
theorem x_icmp_ge (F : xFix E A Y cc own nL) {x y : Int32} {off : Int} {tgt : Nat} (d : decode cc pc = .ok (.if_icmp .ge off, 3)) (ht : (pc : Int) + off = (tgt : Int)) (g1 : y ≤ x → WP l E R A Y k n tgt ls st M) (g2 : ¬ y ≤ x → WP l E R A Y k n (pc + 3) ls st M) : WP l E R A Y k n pc ls (vI y :: vI x :: st) M := fun H locs lr hP hS hl hn => lv_icmp_ge F.1 F.2.1 d ht (fun q => g1 q H locs lr hP hS hl hn) (fun q => g2 q H locs lr hP hS hl hn)
theorem x_if_ge (F : xFix E A Y cc own nL) {x : Int32} {off : Int} {tgt : Nat} (d : decode cc pc = .ok (.ifCond .ge off, 3)) (ht : (pc : Int) + off = (tgt : Int)) (g1 : 0 ≤ x → WP l E R A Y k n tgt ls st M) (g2 : ¬ 0 ≤ x → WP l E R A Y k n (pc + 3) ls st M) : WP l E R A Y k n pc ls (vI x :: st) M := fun H locs lr hP hS hl hn => lv_if_ge F.1 F.2.1 d ht (fun q => g1 q H locs lr hP hS hl hn) (fun q => g2 q H locs lr hP hS hl hn)
theorem x_icmp_gt (F : xFix E A Y cc own nL) {x y : Int32} {off : Int} {tgt : Nat} (d : decode cc pc = .ok (.if_icmp .gt off, 3)) (ht : (pc : Int) + off = (tgt : Int)) (g1 : y < x → WP l E R A Y k n tgt ls st M) (g2 : ¬ y < x → WP l E R A Y k n (pc + 3) ls st M) : WP l E R A Y k n pc ls (vI y :: vI x :: st) M := fun H locs lr hP hS hl hn => lv_icmp_gt F.1 F.2.1 d ht (fun q => g1 q H locs lr hP hS hl hn) (fun q => g2 q H locs lr hP hS hl hn)
theorem x_if_gt (F : xFix E A Y cc own nL) {x : Int32} {off : Int} {tgt : Nat} (d : decode cc pc = .ok (.ifCond .gt off, 3)) (ht : (pc : Int) + off = (tgt : Int)) (g1 : 0 < x → WP l E R A Y k n tgt ls st M) (g2 : ¬ 0 < x → WP l E R A Y k n (pc + 3) ls st M) : WP l E R A Y k n pc ls (vI x :: st) M := fun H locs lr hP hS hl hn => lv_if_gt F.1 F.2.1 d ht (fun q => g1 q H locs lr hP hS hl hn) (fun q => g2 q H locs lr hP hS hl hn)
theorem x_icmp_le (F : xFix E A Y cc own nL) {x y : Int32} {off : Int} {tgt : Nat} (d : decode cc pc = .ok (.if_icmp .le off, 3)) (ht : (pc : Int) + off = (tgt : Int)) (g1 : x ≤ y → WP l E R A Y k n tgt ls st M) (g2 : ¬ x ≤ y → WP l E R A Y k n (pc + 3) ls st M) : WP l E R A Y k n pc ls (vI y :: vI x :: st) M := fun H locs lr hP hS hl hn => lv_icmp_le F.1 F.2.1 d ht (fun q => g1 q H locs lr hP hS hl hn) (fun q => g2 q H locs lr hP hS hl hn)
theorem x_if_le (F : xFix E A Y cc own nL) {x : Int32} {off : Int} {tgt : Nat} (d : decode cc pc = .ok (.ifCond .le off, 3)) (ht : (pc : Int) + off = (tgt : Int)) (g1 : x ≤ 0 → WP l E R A Y k n tgt ls st M) (g2 : ¬ x ≤ 0 → WP l E R A Y k n (pc + 3) ls st M) : WP l E R A Y k n pc ls (vI x :: st) M := fun H locs lr hP hS hl hn => lv_if_le F.1 F.2.1 d ht (fun q => g1 q H locs lr hP hS hl hn) (fun q => g2 q H locs lr hP hS hl hn)
/-- links that the tables give: a field of a class by an entry of a class's pool; the same over a nest mate's -/
def xFL (own : String) (idx ci j : Nat) : Prop := ∃ (C : String) (T : u_T) (N : Nat), vwCl[ci]? = some (C, T, N) ∧ j < N ∧ (∀ w ∈ u_ws C T N, w ∈ LW) ∧ Cond.fieldLink own idx C (T j).2.1 (T j).2.2.1 ∈ LW ∧ (T j).1 = C
def xFN (own : String) (idx ci j : Nat) : Prop := ∃ (C host : String) (T : u_T) (N : Nat), vwCl[ci]? = some (C, T, N) ∧ j < N ∧ (∀ w ∈ u_ws C T N, w ∈ LW) ∧ Cond.fieldLinkNest own idx C (T j).2.1 (T j).2.2.1 host ∈ NW ∧ (T j).1 = C
theorem xFL.get {idx ci j a N9 : Nat} {v : Value} (h : xFL own idx ci j) (F : xFix E A Y cc own nL) (hk : xk a = (ci, N9)) (hc : ci < 8) (hj : j < N9) (hv : xfv E.2.2.1 M ci a j = v) {H : Heap} {locs : List Loc} {lr : Array Slot} {rest : List Value} (d : decode cc pc = .ok (.getfield idx, 3)) (hP : va_P E.1 vwCl (xws E M) H)
    (g : W (yp Y) l (ye Y) R (ys Y) (ym Y) (ya Y) (yb Y) (yM Y) (yc Y) H locs k n (yQ Y) (F0 (ym Y) (pc + 3) lr (v :: rest))) : W (yp Y) l (ye Y) R (ys Y) (ym Y) (ya Y) (yb Y) (yM Y) (yc Y) H locs k n (yQ Y) (F0 (ym Y) pc lr (.ref (E.2.2.1 a) :: rest)) := by
  obtain ⟨C, T, N, h1, h2, h3, h4, h5⟩ := h
  refine va_get (Ts := LW) (ref := C) F.1 F.2.1 F.2.2.2.2.1 h3 F.2.2.2.1 F.2.2.2.2.2.1.1 hP a (xws_obj E M hk hc) h1 j h2 (F.2.2.2.2.1 _ h4) (fun x hx => by rw [h5] at hx; exact hx) ?_ d g
  simp [hj, hv]
theorem xFN.get {idx ci j a N9 : Nat} {v : Value} (h : xFN own idx ci j) (F : xFix E A Y cc own nL) (hk : xk a = (ci, N9)) (hc : ci < 8) (hj : j < N9) (hv : xfv E.2.2.1 M ci a j = v) {H : Heap} {locs : List Loc} {lr : Array Slot} {rest : List Value} (d : decode cc pc = .ok (.getfield idx, 3)) (hP : va_P E.1 vwCl (xws E M) H)
    (g : W (yp Y) l (ye Y) R (ys Y) (ym Y) (ya Y) (yb Y) (yM Y) (yc Y) H locs k n (yQ Y) (F0 (ym Y) (pc + 3) lr (v :: rest))) : W (yp Y) l (ye Y) R (ys Y) (ym Y) (ya Y) (yb Y) (yM Y) (yc Y) H locs k n (yQ Y) (F0 (ym Y) pc lr (.ref (E.2.2.1 a) :: rest)) := by
  obtain ⟨C, host, T, N, h1, h2, h3, h4, h5⟩ := h
  refine va_getN (Ts := LW) (ref := C) (host := host) F.1 F.2.1 F.2.2.2.2.1 h3 F.2.2.2.1 F.2.2.2.2.2.1.1 hP a (xws_obj E M hk hc) h1 j h2 (va_Nw.use rfl (F.2.2.2.2.2.1.2.1 _ h4)) (fun x hx => by rw [h5] at hx; exact hx) ?_ d g
  simp [hj, hv]
theorem x_geti (F : xFix E A Y cc own nL) {idx ci j a N9 : Nat} (h : xFL own idx ci j) (hk : xk a = (ci, N9)) (d : decode cc pc = .ok (.getfield idx, 3)) (hc : ci < 8) (hj : j < N9) (hf : xft ci j = 0) (g : WP l E R A Y k n (pc + 3) ls (vI (M.1 a j) :: st) M) : WP l E R A Y k n pc ls (vA a :: st) M := fun H locs lr hP hS hl hn => h.get F hk hc hj (v := .int (M.1 a j)) (by unfold xfv; rw [if_pos hf]) d hP (g H locs lr hP hS hl hn)
theorem x_getr (F : xFix E A Y cc own nL) {idx ci j a N9 : Nat} (h : xFL own idx ci j) (hk : xk a = (ci, N9)) (d : decode cc pc = .ok (.getfield idx, 3)) (hc : ci < 8) (hj : j < N9) (hf : xft ci j = 2) (g : WP l E R A Y k n (pc + 3) ls (vR (M.2.1 a j) :: st) M) : WP l E R A Y k n pc ls (vA a :: st) M := fun H locs lr hP hS hl hn => h.get F hk hc hj (v := xrv E.2.2.1 (M.2.1 a j)) (by unfold xfv xgr; rw [hf]; rfl) d hP (g H locs lr hP hS hl hn)
theorem x_getc (F : xFix E A Y cc own nL) {idx ci j a N9 v : Nat} (h : xFL own idx ci j) (hk : xk a = (ci, N9)) (d : decode cc pc = .ok (.getfield idx, 3)) (hc : ci < 8) (hj : j < N9) (hf : xft ci j = 1) (hv : xcr ci a j = v) (g : WP l E R A Y k n (pc + 3) ls (vA v :: st) M) : WP l E R A Y k n pc ls (vA a :: st) M := fun H locs lr hP hS hl hn => h.get F hk hc hj (v := xrv E.2.2.1 (some v)) (by unfold xfv xgr; rw [hf, hv]; rfl) d hP (g H locs lr hP hS hl hn)
theorem x_getl (F : xFix E A Y cc own nL) {idx ci j a N9 : Nat} (h : xFL own idx ci j) (hk : xk a = (ci, N9)) (d : decode cc pc = .ok (.getfield idx, 3)) (hc : ci < 8) (hj : j < N9) (hf : xft ci j = 3) (g : WP l E R A Y k n (pc + 3) ls (vL (M.2.2 a j) :: st) M) : WP l E R A Y k n pc ls (vA a :: st) M := fun H locs lr hP hS hl hn => h.get F hk hc hj (v := .long (M.2.2 a j)) (by unfold xfv; rw [hf]; rfl) d hP (g H locs lr hP hS hl hn)
theorem x_getiN (F : xFix E A Y cc own nL) {idx ci j a N9 : Nat} (h : xFN own idx ci j) (hk : xk a = (ci, N9)) (d : decode cc pc = .ok (.getfield idx, 3)) (hc : ci < 8) (hj : j < N9) (hf : xft ci j = 0) (g : WP l E R A Y k n (pc + 3) ls (vI (M.1 a j) :: st) M) : WP l E R A Y k n pc ls (vA a :: st) M := fun H locs lr hP hS hl hn => h.get F hk hc hj (v := .int (M.1 a j)) (by unfold xfv; rw [if_pos hf]) d hP (g H locs lr hP hS hl hn)
theorem x_getrN (F : xFix E A Y cc own nL) {idx ci j a N9 : Nat} (h : xFN own idx ci j) (hk : xk a = (ci, N9)) (d : decode cc pc = .ok (.getfield idx, 3)) (hc : ci < 8) (hj : j < N9) (hf : xft ci j = 2) (g : WP l E R A Y k n (pc + 3) ls (vR (M.2.1 a j) :: st) M) : WP l E R A Y k n pc ls (vA a :: st) M := fun H locs lr hP hS hl hn => h.get F hk hc hj (v := xrv E.2.2.1 (M.2.1 a j)) (by unfold xfv xgr; rw [hf]; rfl) d hP (g H locs lr hP hS hl hn)
theorem x_getcN (F : xFix E A Y cc own nL) {idx ci j a N9 v : Nat} (h : xFN own idx ci j) (hk : xk a = (ci, N9)) (d : decode cc pc = .ok (.getfield idx, 3)) (hc : ci < 8) (hj : j < N9) (hf : xft ci j = 1) (hv : xcr ci a j = v) (g : WP l E R A Y k n (pc + 3) ls (vA v :: st) M) : WP l E R A Y k n pc ls (vA a :: st) M := fun H locs lr hP hS hl hn => h.get F hk hc hj (v := xrv E.2.2.1 (some v)) (by unfold xfv xgr; rw [hf, hv]; rfl) d hP (g H locs lr hP hS hl hn)
theorem x_getlN (F : xFix E A Y cc own nL) {idx ci j a N9 : Nat} (h : xFN own idx ci j) (hk : xk a = (ci, N9)) (d : decode cc pc = .ok (.getfield idx, 3)) (hc : ci < 8) (hj : j < N9) (hf : xft ci j = 3) (g : WP l E R A Y k n (pc + 3) ls (vL (M.2.2 a j) :: st) M) : WP l E R A Y k n pc ls (vA a :: st) M := fun H locs lr hP hS hl hn => h.get F hk hc hj (v := .long (M.2.2 a j)) (by unfold xfv; rw [hf]; rfl) d hP (g H locs lr hP hS hl hn)
/-- a class's fields, as a write wants them -/
def xCT (ci : Nat) : Prop := ∀ (C : String) (T : u_T) (N : Nat), vwCl[ci]? = some (C, T, N) → (∃ ty : Nat → FieldType, ∀ k, k < N → parseFieldDescriptor (T k).2.2.1 = some (ty k)) ∧ (∀ a, a < N → ∀ b, b < N → a ≠ b → (T a).2.1 ≠ (T b).2.1)
theorem xCT_all : ∀ ci, ci < 8 → xCT ci := by
  intro ci hci C T N h
  match ci, hci, h with
  | 0, _, h => cases h; exact ⟨⟨_, tyX0_ok⟩, nmX0⟩
  | 1, _, h => cases h; exact ⟨⟨_, tyX1_ok⟩, nmX1⟩
  | 2, _, h => cases h; exact ⟨⟨_, tyX2_ok⟩, nmX2⟩
  | 3, _, h => cases h; exact ⟨⟨_, tyX3_ok⟩, nmX3⟩
  | 4, _, h => cases h; exact ⟨⟨_, tyX4_ok⟩, nmX4⟩
  | 5, _, h => cases h; exact ⟨⟨_, tyX5_ok⟩, nmX5⟩
  | 6, _, h => cases h; exact ⟨⟨_, tyX6_ok⟩, nmX6⟩
  | 7, _, h => cases h
/-- a field that is written: not final, its type ty -/
def xFW (ci j : Nat) (ty : FieldType) : Prop := ∀ (C : String) (T : u_T) (N : Nat), vwCl[ci]? = some (C, T, N) → (T j).2.2.2 = false ∧ parseFieldDescriptor (T j).2.2.1 = some ty
theorem xFL.put {idx ci j a N9 : Nat} {v : Value} {ty : FieldType} {M' : xM} (h : xFL own idx ci j) (F : xFix E A Y cc own nL) (hk : xk a = (ci, N9)) (hc : ci < 8) (hj : j < N9) (hw : xFW ci j ty) (hn1 : narrow ty v = v) (hfit : fits ty v = true) (hset : (xws E M).set a (E.2.2.1 a, .inr (ci, ((List.range N9).map (xfv E.2.2.1 M ci a)).set j v)) = xws E M') {H : Heap} {locs : List Loc} {lr : Array Slot} {rest : List Value} (d : decode cc pc = .ok (.putfield idx, 3)) (hP : va_P E.1 vwCl (xws E M) H) (hS : va_S A (ys Y).heap H locs)
    (g : ∀ (H1 : Heap) (locs1 : List Loc), va_P E.1 vwCl (xws E M') H1 → va_S A (ys Y).heap H1 locs1 → W (yp Y) l (ye Y) R (ys Y) (ym Y) (ya Y) (yb Y) (yM Y) (yc Y) H1 locs1 k n (yQ Y) (F0 (ym Y) (pc + 3) lr rest)) : W (yp Y) l (ye Y) R (ys Y) (ym Y) (ya Y) (yb Y) (yM Y) (yc Y) H locs k n (yQ Y) (F0 (ym Y) pc lr (v :: .ref (E.2.2.1 a) :: rest)) := by
  obtain ⟨C, T, N, h1, h2, h3, h4, h5⟩ := h
  obtain ⟨⟨ty0, t1⟩, t2⟩ := xCT_all ci hc C T N h1
  obtain ⟨w1, w2⟩ := hw C T N h1
  refine va_put (Ts := LW) (ref := C) F.1 F.2.1 F.2.2.2.2.1 h3 ty0 t1 t2 F.2.2.2.1 F.2.2.2.2.2.1.1 hP (xD F M) hS a (xws_obj E M hk hc) h1 j h2 (F.2.2.2.2.1 _ h4) (fun x hx => by rw [h5] at hx; exact hx) w1 w2 hn1 hfit (by simpa using hj) d ?_
  intro H1 locs1 hP1 _ hS1
  rw [hset] at hP1
  exact g H1 locs1 hP1 hS1
theorem x_puti (F : xFix E A Y cc own nL) {idx ci j a N9 : Nat} {x : Int32} {ty : FieldType} (h : xFL own idx ci j) (hk : xk a = (ci, N9)) (d : decode cc pc = .ok (.putfield idx, 3)) (hc : ci < 8) (hj : j < N9) (hf : xft ci j = 0) (hw : xFW ci j ty) (hn1 : narrow ty (.int x) = .int x) (hfit : fits ty (.int x) = true) (g : WP l E R A Y k n (pc + 3) ls st (upI M a j x)) : WP l E R A Y k n pc ls (vI x :: vA a :: st) M := fun H locs lr hP hS hl hn => h.put F hk hc hj hw hn1 hfit (xws_putI hk hc hf hj) d hP hS (fun H1 locs1 hP1 hS1 => g H1 locs1 lr hP1 hS1 hl hn)
theorem x_putl (F : xFix E A Y cc own nL) {idx ci j a N9 : Nat} {x : Int64} (h : xFL own idx ci j) (hk : xk a = (ci, N9)) (d : decode cc pc = .ok (.putfield idx, 3)) (hc : ci < 8) (hj : j < N9) (hf : xft ci j = 3) (hw : xFW ci j .long) (g : WP l E R A Y k n (pc + 3) ls st (upL M a j x)) : WP l E R A Y k n pc ls (vL x :: vA a :: st) M := fun H locs lr hP hS hl hn => h.put F hk hc hj hw rfl rfl (xws_putL hk hc hf hj) d hP hS (fun H1 locs1 hP1 hS1 => g H1 locs1 lr hP1 hS1 hl hn)
theorem x_putr (F : xFix E A Y cc own nL) {idx ci j a N9 : Nat} {r : Option Nat} {C9 : String} (h : xFL own idx ci j) (hk : xk a = (ci, N9)) (d : decode cc pc = .ok (.putfield idx, 3)) (hc : ci < 8) (hj : j < N9) (hf : xft ci j = 2) (hw : xFW ci j (.object C9)) (g : WP l E R A Y k n (pc + 3) ls st (upR M a j r)) : WP l E R A Y k n pc ls (vR r :: vA a :: st) M := fun H locs lr hP hS hl hn => h.put F hk hc hj hw (by cases r <;> rfl) (by cases r <;> rfl) (xws_putR hk hc hf hj) d hP hS (fun H1 locs1 hP1 hS1 => g H1 locs1 lr hP1 hS1 hl hn)
theorem xFN.put {idx ci j a N9 : Nat} {v : Value} {ty : FieldType} {M' : xM} (h : xFN own idx ci j) (F : xFix E A Y cc own nL) (hk : xk a = (ci, N9)) (hc : ci < 8) (hj : j < N9) (hw : xFW ci j ty) (hn1 : narrow ty v = v) (hfit : fits ty v = true) (hset : (xws E M).set a (E.2.2.1 a, .inr (ci, ((List.range N9).map (xfv E.2.2.1 M ci a)).set j v)) = xws E M') {H : Heap} {locs : List Loc} {lr : Array Slot} {rest : List Value} (d : decode cc pc = .ok (.putfield idx, 3)) (hP : va_P E.1 vwCl (xws E M) H) (hS : va_S A (ys Y).heap H locs)
    (g : ∀ (H1 : Heap) (locs1 : List Loc), va_P E.1 vwCl (xws E M') H1 → va_S A (ys Y).heap H1 locs1 → W (yp Y) l (ye Y) R (ys Y) (ym Y) (ya Y) (yb Y) (yM Y) (yc Y) H1 locs1 k n (yQ Y) (F0 (ym Y) (pc + 3) lr rest)) : W (yp Y) l (ye Y) R (ys Y) (ym Y) (ya Y) (yb Y) (yM Y) (yc Y) H locs k n (yQ Y) (F0 (ym Y) pc lr (v :: .ref (E.2.2.1 a) :: rest)) := by
  obtain ⟨C, host, T, N, h1, h2, h3, h4, h5⟩ := h
  obtain ⟨⟨ty0, t1⟩, t2⟩ := xCT_all ci hc C T N h1
  obtain ⟨w1, w2⟩ := hw C T N h1
  refine va_putN (Ts := LW) (ref := C) (host := host) F.1 F.2.1 F.2.2.2.2.1 h3 ty0 t1 t2 F.2.2.2.1 F.2.2.2.2.2.1.1 hP (xD F M) hS a (xws_obj E M hk hc) h1 j h2 (va_Nw.use rfl (F.2.2.2.2.2.1.2.1 _ h4)) (fun x hx => by rw [h5] at hx; exact hx) w1 w2 hn1 hfit (by simpa using hj) d ?_
  intro H1 locs1 hP1 _ hS1
  rw [hset] at hP1
  exact g H1 locs1 hP1 hS1
theorem x_putiN (F : xFix E A Y cc own nL) {idx ci j a N9 : Nat} {x : Int32} {ty : FieldType} (h : xFN own idx ci j) (hk : xk a = (ci, N9)) (d : decode cc pc = .ok (.putfield idx, 3)) (hc : ci < 8) (hj : j < N9) (hf : xft ci j = 0) (hw : xFW ci j ty) (hn1 : narrow ty (.int x) = .int x) (hfit : fits ty (.int x) = true) (g : WP l E R A Y k n (pc + 3) ls st (upI M a j x)) : WP l E R A Y k n pc ls (vI x :: vA a :: st) M := fun H locs lr hP hS hl hn => h.put F hk hc hj hw hn1 hfit (xws_putI hk hc hf hj) d hP hS (fun H1 locs1 hP1 hS1 => g H1 locs1 lr hP1 hS1 hl hn)
theorem x_putlN (F : xFix E A Y cc own nL) {idx ci j a N9 : Nat} {x : Int64} (h : xFN own idx ci j) (hk : xk a = (ci, N9)) (d : decode cc pc = .ok (.putfield idx, 3)) (hc : ci < 8) (hj : j < N9) (hf : xft ci j = 3) (hw : xFW ci j .long) (g : WP l E R A Y k n (pc + 3) ls st (upL M a j x)) : WP l E R A Y k n pc ls (vL x :: vA a :: st) M := fun H locs lr hP hS hl hn => h.put F hk hc hj hw rfl rfl (xws_putL hk hc hf hj) d hP hS (fun H1 locs1 hP1 hS1 => g H1 locs1 lr hP1 hS1 hl hn)
theorem x_putrN (F : xFix E A Y cc own nL) {idx ci j a N9 : Nat} {r : Option Nat} {C9 : String} (h : xFN own idx ci j) (hk : xk a = (ci, N9)) (d : decode cc pc = .ok (.putfield idx, 3)) (hc : ci < 8) (hj : j < N9) (hf : xft ci j = 2) (hw : xFW ci j (.object C9)) (g : WP l E R A Y k n (pc + 3) ls st (upR M a j r)) : WP l E R A Y k n pc ls (vR r :: vA a :: st) M := fun H locs lr hP hS hl hn => h.put F hk hc hj hw (by cases r <;> rfl) (by cases r <;> rfl) (xws_putR hk hc hf hj) d hP hS (fun H1 locs1 hP1 hS1 => g H1 locs1 lr hP1 hS1 hl hn)
theorem x_iald (F : xFix E A Y cc own nL) {a N9 : Nat} {i : Int32} (hk : xk a = (8, N9)) (d : decode cc pc = .ok (.iaload, 1)) (hin : vp_in i N9) (g : WP l E R A Y k n (pc + 1) ls (vI (M.1 a i.toNatClampNeg) :: st) M) : WP l E R A Y k n pc ls (vI i :: vA a :: st) M := fun H locs lr hP hS hl hn => va_iald F.1 F.2.1 F.2.2.2.2.2.1.1 hP a 0 (xws_arr E M hk) rfl hin d (g H locs lr hP hS hl hn)
theorem x_cald (F : xFix E A Y cc own nL) {a N9 : Nat} {i : Int32} (hk : xk a = (9, N9)) (d : decode cc pc = .ok (.caload, 1)) (hin : vp_in i N9) (g : WP l E R A Y k n (pc + 1) ls (vI (M.1 a i.toNatClampNeg) :: st) M) : WP l E R A Y k n pc ls (vI i :: vA a :: st) M := fun H locs lr hP hS hl hn => va_cald F.1 F.2.1 F.2.2.2.2.2.1.1 hP a 1 (xws_chr E M hk) rfl hin d (g H locs lr hP hS hl hn)
theorem x_aaldC (F : xFix E A Y cc own nL) {a N9 : Nat} {i : Int32} (hk : xk a = (11, N9)) (d : decode cc pc = .ok (.aaload, 1)) (hin : vp_in i N9) (g : WP l E R A Y k n (pc + 1) ls (vA (18 + 5 * i.toNatClampNeg) :: st) M) : WP l E R A Y k n pc ls (vI i :: vA a :: st) M := fun H locs lr hP hS hl hn => va_aldq F.1 F.2.1 F.2.2.2.2.2.1.1 hP a 2 (xws_chs E M hk) rfl hin d (g H locs lr hP hS hl hn)
theorem xk_nds : ∀ a, a < 72 → (xk a).1 = 12 → (xk a).2 = 12 := by decide +kernel
theorem x_aaldN (F : xFix E A Y cc own nL) {a N9 : Nat} {i : Int32} (hk : xk a = (12, N9)) (d : decode cc pc = .ok (.aaload, 1)) (hin : vp_in i N9) (g : WP l E R A Y k n (pc + 1) ls (vA (52 + i.toNatClampNeg) :: st) M) : WP l E R A Y k n pc ls (vI i :: vA a :: st) M := fun H locs lr hP hS hl hn => by
  have h12 : N9 = 12 := by
    have := xk_nds a (xk_lt hk (show (12 : Nat) < 13 by decide)) (by rw [hk])
    rw [hk] at this
    exact this
  have hi : i.toNatClampNeg % 12 = i.toNatClampNeg := Nat.mod_eq_of_lt (by rw [← h12]; exact Nat.lt_of_not_le (fun z => hin (Or.inr z)))
  refine va_aldq F.1 F.2.1 F.2.2.2.2.2.1.1 hP a 3 (xws_nds E M hk) rfl hin d ?_
  have g2 := g H locs lr hP hS hl hn
  simp only [List.map_cons, xc, xrv] at g2
  simp only [hi]
  exact g2
theorem x_iast (F : xFix E A Y cc own nL) {a N9 : Nat} {i x : Int32} (hk : xk a = (8, N9)) (d : decode cc pc = .ok (.iastore, 1)) (hin : vp_in i N9) (g : WP l E R A Y k n (pc + 1) ls st (upI M a i.toNatClampNeg x)) : WP l E R A Y k n pc ls (vI x :: vI i :: vA a :: st) M := fun H locs lr hP hS hl hn => va_iast F.1 F.2.1 F.2.2.2.2.2.1.1 hP (xD F M) hS a 0 (xws_arr E M hk) rfl hin d (fun H1 locs1 hP1 _ hS1 => g H1 locs1 lr (by rw [xws_sti hk] at hP1; exact hP1) hS1 hl hn)
theorem x_cast (F : xFix E A Y cc own nL) {a N9 : Nat} {i x : Int32} (hk : xk a = (9, N9)) (d : decode cc pc = .ok (.castore, 1)) (hin : vp_in i N9) (hx : vp_nar .char x = x) (g : WP l E R A Y k n (pc + 1) ls st (upI M a i.toNatClampNeg x)) : WP l E R A Y k n pc ls (vI x :: vI i :: vA a :: st) M := fun H locs lr hP hS hl hn => va_cast F.1 F.2.1 F.2.2.2.2.2.1.1 hP (xD F M) hS a 1 (xws_chr E M hk) rfl hin d (fun H1 locs1 hP1 _ hS1 => g H1 locs1 lr (by first | (rw [hx, xws_stc hk] at hP1; exact hP1) | (rw [xws_stc hk] at hP1; exact hP1)) hS1 hl hn)
theorem x_hald (F : xFix E A Y cc own nL) {a : Nat} {i : Int32} (hk : isH E a) (d : decode cc pc = .ok (.iaload, 1)) (hin : vp_in i 24) (g : WP l E R A Y k n (pc + 1) ls (vI (M.1 a i.toNatClampNeg) :: st) M) : WP l E R A Y k n pc ls (vI i :: vA a :: st) M := fun H locs lr hP hS hl hn => va_iald F.1 F.2.1 F.2.2.2.2.2.1.1 hP a 0 (xws_h M hk) rfl hin d (g H locs lr hP hS hl hn)
theorem x_hast (F : xFix E A Y cc own nL) {a : Nat} {i x : Int32} (hk : isH E a) (d : decode cc pc = .ok (.iastore, 1)) (hin : vp_in i 24) (g : WP l E R A Y k n (pc + 1) ls st (upI M a i.toNatClampNeg x)) : WP l E R A Y k n pc ls (vI x :: vI i :: vA a :: st) M := fun H locs lr hP hS hl hn => va_iast F.1 F.2.1 F.2.2.2.2.2.1.1 hP (xD F M) hS a 0 (xws_h M hk) rfl hin d (fun H1 locs1 hP1 _ hS1 => g H1 locs1 lr (by rw [xws_sth hk] at hP1; exact hP1) hS1 hl hn)
theorem x_alen (F : xFix E A Y cc own nL) {a t9 N9 : Nat} {v : Int32} (hk : xk a = (t9, N9)) (ht : t9 = 8 ∨ t9 = 9 ∨ t9 = 11 ∨ t9 = 12) (hv : Int32.ofNat N9 = v) (d : decode cc pc = .ok (.arraylength, 1)) (g : WP l E R A Y k n (pc + 1) ls (vI v :: st) M) : WP l E R A Y k n pc ls (vA a :: st) M := fun H locs lr hP hS hl hn => by
  rcases ht with rfl | rfl | rfl | rfl
  · exact va_alen F.1 F.2.1 F.2.2.2.2.2.1.1 hP a 0 (xws_arr E M hk) rfl hv d (g H locs lr hP hS hl hn)
  · exact va_alen F.1 F.2.1 F.2.2.2.2.2.1.1 hP a 1 (xws_chr E M hk) rfl hv d (g H locs lr hP hS hl hn)
  · exact va_alen F.1 F.2.1 F.2.2.2.2.2.1.1 hP a 2 (xws_chs E M hk) rfl hv d (g H locs lr hP hS hl hn)
  · exact va_alen F.1 F.2.1 F.2.2.2.2.2.1.1 hP a 3 (xws_nds E M hk) rfl hv d (g H locs lr hP hS hl hn)
/-- dead locals are forgotten -/
theorem x_forget {ls' : List xV} (hlen : ls'.length = ls.length) (hl : ∀ (i : Nat) (v : xV), ls'[i]? = some v → xU v = false → ls[i]? = some v) (g : WP l E R A Y k n pc ls' st M) : WP l E R A Y k n pc ls st M := fun H locs lr hP hS hlr hn => g H locs lr hP hS (hlr.le hl) (by rw [hlen]; exact hn)
theorem x_eqM {M' : xM} (h : M = M') (g : WP l E R A Y k n pc ls st M') : WP l E R A Y k n pc ls st M := h ▸ g
end XR
/-- links of calls -/
def xML (own : String) (idx : Nat) (y : MethodName) : Prop := Cond.methodLink own idx y ∈ LW
def xMN (own : String) (idx : Nat) (y : MethodName) : Prop := ∃ host, Cond.methodLinkNest own idx y host ∈ NW
def xMY (y : MethodName) (n : Nat) : Prop := Cond.initialized y.cls ∈ LW ∧ y.cls ≠ "java/lang/invoke/MethodHandle" ∧ y.cls ≠ "java/lang/invoke/VarHandle" ∧ (parseMethodDescriptor y.desc).map (fun d => d.parameters.length) = some n
def xMV (y : MethodName) (cc : ByteArray) (nL : Nat) (rt : Option FieldType) (n : Nat) : Prop := xMY y n ∧ Cond.code y cc nL rt ∈ LW ∧ Cond.instanceMethod y ∈ LW ∧ Cond.selects y.cls y y ∈ LW
def xMS (y : MethodName) (cc : ByteArray) (nL : Nat) (rt : Option FieldType) (n : Nat) : Prop := xMY y n ∧ Cond.code y cc nL rt ∈ LW ∧ Cond.static y ∈ LW
