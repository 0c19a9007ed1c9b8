/-! WHAT CHANGES A CHOIR -/
theorem upI_1 (M : xM) (a k : Nat) (x : Int32) (b j : Nat) : (upI M a k x).1 b j = if b = a ∧ j = k then x else M.1 b j := rfl
theorem upI_2 (M : xM) (a k : Nat) (x : Int32) : (upI M a k x).2 = M.2 := rfl
theorem wrI_1 (M : xM) (a N : Nat) (z : Int) (x : Int32) (b j : Nat) : (wrI M a N z x).1 b j = if b = a ∧ (0 ≤ z ∧ z < N) ∧ (j : Int) = z then x else M.1 b j := by
  unfold wrI
  by_cases h : 0 ≤ z ∧ z < N
  · rw [if_pos h, upI_1]
    by_cases h2 : b = a ∧ j = z.toNat
    · rw [if_pos h2, if_pos ⟨h2.1, h, by omega⟩]
    · rw [if_neg h2, if_neg (fun q => h2 ⟨q.1, by omega⟩)]
  · rw [if_neg h, if_neg (fun q => h q.2.1)]
theorem wrI_2 (M : xM) (a N : Nat) (z : Int) (x : Int32) : (wrI M a N z x).2 = M.2 := by unfold wrI; split <;> rfl
theorem wrI_row {M : xM} {a N : Nat} {z : Int} {x : Int32} {b : Nat} (h : b ≠ a) : (wrI M a N z x).1 b = M.1 b := by
  funext j; rw [wrI_1, if_neg (fun q => h q.1)]
def swC (M : xM) (a : Nat) (s t : Int) : xM := wrI (wrI M a 24 s (jI (rdI (M.1 a) 24 t))) a 24 t (jI (rdI (M.1 a) 24 s))
def swP (M : xM) (c : Nat) (s t : Int) : xM := swC (swC (swC M (c + 2) s t) (c + 3) s t) (c + 4) s t
theorem swC_row {M : xM} {a : Nat} {s t : Int} {b : Nat} (h : b ≠ a) : (swC M a s t).1 b = M.1 b := by unfold swC; rw [wrI_row h, wrI_row h]
theorem swC_2 (M : xM) (a : Nat) (s t : Int) : (swC M a s t).2 = M.2 := by unfold swC; rw [wrI_2, wrI_2]
theorem swP_2 (M : xM) (c : Nat) (s t : Int) : (swP M c s t).2 = M.2 := by unfold swP; rw [swC_2, swC_2, swC_2]
theorem swP_row {M : xM} {c : Nat} {s t : Int} {b : Nat} (h : b < c + 2 ∨ c + 4 < b) : (swP M c s t).1 b = M.1 b := by unfold swP; rw [swC_row (by omega), swC_row (by omega), swC_row (by omega)]
theorem swP_r2 (M : xM) (c : Nat) (s t : Int) : (swP M c s t).1 (c + 2) = (swC M (c + 2) s t).1 (c + 2) := by unfold swP; rw [swC_row (by omega), swC_row (by omega)]
theorem swP_r3 (M : xM) (c : Nat) (s t : Int) : (swP M c s t).1 (c + 3) = (swC M (c + 3) s t).1 (c + 3) := by
  unfold swP; rw [swC_row (by omega)]
  funext j
  have e : (swC M (c + 2) s t).1 (c + 3) = M.1 (c + 3) := by rw [swC_row (by omega)]
  unfold swC at e ⊢
  simp only [wrI_1 _ (c + 3)]
  rw [e]
theorem swP_r4 (M : xM) (c : Nat) (s t : Int) : (swP M c s t).1 (c + 4) = (swC M (c + 4) s t).1 (c + 4) := by
  unfold swP
  rw [show (swC (swC (swC M (c + 2) s t) (c + 3) s t) (c + 4) s t).1 (c + 4) = (swC M (c + 4) s t).1 (c + 4) from ?_]
  funext j
  show (swC _ (c + 4) s t).1 (c + 4) j = (swC M (c + 4) s t).1 (c + 4) j
  have e : (swC (swC M (c + 2) s t) (c + 3) s t).1 (c + 4) = M.1 (c + 4) := by rw [swC_row (by omega), swC_row (by omega)]
  unfold swC at e ⊢
  simp only [wrI_1 _ (c + 4)]
  rw [e]
theorem szI_of {M M' : xM} {c : Nat} (h : M'.1 (c + 1) = M.1 (c + 1)) (r : Int) : szI M' c r = szI M c r := by unfold szI; rw [h]
theorem szI_swP (M : xM) (c : Nat) (s t r : Int) : szI (swP M c s t) c r = szI M c r := szI_of (swP_row (by omega)) r
/-- the heights are small, also those that nobody has -/
def hLo (M : xM) (c : Nat) : Prop := ∀ k : Nat, k < 24 → -1 ≤ (M.1 (c + 3) k).toInt ∧ (M.1 (c + 3) k).toInt ≤ 1000
theorem rdI_lo {M : xM} {c : Nat} (h : hLo M c) (z : Int) : -1 ≤ rdI (M.1 (c + 3)) 24 z ∧ rdI (M.1 (c + 3)) 24 z ≤ 1000 := by
  unfold rdI
  split
  · exact h _ (by omega)
  · omega
theorem heI_lo {M : xM} {c : Nat} (h : hLo M c) (r p : Int) : -1 ≤ heI M c r p ∧ heI M c r p ≤ 1000 := rdI_lo h _
theorem hLo_of {M M' : xM} {c : Nat} (e : M'.1 (c + 3) = M.1 (c + 3)) (h : hLo M c) : hLo M' c := by unfold hLo; rw [e]; exact h
theorem hLo_wr {M : xM} {c : Nat} (h : hLo M c) {z x : Int} (hx : -1 ≤ x ∧ x ≤ 1000) : hLo (wrI M (c + 3) 24 z (jI x)) c := by
  intro k hk
  rw [wrI_1]
  split
  · rw [jI_toInt (by omega)]; exact hx
  · exact h k hk
theorem hLo_swP {M : xM} {c : Nat} (h : hLo M c) (s t : Int) : hLo (swP M c s t) c := by
  have h1 : hLo (swC M (c + 2) s t) c := hLo_of (swC_row (by omega)) h
  have h2 : hLo (swC (swC M (c + 2) s t) (c + 3) s t) c := hLo_wr (hLo_wr h1 (rdI_lo h1 _)) (rdI_lo h1 _)
  exact hLo_of (swC_row (by omega)) h2
def rkI (M : xM) (c : Nat) (r p z : Int) : Int := if z = 0 then heI M c r p else if z = 1 then -heI M c r p else rdI (M.1 (c + 4)) 24 (spI r p)
theorem rkI_b {M : xM} {c : Nat} (h : hLo M c) (r p z : Int) : rg (rkI M c r p z) := by
  have h1 := heI_lo h r p
  have h2 := rg_rdI (M.1 (c + 4)) 24 (spI r p)
  unfold rkI
  split
  · omega
  · split <;> omega
def csM (M : xM) (c : Nat) (r b : Int) : xM := if 0 ≤ r ∧ r < 4 ∧ 0 ≤ szI M c r + b ∧ szI M c r + b ≤ 6 then upI M (c + 1) r.toNat (jI (szI M c r + b)) else M
def arM (M : xM) (c : Nat) (r h v : Int) : xM := wrI (wrI (wrI (csM (upI M c 6 (jI ((M.1 c 6).toInt + 1))) c r 1) (c + 2) 24 (spI r (szI M c r)) (jI (M.1 c 6).toInt)) (c + 3) 24 (spI r (szI M c r)) (jI h)) (c + 4) 24 (spI r (szI M c r)) (jI v)
def mvM (M : xM) (c : Nat) (r p : Int) : Nat → xM
  | 0 => M
  | n + 1 => swP (mvM M c r p n) c (spI r (p + n)) (spI r (p + n + 1))
theorem mvM_row {M : xM} {c : Nat} {r p : Int} {b : Nat} (h : b < c + 2 ∨ c + 4 < b) : ∀ n, (mvM M c r p n).1 b = M.1 b
  | 0 => rfl
  | n + 1 => by simp only [mvM]; rw [swP_row h, mvM_row h n]
theorem mvM_2 (M : xM) (c : Nat) (r p : Int) : ∀ n, (mvM M c r p n).2 = M.2
  | 0 => rfl
  | n + 1 => by simp only [mvM]; rw [swP_2, mvM_2 M c r p n]
theorem szI_mvM (M : xM) (c : Nat) (r p : Int) (n : Nat) (q : Int) : szI (mvM M c r p n) c q = szI M c q := szI_of (mvM_row (by omega) n) q
def dsM (M : xM) (c : Nat) (r p : Int) : xM := csM (mvM M c r p (szI M c r - 1 - p).toNat) c r (-1)
def moM (M : xM) (c : Nat) (r p t : Int) : xM :=
  let M1 := mvM M c r p (szI M c r - 1 - p).toNat
  let M2 := csM M1 c t 1
  csM (swP M2 c (spI r (szI M2 c r - 1)) (spI t (szI M1 c t))) c r (-1)
def trM (M : xM) (c : Nat) (r : Int) : Nat → xM
  | 0 => M
  | n + 1 => swP (trM M c r n) c (spI r n) (spI r (szI M c r - 1 - n))
theorem trM_row {M : xM} {c : Nat} {r : Int} {b : Nat} (h : b < c + 2 ∨ c + 4 < b) : ∀ n, (trM M c r n).1 b = M.1 b
  | 0 => rfl
  | n + 1 => by simp only [trM]; rw [swP_row h, trM_row h n]
def inM (c : Nat) (r z : Int) : Nat → xM → xM
  | 0, M => M
  | n + 1, M => if rkI M c r ((n : Int) + 1) z < rkI M c r n z then inM c r z n (swP M c (spI r n) (spI r ((n : Int) + 1))) else M
def srM (M : xM) (c : Nat) (r z : Int) : Nat → xM
  | 0 => M
  | n + 1 => inM c r z (n + 1) (srM M c r z n)
theorem inM_row {c : Nat} {r z : Int} {b : Nat} (h : b < c + 2 ∨ c + 4 < b) : ∀ n (M : xM), (inM c r z n M).1 b = M.1 b
  | 0, _ => rfl
  | n + 1, M => by
    simp only [inM]
    split
    · rw [inM_row h n, swP_row h]
    · rfl
theorem srM_row {M : xM} {c : Nat} {r z : Int} {b : Nat} (h : b < c + 2 ∨ c + 4 < b) : ∀ n, (srM M c r z n).1 b = M.1 b
  | 0 => rfl
  | n + 1 => by simp only [srM]; rw [inM_row h, srM_row h n]
theorem hLo_inM {c : Nat} {r z : Int} : ∀ n (M : xM), hLo M c → hLo (inM c r z n M) c
  | 0, _, h => h
  | n + 1, M, h => by
    simp only [inM]
    split
    · exact hLo_inM n _ (hLo_swP h _ _)
    · exact h
theorem hLo_srM {M : xM} {c : Nat} {r z : Int} (h : hLo M c) : ∀ n, hLo (srM M c r z n) c
  | 0 => h
  | n + 1 => hLo_inM _ _ (hLo_srM h n)
/-- a copy of an array's first places -/
def cpM (M : xM) (a b n : Nat) : xM := (fun e j => if e = b ∧ j < n then M.1 a j else M.1 e j, M.2)
theorem cpM_row {M : xM} {a b n e : Nat} (h : e ≠ b) : (cpM M a b n).1 e = M.1 e := by
  funext j; show (if e = b ∧ j < n then _ else _) = _; rw [if_neg (fun q => h q.1)]
theorem xws_cp {E : xE} {M : xM} {a b n N : Nat} (h : xk b = (8, N)) : (xws E M).set b (E.2.2.1 b, .inl (E.2.1 0, N, .inl (va_cpy (M.1 a) (M.1 b) 0 0 n))) = xws E (cpM M a b n) := by
  refine xws_set (xN_of (xk_lt h (show (8 : Nat) < 13 by decide))) ?_ (fun e he => xent_of (cpM_row he) rfl rfl)
  rw [xent_arr h]
  suffices e : (cpM M a b n).1 b = va_cpy (M.1 a) (M.1 b) 0 0 n by rw [e]
  funext j
  show (if b = b ∧ j < n then M.1 a j else M.1 b j) = va_cpy (M.1 a) (M.1 b) 0 0 n j
  unfold va_cpy
  by_cases hj : j < n
  · rw [if_pos ⟨rfl, hj⟩, if_pos ⟨Nat.zero_le _, by omega⟩]; simp
  · rw [if_neg (fun q => hj q.2), if_neg (fun q => hj (by omega))]
theorem mlX1_50 : Cond.methodLink RX1 50 arraycopyName ∈ LW := LW_of 631 (by decide +kernel) (by decide +kernel)
theorem msCopy : Cond.native arraycopyName ∈ LW ∧ Cond.static arraycopyName ∈ LW ∧ Cond.initialized "java/lang/System" ∈ LW := ⟨LW_of 633 (by decide +kernel) (by decide +kernel), LW_of 632 (by decide +kernel) (by decide +kernel), LW_of 42 (by decide +kernel) (by decide +kernel)⟩
theorem xj_copy {l : Launch} {E : xE} {R : Room} {A : Nat → Prop} {Y : xY} {cc : ByteArray} {own : String} {nL : Nat} {k n pc : Nat} {ls st : List xV} {M : xM} (F : xFix E A Y cc own nL) {idx a b N0 N1 : Nat} {z : Int} (hl : Cond.methodLink own idx arraycopyName ∈ LW) (ha : xk a = (8, N0)) (hb : xk b = (8, N1)) (d : decode cc pc = .ok (.invokestatic idx, 3)) (hz : 0 ≤ z ∧ z ≤ N0 ∧ z ≤ N1 ∧ z < 2147483648) (hR : 1 ≤ R.frames ∧ 40 ≤ R.locals) (hst : (st.map xcat).sum ≤ 8) (g : WP l E R A Y k n (pc + 3) ls st (cpM M a b z.toNat)) : WP l E R A Y k n pc ls (vI (jI z) :: vI (jI 0) :: vA b :: vI (jI 0) :: vA a :: st) M := fun H locs lr hP hS hlr hn => by
  have e0 : (jI 0).toNatClampNeg = 0 := rfl
  have ez : (jI z).toNatClampNeg = z.toNat := jI_clamp (by omega)
  have nz : ¬ jI z < 0 := by rw [show (0 : Int32) = jI 0 from rfl, jI_lt (by omega) (by omega)]; omega
  refine va_copyi F.1 F.2.1 (by rw [← hlr.1]) F.2.2.2.1 (F.2.2.2.2.1 _ hl) (F.2.2.2.2.1 _ msCopy.1) (F.2.2.2.2.1 _ msCopy.2.1) (F.2.2.2.2.1 _ msCopy.2.2) F.2.2.2.2.2.1.1 hP (xD F M) hS a b 0 0 (xws_arr E M ha) (xws_arr E M hb) rfl rfl rfl (by decide) (by decide) nz (by rw [e0, ez]; omega) (by rw [e0, ez]; omega) (fun _ _ => rfl) hR.1 ?_ d ?_
  · have := xst_sum E.2.2.1 hst
    have h2 : nativeFrameWords "java/lang/System" "arraycopy" 5 + 11 ≤ 30 := by decide +kernel
    have := hR.2
    omega
  · intro H1 locs1 hP1 _ hS1
    rw [e0, ez, xws_cp hb] at hP1
    exact g H1 locs1 lr hP1 hS1 hlr hn
def bcM (M : xM) (c b : Nat) : xM :=
  let M4 := cpM (cpM (cpM (cpM M (b + 1) (c + 1) 4) (b + 2) (c + 2) 24) (b + 3) (c + 3) 24) (b + 4) (c + 4) 24
  let M5 := upI M4 c 4 (jI (M4.1 b 4).toInt)
  let M6 := upI M5 c 5 (jI (M5.1 b 5).toInt)
  let M7 := upI M6 c 6 (jI (M6.1 b 6).toInt)
  let M8 := upI M7 c 7 (jI (M7.1 b 7).toInt)
  upI M8 c 8 (jI (M8.1 b 8).toInt)
/-- the written fields' types -/
theorem fw0_1 : xFW 0 1 .int := fun C T N h => by cases h; exact ⟨rfl, by decide +kernel⟩
theorem fw1_4 : xFW 1 4 .int := fun C T N h => by cases h; exact ⟨rfl, by decide +kernel⟩
theorem fw1_5 : xFW 1 5 .int := fun C T N h => by cases h; exact ⟨rfl, by decide +kernel⟩
theorem fw1_6 : xFW 1 6 .int := fun C T N h => by cases h; exact ⟨rfl, by decide +kernel⟩
theorem fw1_7 : xFW 1 7 .int := fun C T N h => by cases h; exact ⟨rfl, by decide +kernel⟩
theorem fw1_8 : xFW 1 8 .int := fun C T N h => by cases h; exact ⟨rfl, by decide +kernel⟩
theorem fw2_1 : xFW 2 1 (.object "OddChoir$Node") := fun C T N h => by cases h; exact ⟨rfl, by decide +kernel⟩
theorem fw2_2 : xFW 2 2 .int := fun C T N h => by cases h; exact ⟨rfl, by decide +kernel⟩
theorem fw3_1 : xFW 3 1 .int := fun C T N h => by cases h; exact ⟨rfl, by decide +kernel⟩
theorem fw3_2 : xFW 3 2 .int := fun C T N h => by cases h; exact ⟨rfl, by decide +kernel⟩
theorem fw4_0 : xFW 4 0 .int := fun C T N h => by cases h; exact ⟨rfl, by decide +kernel⟩
theorem fw4_1 : xFW 4 1 .int := fun C T N h => by cases h; exact ⟨rfl, by decide +kernel⟩
theorem fw4_2 : xFW 4 2 (.object "OddChoir$Node") := fun C T N h => by cases h; exact ⟨rfl, by decide +kernel⟩
theorem fw4_3 : xFW 4 3 (.object "OddChoir$Node") := fun C T N h => by cases h; exact ⟨rfl, by decide +kernel⟩
theorem fw5_3 : xFW 5 3 .int := fun C T N h => by cases h; exact ⟨rfl, by decide +kernel⟩
theorem fw5_4 : xFW 5 4 .int := fun C T N h => by cases h; exact ⟨rfl, by decide +kernel⟩
theorem fw5_5 : xFW 5 5 .int := fun C T N h => by cases h; exact ⟨rfl, by decide +kernel⟩
theorem fw5_6 : xFW 5 6 .int := fun C T N h => by cases h; exact ⟨rfl, by decide +kernel⟩
theorem fw6_3 : xFW 6 3 .boolean := fun C T N h => by cases h; exact ⟨rfl, by decide +kernel⟩
set_option maxRecDepth 20000 in
theorem m_X1_copyCells {l : Launch} {E : xE} {a b N : Nat} {M : xM} (ha : xk a = (8, N)) (hb : xk b = (8, N)) (hN : N < 1000) : XF l E 2 yX1_copyCells cX1_copyCells 2 none [vA a, vA b] M (vU) (cpM M a b N) := by
  refine xp_start (plainFor_of_name (by decide)) rfl (Nat.le_of_ble_eq_true rfl) ?_
  intro Y F FR
  refine x_aload_n F dX1_copyCells_0 rfl ?_
  refine xj_iconst F dX1_copyCells_1 ?_
  refine x_aload_n F dX1_copyCells_2 rfl ?_
  refine xj_iconst F dX1_copyCells_3 ?_
  refine x_aload_n F dX1_copyCells_4 rfl ?_
  refine xj_alen F ha dX1_copyCells_5 (by decide) ?_
  refine x_aload_n F dX1_copyCells_6 rfl ?_
  refine xj_alen F hb dX1_copyCells_7 (by decide) ?_
  refine x_S2 F (m_J9_min_7cf53 (by first | assumption | omega | decide) (by first | assumption | omega | decide)) mlX1_44 msJ9_min_7cf53 dX1_copyCells_8 ⟨Nat.le_of_ble_eq_true rfl, Nat.le_of_ble_eq_true rfl⟩ ⟨Nat.zero_le _, Nat.zero_le _⟩ (Nat.le_of_ble_eq_true rfl) ?_
  refine xj_copy F mlX1_50 ha hb dX1_copyCells_11 (by omega) ⟨Nat.le_of_ble_eq_true rfl, Nat.le_of_ble_eq_true rfl⟩ (Nat.le_of_ble_eq_true rfl) ?_
  refine x_vret F FR dX1_copyCells_14 (Nat.le_refl _) (Nat.le_refl _) ?_
  exact ⟨rfl, by rw [show (min (N : Int) N).toNat = N by omega]⟩
set_option maxRecDepth 20000 in
theorem m_X1_changeSetting {l : Launch} {E : xE} {c : Nat} {z x : Int} {M : xM} (hC : isCh c) (hz : rg z) : XF l E 1 yX1_changeSetting cX1_changeSetting 3 none [vA c, vI (jI z), vI (jI x)] M (vU) (upI M c (if z = 0 then 4 else 5) (jI x)) := by
  refine xp_start (plainFor_of_name (by decide)) rfl (Nat.le_of_ble_eq_true rfl) ?_
  intro Y F FR
  refine x_iload_n F dX1_changeSetting_0 rfl ?_
  refine xj_if_ne (tgt := 12) F dX1_changeSetting_1 (by decide) (by omega) (fun h_1 => ?_) (fun h_1 => ?_)
  · refine x_aload_n F dX1_changeSetting_12 rfl ?_
    refine x_iload_n F dX1_changeSetting_13 rfl ?_
    refine x_puti F flX1_28 hC.1 dX1_changeSetting_14 (by decide) (by decide) rfl fw1_5 rfl rfl ?_
    refine x_vret F FR dX1_changeSetting_17 (Nat.le_refl _) (Nat.le_refl _) ?_
    first
      | exact ⟨rfl, by rw [if_pos (by omega)]⟩
      | exact ⟨rfl, by rw [if_neg (by omega)]⟩
  · refine x_aload_n F dX1_changeSetting_4 rfl ?_
    refine x_iload_n F dX1_changeSetting_5 rfl ?_
    refine x_puti F flX1_24 hC.1 dX1_changeSetting_6 (by decide) (by decide) rfl fw1_4 rfl rfl ?_
    refine x_goto (tgt := 17) F dX1_changeSetting_9 (by decide) ?_
    refine x_vret F FR dX1_changeSetting_17 (Nat.le_refl _) (Nat.le_refl _) ?_
    first
      | exact ⟨rfl, by rw [if_pos (by omega)]⟩
      | exact ⟨rfl, by rw [if_neg (by omega)]⟩
set_option maxRecDepth 20000 in
theorem m_X1_changeSize {l : Launch} {E : xE} {c : Nat} {r b : Int} {M : xM} (hC : isCh c) (hr : rg r) (hb : -1000 ≤ b ∧ b ≤ 1000) (hs : 0 ≤ szI M c r ∧ szI M c r ≤ 6) : XF l E 2 yX1_changeSize cX1_changeSize 4 none [vA c, vI (jI r), vI (jI b)] M (vU) (csM M c r b) := by
  refine xp_start (plainFor_of_name (by decide)) rfl (Nat.le_of_ble_eq_true rfl) ?_
  intro Y F FR
  refine x_aload_n F dX1_changeSize_0 rfl ?_
  refine x_iload_n F dX1_changeSize_1 rfl ?_
  refine x_V1 F (m_X1_sizeOf (by first | assumption | omega | decide) (by first | assumption | omega | decide)) mlX1_56 mvX1_sizeOf hC.1 dX1_changeSize_2 (by decide) rfl ⟨Nat.le_of_ble_eq_true rfl, Nat.le_of_ble_eq_true rfl⟩ ⟨Nat.zero_le _, Nat.zero_le _⟩ (Nat.le_of_ble_eq_true rfl) ?_
  have hf_1 := rg_szI M c r
  refine x_iload_n F dX1_changeSize_5 rfl ?_
  refine xj_iadd F dX1_changeSize_6 ?_
  refine x_istore_n F dX1_changeSize_7 (by decide) ?_
  refine x_iload_n F dX1_changeSize_8 rfl ?_
  refine xj_if_lt (tgt := 38) F dX1_changeSize_9 (by decide) (by omega) (fun h_2 => ?_) (fun h_2 => ?_)
  · refine x_vret F FR dX1_changeSize_38 (Nat.le_refl _) (Nat.le_refl _) ?_
    first
      | exact ⟨rfl, by rw [csM, if_pos (by omega)]⟩
      | exact ⟨rfl, by rw [csM, if_neg (by omega)]⟩
  · refine x_iload_n F dX1_changeSize_12 rfl ?_
    refine x_aload_n F dX1_changeSize_13 rfl ?_
    refine x_getc (v := c + 1) F flX1_9 hC.1 dX1_changeSize_14 (by decide) (by decide) rfl rfl ?_
    refine xj_alen F hC.2.1 dX1_changeSize_17 (by decide) ?_
    refine xj_icmp_ge (tgt := 38) F dX1_changeSize_18 (by decide) (by omega) (fun h_3 => ?_) (fun h_3 => ?_)
    · refine x_vret F FR dX1_changeSize_38 (Nat.le_refl _) (Nat.le_refl _) ?_
      first
        | exact ⟨rfl, by rw [csM, if_pos (by omega)]⟩
        | exact ⟨rfl, by rw [csM, if_neg (by omega)]⟩
    · refine x_iload_n F dX1_changeSize_21 rfl ?_
      refine xj_if_lt (tgt := 38) F dX1_changeSize_22 (by decide) (by omega) (fun h_4 => ?_) (fun h_4 => ?_)
      · refine x_vret F FR dX1_changeSize_38 (Nat.le_refl _) (Nat.le_refl _) ?_
        first
          | exact ⟨rfl, by rw [csM, if_pos (by omega)]⟩
          | exact ⟨rfl, by rw [csM, if_neg (by omega)]⟩
      · refine x_iload_n F dX1_changeSize_25 rfl ?_
        refine xj_bipush F dX1_changeSize_26 (by decide) ?_
        refine xj_icmp_gt (tgt := 38) F dX1_changeSize_28 (by decide) (by omega) (fun h_5 => ?_) (fun h_5 => ?_)
        · refine x_vret F FR dX1_changeSize_38 (Nat.le_refl _) (Nat.le_refl _) ?_
          first
            | exact ⟨rfl, by rw [csM, if_pos (by omega)]⟩
            | exact ⟨rfl, by rw [csM, if_neg (by omega)]⟩
        · refine x_aload_n F dX1_changeSize_31 rfl ?_
          refine x_getc (v := c + 1) F flX1_9 hC.1 dX1_changeSize_32 (by decide) (by decide) rfl rfl ?_
          refine x_iload_n F dX1_changeSize_35 rfl ?_
          refine x_iload_n F dX1_changeSize_36 rfl ?_
          refine xj_iast F hC.2.1 dX1_changeSize_37 (by omega) ?_
          refine x_vret F FR dX1_changeSize_38 (Nat.le_refl _) (Nat.le_refl _) ?_
          first
            | exact ⟨rfl, by rw [csM, if_pos (by omega)]⟩
            | exact ⟨rfl, by rw [csM, if_neg (by omega)]⟩
set_option maxRecDepth 20000 in
theorem m_X1_changeHeight {l : Launch} {E : xE} {c : Nat} {r p x : Int} {M : xM} (hC : isCh c) (hr : rg r) (hp : rg p) : XF l E 2 yX1_changeHeight cX1_changeHeight 4 none [vA c, vI (jI r), vI (jI p), vI (jI x)] M (vU) (wrI M (c + 3) 24 (spI r p) (jI x)) := by
  refine xp_start (plainFor_of_name (by decide)) rfl (Nat.le_of_ble_eq_true rfl) ?_
  intro Y F FR
  refine x_aload_n F dX1_changeHeight_0 rfl ?_
  refine x_getc (v := c + 3) F flX1_18 hC.1 dX1_changeHeight_1 (by decide) (by decide) rfl rfl ?_
  refine x_iload_n F dX1_changeHeight_4 rfl ?_
  refine x_iload_n F dX1_changeHeight_5 rfl ?_
  refine x_S2 F (m_X1_spotAt (by first | assumption | omega | decide) (by first | assumption | omega | decide)) mlX1_60 msX1_spotAt dX1_changeHeight_6 ⟨Nat.le_of_ble_eq_true rfl, Nat.le_of_ble_eq_true rfl⟩ ⟨Nat.zero_le _, Nat.zero_le _⟩ (Nat.le_of_ble_eq_true rfl) ?_
  have hf_1 := rg_spI r p
  refine x_iload_n F dX1_changeHeight_9 rfl ?_
  refine x_N3 F (m_X6_writeCell hC.2.2.2.1 (by decide) (by first | assumption | omega)) mnX1_74 msX6_writeCell dX1_changeHeight_10 ⟨Nat.le_of_ble_eq_true rfl, Nat.le_of_ble_eq_true rfl⟩ ⟨Nat.zero_le _, Nat.zero_le _⟩ (Nat.le_of_ble_eq_true rfl) ?_
  refine x_vret F FR dX1_changeHeight_13 (Nat.le_refl _) (Nat.le_refl _) ?_
  exact ⟨rfl, rfl⟩
set_option maxRecDepth 20000 in
theorem m_X1_swapCells {l : Launch} {E : xE} {a : Nat} {s t : Int} {M : xM} (ha : xk a = (8, 24)) (hs : rg s) (ht : rg t) : XF l E 2 yX1_swapCells cX1_swapCells 4 none [vA a, vI (jI s), vI (jI t)] M (vU) (swC M a s t) := by
  refine xp_start (plainFor_of_name (by decide)) rfl (Nat.le_of_ble_eq_true rfl) ?_
  intro Y F FR
  refine x_aload_n F dX1_swapCells_0 rfl ?_
  refine x_iload_n F dX1_swapCells_1 rfl ?_
  refine x_N2 F (m_X6_readCell (by assumption) (by decide) (by first | assumption | omega)) mnX1_63 msX6_readCell dX1_swapCells_2 ⟨Nat.le_of_ble_eq_true rfl, Nat.le_of_ble_eq_true rfl⟩ ⟨Nat.zero_le _, Nat.zero_le _⟩ (Nat.le_of_ble_eq_true rfl) ?_
  have hf_1 := (rg_rdI (M.1 (a)) 24 s)
  refine x_istore_n F dX1_swapCells_5 (by decide) ?_
  refine x_aload_n F dX1_swapCells_6 rfl ?_
  refine x_iload_n F dX1_swapCells_7 rfl ?_
  refine x_aload_n F dX1_swapCells_8 rfl ?_
  refine x_iload_n F dX1_swapCells_9 rfl ?_
  refine x_N2 F (m_X6_readCell (by assumption) (by decide) (by first | assumption | omega)) mnX1_63 msX6_readCell dX1_swapCells_10 ⟨Nat.le_of_ble_eq_true rfl, Nat.le_of_ble_eq_true rfl⟩ ⟨Nat.zero_le _, Nat.zero_le _⟩ (Nat.le_of_ble_eq_true rfl) ?_
  have hf_2 := (rg_rdI (M.1 (a)) 24 t)
  refine x_N3 F (m_X6_writeCell (by assumption) (by decide) (by first | assumption | omega)) mnX1_74 msX6_writeCell dX1_swapCells_13 ⟨Nat.le_of_ble_eq_true rfl, Nat.le_of_ble_eq_true rfl⟩ ⟨Nat.zero_le _, Nat.zero_le _⟩ (Nat.le_of_ble_eq_true rfl) ?_
  refine x_aload_n F dX1_swapCells_16 rfl ?_
  refine x_iload_n F dX1_swapCells_17 rfl ?_
  refine x_iload_n F dX1_swapCells_18 rfl ?_
  refine x_N3 F (m_X6_writeCell (by assumption) (by decide) (by first | assumption | omega)) mnX1_74 msX6_writeCell dX1_swapCells_19 ⟨Nat.le_of_ble_eq_true rfl, Nat.le_of_ble_eq_true rfl⟩ ⟨Nat.zero_le _, Nat.zero_le _⟩ (Nat.le_of_ble_eq_true rfl) ?_
  refine x_vret F FR dX1_swapCells_22 (Nat.le_refl _) (Nat.le_refl _) ?_
  exact ⟨rfl, rfl⟩
set_option maxRecDepth 20000 in
theorem m_X1_swapPlaces {l : Launch} {E : xE} {c : Nat} {r p r2 p2 : Int} {M : xM} (hC : isCh c) (hr : rg r) (hp : rg p) (hr2 : rg r2) (hp2 : rg p2) : XF l E 3 yX1_swapPlaces cX1_swapPlaces 7 none [vA c, vI (jI r), vI (jI p), vI (jI r2), vI (jI p2)] M (vU) (swP M c (spI r p) (spI r2 p2)) := by
  refine xp_start (plainFor_of_name (by decide)) rfl (Nat.le_of_ble_eq_true rfl) ?_
  intro Y F FR
  refine x_iload_n F dX1_swapPlaces_0 rfl ?_
  refine x_iload_n F dX1_swapPlaces_1 rfl ?_
  refine x_S2 F (m_X1_spotAt (by first | assumption | omega | decide) (by first | assumption | omega | decide)) mlX1_60 msX1_spotAt dX1_swapPlaces_2 ⟨Nat.le_of_ble_eq_true rfl, Nat.le_of_ble_eq_true rfl⟩ ⟨Nat.zero_le _, Nat.zero_le _⟩ (Nat.le_of_ble_eq_true rfl) ?_
  have hf_1 := rg_spI r p
  refine x_istore F dX1_swapPlaces_5 (by decide) ?_
  refine x_iload_n F dX1_swapPlaces_7 rfl ?_
  refine x_iload F dX1_swapPlaces_8 rfl ?_
  refine x_S2 F (m_X1_spotAt (by first | assumption | omega | decide) (by first | assumption | omega | decide)) mlX1_60 msX1_spotAt dX1_swapPlaces_10 ⟨Nat.le_of_ble_eq_true rfl, Nat.le_of_ble_eq_true rfl⟩ ⟨Nat.zero_le _, Nat.zero_le _⟩ (Nat.le_of_ble_eq_true rfl) ?_
  have hf_2 := rg_spI r2 p2
  refine x_istore F dX1_swapPlaces_13 (by decide) ?_
  refine x_aload_n F dX1_swapPlaces_15 rfl ?_
  refine x_getc (v := c + 2) F flX1_15 hC.1 dX1_swapPlaces_16 (by decide) (by decide) rfl rfl ?_
  refine x_iload F dX1_swapPlaces_19 rfl ?_
  refine x_iload F dX1_swapPlaces_21 rfl ?_
  refine x_S3 F (m_X1_swapCells hC.2.2.1 (rg_spI _ _) (rg_spI _ _)) mlX1_85 msX1_swapCells dX1_swapPlaces_23 ⟨Nat.le_of_ble_eq_true rfl, Nat.le_of_ble_eq_true rfl⟩ ⟨Nat.zero_le _, Nat.zero_le _⟩ (Nat.le_of_ble_eq_true rfl) ?_
  refine x_aload_n F dX1_swapPlaces_26 rfl ?_
  refine x_getc (v := c + 3) F flX1_18 hC.1 dX1_swapPlaces_27 (by decide) (by decide) rfl rfl ?_
  refine x_iload F dX1_swapPlaces_30 rfl ?_
  refine x_iload F dX1_swapPlaces_32 rfl ?_
  refine x_S3 F (m_X1_swapCells hC.2.2.2.1 (rg_spI _ _) (rg_spI _ _)) mlX1_85 msX1_swapCells dX1_swapPlaces_34 ⟨Nat.le_of_ble_eq_true rfl, Nat.le_of_ble_eq_true rfl⟩ ⟨Nat.zero_le _, Nat.zero_le _⟩ (Nat.le_of_ble_eq_true rfl) ?_
  refine x_aload_n F dX1_swapPlaces_37 rfl ?_
  refine x_getc (v := c + 4) F flX1_21 hC.1 dX1_swapPlaces_38 (by decide) (by decide) rfl rfl ?_
  refine x_iload F dX1_swapPlaces_41 rfl ?_
  refine x_iload F dX1_swapPlaces_43 rfl ?_
  refine x_S3 F (m_X1_swapCells hC.2.2.2.2 (rg_spI _ _) (rg_spI _ _)) mlX1_85 msX1_swapCells dX1_swapPlaces_45 ⟨Nat.le_of_ble_eq_true rfl, Nat.le_of_ble_eq_true rfl⟩ ⟨Nat.zero_le _, Nat.zero_le _⟩ (Nat.le_of_ble_eq_true rfl) ?_
  refine x_vret F FR dX1_swapPlaces_48 (Nat.le_refl _) (Nat.le_refl _) ?_
  exact ⟨rfl, rfl⟩
set_option maxRecDepth 20000 in
theorem m_X1_swapAndCount {l : Launch} {E : xE} {c : Nat} {r p r2 p2 : Int} {M : xM} (hC : isCh c) (hr : rg r) (hp : rg p) (hr2 : rg r2) (hp2 : rg p2) : XF l E 4 yX1_swapAndCount cX1_swapAndCount 5 none [vA c, vI (jI r), vI (jI p), vI (jI r2), vI (jI p2)] M (vU) (upI (swP M c (spI r p) (spI r2 p2)) c 8 (jI (((swP M c (spI r p) (spI r2 p2)).1 c 8).toInt + 1))) := by
  refine xp_start (plainFor_of_name (by decide)) rfl (Nat.le_of_ble_eq_true rfl) ?_
  intro Y F FR
  refine x_aload_n F dX1_swapAndCount_0 rfl ?_
  refine x_iload_n F dX1_swapAndCount_1 rfl ?_
  refine x_iload_n F dX1_swapAndCount_2 rfl ?_
  refine x_iload_n F dX1_swapAndCount_3 rfl ?_
  refine x_iload F dX1_swapAndCount_4 rfl ?_
  refine x_V4 F (m_X1_swapPlaces (by first | assumption | omega | decide) (by first | assumption | omega | decide) (by first | assumption | omega | decide) (by first | assumption | omega | decide) (by first | assumption | omega | decide)) mlX1_81 mvX1_swapPlaces hC.1 dX1_swapAndCount_6 (by decide) rfl ⟨Nat.le_of_ble_eq_true rfl, Nat.le_of_ble_eq_true rfl⟩ ⟨Nat.zero_le _, Nat.zero_le _⟩ (Nat.le_of_ble_eq_true rfl) ?_
  refine x_aload_n F dX1_swapAndCount_9 rfl ?_
  refine x_dup F dX1_swapAndCount_10 rfl ?_
  refine xj_geti F flX1_41 hC.1 dX1_swapAndCount_11 (by decide) (by decide) rfl (fun hg_1 => ?_)
  refine xj_iconst F dX1_swapAndCount_14 ?_
  refine xj_iadd F dX1_swapAndCount_15 ?_
  refine x_puti F flX1_41 hC.1 dX1_swapAndCount_16 (by decide) (by decide) rfl fw1_8 rfl rfl ?_
  refine x_vret F FR dX1_swapAndCount_19 (Nat.le_refl _) (Nat.le_refl _) ?_
  exact ⟨rfl, rfl⟩
set_option maxRecDepth 20000 in
theorem m_X1_arrive {l : Launch} {E : xE} {c : Nat} {r h v : Int} {M : xM} (hC : isCh c) (hS : ∀ r : Int, 0 ≤ szI M c r ∧ szI M c r ≤ 6) (hr : rg r) : XF l E 3 yX1_arrive cX1_arrive 7 (some FieldType.int) [vA c, vI (jI r), vI (jI h), vI (jI v)] M (vI (jI (M.1 c 6).toInt)) (arM M c r h v) := by
  refine xp_start (plainFor_of_name (by decide)) rfl (Nat.le_of_ble_eq_true rfl) ?_
  intro Y F FR
  refine x_aload_n F dX1_arrive_0 rfl ?_
  refine xj_geti F flX1_35 hC.1 dX1_arrive_1 (by decide) (by decide) rfl (fun hg_1 => ?_)
  refine x_istore F dX1_arrive_4 (by decide) ?_
  refine x_aload_n F dX1_arrive_6 rfl ?_
  refine x_iload_n F dX1_arrive_7 rfl ?_
  refine x_V1 F (m_X1_sizeOf (by first | assumption | omega | decide) (by first | assumption | omega | decide)) mlX1_56 mvX1_sizeOf hC.1 dX1_arrive_8 (by decide) rfl ⟨Nat.le_of_ble_eq_true rfl, Nat.le_of_ble_eq_true rfl⟩ ⟨Nat.zero_le _, Nat.zero_le _⟩ (Nat.le_of_ble_eq_true rfl) ?_
  have hf_2 := rg_szI M c r
  refine x_istore F dX1_arrive_11 (by decide) ?_
  refine x_aload_n F dX1_arrive_13 rfl ?_
  refine x_dup F dX1_arrive_14 rfl ?_
  refine xj_geti F flX1_35 hC.1 dX1_arrive_15 (by decide) (by decide) rfl (fun hg_3 => ?_)
  refine xj_iconst F dX1_arrive_18 ?_
  refine xj_iadd F dX1_arrive_19 ?_
  refine x_puti F flX1_35 hC.1 dX1_arrive_20 (by decide) (by decide) rfl fw1_6 rfl rfl ?_
  refine x_aload_n F dX1_arrive_23 rfl ?_
  refine x_iload_n F dX1_arrive_24 rfl ?_
  refine xj_iconst F dX1_arrive_25 ?_
  refine x_V2 F (m_X1_changeSize hC (by first | assumption | omega) (by omega) (by rw [szI_of (upI_row (by omega))]; exact hS r)) mlX1_70 mvX1_changeSize hC.1 dX1_arrive_26 (by decide) rfl ⟨Nat.le_of_ble_eq_true rfl, Nat.le_of_ble_eq_true rfl⟩ ⟨Nat.zero_le _, Nat.zero_le _⟩ (Nat.le_of_ble_eq_true rfl) ?_
  refine x_iload_n F dX1_arrive_29 rfl ?_
  refine x_iload F dX1_arrive_30 rfl ?_
  refine x_S2 F (m_X1_spotAt (by first | assumption | omega | decide) (by first | assumption | omega | decide)) mlX1_60 msX1_spotAt dX1_arrive_32 ⟨Nat.le_of_ble_eq_true rfl, Nat.le_of_ble_eq_true rfl⟩ ⟨Nat.zero_le _, Nat.zero_le _⟩ (Nat.le_of_ble_eq_true rfl) ?_
  have hf_4 := rg_spI r (szI M c r)
  refine x_istore F dX1_arrive_35 (by decide) ?_
  refine x_aload_n F dX1_arrive_37 rfl ?_
  refine x_getc (v := c + 2) F flX1_15 hC.1 dX1_arrive_38 (by decide) (by decide) rfl rfl ?_
  refine x_iload F dX1_arrive_41 rfl ?_
  refine x_iload F dX1_arrive_43 rfl ?_
  refine x_N3 F (m_X6_writeCell hC.2.2.1 (by decide) (by first | assumption | omega)) mnX1_74 msX6_writeCell dX1_arrive_45 ⟨Nat.le_of_ble_eq_true rfl, Nat.le_of_ble_eq_true rfl⟩ ⟨Nat.zero_le _, Nat.zero_le _⟩ (Nat.le_of_ble_eq_true rfl) ?_
  refine x_aload_n F dX1_arrive_48 rfl ?_
  refine x_getc (v := c + 3) F flX1_18 hC.1 dX1_arrive_49 (by decide) (by decide) rfl rfl ?_
  refine x_iload F dX1_arrive_52 rfl ?_
  refine x_iload_n F dX1_arrive_54 rfl ?_
  refine x_N3 F (m_X6_writeCell hC.2.2.2.1 (by decide) (by first | assumption | omega)) mnX1_74 msX6_writeCell dX1_arrive_55 ⟨Nat.le_of_ble_eq_true rfl, Nat.le_of_ble_eq_true rfl⟩ ⟨Nat.zero_le _, Nat.zero_le _⟩ (Nat.le_of_ble_eq_true rfl) ?_
  refine x_aload_n F dX1_arrive_58 rfl ?_
  refine x_getc (v := c + 4) F flX1_21 hC.1 dX1_arrive_59 (by decide) (by decide) rfl rfl ?_
  refine x_iload F dX1_arrive_62 rfl ?_
  refine x_iload_n F dX1_arrive_64 rfl ?_
  refine x_N3 F (m_X6_writeCell hC.2.2.2.2 (by decide) (by first | assumption | omega)) mnX1_74 msX6_writeCell dX1_arrive_65 ⟨Nat.le_of_ble_eq_true rfl, Nat.le_of_ble_eq_true rfl⟩ ⟨Nat.zero_le _, Nat.zero_le _⟩ (Nat.le_of_ble_eq_true rfl) ?_
  refine x_iload F dX1_arrive_68 rfl ?_
  refine x_iret F FR dX1_arrive_70 rfl (Nat.le_refl _) (Nat.le_refl _) ?_
  exact ⟨rfl, rfl⟩
set_option maxRecDepth 20000 in
theorem L_X1_moveToRightEnd {l : Launch} {E : xE} {c : Nat} {r p : Int} {M : xM} (hC : isCh c) (hS : ∀ r : Int, 0 ≤ szI M c r ∧ szI M c r ≤ 6) (hr : rg r) (hp : -1000 ≤ p ∧ p ≤ 1000) {Y : xY} (F : xFix E (xA E) Y cX1_moveToRightEnd yX1_moveToRightEnd.cls 4) (FR : xRet E Y none 0 0 (fun r' M'' => r' = vU ∧ M'' = mvM M c r p (szI M c r - 1 - p).toNat) (fun _ _ => False)) : ∀ (k : Nat) (i : Int), p ≤ i → i ≤ max p (szI M c r - 1) → (szI M c r - i).toNat < k → WP l E (xRm 4 0 0) (xA E) Y 0 0 2 [vA c, vI (jI r), vI (jI p), vI (jI i)] [] (mvM M c r p (i - p).toNat) := by
  intro k
  induction k with
  | zero => intro i hi hb hk; exact absurd hk (Nat.not_lt_zero _)
  | succ k ih =>
    intro i hi hb hk
    have hs := hS r
    have hz : szI (mvM M c r p (i - p).toNat) c r = szI M c r := szI_mvM _ _ _ _ _ _
    refine x_iload_n F dX1_moveToRightEnd_2 rfl ?_
    refine x_aload_n F dX1_moveToRightEnd_3 rfl ?_
    refine x_iload_n F dX1_moveToRightEnd_4 rfl ?_
    refine x_V1 F (m_X1_sizeOf (by first | assumption | omega | decide) (by first | assumption | omega | decide)) mlX1_56 mvX1_sizeOf hC.1 dX1_moveToRightEnd_5 (by decide) rfl ⟨Nat.le_of_ble_eq_true rfl, Nat.le_of_ble_eq_true rfl⟩ ⟨Nat.zero_le _, Nat.zero_le _⟩ (Nat.le_of_ble_eq_true rfl) ?_
    have hf_1 := rg_szI M c r
    refine xj_iconst F dX1_moveToRightEnd_8 ?_
    refine xj_isub F dX1_moveToRightEnd_9 ?_
    refine xj_icmp_ge (tgt := 29) F dX1_moveToRightEnd_10 (by decide) (by omega) (fun h_2 => ?_) (fun h_2 => ?_)
    · refine x_vret F FR dX1_moveToRightEnd_29 (Nat.le_refl _) (Nat.le_refl _) ?_
      exact ⟨rfl, by congr 1; omega⟩
    · refine x_aload_n F dX1_moveToRightEnd_13 rfl ?_
      refine x_iload_n F dX1_moveToRightEnd_14 rfl ?_
      refine x_iload_n F dX1_moveToRightEnd_15 rfl ?_
      refine x_iload_n F dX1_moveToRightEnd_16 rfl ?_
      refine x_iload_n F dX1_moveToRightEnd_17 rfl ?_
      refine xj_iconst F dX1_moveToRightEnd_18 ?_
      refine xj_iadd F dX1_moveToRightEnd_19 ?_
      refine x_V4 F (m_X1_swapPlaces (by first | assumption | omega | decide) (by first | assumption | omega | decide) (by first | assumption | omega | decide) (by first | assumption | omega | decide) (by first | assumption | omega | decide)) mlX1_81 mvX1_swapPlaces hC.1 dX1_moveToRightEnd_20 (by decide) rfl ⟨Nat.le_of_ble_eq_true rfl, Nat.le_of_ble_eq_true rfl⟩ ⟨Nat.zero_le _, Nat.zero_le _⟩ (Nat.le_of_ble_eq_true rfl) ?_
      refine xj_iinc F dX1_moveToRightEnd_23 rfl ?_
      refine x_goto (tgt := 2) F dX1_moveToRightEnd_26 (by decide) ?_
      have e : (i + 1 - p).toNat = (i - p).toNat + 1 := by omega
      refine ih (i + 1) (by omega) (by omega) (by omega) |> fun g => ?_
      rw [e] at g
      simp only [mvM] at g
      rw [show p + (((i - p).toNat : Nat) : Int) = i by omega] at g
      exact g
set_option maxRecDepth 20000 in
theorem m_X1_moveToRightEnd {l : Launch} {E : xE} {c : Nat} {r p : Int} {M : xM} (hC : isCh c) (hS : ∀ r : Int, 0 ≤ szI M c r ∧ szI M c r ≤ 6) (hr : rg r) (hp : -1000 ≤ p ∧ p ≤ 1000) : XF l E 4 yX1_moveToRightEnd cX1_moveToRightEnd 4 none [vA c, vI (jI r), vI (jI p)] M (vU) (mvM M c r p (szI M c r - 1 - p).toNat) := by
  refine xp_start (plainFor_of_name (by decide)) rfl (Nat.le_of_ble_eq_true rfl) ?_
  intro Y F FR
  refine x_iload_n F dX1_moveToRightEnd_0 rfl ?_
  refine x_istore_n F dX1_moveToRightEnd_1 (by decide) ?_
  have g := L_X1_moveToRightEnd (l := l) hC hS hr hp F FR _ p (by omega) (by omega) (Nat.lt_succ_self _)
  rw [show (p - p).toNat = 0 by omega] at g
  exact g
set_option maxRecDepth 20000 in
theorem m_X1_dismiss {l : Launch} {E : xE} {c : Nat} {r p : Int} {M : xM} (hC : isCh c) (hS : ∀ r : Int, 0 ≤ szI M c r ∧ szI M c r ≤ 6) (hr : rg r) (hp : -1000 ≤ p ∧ p ≤ 1000) : XF l E 5 yX1_dismiss cX1_dismiss 4 (some FieldType.int) [vA c, vI (jI r), vI (jI p)] M (vI (jI (rdI (M.1 (c + 2)) 24 (spI r p)))) (upI (dsM M c r p) c 7 (jI (((dsM M c r p).1 c 7).toInt + 1))) := by
  refine xp_start (plainFor_of_name (by decide)) rfl (Nat.le_of_ble_eq_true rfl) ?_
  intro Y F FR
  refine x_aload_n F dX1_dismiss_0 rfl ?_
  refine x_iload_n F dX1_dismiss_1 rfl ?_
  refine x_iload_n F dX1_dismiss_2 rfl ?_
  refine x_V2 F (m_X1_numberAt (by first | assumption | omega | decide) (by first | assumption | omega | decide) (by first | assumption | omega | decide)) mlX1_67 mvX1_numberAt hC.1 dX1_dismiss_3 (by decide) rfl ⟨Nat.le_of_ble_eq_true rfl, Nat.le_of_ble_eq_true rfl⟩ ⟨Nat.zero_le _, Nat.zero_le _⟩ (Nat.le_of_ble_eq_true rfl) ?_
  have hf_1 := rg_rdI (M.1 (c + 2)) 24 (spI r p)
  refine x_istore_n F dX1_dismiss_6 (by decide) ?_
  refine x_aload_n F dX1_dismiss_7 rfl ?_
  refine x_iload_n F dX1_dismiss_8 rfl ?_
  refine x_iload_n F dX1_dismiss_9 rfl ?_
  refine x_V2 F (m_X1_moveToRightEnd (by first | assumption | omega | decide) (by first | assumption | omega | decide) (by first | assumption | omega | decide) (by first | assumption | omega | decide)) mlX1_78 mvX1_moveToRightEnd hC.1 dX1_dismiss_10 (by decide) rfl ⟨Nat.le_of_ble_eq_true rfl, Nat.le_of_ble_eq_true rfl⟩ ⟨Nat.zero_le _, Nat.zero_le _⟩ (Nat.le_of_ble_eq_true rfl) ?_
  refine x_aload_n F dX1_dismiss_13 rfl ?_
  refine x_iload_n F dX1_dismiss_14 rfl ?_
  refine xj_iconst F dX1_dismiss_15 ?_
  refine x_V2 F (m_X1_changeSize hC (by first | assumption | omega) (by omega) (by rw [szI_mvM]; exact hS r)) mlX1_70 mvX1_changeSize hC.1 dX1_dismiss_16 (by decide) rfl ⟨Nat.le_of_ble_eq_true rfl, Nat.le_of_ble_eq_true rfl⟩ ⟨Nat.zero_le _, Nat.zero_le _⟩ (Nat.le_of_ble_eq_true rfl) ?_
  refine x_aload_n F dX1_dismiss_19 rfl ?_
  refine x_dup F dX1_dismiss_20 rfl ?_
  refine xj_geti F flX1_38 hC.1 dX1_dismiss_21 (by decide) (by decide) rfl (fun hg_2 => ?_)
  refine xj_iconst F dX1_dismiss_24 ?_
  refine xj_iadd F dX1_dismiss_25 ?_
  refine x_puti F flX1_38 hC.1 dX1_dismiss_26 (by decide) (by decide) rfl fw1_7 rfl rfl ?_
  refine x_iload_n F dX1_dismiss_29 rfl ?_
  refine x_iret F FR dX1_dismiss_30 rfl (Nat.le_refl _) (Nat.le_refl _) ?_
  exact ⟨rfl, rfl⟩
theorem szI_csM_ne {M : xM} {c : Nat} {r t b : Int} (h : r ≠ t) (hr : 0 ≤ r ∧ r < 4) : szI (csM M c t b) c r = szI M c r := by
  unfold csM
  split
  · unfold szI
    rw [if_pos hr, if_pos hr, upI_1, if_neg (by omega)]
  · rfl
set_option maxRecDepth 20000 in
theorem m_X1_moveOver {l : Launch} {E : xE} {c : Nat} {r p t : Int} {M : xM} (hC : isCh c) (hS : ∀ r : Int, 0 ≤ szI M c r ∧ szI M c r ≤ 6) (hr : 0 ≤ r ∧ r < 4) (hp : -1000 ≤ p ∧ p ≤ 1000) (ht : 0 ≤ t ∧ t < 4) (hrt : r ≠ t) : XF l E 5 yX1_moveOver cX1_moveOver 5 (some FieldType.int) [vA c, vI (jI r), vI (jI p), vI (jI t)] M (vI (jI (szI M c t))) (moM M c r p t) := by
  refine xp_start (plainFor_of_name (by decide)) rfl (Nat.le_of_ble_eq_true rfl) ?_
  intro Y F FR
  refine x_aload_n F dX1_moveOver_0 rfl ?_
  refine x_iload_n F dX1_moveOver_1 rfl ?_
  refine x_iload_n F dX1_moveOver_2 rfl ?_
  refine x_V2 F (m_X1_moveToRightEnd (by first | assumption | omega | decide) (by first | assumption | omega | decide) (by first | assumption | omega | decide) (by first | assumption | omega | decide)) mlX1_78 mvX1_moveToRightEnd hC.1 dX1_moveOver_3 (by decide) rfl ⟨Nat.le_of_ble_eq_true rfl, Nat.le_of_ble_eq_true rfl⟩ ⟨Nat.zero_le _, Nat.zero_le _⟩ (Nat.le_of_ble_eq_true rfl) ?_
  refine x_aload_n F dX1_moveOver_6 rfl ?_
  refine x_iload_n F dX1_moveOver_7 rfl ?_
  refine x_V1 F (m_X1_sizeOf (by first | assumption | omega | decide) (by first | assumption | omega | decide)) mlX1_56 mvX1_sizeOf hC.1 dX1_moveOver_8 (by decide) rfl ⟨Nat.le_of_ble_eq_true rfl, Nat.le_of_ble_eq_true rfl⟩ ⟨Nat.zero_le _, Nat.zero_le _⟩ (Nat.le_of_ble_eq_true rfl) ?_
  have hf_1 := rg_szI (mvM M c r p (szI M c r - 1 - p).toNat) c t
  refine x_istore F dX1_moveOver_11 (by decide) ?_
  have hs1 : 0 ≤ szI (mvM M c r p (szI M c r - 1 - p).toNat) c t ∧ szI (mvM M c r p (szI M c r - 1 - p).toNat) c t ≤ 6 := by rw [szI_mvM]; exact hS t
  have hs2 : szI (csM (mvM M c r p (szI M c r - 1 - p).toNat) c t 1) c r = szI M c r := by rw [szI_csM_ne (by omega) hr, szI_mvM]
  have hs3 := hS r
  refine x_aload_n F dX1_moveOver_13 rfl ?_
  refine x_iload_n F dX1_moveOver_14 rfl ?_
  refine xj_iconst F dX1_moveOver_15 ?_
  refine x_V2 F (m_X1_changeSize hC (by omega) (by omega) hs1) mlX1_70 mvX1_changeSize hC.1 dX1_moveOver_16 (by decide) rfl ⟨Nat.le_of_ble_eq_true rfl, Nat.le_of_ble_eq_true rfl⟩ ⟨Nat.zero_le _, Nat.zero_le _⟩ (Nat.le_of_ble_eq_true rfl) ?_
  refine x_aload_n F dX1_moveOver_19 rfl ?_
  refine x_iload_n F dX1_moveOver_20 rfl ?_
  refine x_aload_n F dX1_moveOver_21 rfl ?_
  refine x_iload_n F dX1_moveOver_22 rfl ?_
  refine x_V1 F (m_X1_sizeOf (by first | assumption | omega | decide) (by first | assumption | omega | decide)) mlX1_56 mvX1_sizeOf hC.1 dX1_moveOver_23 (by decide) rfl ⟨Nat.le_of_ble_eq_true rfl, Nat.le_of_ble_eq_true rfl⟩ ⟨Nat.zero_le _, Nat.zero_le _⟩ (Nat.le_of_ble_eq_true rfl) ?_
  have hf_2 := rg_szI (csM (mvM M c r p (szI M c r - 1 - p).toNat) c t 1) c r
  refine xj_iconst F dX1_moveOver_26 ?_
  refine xj_isub F dX1_moveOver_27 ?_
  refine x_iload_n F dX1_moveOver_28 rfl ?_
  refine x_iload F dX1_moveOver_29 rfl ?_
  refine x_V4 F (m_X1_swapPlaces (by first | assumption | omega | decide) (by first | assumption | omega | decide) (by first | assumption | omega | decide) (by first | assumption | omega | decide) (by first | assumption | omega | decide)) mlX1_81 mvX1_swapPlaces hC.1 dX1_moveOver_31 (by decide) rfl ⟨Nat.le_of_ble_eq_true rfl, Nat.le_of_ble_eq_true rfl⟩ ⟨Nat.zero_le _, Nat.zero_le _⟩ (Nat.le_of_ble_eq_true rfl) ?_
  refine x_aload_n F dX1_moveOver_34 rfl ?_
  refine x_iload_n F dX1_moveOver_35 rfl ?_
  refine xj_iconst F dX1_moveOver_36 ?_
  refine x_V2 F (m_X1_changeSize hC (by omega) (by omega) (by rw [szI_swP, hs2]; exact hS r)) mlX1_70 mvX1_changeSize hC.1 dX1_moveOver_37 (by decide) rfl ⟨Nat.le_of_ble_eq_true rfl, Nat.le_of_ble_eq_true rfl⟩ ⟨Nat.zero_le _, Nat.zero_le _⟩ (Nat.le_of_ble_eq_true rfl) ?_
  refine x_iload F dX1_moveOver_40 rfl ?_
  refine x_iret F FR dX1_moveOver_42 rfl (Nat.le_refl _) (Nat.le_refl _) ?_
  exact ⟨vj (szI_mvM _ _ _ _ _ _), rfl⟩
set_option maxRecDepth 20000 in
theorem L_X1_turnRound {l : Launch} {E : xE} {c : Nat} {r : Int} {M : xM} (hC : isCh c) (hS : ∀ r : Int, 0 ≤ szI M c r ∧ szI M c r ≤ 6) (hr : rg r) {Y : xY} (F : xFix E (xA E) Y cX1_turnRound yX1_turnRound.cls 4) (FR : xRet E Y none 0 0 (fun r' M'' => r' = vU ∧ M'' = trM M c r (szI M c r / 2).toNat) (fun _ _ => False)) : ∀ (k : Nat) (i : Int), 0 ≤ i → 2 * i ≤ szI M c r → (szI M c r - i).toNat < k → WP l E (xRm 4 0 0) (xA E) Y 0 0 10 [vA c, vI (jI r), vI (jI (szI M c r - 1)), vI (jI i)] [] (trM M c r i.toNat) := by
  intro k
  induction k with
  | zero => intro i hi hb hk; exact absurd hk (Nat.not_lt_zero _)
  | succ k ih =>
    intro i hi hb hk
    have hs := hS r
    refine x_iload_n F dX1_turnRound_10 rfl ?_
    refine x_iload_n F dX1_turnRound_11 rfl ?_
    refine x_iload_n F dX1_turnRound_12 rfl ?_
    refine xj_isub F dX1_turnRound_13 ?_
    refine xj_icmp_ge (tgt := 33) F dX1_turnRound_14 (by decide) (by omega) (fun h_1 => ?_) (fun h_1 => ?_)
    · refine x_vret F FR dX1_turnRound_33 (Nat.le_refl _) (Nat.le_refl _) ?_
      exact ⟨rfl, by congr 1; omega⟩
    · refine x_aload_n F dX1_turnRound_17 rfl ?_
      refine x_iload_n F dX1_turnRound_18 rfl ?_
      refine x_iload_n F dX1_turnRound_19 rfl ?_
      refine x_iload_n F dX1_turnRound_20 rfl ?_
      refine x_iload_n F dX1_turnRound_21 rfl ?_
      refine x_iload_n F dX1_turnRound_22 rfl ?_
      refine xj_isub F dX1_turnRound_23 ?_
      refine x_V4 F (m_X1_swapPlaces (by first | assumption | omega | decide) (by first | assumption | omega | decide) (by first | assumption | omega | decide) (by first | assumption | omega | decide) (by first | assumption | omega | decide)) mlX1_81 mvX1_swapPlaces hC.1 dX1_turnRound_24 (by decide) rfl ⟨Nat.le_of_ble_eq_true rfl, Nat.le_of_ble_eq_true rfl⟩ ⟨Nat.zero_le _, Nat.zero_le _⟩ (Nat.le_of_ble_eq_true rfl) ?_
      refine xj_iinc F dX1_turnRound_27 rfl ?_
      refine x_goto (tgt := 10) F dX1_turnRound_30 (by decide) ?_
      have e : (i + 1).toNat = i.toNat + 1 := by omega
      refine ih (i + 1) (by omega) (by omega) (by omega) |> fun g => ?_
      rw [e] at g
      simp only [trM] at g
      rw [show ((i.toNat : Nat) : Int) = i by omega] at g
      exact g
set_option maxRecDepth 20000 in
theorem m_X1_turnRound {l : Launch} {E : xE} {c : Nat} {r : Int} {M : xM} (hC : isCh c) (hS : ∀ r : Int, 0 ≤ szI M c r ∧ szI M c r ≤ 6) (hr : rg r) : XF l E 4 yX1_turnRound cX1_turnRound 4 none [vA c, vI (jI r)] M (vU) (trM M c r (szI M c r / 2).toNat) := by
  refine xp_start (plainFor_of_name (by decide)) rfl (Nat.le_of_ble_eq_true rfl) ?_
  intro Y F FR
  refine x_aload_n F dX1_turnRound_0 rfl ?_
  refine x_iload_n F dX1_turnRound_1 rfl ?_
  refine x_V1 F (m_X1_sizeOf (by first | assumption | omega | decide) (by first | assumption | omega | decide)) mlX1_56 mvX1_sizeOf hC.1 dX1_turnRound_2 (by decide) rfl ⟨Nat.le_of_ble_eq_true rfl, Nat.le_of_ble_eq_true rfl⟩ ⟨Nat.zero_le _, Nat.zero_le _⟩ (Nat.le_of_ble_eq_true rfl) ?_
  have hf_1 := rg_szI M c r
  have hf_2 := hS r
  refine xj_iconst F dX1_turnRound_5 ?_
  refine xj_isub F dX1_turnRound_6 ?_
  refine x_istore_n F dX1_turnRound_7 (by decide) ?_
  refine xj_iconst F dX1_turnRound_8 ?_
  refine x_istore_n F dX1_turnRound_9 (by decide) ?_
  exact L_X1_turnRound hC hS hr F FR _ 0 (by omega) (by omega) (Nat.lt_succ_self _)
set_option maxRecDepth 20000 in
theorem m_X1_rankAt {l : Launch} {E : xE} {c : Nat} {r p z : Int} {M : xM} (hC : isCh c) (hr : rg r) (hp : rg p) (hz : rg z) : XF l E 3 yX1_rankAt cX1_rankAt 4 (some FieldType.int) [vA c, vI (jI r), vI (jI p), vI (jI z)] M (vI (jI (rkI M c r p z))) (M) := by
  refine xp_start (plainFor_of_name (by decide)) rfl (Nat.le_of_ble_eq_true rfl) ?_
  intro Y F FR
  refine x_iload_n F dX1_rankAt_0 rfl ?_
  by_cases h_1 : z = 0
  · refine xj_look (off := 27) (tgt := 28) F dX1_rankAt_1 rfl (by rw [h_1]; rfl) (by decide) (by omega) ?_
    refine x_aload_n F dX1_rankAt_28 rfl ?_
    refine x_iload_n F dX1_rankAt_29 rfl ?_
    refine x_iload_n F dX1_rankAt_30 rfl ?_
    refine x_V2 F (m_X1_heightAt (by first | assumption | omega | decide) (by first | assumption | omega | decide) (by first | assumption | omega | decide)) mlX1_92 mvX1_heightAt hC.1 dX1_rankAt_31 (by decide) rfl ⟨Nat.le_of_ble_eq_true rfl, Nat.le_of_ble_eq_true rfl⟩ ⟨Nat.zero_le _, Nat.zero_le _⟩ (Nat.le_of_ble_eq_true rfl) ?_
    have hf_2 := rg_heI M c r p
    refine x_iret F FR dX1_rankAt_34 rfl (Nat.le_refl _) (Nat.le_refl _) ?_
    exact ⟨vj (by first | rfl | (simp only [rkI]; done) | (simp only [rkI]; omega) | (simp only [rkI]; split <;> first | omega | (split <;> omega))), rfl⟩
  by_cases h_3 : z = 1
  · refine xj_look (off := 34) (tgt := 35) F dX1_rankAt_1 rfl (by rw [h_3]; rfl) (by decide) (by omega) ?_
    refine x_aload_n F dX1_rankAt_35 rfl ?_
    refine x_iload_n F dX1_rankAt_36 rfl ?_
    refine x_iload_n F dX1_rankAt_37 rfl ?_
    refine x_V2 F (m_X1_heightAt (by first | assumption | omega | decide) (by first | assumption | omega | decide) (by first | assumption | omega | decide)) mlX1_92 mvX1_heightAt hC.1 dX1_rankAt_38 (by decide) rfl ⟨Nat.le_of_ble_eq_true rfl, Nat.le_of_ble_eq_true rfl⟩ ⟨Nat.zero_le _, Nat.zero_le _⟩ (Nat.le_of_ble_eq_true rfl) ?_
    have hf_4 := rg_heI M c r p
    refine xj_ineg F dX1_rankAt_41 ?_
    refine x_iret F FR dX1_rankAt_42 rfl (Nat.le_refl _) (Nat.le_refl _) ?_
    exact ⟨vj (by first | rfl | (simp only [rkI]; done) | (simp only [rkI]; omega) | (simp only [rkI]; split <;> first | omega | (split <;> omega))), rfl⟩
  refine xj_look (off := 42) (tgt := 43) F dX1_rankAt_1 rfl (by show Op.lookupswitch.offset [(0, 27), (1, 34)] 42 _ = _; simp only [Op.lookupswitch.offset]; rw [if_neg (by omega), if_neg (by omega)]) (by decide) (by omega) ?_
  refine x_aload_n F dX1_rankAt_43 rfl ?_
  refine x_iload_n F dX1_rankAt_44 rfl ?_
  refine x_iload_n F dX1_rankAt_45 rfl ?_
  refine x_V2 F (m_X1_voiceAt (by first | assumption | omega | decide) (by first | assumption | omega | decide) (by first | assumption | omega | decide)) mlX1_95 mvX1_voiceAt hC.1 dX1_rankAt_46 (by decide) rfl ⟨Nat.le_of_ble_eq_true rfl, Nat.le_of_ble_eq_true rfl⟩ ⟨Nat.zero_le _, Nat.zero_le _⟩ (Nat.le_of_ble_eq_true rfl) ?_
  have hf_5 := rg_rdI (M.1 (c + 4)) 24 (spI r p)
  refine x_iret F FR dX1_rankAt_49 rfl (Nat.le_refl _) (Nat.le_refl _) ?_
  exact ⟨vj (by first | rfl | (simp only [rkI]; done) | (simp only [rkI]; omega) | (simp only [rkI]; split <;> first | omega | (split <;> omega))), rfl⟩
set_option maxRecDepth 20000 in
theorem L_X1_putInOrder_14 {l : Launch} {E : xE} {c : Nat} {r z : Int} {M0 : xM} (hC : isCh c) (hS : ∀ q : Int, 0 ≤ szI M0 c q ∧ szI M0 c q ≤ 6) (hr : 0 ≤ r ∧ r < 4) (hL0 : hLo M0 c) (hz : 0 ≤ z ∧ z ≤ 2) {x : Int} {MR : xM} (hx : 1 ≤ x ∧ x < 6) {Y : xY} (F : xFix E (xA E) Y cX1_putInOrder yX1_putInOrder.cls 5) (FR : xRet E Y none 0 0 (fun r' M'' => r' = vU ∧ M'' = srM M0 c r z (szI M0 c r - 1).toNat) (fun _ _ => False)) : ∀ (k : Nat) (i : Int) (M : xM), 0 ≤ i ∧ i < 6 → hLo M c → inM c r z i.toNat M = MR → (∀ (j : xV) (M9 : xM), M9 = MR → WP l E (xRm 4 0 0) (xA E) Y 0 0 58 [vA c, vI (jI r), vI (jI z), vI (jI x), j] [] M9) → i.toNat < k → WP l E (xRm 4 0 0) (xA E) Y 0 0 14 [vA c, vI (jI r), vI (jI z), vI (jI x), vI (jI i)] [] M := by
  intro k
  induction k with
  | zero => intro i M hi hL hres hex hk; exact absurd hk (Nat.not_lt_zero _)
  | succ k ih =>
    intro i M hi hL hres hex hk
    have hL := hL
    refine x_iload F dX1_putInOrder_14 rfl ?_
    refine xj_if_le (tgt := 58) F dX1_putInOrder_16 (by decide) (by omega) (fun h_1 => ?_) (fun h_1 => ?_)
    · refine hex _ _ ?_
      first
        | (rw [show i.toNat = 0 by omega] at hres; exact hres)
        | (rw [show i.toNat = (i - 1).toNat + 1 by omega] at hres; simp only [inM] at hres; rw [show (((i - 1).toNat : Nat) : Int) + 1 = i by omega, show (((i - 1).toNat : Nat) : Int) = i - 1 by omega, if_neg (by omega)] at hres; exact hres)
    · refine x_aload_n F dX1_putInOrder_19 rfl ?_
      refine x_iload_n F dX1_putInOrder_20 rfl ?_
      refine x_iload F dX1_putInOrder_21 rfl ?_
      refine x_iload_n F dX1_putInOrder_23 rfl ?_
      refine x_V3 F (m_X1_rankAt (by first | assumption | omega | decide) (by first | assumption | omega | decide) (by first | assumption | omega | decide) (by first | assumption | omega | decide)) mlX1_88 mvX1_rankAt hC.1 dX1_putInOrder_24 (by decide) rfl ⟨Nat.le_of_ble_eq_true rfl, Nat.le_of_ble_eq_true rfl⟩ ⟨Nat.zero_le _, Nat.zero_le _⟩ (Nat.le_of_ble_eq_true rfl) ?_
      have hf_2 := rkI_b hL r i z
      refine x_aload_n F dX1_putInOrder_27 rfl ?_
      refine x_iload_n F dX1_putInOrder_28 rfl ?_
      refine x_iload F dX1_putInOrder_29 rfl ?_
      refine xj_iconst F dX1_putInOrder_31 ?_
      refine xj_isub F dX1_putInOrder_32 ?_
      refine x_iload_n F dX1_putInOrder_33 rfl ?_
      refine x_V3 F (m_X1_rankAt (by first | assumption | omega | decide) (by first | assumption | omega | decide) (by first | assumption | omega | decide) (by first | assumption | omega | decide)) mlX1_88 mvX1_rankAt hC.1 dX1_putInOrder_34 (by decide) rfl ⟨Nat.le_of_ble_eq_true rfl, Nat.le_of_ble_eq_true rfl⟩ ⟨Nat.zero_le _, Nat.zero_le _⟩ (Nat.le_of_ble_eq_true rfl) ?_
      have hf_3 := rkI_b hL r (i - 1) z
      refine xj_icmp_ge (tgt := 58) F dX1_putInOrder_37 (by decide) (by omega) (fun h_4 => ?_) (fun h_4 => ?_)
      · refine hex _ _ ?_
        first
          | (rw [show i.toNat = 0 by omega] at hres; exact hres)
          | (rw [show i.toNat = (i - 1).toNat + 1 by omega] at hres; simp only [inM] at hres; rw [show (((i - 1).toNat : Nat) : Int) + 1 = i by omega, show (((i - 1).toNat : Nat) : Int) = i - 1 by omega, if_neg (by omega)] at hres; exact hres)
      · refine x_aload_n F dX1_putInOrder_40 rfl ?_
        refine x_iload_n F dX1_putInOrder_41 rfl ?_
        refine x_iload F dX1_putInOrder_42 rfl ?_
        refine xj_iconst F dX1_putInOrder_44 ?_
        refine xj_isub F dX1_putInOrder_45 ?_
        refine x_iload_n F dX1_putInOrder_46 rfl ?_
        refine x_iload F dX1_putInOrder_47 rfl ?_
        refine x_V4 F (m_X1_swapPlaces (by first | assumption | omega | decide) (by first | assumption | omega | decide) (by first | assumption | omega | decide) (by first | assumption | omega | decide) (by first | assumption | omega | decide)) mlX1_81 mvX1_swapPlaces hC.1 dX1_putInOrder_49 (by decide) rfl ⟨Nat.le_of_ble_eq_true rfl, Nat.le_of_ble_eq_true rfl⟩ ⟨Nat.zero_le _, Nat.zero_le _⟩ (Nat.le_of_ble_eq_true rfl) ?_
        refine xj_iinc F dX1_putInOrder_52 rfl ?_
        refine x_goto (tgt := 14) F dX1_putInOrder_55 (by decide) ?_
        have e := hres
        rw [show i.toNat = (i - 1).toNat + 1 by omega] at e
        simp only [inM] at e
        rw [show (((i - 1).toNat : Nat) : Int) + 1 = i by omega, show (((i - 1).toNat : Nat) : Int) = i - 1 by omega, if_pos (by omega)] at e
        exact ih (i + -1) _ (by omega) (hLo_swP hL _ _) (by rw [show i + -1 = i - 1 by omega]; exact e) hex (by omega)
set_option maxRecDepth 20000 in
theorem L_X1_putInOrder {l : Launch} {E : xE} {c : Nat} {r z : Int} {M0 : xM} (hC : isCh c) (hS : ∀ q : Int, 0 ≤ szI M0 c q ∧ szI M0 c q ≤ 6) (hr : 0 ≤ r ∧ r < 4) (hL0 : hLo M0 c) (hz : 0 ≤ z ∧ z ≤ 2) {Y : xY} (F : xFix E (xA E) Y cX1_putInOrder yX1_putInOrder.cls 5) (FR : xRet E Y none 0 0 (fun r' M'' => r' = vU ∧ M'' = srM M0 c r z (szI M0 c r - 1).toNat) (fun _ _ => False)) : ∀ (k : Nat) (i : Int) (y : xV), 1 ≤ i → i ≤ max 1 (szI M0 c r) → (szI M0 c r - i).toNat < k → WP l E (xRm 4 0 0) (xA E) Y 0 0 2 [vA c, vI (jI r), vI (jI z), vI (jI i), y] [] (srM M0 c r z (i - 1).toNat) := by
  intro k
  induction k with
  | zero => intro i y hi hb hk; exact absurd hk (Nat.not_lt_zero _)
  | succ k ih =>
    intro i y hi hb hk
    have hs := hS r
    have hL : hLo (srM M0 c r z (i - 1).toNat) c := hLo_srM hL0 _
    have hsz : szI (srM M0 c r z (i - 1).toNat) c r = szI M0 c r := szI_of (srM_row (by omega) _) r
    refine x_iload_n F dX1_putInOrder_2 rfl ?_
    refine x_aload_n F dX1_putInOrder_3 rfl ?_
    refine x_iload_n F dX1_putInOrder_4 rfl ?_
    refine x_V1 F (m_X1_sizeOf (by first | assumption | omega | decide) (by first | assumption | omega | decide)) mlX1_56 mvX1_sizeOf hC.1 dX1_putInOrder_5 (by decide) rfl ⟨Nat.le_of_ble_eq_true rfl, Nat.le_of_ble_eq_true rfl⟩ ⟨Nat.zero_le _, Nat.zero_le _⟩ (Nat.le_of_ble_eq_true rfl) ?_
    have hf_1 := rg_szI (srM M0 c r z (i - 1).toNat) c r
    refine xj_icmp_ge (tgt := 64) F dX1_putInOrder_8 (by decide) (by omega) (fun h_2 => ?_) (fun h_2 => ?_)
    · refine x_vret F FR dX1_putInOrder_64 (Nat.le_refl _) (Nat.le_refl _) ?_
      exact ⟨rfl, by congr 1; omega⟩
    · refine x_iload_n F dX1_putInOrder_11 rfl ?_
      refine x_istore F dX1_putInOrder_12 (by decide) ?_
      have e : srM M0 c r z (i + 1 - 1).toNat = inM c r z i.toNat (srM M0 c r z (i - 1).toNat) := by rw [show (i + 1 - 1).toNat = (i - 1).toNat + 1 by omega]; simp only [srM]; rw [show (i - 1).toNat + 1 = i.toNat by omega]
      refine L_X1_putInOrder_14 hC hS hr hL0 hz (by omega) F FR _ i _ (by omega) hL e.symm ?_ (Nat.lt_succ_self _)
      intro j M9 hM9
      subst hM9
      refine xj_iinc F dX1_putInOrder_58 rfl ?_
      refine x_goto (tgt := 2) F dX1_putInOrder_61 (by decide) ?_
      exact ih (i + 1) j (by omega) (by omega) (by omega)
set_option maxRecDepth 20000 in
theorem m_X1_putInOrder {l : Launch} {E : xE} {c : Nat} {r z : Int} {M0 : xM} (hC : isCh c) (hS : ∀ q : Int, 0 ≤ szI M0 c q ∧ szI M0 c q ≤ 6) (hr : 0 ≤ r ∧ r < 4) (hL0 : hLo M0 c) (hz : 0 ≤ z ∧ z ≤ 2) : XF l E 4 yX1_putInOrder cX1_putInOrder 5 none [vA c, vI (jI r), vI (jI z)] M0 (vU) (srM M0 c r z (szI M0 c r - 1).toNat) := by
  refine xp_start (plainFor_of_name (by decide)) rfl (Nat.le_of_ble_eq_true rfl) ?_
  intro Y F FR
  refine xj_iconst F dX1_putInOrder_0 ?_
  refine x_istore_n F dX1_putInOrder_1 (by decide) ?_
  exact L_X1_putInOrder hC hS hr hL0 hz F FR _ 1 vU (by omega) (by omega) (Nat.lt_succ_self _)
set_option maxRecDepth 20000 in
theorem m_X1_become {l : Launch} {E : xE} {c b : Nat} {M : xM} (hC : isCh c) (hB : isCh b) : XF l E 3 yX1_become cX1_become 2 none [vA c, vA b] M (vU) (bcM M c b) := by
  refine xp_start (plainFor_of_name (by decide)) rfl (Nat.le_of_ble_eq_true rfl) ?_
  intro Y F FR
  refine x_aload_n F dX1_become_0 rfl ?_
  refine x_ifnonnull (tgt := 5) F dX1_become_1 (by decide) (fun a_2 h_1 => ?_) (fun h_1 => ?_)
  · cases h_1
    refine x_aload_n F dX1_become_5 rfl ?_
    refine x_getc (v := b + 1) F flX1_9 hB.1 dX1_become_6 (by decide) (by decide) rfl rfl ?_
    refine x_aload_n F dX1_become_9 rfl ?_
    refine x_getc (v := c + 1) F flX1_9 hC.1 dX1_become_10 (by decide) (by decide) rfl rfl ?_
    refine x_S2 F (m_X1_copyCells hB.2.1 hC.2.1 (by decide)) mlX1_31 msX1_copyCells dX1_become_13 ⟨Nat.le_of_ble_eq_true rfl, Nat.le_of_ble_eq_true rfl⟩ ⟨Nat.zero_le _, Nat.zero_le _⟩ (Nat.le_of_ble_eq_true rfl) ?_
    refine x_aload_n F dX1_become_16 rfl ?_
    refine x_getc (v := b + 2) F flX1_15 hB.1 dX1_become_17 (by decide) (by decide) rfl rfl ?_
    refine x_aload_n F dX1_become_20 rfl ?_
    refine x_getc (v := c + 2) F flX1_15 hC.1 dX1_become_21 (by decide) (by decide) rfl rfl ?_
    refine x_S2 F (m_X1_copyCells hB.2.2.1 hC.2.2.1 (by decide)) mlX1_31 msX1_copyCells dX1_become_24 ⟨Nat.le_of_ble_eq_true rfl, Nat.le_of_ble_eq_true rfl⟩ ⟨Nat.zero_le _, Nat.zero_le _⟩ (Nat.le_of_ble_eq_true rfl) ?_
    refine x_aload_n F dX1_become_27 rfl ?_
    refine x_getc (v := b + 3) F flX1_18 hB.1 dX1_become_28 (by decide) (by decide) rfl rfl ?_
    refine x_aload_n F dX1_become_31 rfl ?_
    refine x_getc (v := c + 3) F flX1_18 hC.1 dX1_become_32 (by decide) (by decide) rfl rfl ?_
    refine x_S2 F (m_X1_copyCells hB.2.2.2.1 hC.2.2.2.1 (by decide)) mlX1_31 msX1_copyCells dX1_become_35 ⟨Nat.le_of_ble_eq_true rfl, Nat.le_of_ble_eq_true rfl⟩ ⟨Nat.zero_le _, Nat.zero_le _⟩ (Nat.le_of_ble_eq_true rfl) ?_
    refine x_aload_n F dX1_become_38 rfl ?_
    refine x_getc (v := b + 4) F flX1_21 hB.1 dX1_become_39 (by decide) (by decide) rfl rfl ?_
    refine x_aload_n F dX1_become_42 rfl ?_
    refine x_getc (v := c + 4) F flX1_21 hC.1 dX1_become_43 (by decide) (by decide) rfl rfl ?_
    refine x_S2 F (m_X1_copyCells hB.2.2.2.2 hC.2.2.2.2 (by decide)) mlX1_31 msX1_copyCells dX1_become_46 ⟨Nat.le_of_ble_eq_true rfl, Nat.le_of_ble_eq_true rfl⟩ ⟨Nat.zero_le _, Nat.zero_le _⟩ (Nat.le_of_ble_eq_true rfl) ?_
    refine x_aload_n F dX1_become_49 rfl ?_
    refine x_aload_n F dX1_become_50 rfl ?_
    refine xj_geti F flX1_24 hB.1 dX1_become_51 (by decide) (by decide) rfl (fun hg_3 => ?_)
    refine x_puti F flX1_24 hC.1 dX1_become_54 (by decide) (by decide) rfl fw1_4 rfl rfl ?_
    refine x_aload_n F dX1_become_57 rfl ?_
    refine x_aload_n F dX1_become_58 rfl ?_
    refine xj_geti F flX1_28 hB.1 dX1_become_59 (by decide) (by decide) rfl (fun hg_4 => ?_)
    refine x_puti F flX1_28 hC.1 dX1_become_62 (by decide) (by decide) rfl fw1_5 rfl rfl ?_
    refine x_aload_n F dX1_become_65 rfl ?_
    refine x_aload_n F dX1_become_66 rfl ?_
    refine xj_geti F flX1_35 hB.1 dX1_become_67 (by decide) (by decide) rfl (fun hg_5 => ?_)
    refine x_puti F flX1_35 hC.1 dX1_become_70 (by decide) (by decide) rfl fw1_6 rfl rfl ?_
    refine x_aload_n F dX1_become_73 rfl ?_
    refine x_aload_n F dX1_become_74 rfl ?_
    refine xj_geti F flX1_38 hB.1 dX1_become_75 (by decide) (by decide) rfl (fun hg_6 => ?_)
    refine x_puti F flX1_38 hC.1 dX1_become_78 (by decide) (by decide) rfl fw1_7 rfl rfl ?_
    refine x_aload_n F dX1_become_81 rfl ?_
    refine x_aload_n F dX1_become_82 rfl ?_
    refine xj_geti F flX1_41 hB.1 dX1_become_83 (by decide) (by decide) rfl (fun hg_7 => ?_)
    refine x_puti F flX1_41 hC.1 dX1_become_86 (by decide) (by decide) rfl fw1_8 rfl rfl ?_
    refine x_vret F FR dX1_become_89 (Nat.le_refl _) (Nat.le_refl _) ?_
    exact ⟨rfl, rfl⟩
  · cases h_1
