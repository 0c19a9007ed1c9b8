/-! THE TREE, cell 50: its fields top (1), used (2); its nodes 52 to 63: height (0), comers (1), lesser (2), greater (3) -/
theorem upR_1 (M : xM) (a k : Nat) (r : Option Nat) : (upR M a k r).1 = M.1 := rfl
theorem upR_2 (M : xM) (a k : Nat) (r : Option Nat) (b j : Nat) : (upR M a k r).2.1 b j = if b = a ∧ j = k then r else M.2.1 b j := rfl
theorem upR_3 (M : xM) (a k : Nat) (r : Option Nat) : (upR M a k r).2.2 = M.2.2 := rfl
def okT (M : xM) : Prop := ∀ a k b : Nat, M.2.1 a k = some b → 52 ≤ b ∧ b < 64
theorem nd_k : ∀ b : Nat, 52 ≤ b ∧ b < 64 → xk b = (4, 4) := by
  intro b h
  have : b = 52 ∨ b = 53 ∨ b = 54 ∨ b = 55 ∨ b = 56 ∨ b = 57 ∨ b = 58 ∨ b = 59 ∨ b = 60 ∨ b = 61 ∨ b = 62 ∨ b = 63 := by omega
  rcases this with rfl | rfl | rfl | rfl | rfl | rfl | rfl | rfl | rfl | rfl | rfl | rfl <;> rfl
def flM (M : xM) : xM := upI (upR M 50 1 none) 50 2 (jI 0)
def fnM (M : xM) (h : Int) : xM :=
  let a := 52 + (M.1 50 2).toInt.toNat
  upR (upR (upI (upI (upI M 50 2 (jI ((M.1 50 2).toInt + 1))) a 0 (jI h)) a 1 (jI 1)) a 2 none) a 3 none
def lkM (M : xM) (h : Int) : Option Nat → xM
  | none => upR (fnM M h) 50 1 (some (52 + (M.1 50 2).toInt.toNat))
  | some b => if ((fnM M h).1 b 0).toInt < h then upR (fnM M h) b 3 (some (52 + (M.1 50 2).toInt.toNat)) else upR (fnM M h) b 2 (some (52 + (M.1 50 2).toInt.toNat))
def ptM (h : Int) (M : xM) : Nat → Option Nat → Option Nat → xM
  | 0, ab, _ => lkM M h ab
  | _ + 1, ab, none => lkM M h ab
  | n + 1, _, some a => if (M.1 a 0).toInt = h then upI M a 1 (jI ((M.1 a 1).toInt + 1)) else ptM h M n (some a) (if (M.1 a 0).toInt < h then M.2.1 a 3 else M.2.1 a 2)
def ptT (h : Int) (M : xM) : xM := ptM h M 12 none (M.2.1 50 1)
def alI (M : xM) : Nat → Option Nat → Int
  | 0, _ => 0
  | _ + 1, none => 0
  | n + 1, some a => (M.1 a 1).toInt + alI M n (M.2.1 a 2) + alI M n (M.2.1 a 3)
def htI (M : xM) (h : Int) : Nat → Option Nat → Int → Int
  | 0, _, s => s
  | _ + 1, none, s => s
  | n + 1, some a, s => if h < (M.1 a 0).toInt then htI M h n (M.2.1 a 2) (s + ((M.1 a 1).toInt + alI M 12 (M.2.1 a 3))) else htI M h n (M.2.1 a 3) s
def pbM (c : Nat) (r lo : Int) (M : xM) : Nat → xM
  | 0 => M
  | n + 1 => ptT (heI (pbM c r lo M n) c r (lo + n)) (pbM c r lo M n)
theorem okT_upR {M : xM} (h : okT M) {a k : Nat} {r : Option Nat} (hr : ∀ b, r = some b → 52 ≤ b ∧ b < 64) : okT (upR M a k r) := by
  intro b j e he
  rw [upR_2] at he
  split at he
  · exact hr e he
  · exact h b j e he
theorem okT_upI {M : xM} (h : okT M) {a k : Nat} {x : Int32} : okT (upI M a k x) := h
theorem okT_fnM {M : xM} (h : okT M) (x : Int) : okT (fnM M x) := okT_upR (okT_upR h (fun _ q => by cases q)) (fun _ q => by cases q)
theorem fnM_used {M : xM} (x : Int) (hu : 0 ≤ (M.1 50 2).toInt ∧ (M.1 50 2).toInt < 12) : ((fnM M x).1 50 2).toInt = (M.1 50 2).toInt + 1 := by
  unfold fnM
  show ((upI (upI (upI M 50 2 _) _ 0 _) _ 1 _).1 50 2).toInt = _
  rw [upI_1, if_neg (by omega), upI_1, if_neg (by omega), upI_1, if_pos ⟨rfl, rfl⟩, jI_toInt (by omega)]
theorem lkM_ok {M : xM} (h : okT M) (x : Int) (ab : Option Nat) (hu : 0 ≤ (M.1 50 2).toInt ∧ (M.1 50 2).toInt < 12) : okT (lkM M x ab) ∧ ((lkM M x ab).1 50 2).toInt = (M.1 50 2).toInt + 1 := by
  have hn : ∀ b, some (52 + (M.1 50 2).toInt.toNat) = some b → 52 ≤ b ∧ b < 64 := fun b q => by cases q; omega
  cases ab with
  | none => exact ⟨okT_upR (okT_fnM h x) hn, fnM_used x hu⟩
  | some b =>
    simp only [lkM]
    split
    · exact ⟨okT_upR (okT_fnM h x) hn, fnM_used x hu⟩
    · exact ⟨okT_upR (okT_fnM h x) hn, fnM_used x hu⟩
theorem ptM_ok {M : xM} (h : okT M) (x : Int) (hu : 0 ≤ (M.1 50 2).toInt ∧ (M.1 50 2).toInt < 12) : ∀ (n : Nat) (ab r : Option Nat), (∀ b, r = some b → 52 ≤ b ∧ b < 64) → okT (ptM x M n ab r) ∧ (M.1 50 2).toInt ≤ ((ptM x M n ab r).1 50 2).toInt ∧ ((ptM x M n ab r).1 50 2).toInt ≤ (M.1 50 2).toInt + 1 := by
  intro n
  induction n with
  | zero => intro ab r _; have := lkM_ok h x ab hu; exact ⟨this.1, by simp only [ptM]; omega, by simp only [ptM]; omega⟩
  | succ n ih =>
    intro ab r hr
    cases r with
    | none => have := lkM_ok h x ab hu; exact ⟨this.1, by simp only [ptM]; omega, by simp only [ptM]; omega⟩
    | some a =>
      have ha := hr a rfl
      simp only [ptM]
      split
      · refine ⟨h, ?_, ?_⟩ <;> (rw [upI_1, if_neg (by omega)]; omega)
      · exact ih _ _ (fun b q => by split at q <;> exact h _ _ _ q)
theorem ptT_ok {M : xM} (h : okT M) (x : Int) (hu : 0 ≤ (M.1 50 2).toInt ∧ (M.1 50 2).toInt < 12) : okT (ptT x M) ∧ (M.1 50 2).toInt ≤ ((ptT x M).1 50 2).toInt ∧ ((ptT x M).1 50 2).toInt ≤ (M.1 50 2).toInt + 1 := ptM_ok h x hu 12 none _ (fun b q => h _ _ _ q)
/-- only the tree's cells change -/
theorem lkM_row (M : xM) (x : Int) (ab : Option Nat) {b : Nat} (hb : b < 50) : (lkM M x ab).1 b = M.1 b := by
  have e : (fnM M x).1 b = M.1 b := by
    unfold fnM
    show (upI (upI (upI M 50 2 _) _ 0 _) _ 1 _).1 b = _
    rw [upI_row (by omega), upI_row (by omega), upI_row (by omega)]
  cases ab with
  | none => exact e
  | some a => simp only [lkM]; split <;> exact e
theorem ptM_row {M : xM} (h : okT M) (x : Int) {b : Nat} (hb : b < 50) : ∀ (n : Nat) (ab r : Option Nat), (∀ b, r = some b → 52 ≤ b ∧ b < 64) → (ptM x M n ab r).1 b = M.1 b := by
  intro n
  induction n with
  | zero => intro ab r _; exact lkM_row M x ab hb
  | succ n ih =>
    intro ab r hr
    cases r with
    | none => exact lkM_row M x ab hb
    | some a =>
      have ha := hr a rfl
      simp only [ptM]
      split
      · rw [upI_row (by omega)]
      · exact ih _ _ (fun b q => by split at q <;> exact h _ _ _ q)
theorem ptT_row {M : xM} (h : okT M) (x : Int) {b : Nat} (hb : b < 50) : (ptT x M).1 b = M.1 b := ptM_row h x hb 12 none _ (fun b q => h _ _ _ q)
theorem pbM_ok {c : Nat} {r lo : Int} {M : xM} (h : okT M) (hu : 0 ≤ (M.1 50 2).toInt) : ∀ n : Nat, (M.1 50 2).toInt + n ≤ 12 → okT (pbM c r lo M n) ∧ (0 ≤ ((pbM c r lo M n).1 50 2).toInt ∧ ((pbM c r lo M n).1 50 2).toInt ≤ (M.1 50 2).toInt + n) ∧ ∀ b, b < 50 → (pbM c r lo M n).1 b = M.1 b := by
  intro n
  induction n with
  | zero => intro _; exact ⟨h, ⟨hu, by simp only [pbM]; omega⟩, fun _ _ => rfl⟩
  | succ n ih =>
    intro hn
    obtain ⟨h1, h2, h3⟩ := ih (by omega)
    have := ptT_ok h1 (heI (pbM c r lo M n) c r (lo + n)) (by omega)
    simp only [pbM]
    exact ⟨this.1, ⟨by omega, by omega⟩, fun b hb => by rw [ptT_row h1 _ hb, h3 b hb]⟩
set_option maxRecDepth 20000 in
theorem m_X2_fell {l : Launch} {E : xE} {M : xM} : XF l E 1 yX2_fell cX2_fell 1 none [vA 50] M (vU) (flM M) := by
  refine xp_start (plainFor_of_name (by decide)) rfl (Nat.le_of_ble_eq_true rfl) ?_
  intro Y F FR
  refine x_aload_n F dX2_fell_0 rfl ?_
  refine x_null F dX2_fell_1 ?_
  refine x_putr F flX2_18 rfl dX2_fell_2 (by decide) (by decide) rfl fw2_1 ?_
  refine x_aload_n F dX2_fell_5 rfl ?_
  refine xj_iconst F dX2_fell_6 ?_
  refine x_puti F flX2_22 rfl dX2_fell_7 (by decide) (by decide) rfl fw2_2 rfl rfl ?_
  refine x_vret F FR dX2_fell_10 (Nat.le_refl _) (Nat.le_refl _) ?_
  exact ⟨rfl, rfl⟩
set_option maxRecDepth 20000 in
theorem m_X2_freshNode {l : Launch} {E : xE} {h : Int} {M : xM} (hu : 0 ≤ (M.1 50 2).toInt ∧ (M.1 50 2).toInt < 12) : XF l E 1 yX2_freshNode cX2_freshNode 3 (some (FieldType.object "OddChoir$Node")) [vA 50, vI (jI h)] M (vA (52 + (M.1 50 2).toInt.toNat)) (fnM M h) := by
  refine xp_start (plainFor_of_name (by decide)) rfl (Nat.le_of_ble_eq_true rfl) ?_
  intro Y F FR
  refine x_aload_n F dX2_freshNode_0 rfl ?_
  refine xj_geti F flX2_22 rfl dX2_freshNode_1 (by decide) (by decide) rfl (fun hg_1 => ?_)
  refine xj_if_lt (tgt := 31) F dX2_freshNode_4 (by decide) (by omega) (fun h_2 => ?_) (fun h_2 => ?_)
  · omega
  · refine x_aload_n F dX2_freshNode_7 rfl ?_
    refine xj_geti F flX2_22 rfl dX2_freshNode_8 (by decide) (by decide) rfl (fun hg_3 => ?_)
    refine x_aload_n F dX2_freshNode_11 rfl ?_
    refine x_getc (v := 51) F flX2_11 rfl dX2_freshNode_12 (by decide) (by decide) rfl rfl ?_
    refine xj_alen F rfl dX2_freshNode_15 (by decide) ?_
    refine xj_icmp_ge (tgt := 31) F dX2_freshNode_16 (by decide) (by omega) (fun h_4 => ?_) (fun h_4 => ?_)
    · omega
    · refine x_aload_n F dX2_freshNode_19 rfl ?_
      refine x_getc (v := 51) F flX2_11 rfl dX2_freshNode_20 (by decide) (by decide) rfl rfl ?_
      refine x_aload_n F dX2_freshNode_23 rfl ?_
      refine xj_geti F flX2_22 rfl dX2_freshNode_24 (by decide) (by decide) rfl (fun hg_5 => ?_)
      refine xj_aaldN F rfl dX2_freshNode_27 (by omega) ?_
      refine x_goto (tgt := 32) F dX2_freshNode_28 (by decide) ?_
      refine x_astore_n F dX2_freshNode_32 (by decide) ?_
      refine x_aload_n F dX2_freshNode_33 rfl ?_
      refine x_ifnull (tgt := 67) F dX2_freshNode_34 (by decide) (fun h_6 => ?_) (fun a_7 h_6 => ?_)
      · cases h_6
      · cases h_6
        refine x_aload_n F dX2_freshNode_37 rfl ?_
        refine x_dup F dX2_freshNode_38 rfl ?_
        refine xj_geti F flX2_22 rfl dX2_freshNode_39 (by decide) (by decide) rfl (fun hg_8 => ?_)
        refine xj_iconst F dX2_freshNode_42 ?_
        refine xj_iadd F dX2_freshNode_43 ?_
        refine x_puti F flX2_22 rfl dX2_freshNode_44 (by decide) (by decide) rfl fw2_2 rfl rfl ?_
        refine x_aload_n F dX2_freshNode_47 rfl ?_
        refine x_iload_n F dX2_freshNode_48 rfl ?_
        refine x_putiN F fnX2_26 (nd_k _ (by omega)) dX2_freshNode_49 (by decide) (by decide) rfl fw4_0 rfl rfl ?_
        refine x_aload_n F dX2_freshNode_52 rfl ?_
        refine xj_iconst F dX2_freshNode_53 ?_
        refine x_putiN F fnX2_29 (nd_k _ (by omega)) dX2_freshNode_54 (by decide) (by decide) rfl fw4_1 rfl rfl ?_
        refine x_aload_n F dX2_freshNode_57 rfl ?_
        refine x_null F dX2_freshNode_58 ?_
        refine x_putrN F fnX2_35 (nd_k _ (by omega)) dX2_freshNode_59 (by decide) (by decide) rfl fw4_2 ?_
        refine x_aload_n F dX2_freshNode_62 rfl ?_
        refine x_null F dX2_freshNode_63 ?_
        refine x_putrN F fnX2_32 (nd_k _ (by omega)) dX2_freshNode_64 (by decide) (by decide) rfl fw4_3 ?_
        refine x_aload_n F dX2_freshNode_67 rfl ?_
        refine x_aret F FR dX2_freshNode_68 (Or.inl ⟨_, rfl⟩) (Nat.le_refl _) (Nat.le_refl _) ?_
        exact ⟨rfl, rfl⟩
set_option maxRecDepth 20000 in
theorem X2_put_68 {l : Launch} {E : xE} {h : Int} {M MR : xM} {ab : Option Nat} (hh : rg h) (hu : 0 ≤ (M.1 50 2).toInt ∧ (M.1 50 2).toInt < 12) (hab : ∀ b, ab = some b → 52 ≤ b ∧ b < 64) {Y : xY} (F : xFix E (xA E) Y cX2_put yX2_put.cls 5) (FR : xRet E Y none 0 0 (fun r' M'' => r' = vU ∧ M'' = MR) (fun _ _ => False)) (x y : xV) (hMR : lkM M h ab = MR) : WP l E (xRm 2 0 0) (xA E) Y 0 0 68 [vA 50, vI (jI h), vR ab, x, y] [] M := by
  refine x_aload_n F dX2_put_68 rfl ?_
  refine x_iload_n F dX2_put_69 rfl ?_
  refine x_V1 F (m_X2_freshNode hu) mlX2_38 mvX2_freshNode rfl dX2_put_70 (by decide) rfl ⟨Nat.le_of_ble_eq_true rfl, Nat.le_of_ble_eq_true rfl⟩ ⟨Nat.zero_le _, Nat.zero_le _⟩ (Nat.le_of_ble_eq_true rfl) ?_
  refine x_astore F dX2_put_73 (by decide) ?_
  refine x_aload_n F dX2_put_75 rfl ?_
  refine x_ifnonnull (tgt := 88) F dX2_put_76 (by decide) (fun a_2 h_1 => ?_) (fun h_1 => ?_)
  · have hb := hab _ h_1
    cases h_1
    refine x_iload_n F dX2_put_88 rfl ?_
    refine x_aload_n F dX2_put_89 rfl ?_
    refine xj_getiN F fnX2_26 (nd_k _ hb) dX2_put_90 (by decide) (by decide) rfl (fun hg_3 => ?_)
    refine xj_icmp_le (tgt := 105) F dX2_put_93 (by decide) (by omega) (fun h_4 => ?_) (fun h_4 => ?_)
    · refine x_aload_n F dX2_put_105 rfl ?_
      refine x_aload F dX2_put_106 rfl ?_
      refine x_putrN F fnX2_35 (nd_k _ hb) dX2_put_108 (by decide) (by decide) rfl fw4_2 ?_
      refine x_vret F FR dX2_put_111 (Nat.le_refl _) (Nat.le_refl _) ?_
      first
        | exact ⟨rfl, by rw [← hMR]; rfl⟩
        | exact ⟨rfl, by rw [← hMR]; simp only [lkM]; rw [if_pos (by omega)]⟩
        | exact ⟨rfl, by rw [← hMR]; simp only [lkM]; rw [if_neg (by omega)]⟩
    · refine x_aload_n F dX2_put_96 rfl ?_
      refine x_aload F dX2_put_97 rfl ?_
      refine x_putrN F fnX2_32 (nd_k _ hb) dX2_put_99 (by decide) (by decide) rfl fw4_3 ?_
      refine x_goto (tgt := 111) F dX2_put_102 (by decide) ?_
      refine x_vret F FR dX2_put_111 (Nat.le_refl _) (Nat.le_refl _) ?_
      first
        | exact ⟨rfl, by rw [← hMR]; rfl⟩
        | exact ⟨rfl, by rw [← hMR]; simp only [lkM]; rw [if_pos (by omega)]⟩
        | exact ⟨rfl, by rw [← hMR]; simp only [lkM]; rw [if_neg (by omega)]⟩
  · cases h_1
    refine x_aload_n F dX2_put_79 rfl ?_
    refine x_aload F dX2_put_80 rfl ?_
    refine x_putr F flX2_18 rfl dX2_put_82 (by decide) (by decide) rfl fw2_1 ?_
    refine x_goto (tgt := 111) F dX2_put_85 (by decide) ?_
    refine x_vret F FR dX2_put_111 (Nat.le_refl _) (Nat.le_refl _) ?_
    first
      | exact ⟨rfl, by rw [← hMR]; rfl⟩
      | exact ⟨rfl, by rw [← hMR]; simp only [lkM]; rw [if_pos (by omega)]⟩
      | exact ⟨rfl, by rw [← hMR]; simp only [lkM]; rw [if_neg (by omega)]⟩
set_option maxRecDepth 20000 in
theorem L_X2_put {l : Launch} {E : xE} {h : Int} {M MR : xM} (hh : rg h) (hT : okT M) (hu : 0 ≤ (M.1 50 2).toInt ∧ (M.1 50 2).toInt < 12) {Y : xY} (F : xFix E (xA E) Y cX2_put yX2_put.cls 5) (FR : xRet E Y none 0 0 (fun r' M'' => r' = vU ∧ M'' = MR) (fun _ _ => False)) : ∀ (k : Nat) (i : Int) (ab r : Option Nat), 0 ≤ i ∧ i ≤ 12 → (∀ b, ab = some b → 52 ≤ b ∧ b < 64) → (∀ b, r = some b → 52 ≤ b ∧ b < 64) → ptM h M (12 - i).toNat ab r = MR → (12 - i).toNat < k → WP l E (xRm 2 0 0) (xA E) Y 0 0 10 [vA 50, vI (jI h), vR ab, vR r, vI (jI i)] [] M := by
  intro k
  induction k with
  | zero => intro i ab r hi hab hat hMR hk; exact absurd hk (Nat.not_lt_zero _)
  | succ k ih =>
    intro i ab r hi hab hat hMR hk
    refine x_iload F dX2_put_10 rfl ?_
    refine xj_bipush F dX2_put_12 (by decide) ?_
    refine xj_icmp_ge (tgt := 68) F dX2_put_14 (by decide) (by omega) (fun h_1 => ?_) (fun h_1 => ?_)
    · first
        | (rw [show (12 - i).toNat = 0 by omega] at hMR; exact X2_put_68 hh hu hab F FR _ _ hMR)
        | (rw [show (12 - i).toNat = (12 - (i + 1)).toNat + 1 by omega] at hMR; exact X2_put_68 hh hu hab F FR _ _ hMR)
    · refine x_aload_n F dX2_put_17 rfl ?_
      refine x_ifnull (tgt := 68) F dX2_put_18 (by decide) (fun h_2 => ?_) (fun a_3 h_2 => ?_)
      · subst h_2
        first
          | (rw [show (12 - i).toNat = 0 by omega] at hMR; exact X2_put_68 hh hu hab F FR _ _ hMR)
          | (rw [show (12 - i).toNat = (12 - (i + 1)).toNat + 1 by omega] at hMR; exact X2_put_68 hh hu hab F FR _ _ hMR)
      · have ha := hat _ h_2
        cases h_2
        rw [show (12 - i).toNat = (12 - (i + 1)).toNat + 1 by omega] at hMR
        simp only [ptM] at hMR
        refine x_aload_n F dX2_put_21 rfl ?_
        refine xj_getiN F fnX2_26 (nd_k _ ha) dX2_put_22 (by decide) (by decide) rfl (fun hg_4 => ?_)
        refine x_iload_n F dX2_put_25 rfl ?_
        refine xj_icmp_ne (tgt := 40) F dX2_put_26 (by decide) (by omega) (fun h_5 => ?_) (fun h_5 => ?_)
        · rw [if_neg h_5] at hMR
          refine x_aload_n F dX2_put_40 rfl ?_
          refine x_astore_n F dX2_put_41 (by decide) ?_
          refine x_iload_n F dX2_put_42 rfl ?_
          refine x_aload_n F dX2_put_43 rfl ?_
          refine xj_getiN F fnX2_26 (nd_k _ ha) dX2_put_44 (by decide) (by decide) rfl (fun hg_6 => ?_)
          refine xj_icmp_le (tgt := 57) F dX2_put_47 (by decide) (by omega) (fun h_7 => ?_) (fun h_7 => ?_)
          · rw [if_neg (by omega)] at hMR
            refine x_aload_n F dX2_put_57 rfl ?_
            refine x_getrN F fnX2_35 (nd_k _ ha) dX2_put_58 (by decide) (by decide) rfl ?_
            refine x_astore_n F dX2_put_61 (by decide) ?_
            refine xj_iinc F dX2_put_62 rfl ?_
            refine x_goto (tgt := 10) F dX2_put_65 (by decide) ?_
            exact ih (i + 1) _ _ (by omega) (fun b q => by cases q; exact ha) (fun b q => hT _ _ _ q) hMR (by omega)
          · rw [if_pos (by omega)] at hMR
            refine x_aload_n F dX2_put_50 rfl ?_
            refine x_getrN F fnX2_32 (nd_k _ ha) dX2_put_51 (by decide) (by decide) rfl ?_
            refine x_goto (tgt := 61) F dX2_put_54 (by decide) ?_
            refine x_astore_n F dX2_put_61 (by decide) ?_
            refine xj_iinc F dX2_put_62 rfl ?_
            refine x_goto (tgt := 10) F dX2_put_65 (by decide) ?_
            exact ih (i + 1) _ _ (by omega) (fun b q => by cases q; exact ha) (fun b q => hT _ _ _ q) hMR (by omega)
        · rw [if_pos h_5] at hMR
          refine x_aload_n F dX2_put_29 rfl ?_
          refine x_dup F dX2_put_30 rfl ?_
          refine xj_getiN F fnX2_29 (nd_k _ ha) dX2_put_31 (by decide) (by decide) rfl (fun hg_8 => ?_)
          refine xj_iconst F dX2_put_34 ?_
          refine xj_iadd F dX2_put_35 ?_
          refine x_putiN F fnX2_29 (nd_k _ ha) dX2_put_36 (by decide) (by decide) rfl fw4_1 rfl rfl ?_
          refine x_vret F FR dX2_put_39 (Nat.le_refl _) (Nat.le_refl _) ?_
          exact ⟨rfl, hMR⟩
set_option maxRecDepth 20000 in
theorem m_X2_put {l : Launch} {E : xE} {h : Int} {M : xM} (hh : rg h) (hT : okT M) (hu : 0 ≤ (M.1 50 2).toInt ∧ (M.1 50 2).toInt < 12) : XF l E 2 yX2_put cX2_put 5 none [vA 50, vI (jI h)] M (vU) (ptT h M) := by
  refine xp_start (plainFor_of_name (by decide)) rfl (Nat.le_of_ble_eq_true rfl) ?_
  intro Y F FR
  refine x_null F dX2_put_0 ?_
  refine x_astore_n F dX2_put_1 (by decide) ?_
  refine x_aload_n F dX2_put_2 rfl ?_
  refine x_getr F flX2_18 rfl dX2_put_3 (by decide) (by decide) rfl ?_
  refine x_astore_n F dX2_put_6 (by decide) ?_
  refine xj_iconst F dX2_put_7 ?_
  refine x_istore F dX2_put_8 (by decide) ?_
  exact L_X2_put hh hT hu F FR _ 0 none _ (by omega) (fun b q => by cases q) (fun b q => hT _ _ _ q) rfl (Nat.lt_succ_self _)
set_option maxRecDepth 20000 in
theorem m_X2_allBelow {l : Launch} {E : xE} {M : xM} (hT : okT M) : ∀ (n : Nat) (r : Option Nat) (e : Int), (1 ≤ e ∧ e = 13 - (n : Int)) → (∀ b, r = some b → 52 ≤ b ∧ b < 64) → XF l E (n + 1) yX2_allBelow cX2_allBelow 2 (some FieldType.int) [vR r, vI (jI e)] M (vI (jI (alI M n r))) M := by
  intro n
  induction n with
  | zero =>
    intro r e he hr
    refine xp_start (plainFor_of_name (by decide)) rfl (Nat.le_of_ble_eq_true rfl) ?_
    intro Y F FR
    refine x_aload_n F dX2_allBelow_0 rfl ?_
    refine x_ifnull (tgt := 10) F dX2_allBelow_1 (by decide) (fun h_1 => ?_) (fun a_2 h_1 => ?_)
    · subst h_1
      refine xj_iconst F dX2_allBelow_10 ?_
      refine x_iret F FR dX2_allBelow_11 rfl (Nat.le_refl _) (Nat.le_refl _) ?_
      exact ⟨rfl, rfl⟩
    · have ha := hr _ h_1
      cases h_1
      refine x_iload_n F dX2_allBelow_4 rfl ?_
      refine xj_bipush F dX2_allBelow_5 (by decide) ?_
      refine xj_icmp_le (tgt := 12) F dX2_allBelow_7 (by decide) (by omega) (fun h_3 => ?_) (fun h_3 => ?_)
      · omega
      · refine xj_iconst F dX2_allBelow_10 ?_
        refine x_iret F FR dX2_allBelow_11 rfl (Nat.le_refl _) (Nat.le_refl _) ?_
        exact ⟨rfl, rfl⟩
  | succ n ih =>
    intro r e he hr
    refine xp_start (plainFor_of_name (by decide)) rfl (Nat.le_of_ble_eq_true rfl) ?_
    intro Y F FR
    refine x_aload_n F dX2_allBelow_0 rfl ?_
    refine x_ifnull (tgt := 10) F dX2_allBelow_1 (by decide) (fun h_1 => ?_) (fun a_2 h_1 => ?_)
    · subst h_1
      refine xj_iconst F dX2_allBelow_10 ?_
      refine x_iret F FR dX2_allBelow_11 rfl (Nat.le_refl _) (Nat.le_refl _) ?_
      exact ⟨rfl, rfl⟩
    · have ha := hr _ h_1
      cases h_1
      refine x_iload_n F dX2_allBelow_4 rfl ?_
      refine xj_bipush F dX2_allBelow_5 (by decide) ?_
      refine xj_icmp_le (tgt := 12) F dX2_allBelow_7 (by decide) (by omega) (fun h_3 => ?_) (fun h_3 => ?_)
      · refine x_aload_n F dX2_allBelow_12 rfl ?_
        refine xj_getiN F fnX2_29 (nd_k _ ha) dX2_allBelow_13 (by decide) (by decide) rfl (fun hg_4 => ?_)
        refine x_aload_n F dX2_allBelow_16 rfl ?_
        refine x_getrN F fnX2_35 (nd_k _ ha) dX2_allBelow_17 (by decide) (by decide) rfl ?_
        refine x_iload_n F dX2_allBelow_20 rfl ?_
        refine xj_iconst F dX2_allBelow_21 ?_
        refine xj_iadd F dX2_allBelow_22 ?_
        refine x_S2 F (ih _ _ (by omega) (fun b q => hT _ _ _ q)) mlX2_42 msX2_allBelow dX2_allBelow_23 ⟨Nat.le_refl _, by show 8 + (2 + 11) + 64 * (n + 1) ≤ 64 * (n + 1 + 1); omega⟩ ⟨Nat.zero_le _, Nat.zero_le _⟩ (Nat.le_of_ble_eq_true rfl) ?_
        refine xj_iadd F dX2_allBelow_26 ?_
        refine x_aload_n F dX2_allBelow_27 rfl ?_
        refine x_getrN F fnX2_32 (nd_k _ ha) dX2_allBelow_28 (by decide) (by decide) rfl ?_
        refine x_iload_n F dX2_allBelow_31 rfl ?_
        refine xj_iconst F dX2_allBelow_32 ?_
        refine xj_iadd F dX2_allBelow_33 ?_
        refine x_S2 F (ih _ _ (by omega) (fun b q => hT _ _ _ q)) mlX2_42 msX2_allBelow dX2_allBelow_34 ⟨Nat.le_refl _, by show 8 + (2 + 11) + 64 * (n + 1) ≤ 64 * (n + 1 + 1); omega⟩ ⟨Nat.zero_le _, Nat.zero_le _⟩ (Nat.le_of_ble_eq_true rfl) ?_
        refine xj_iadd F dX2_allBelow_37 ?_
        refine x_iret F FR dX2_allBelow_38 rfl (Nat.le_refl _) (Nat.le_refl _) ?_
        exact ⟨rfl, rfl⟩
      · omega
set_option maxRecDepth 20000 in
theorem L_X2_higherThan {l : Launch} {E : xE} {h : Int} {M : xM} (hh : rg h) (hT : okT M) {Y : xY} (F : xFix E (xA E) Y cX2_higherThan yX2_higherThan.cls 5) (FR : xRet E Y (some FieldType.int) 0 0 (fun r' M'' => r' = vI (jI (htI M h 12 (M.2.1 50 1) 0)) ∧ M'' = M) (fun _ _ => False)) : ∀ (k : Nat) (i s : Int) (r : Option Nat), 0 ≤ i ∧ i ≤ 12 → (∀ b, r = some b → 52 ≤ b ∧ b < 64) → htI M h (12 - i).toNat r s = htI M h 12 (M.2.1 50 1) 0 → (12 - i).toNat < k → WP l E (xRm 14 0 0) (xA E) Y 0 0 10 [vA 50, vI (jI h), vI (jI s), vR r, vI (jI i)] [] M := by
  intro k
  induction k with
  | zero => intro i s r hi hat hs hk; exact absurd hk (Nat.not_lt_zero _)
  | succ k ih =>
    intro i s r hi hat hs hk
    refine x_iload F dX2_higherThan_10 rfl ?_
    refine xj_bipush F dX2_higherThan_12 (by decide) ?_
    refine xj_icmp_ge (tgt := 64) F dX2_higherThan_14 (by decide) (by omega) (fun h_1 => ?_) (fun h_1 => ?_)
    · refine x_iload_n F dX2_higherThan_64 rfl ?_
      refine x_iret F FR dX2_higherThan_65 rfl (Nat.le_refl _) (Nat.le_refl _) ?_
      first
        | exact ⟨vj hs, rfl⟩
        | (rw [show (12 - i).toNat = 0 by omega] at hs; exact ⟨vj hs, rfl⟩)
    · refine x_aload_n F dX2_higherThan_17 rfl ?_
      refine x_ifnull (tgt := 64) F dX2_higherThan_18 (by decide) (fun h_2 => ?_) (fun a_3 h_2 => ?_)
      · subst h_2
        rw [show (12 - i).toNat = (12 - (i + 1)).toNat + 1 by omega] at hs
        simp only [htI] at hs
        refine x_iload_n F dX2_higherThan_64 rfl ?_
        refine x_iret F FR dX2_higherThan_65 rfl (Nat.le_refl _) (Nat.le_refl _) ?_
        first
          | exact ⟨vj hs, rfl⟩
          | (rw [show (12 - i).toNat = 0 by omega] at hs; exact ⟨vj hs, rfl⟩)
      · have ha := hat _ h_2
        cases h_2
        rw [show (12 - i).toNat = (12 - (i + 1)).toNat + 1 by omega] at hs
        simp only [htI] at hs
        refine x_aload_n F dX2_higherThan_21 rfl ?_
        refine xj_getiN F fnX2_26 (nd_k _ ha) dX2_higherThan_22 (by decide) (by decide) rfl (fun hg_4 => ?_)
        refine x_iload_n F dX2_higherThan_25 rfl ?_
        refine xj_icmp_le (tgt := 53) F dX2_higherThan_26 (by decide) (by omega) (fun h_5 => ?_) (fun h_5 => ?_)
        · rw [if_neg (by omega)] at hs
          refine x_aload_n F dX2_higherThan_53 rfl ?_
          refine x_getrN F fnX2_32 (nd_k _ ha) dX2_higherThan_54 (by decide) (by decide) rfl ?_
          refine x_astore_n F dX2_higherThan_57 (by decide) ?_
          refine xj_iinc F dX2_higherThan_58 rfl ?_
          refine x_goto (tgt := 10) F dX2_higherThan_61 (by decide) ?_
          exact ih (i + 1) _ _ (by omega) (fun b q => hT _ _ _ q) hs (by omega)
        · rw [if_pos (by omega)] at hs
          refine x_iload_n F dX2_higherThan_29 rfl ?_
          refine x_aload_n F dX2_higherThan_30 rfl ?_
          refine xj_getiN F fnX2_29 (nd_k _ ha) dX2_higherThan_31 (by decide) (by decide) rfl (fun hg_6 => ?_)
          refine x_aload_n F dX2_higherThan_34 rfl ?_
          refine x_getrN F fnX2_32 (nd_k _ ha) dX2_higherThan_35 (by decide) (by decide) rfl ?_
          refine xj_iconst F dX2_higherThan_38 ?_
          refine x_S2 F (m_X2_allBelow hT 12 _ 1 (by omega) (fun b q => hT _ _ _ q)) mlX2_42 msX2_allBelow dX2_higherThan_39 ⟨Nat.le_of_ble_eq_true rfl, Nat.le_of_ble_eq_true rfl⟩ ⟨Nat.zero_le _, Nat.zero_le _⟩ (Nat.le_of_ble_eq_true rfl) ?_
          refine xj_iadd F dX2_higherThan_42 ?_
          refine xj_iadd F dX2_higherThan_43 ?_
          refine x_istore_n F dX2_higherThan_44 (by decide) ?_
          refine x_aload_n F dX2_higherThan_45 rfl ?_
          refine x_getrN F fnX2_35 (nd_k _ ha) dX2_higherThan_46 (by decide) (by decide) rfl ?_
          refine x_astore_n F dX2_higherThan_49 (by decide) ?_
          refine x_goto (tgt := 58) F dX2_higherThan_50 (by decide) ?_
          refine xj_iinc F dX2_higherThan_58 rfl ?_
          refine x_goto (tgt := 10) F dX2_higherThan_61 (by decide) ?_
          exact ih (i + 1) _ _ (by omega) (fun b q => hT _ _ _ q) hs (by omega)
set_option maxRecDepth 20000 in
theorem m_X2_higherThan {l : Launch} {E : xE} {h : Int} {M : xM} (hh : rg h) (hT : okT M) : XF l E 14 yX2_higherThan cX2_higherThan 5 (some FieldType.int) [vA 50, vI (jI h)] M (vI (jI (htI M h 12 (M.2.1 50 1) 0))) (M) := by
  refine xp_start (plainFor_of_name (by decide)) rfl (Nat.le_of_ble_eq_true rfl) ?_
  intro Y F FR
  refine xj_iconst F dX2_higherThan_0 ?_
  refine x_istore_n F dX2_higherThan_1 (by decide) ?_
  refine x_aload_n F dX2_higherThan_2 rfl ?_
  refine x_getr F flX2_18 rfl dX2_higherThan_3 (by decide) (by decide) rfl ?_
  refine x_astore_n F dX2_higherThan_6 (by decide) ?_
  refine xj_iconst F dX2_higherThan_7 ?_
  refine x_istore F dX2_higherThan_8 (by decide) ?_
  exact L_X2_higherThan hh hT F FR _ 0 0 _ (by omega) (fun b q => hT _ _ _ q) rfl (Nat.lt_succ_self _)
