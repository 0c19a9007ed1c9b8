/-! TEXTS: the constants, by their numbers, and what the JDK's methods answer of them -/
def sLen (i : Nat) : Nat := xsLen.getD i 0
def sB (i : Nat) (z : Int) : Int := ((xsByt.getD i []).getD z.toNat 0).toInt
section XSTR
variable {l : Launch} {E : xE} {R : Room} {Y : xY} {cc : ByteArray} {own : String} {nL : Nat} {k n pc : Nat} {ls st : List xV} {M : xM}
theorem x_ldcS (F : xFix E (xA E) Y cc own nL) {i j : Nat} {tx : String} (h : (own, i, tx, j) ∈ xsR) (d : decode cc pc = .ok (.ldc i, 2)) (g : WP l E R (xA E) Y k n (pc + 2) ls (vQ (E.2.2.2.1 j) :: st) M) : WP l E R (xA E) Y k n pc ls st M := fun H locs lr hP hS hl hn => va_ldcS F.1 F.2.1 F.2.2.2.1 (F.2.2.2.2.2.1.2.2.2.2.2.2.1 _ h) d (g H locs lr hP hS hl hn)
theorem x_gets1 (F : xFix E (xA E) Y cc own nL) {i : Nat} (h : Cond.fieldLink own i "java/lang/String" "COMPACT_STRINGS" "Z" ∈ LW) (d : decode cc pc = .ok (.getstatic i, 3)) (g : WP l E R (xA E) Y k n (pc + 3) ls (vI (jI 1) :: st) M) : WP l E R (xA E) Y k n pc ls st M := fun H locs lr hP hS hl hn => va_gets F.1 F.2.1 F.2.2.2.2.2.1.2.2.2.2.2.2.2.1 hS F.2.2.2.1 (F.2.2.2.2.1 _ h) (fun _ q => q) d (g H locs lr hP hS hl hn)
theorem x_getsF (F : xFix E (xA E) Y cc own nL) {i : Nat} (h : Cond.fieldLink own i "jdk/internal/util/Preconditions" "SIOOBE_FORMATTER" "Ljava/util/function/BiFunction;" ∈ LW) (d : decode cc pc = .ok (.getstatic i, 3)) (g : ∀ v : xV, xcat v = 1 → WP l E R (xA E) Y k n (pc + 3) ls (v :: st) M) : WP l E R (xA E) Y k n pc ls st M := fun H locs lr hP hS hl hn => by
  rcases F.2.2.2.2.2.1.2.2.2.2.2.2.2.2 with hz | ⟨t, hz⟩
  · exact va_gets F.1 F.2.1 hz hS F.2.2.2.1 (F.2.2.2.2.1 _ h) (fun _ q => q) d (g (vR none) rfl H locs lr hP hS hl hn)
  · exact va_gets F.1 F.2.1 hz hS F.2.2.2.1 (F.2.2.2.2.1 _ h) (fun _ q => q) d (g (vQ t) rfl H locs lr hP hS hl hn)
theorem x_getVal (F : xFix E (xA E) Y cc own nL) {i j : Nat} (hj : j < 1) (h : Cond.fieldLink own i "java/lang/String" "value" "[B" ∈ LW) (d : decode cc pc = .ok (.getfield i, 3)) (g : WP l E R (xA E) Y k n (pc + 3) ls (vQ (E.2.2.2.2 j) :: st) M) : WP l E R (xA E) Y k n pc ls (vQ (E.2.2.2.1 j) :: st) M := fun H locs lr hP hS hl hn => vk_getf F.1 F.2.1 (F.2.2.2.2.2.1.2.2.2.2.2.1.1 j hj).2.2.1 hS F.2.2.2.1 (F.2.2.2.2.1 _ h) (fun _ q => q) d (g H locs lr hP hS hl hn)
theorem x_getCoder (F : xFix E (xA E) Y cc own nL) {i j : Nat} (hj : j < 1) (h : Cond.fieldLink own i "java/lang/String" "coder" "B" ∈ LW) (d : decode cc pc = .ok (.getfield i, 3)) (g : WP l E R (xA E) Y k n (pc + 3) ls (vI (jI 0) :: st) M) : WP l E R (xA E) Y k n pc ls (vQ (E.2.2.2.1 j) :: st) M := fun H locs lr hP hS hl hn => vk_getf F.1 F.2.1 (F.2.2.2.2.2.1.2.2.2.2.2.1.1 j hj).2.1 hS F.2.2.2.1 (F.2.2.2.2.1 _ h) (fun _ q => q) d (g H locs lr hP hS hl hn)
theorem x_blen (F : xFix E (xA E) Y cc own nL) {j : Nat} (hj : j < 1) (d : decode cc pc = .ok (.arraylength, 1)) (g : WP l E R (xA E) Y k n (pc + 1) ls (vI (jI (sLen j : Int)) :: st) M) : WP l E R (xA E) Y k n pc ls (vQ (E.2.2.2.2 j) :: st) M := fun H locs lr hP hS hl hn => va_tlen F.1 F.2.1 (F.2.2.2.2.2.1.2.2.2.2.2.1.1 j hj).2.2.2 hS (v := jI (sLen j : Int)) (by rw [jI_nat]; rfl) d (g H locs lr hP hS hl hn)
theorem x_bald (F : xFix E (xA E) Y cc own nL) {j : Nat} (hj : j < 1) {z : Int} (hz : 0 ≤ z ∧ z < sLen j ∧ z < 1000) (d : decode cc pc = .ok (.baload, 1)) (g : WP l E R (xA E) Y k n (pc + 1) ls (vI (jI (sB j z)) :: st) M) : WP l E R (xA E) Y k n pc ls (vI (jI z) :: vQ (E.2.2.2.2 j) :: st) M := fun H locs lr hP hS hl hn => va_tb F.1 F.2.1 (F.2.2.2.2.2.1.2.2.2.2.2.1.1 j hj).2.2.2 hS (jI_in ⟨hz.1, hz.2.1⟩ (by omega)) (v := .int (jI (sB j z))) (by rw [jI_clamp (by omega)]; unfold sB; rw [jI_of]) d (g H locs lr hP hS hl hn)
theorem x_i2b (F : xFix E (xA E) Y cc own nL) {x : Int32} (d : decode cc pc = .ok (.i2b, 1)) (g : WP l E R (xA E) Y k n (pc + 1) ls (vI x.toInt8.toInt32 :: st) M) : WP l E R (xA E) Y k n pc ls (vI x :: st) M := fun H locs lr hP hS hl hn => lv_i2b F.1 F.2.1 d rfl (g H locs lr hP hS hl hn)
variable {y : MethodName} {cy : ByteArray} {nLy : Nat} {rty : Option FieldType} {d' idx : Nat} {As : List xV} {post : xV → xM → Prop} {st0 : List xV}
theorem x_callQP (F : xFix E (xA E) Y cc own nL) {j : Nat} (hj : j < 1) (hM : XP l E d' y cy nLy rty (vQ (E.2.2.2.1 j) :: As) M post) (hl : xML own idx y) (hv : xMV y cy nLy rty As.length) (hyc : y.cls = "java/lang/String") (hR : d' + 1 ≤ R.frames ∧ 8 + (nLy + 11) + 64 * d' ≤ R.locals) (hcs : k ≤ R.cells ∧ n ≤ R.slots) (hst : (st.map xcat).sum ≤ 8) (hs : st0 = As.reverse ++ vQ (E.2.2.2.1 j) :: st) (d : decode cc pc = .ok (.invokevirtual idx, 3)) (g : ∀ r M', post r M' → WP l E R (xA E) Y k n (pc + 3) ls (xps r st) M') : WP l E R (xA E) Y k n pc ls st0 M := by
  subst hs
  refine x_run (a := (xc E.2.2.1 (vQ (E.2.2.2.1 j)) :: As.map (xc E.2.2.1)).toArray) F ?_ g
  intro H locs lr hP hS hlr
  have hrecv := vk_recv F.2.2.2.2.2.1.2.2.2.2.2.1 hj hS
  rw [← hyc] at hrecv
  exact va_runV (As := As.map (xc E.2.2.1)) ⟨F.1, F.2.1, F.2.2.1, F.2.2.2.1, F.2.2.2.2.1⟩ hM (xcw_V F hl hv hR) ⟨xPc_blind _ _ _, hrecv, xpre F (vQ (E.2.2.2.1 j) :: As) hP hS⟩ rfl (by simp) (by rw [← F.2.2.1]; exact hlr.1) (by simp [xc]) (lv_room (xst_sum _ hst)) d hcs
theorem x_Q0 {r : xV} {M' : xM} (F : xFix E (xA E) Y cc own nL) {j : Nat} (hj : j < 1) (hM : XF l E d' y cy nLy rty [vQ (E.2.2.2.1 j)] M r M') (hl : xML own idx y) (hv : xMV y cy nLy rty 0) (d : decode cc pc = .ok (.invokevirtual idx, 3)) (hyc : y.cls = "java/lang/String") (hR : d' + 1 ≤ R.frames ∧ 8 + (nLy + 11) + 64 * d' ≤ R.locals) (hcs : k ≤ R.cells ∧ n ≤ R.slots) (hst : (st.map xcat).sum ≤ 8) (g : WP l E R (xA E) Y k n (pc + 3) ls (xps r st) M') : WP l E R (xA E) Y k n pc ls (vQ (E.2.2.2.1 j) :: st) M := x_callQP (As := []) F hj hM hl hv hyc hR hcs hst rfl d (fun _ _ h => by rw [h.1, h.2]; exact g)
theorem x_Q1 {r v : xV} {M' : xM} (F : xFix E (xA E) Y cc own nL) {j : Nat} (hj : j < 1) (hM : XF l E d' y cy nLy rty [vQ (E.2.2.2.1 j), v] M r M') (hl : xML own idx y) (hv : xMV y cy nLy rty 1) (d : decode cc pc = .ok (.invokevirtual idx, 3)) (hyc : y.cls = "java/lang/String") (hR : d' + 1 ≤ R.frames ∧ 8 + (nLy + 11) + 64 * d' ≤ R.locals) (hcs : k ≤ R.cells ∧ n ≤ R.slots) (hst : (st.map xcat).sum ≤ 8) (g : WP l E R (xA E) Y k n (pc + 3) ls (xps r st) M') : WP l E R (xA E) Y k n pc ls (v :: vQ (E.2.2.2.1 j) :: st) M := x_callQP (As := [v]) F hj hM hl hv hyc hR hcs hst rfl d (fun _ _ h => by rw [h.1, h.2]; exact g)
theorem x_Q2 {r v u : xV} {M' : xM} (F : xFix E (xA E) Y cc own nL) {j : Nat} (hj : j < 1) (hM : XF l E d' y cy nLy rty [vQ (E.2.2.2.1 j), v, u] M r M') (hl : xML own idx y) (hv : xMV y cy nLy rty 2) (d : decode cc pc = .ok (.invokevirtual idx, 3)) (hyc : y.cls = "java/lang/String") (hR : d' + 1 ≤ R.frames ∧ 8 + (nLy + 11) + 64 * d' ≤ R.locals) (hcs : k ≤ R.cells ∧ n ≤ R.slots) (hst : (st.map xcat).sum ≤ 8) (g : WP l E R (xA E) Y k n (pc + 3) ls (xps r st) M') : WP l E R (xA E) Y k n pc ls (u :: v :: vQ (E.2.2.2.1 j) :: st) M := x_callQP (As := [v, u]) F hj hM hl hv hyc hR hcs hst rfl d (fun _ _ h => by rw [h.1, h.2]; exact g)
end XSTR
theorem flCompact : Cond.fieldLink "java/lang/String" 38 "java/lang/String" "COMPACT_STRINGS" "Z" ∈ LW := LW_of 457 (by decide +kernel) (by decide +kernel)
theorem flFormat : Cond.fieldLink "java/lang/String" 1053 "jdk/internal/util/Preconditions" "SIOOBE_FORMATTER" "Ljava/util/function/BiFunction;" ∈ LW := LW_of 473 (by decide +kernel) (by decide +kernel)
theorem flValue : Cond.fieldLink "java/lang/String" 9 "java/lang/String" "value" "[B" ∈ LW := LW_of 811 (by decide +kernel) (by decide +kernel)
theorem flCoder : Cond.fieldLink "java/lang/String" 15 "java/lang/String" "coder" "B" ∈ LW := LW_of 812 (by decide +kernel) (by decide +kernel)
theorem sLen_le : ∀ j, j < 1 → sLen j ≤ 11 := by decide +kernel
theorem sB_ok : ∀ j, j < 1 → ∀ z : Nat, z < sLen j → (0 ≤ sB j z ∧ sB j z < 128) ∧ (((jI (sB j z) &&& jI 255).toUInt32 % 65536).toInt32 = jI (sB j z)) := by decide +kernel
theorem i2b_ok : ∀ n : Nat, n < 128 → (jI (n : Int)).toInt8.toInt32 = jI (n : Int) := by decide +kernel
set_option maxRecDepth 20000 in
theorem m_J0_coder_7d493 {l : Launch} {E : xE} {j : Nat} {M : xM} (hj : j < 1) : XF l E 1 yJ0_coder_7d493 cJ0_coder_7d493 1 (some FieldType.byte) [vQ (E.2.2.2.1 j)] M (vI (jI 0)) (M) := by
  refine xp_start (by decide +kernel) rfl (Nat.le_of_ble_eq_true rfl) ?_
  intro Y F FR
  refine x_gets1 F flCompact dJ0_coder_7d493_0 ?_
  refine xj_if_eq (tgt := 13) F dJ0_coder_7d493_3 (by decide) (by omega) (fun h_1 => ?_) (fun h_1 => ?_)
  · omega
  · refine x_aload_nQ F dJ0_coder_7d493_6 rfl ?_
    refine x_getCoder F hj flCoder dJ0_coder_7d493_7 ?_
    refine x_goto (tgt := 14) F dJ0_coder_7d493_10 (by decide) ?_
    refine x_iret F FR dJ0_coder_7d493_14 rfl (Nat.le_refl _) (Nat.le_refl _) ?_
    exact ⟨rfl, rfl⟩
set_option maxRecDepth 20000 in
theorem m_J0_isLatin1_aae02 {l : Launch} {E : xE} {j : Nat} {M : xM} (hj : j < 1) : XF l E 1 yJ0_isLatin1_aae02 cJ0_isLatin1_aae02 1 (some FieldType.boolean) [vQ (E.2.2.2.1 j)] M (vI (jI 1)) (M) := by
  refine xp_start (by decide +kernel) rfl (Nat.le_of_ble_eq_true rfl) ?_
  intro Y F FR
  refine x_gets1 F flCompact dJ0_isLatin1_aae02_0 ?_
  refine xj_if_eq (tgt := 17) F dJ0_isLatin1_aae02_3 (by decide) (by omega) (fun h_1 => ?_) (fun h_1 => ?_)
  · omega
  · refine x_aload_nQ F dJ0_isLatin1_aae02_6 rfl ?_
    refine x_getCoder F hj flCoder dJ0_isLatin1_aae02_7 ?_
    refine xj_if_ne (tgt := 17) F dJ0_isLatin1_aae02_10 (by decide) (by omega) (fun h_2 => ?_) (fun h_2 => ?_)
    · omega
    · refine xj_iconst F dJ0_isLatin1_aae02_13 ?_
      refine x_goto (tgt := 18) F dJ0_isLatin1_aae02_14 (by decide) ?_
      refine x_iret F FR dJ0_isLatin1_aae02_18 rfl (Nat.le_refl _) (Nat.le_refl _) ?_
      exact ⟨rfl, rfl⟩
set_option maxRecDepth 20000 in
theorem m_J0_length_8abf5 {l : Launch} {E : xE} {j : Nat} {M : xM} (hj : j < 1) : XF l E 2 yJ0_length_8abf5 cJ0_length_8abf5 1 (some FieldType.int) [vQ (E.2.2.2.1 j)] M (vI (jI (sLen j : Int))) (M) := by
  refine xp_start (by decide +kernel) rfl (Nat.le_of_ble_eq_true rfl) ?_
  intro Y F FR
  refine x_aload_nQ F dJ0_length_8abf5_0 rfl ?_
  refine x_getVal F hj flValue dJ0_length_8abf5_1 ?_
  refine x_blen F hj dJ0_length_8abf5_4 ?_
  refine x_aload_nQ F dJ0_length_8abf5_5 rfl ?_
  refine x_Q0 F hj (m_J0_coder_7d493 hj) mlJ0_335 mvJ0_coder_7d493 dJ0_length_8abf5_6 (by decide +kernel) ⟨Nat.le_of_ble_eq_true rfl, Nat.le_of_ble_eq_true rfl⟩ ⟨Nat.zero_le _, Nat.zero_le _⟩ (Nat.le_of_ble_eq_true rfl) ?_
  refine x_ishr F dJ0_length_8abf5_9 ?_
  rw [show jI (sLen j : Int) >>> (jI 0 &&& 31) = jI (sLen j : Int) from sb_shr0 _]
  refine x_iret F FR dJ0_length_8abf5_10 rfl (Nat.le_refl _) (Nat.le_refl _) ?_
  exact ⟨rfl, rfl⟩
theorem xEnt_3 {z n : Int} {v : xV} (hv : xcat v = 1) : xEnt [vI (jI z), vI (jI n), v] ++ List.replicate (3 - (xEnt [vI (jI z), vI (jI n), v]).length) vU = [vI (jI z), vI (jI n), v] := by
  have h : xEnt [vI (jI z), vI (jI n), v] = [vI (jI z), vI (jI n), v] := by
    show vI (jI z) :: vI (jI n) :: v :: (if xcat v = 2 then vU :: xEnt [] else xEnt []) = _
    rw [hv]; rfl
  rw [h]; rfl
theorem xEnt_3l {z n : Int} {v : xV} (hv : xcat v = 1) : (xEnt [vI (jI z), vI (jI n), v]).length ≤ 3 := by
  show (vI (jI z) :: vI (jI n) :: v :: (if xcat v = 2 then vU :: xEnt [] else xEnt [])).length ≤ 3
  rw [hv]; exact Nat.le_refl _
set_option maxRecDepth 20000 in
theorem m_J3_checkIndex_8e157 {l : Launch} {E : xE} {z n : Int} {v : xV} {M : xM} (hz : 0 ≤ z ∧ z < n) (hn : n < 1000) (hv : xcat v = 1) : XF l E 1 yJ3_checkIndex_8e157 cJ3_checkIndex_8e157 3 (some FieldType.int) [vI (jI z), vI (jI n), v] M (vI (jI z)) (M) := by
  refine xp_start (by decide +kernel) (xEnt_3 hv) (xEnt_3l hv) ?_
  intro Y F FR
  refine x_iload_n F dJ3_checkIndex_8e157_0 rfl ?_
  refine xj_if_lt (tgt := 9) F dJ3_checkIndex_8e157_1 (by decide) (by omega) (fun h_1 => ?_) (fun h_1 => ?_)
  · omega
  · refine x_iload_n F dJ3_checkIndex_8e157_4 rfl ?_
    refine x_iload_n F dJ3_checkIndex_8e157_5 rfl ?_
    refine xj_icmp_lt (tgt := 16) F dJ3_checkIndex_8e157_6 (by decide) (by omega) (fun h_2 => ?_) (fun h_2 => ?_)
    · refine x_iload_n F dJ3_checkIndex_8e157_16 rfl ?_
      refine x_iret F FR dJ3_checkIndex_8e157_17 rfl (Nat.le_refl _) (Nat.le_refl _) ?_
      exact ⟨rfl, rfl⟩
    · omega
set_option maxRecDepth 20000 in
theorem m_J0_checkIndex_df160 {l : Launch} {E : xE} {z n : Int} {M : xM} (hz : 0 ≤ z ∧ z < n) (hn : n < 1000) : XF l E 2 yJ0_checkIndex_df160 cJ0_checkIndex_df160 2 none [vI (jI z), vI (jI n)] M (vU) (M) := by
  refine xp_start (by decide +kernel) rfl (Nat.le_of_ble_eq_true rfl) ?_
  intro Y F FR
  refine x_iload_n F dJ0_checkIndex_df160_0 rfl ?_
  refine x_iload_n F dJ0_checkIndex_df160_1 rfl ?_
  refine x_getsF F flFormat dJ0_checkIndex_df160_2 (fun v9 hv9 => ?_)
  refine x_S3 F (m_J3_checkIndex_8e157 hz hn hv9) mlJ0_1059 msJ3_checkIndex_8e157 dJ0_checkIndex_df160_5 ⟨Nat.le_of_ble_eq_true rfl, Nat.le_of_ble_eq_true rfl⟩ ⟨Nat.zero_le _, Nat.zero_le _⟩ (Nat.le_of_ble_eq_true rfl) ?_
  refine x_pop F dJ0_checkIndex_df160_8 rfl ?_
  refine x_vret F FR dJ0_checkIndex_df160_9 (Nat.le_refl _) (Nat.le_refl _) ?_
  exact ⟨rfl, rfl⟩
theorem sBnar {x : Int} (h : 0 ≤ x ∧ x < 128) : narrow .char (.int (jI x)) = .int (jI x) := by
  have e : jI x = nI x.toNat := by rw [← jI_nat]; congr 1; omega
  rw [e]
  exact (pk_charN (by omega)).1
set_option maxRecDepth 20000 in
theorem m_J1_charAt_3b067 {l : Launch} {E : xE} {j : Nat} {z : Int} {M : xM} (hj : j < 1) (hz : 0 ≤ z ∧ z < sLen j) : XF l E 3 yJ1_charAt_3b067 cJ1_charAt_3b067 2 (some FieldType.char) [vQ (E.2.2.2.2 j), vI (jI z)] M (vI (jI (sB j z))) (M) := by
  refine xp_start (by decide +kernel) rfl (Nat.le_of_ble_eq_true rfl) ?_
  intro Y F FR
  have hL := sLen_le j hj
  obtain ⟨hb, hc⟩ := sB_ok j hj z.toNat (by omega)
  rw [show ((z.toNat : Nat) : Int) = z by omega] at hb hc
  refine x_iload_n F dJ1_charAt_3b067_0 rfl ?_
  refine x_aload_nQ F dJ1_charAt_3b067_1 rfl ?_
  refine x_blen F hj dJ1_charAt_3b067_2 ?_
  refine x_S2 F (m_J0_checkIndex_df160 hz (by omega)) mlJ1_9 msJ0_checkIndex_df160 dJ1_charAt_3b067_3 ⟨Nat.le_of_ble_eq_true rfl, Nat.le_of_ble_eq_true rfl⟩ ⟨Nat.zero_le _, Nat.zero_le _⟩ (Nat.le_of_ble_eq_true rfl) ?_
  refine x_aload_nQ F dJ1_charAt_3b067_6 rfl ?_
  refine x_iload_n F dJ1_charAt_3b067_7 rfl ?_
  refine x_bald F hj (by omega) dJ1_charAt_3b067_8 ?_
  refine xj_sipush F dJ1_charAt_3b067_9 (by decide) ?_
  refine x_iand F dJ1_charAt_3b067_12 ?_
  refine x_i2c F dJ1_charAt_3b067_13 ?_
  refine x_iret F FR dJ1_charAt_3b067_14 (by rw [hc]; exact sBnar hb) (Nat.le_refl _) (Nat.le_refl _) ?_
  exact ⟨by rw [hc], rfl⟩
set_option maxRecDepth 20000 in
theorem m_J0_charAt_5068e {l : Launch} {E : xE} {j : Nat} {z : Int} {M : xM} (hj : j < 1) (hz : 0 ≤ z ∧ z < sLen j) : XF l E 4 yJ0_charAt_5068e cJ0_charAt_5068e 2 (some FieldType.char) [vQ (E.2.2.2.1 j), vI (jI z)] M (vI (jI (sB j z))) (M) := by
  refine xp_start (by decide +kernel) rfl (Nat.le_of_ble_eq_true rfl) ?_
  intro Y F FR
  have hL := sLen_le j hj
  obtain ⟨hb, hc⟩ := sB_ok j hj z.toNat (by omega)
  rw [show ((z.toNat : Nat) : Int) = z by omega] at hb hc
  refine x_aload_nQ F dJ0_charAt_5068e_0 rfl ?_
  refine x_Q0 F hj (m_J0_isLatin1_aae02 hj) mlJ0_492 mvJ0_isLatin1_aae02 dJ0_charAt_5068e_1 (by decide +kernel) ⟨Nat.le_of_ble_eq_true rfl, Nat.le_of_ble_eq_true rfl⟩ ⟨Nat.zero_le _, Nat.zero_le _⟩ (Nat.le_of_ble_eq_true rfl) ?_
  refine xj_if_eq (tgt := 16) F dJ0_charAt_5068e_4 (by decide) (by omega) (fun h_1 => ?_) (fun h_1 => ?_)
  · omega
  · refine x_aload_nQ F dJ0_charAt_5068e_7 rfl ?_
    refine x_getVal F hj flValue dJ0_charAt_5068e_8 ?_
    refine x_iload_n F dJ0_charAt_5068e_11 rfl ?_
    refine x_S2 F (m_J1_charAt_3b067 hj hz) mlJ0_495 msJ1_charAt_3b067 dJ0_charAt_5068e_12 ⟨Nat.le_of_ble_eq_true rfl, Nat.le_of_ble_eq_true rfl⟩ ⟨Nat.zero_le _, Nat.zero_le _⟩ (Nat.le_of_ble_eq_true rfl) ?_
    refine x_iret F FR dJ0_charAt_5068e_15 (sBnar hb) (Nat.le_refl _) (Nat.le_refl _) ?_
    exact ⟨rfl, rfl⟩
