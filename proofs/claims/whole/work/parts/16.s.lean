/-! TEXTS: the constants, by their numbers, and what the JDK's methods answer of them -/
def sLen (i : Nat) : Nat := xsLen.getD i 0
def sB (i : Nat) (z : Int) : Int := ((xsByt.getD i []).getD z.toNat 0).toInt
section XSTR
variable {l : Launch} {E : xE} {R : Room} {Y : xY} {cc : ByteArray} {own : String} {nL : Nat} {k n pc : Nat} {ls st : List xV} {M : xM}
theorem x_ldcS (F : xFix E (xA E) Y cc own nL) {i j : Nat} {tx : String} (h : (own, i, tx, j) ∈ xsR) (d : decode cc pc = .ok (.ldc i, 2)) (g : WP l E R (xA E) Y k n (pc + 2) ls (vQ (E.2.2.2.1 j) :: st) M) : WP l E R (xA E) Y k n pc ls st M := fun H locs lr hP hS hl hn => va_ldcS F.1 F.2.1 F.2.2.2.1 (F.2.2.2.2.2.1.2.2.2.2.2.2.1 _ h) d (g H locs lr hP hS hl hn)
theorem x_gets1 (F : xFix E (xA E) Y cc own nL) {i : Nat} (h : Cond.fieldLink own i "java/lang/String" "COMPACT_STRINGS" "Z" ∈ LW) (d : decode cc pc = .ok (.getstatic i, 3)) (g : WP l E R (xA E) Y k n (pc + 3) ls (vI (jI 1) :: st) M) : WP l E R (xA E) Y k n pc ls st M := fun H locs lr hP hS hl hn => va_gets F.1 F.2.1 F.2.2.2.2.2.1.2.2.2.2.2.2.2.1 hS F.2.2.2.1 (F.2.2.2.2.1 _ h) (fun _ q => q) d (g H locs lr hP hS hl hn)
theorem x_getsF (F : xFix E (xA E) Y cc own nL) {i : Nat} (h : Cond.fieldLink own i "jdk/internal/util/Preconditions" "SIOOBE_FORMATTER" "Ljava/util/function/BiFunction;" ∈ LW) (d : decode cc pc = .ok (.getstatic i, 3)) (g : ∀ v : xV, xcat v = 1 → WP l E R (xA E) Y k n (pc + 3) ls (v :: st) M) : WP l E R (xA E) Y k n pc ls st M := fun H locs lr hP hS hl hn => by
  rcases F.2.2.2.2.2.1.2.2.2.2.2.2.2.2 with hz | ⟨t, hz⟩
  · exact va_gets F.1 F.2.1 hz hS F.2.2.2.1 (F.2.2.2.2.1 _ h) (fun _ q => q) d (g (vR none) rfl H locs lr hP hS hl hn)
  · exact va_gets F.1 F.2.1 hz hS F.2.2.2.1 (F.2.2.2.2.1 _ h) (fun _ q => q) d (g (vQ t) rfl H locs lr hP hS hl hn)
theorem x_getVal (F : xFix E (xA E) Y cc own nL) {i j : Nat} (hj : j < 8) (h : Cond.fieldLink own i "java/lang/String" "value" "[B" ∈ LW) (d : decode cc pc = .ok (.getfield i, 3)) (g : WP l E R (xA E) Y k n (pc + 3) ls (vQ (E.2.2.2.2 j) :: st) M) : WP l E R (xA E) Y k n pc ls (vQ (E.2.2.2.1 j) :: st) M := fun H locs lr hP hS hl hn => vk_getf F.1 F.2.1 (F.2.2.2.2.2.1.2.2.2.2.2.1.1 j hj).2.2.1 hS F.2.2.2.1 (F.2.2.2.2.1 _ h) (fun _ q => q) d (g H locs lr hP hS hl hn)
theorem x_getCoder (F : xFix E (xA E) Y cc own nL) {i j : Nat} (hj : j < 8) (h : Cond.fieldLink own i "java/lang/String" "coder" "B" ∈ LW) (d : decode cc pc = .ok (.getfield i, 3)) (g : WP l E R (xA E) Y k n (pc + 3) ls (vI (jI 0) :: st) M) : WP l E R (xA E) Y k n pc ls (vQ (E.2.2.2.1 j) :: st) M := fun H locs lr hP hS hl hn => vk_getf F.1 F.2.1 (F.2.2.2.2.2.1.2.2.2.2.2.1.1 j hj).2.1 hS F.2.2.2.1 (F.2.2.2.2.1 _ h) (fun _ q => q) d (g H locs lr hP hS hl hn)
theorem x_blen (F : xFix E (xA E) Y cc own nL) {j : Nat} (hj : j < 8) (d : decode cc pc = .ok (.arraylength, 1)) (g : WP l E R (xA E) Y k n (pc + 1) ls (vI (jI (sLen j : Int)) :: st) M) : WP l E R (xA E) Y k n pc ls (vQ (E.2.2.2.2 j) :: st) M := fun H locs lr hP hS hl hn => va_tlen F.1 F.2.1 (F.2.2.2.2.2.1.2.2.2.2.2.1.1 j hj).2.2.2 hS (v := jI (sLen j : Int)) (by rw [jI_nat]; rfl) d (g H locs lr hP hS hl hn)
theorem x_bald (F : xFix E (xA E) Y cc own nL) {j : Nat} (hj : j < 8) {z : Int} (hz : 0 ≤ z ∧ z < sLen j ∧ z < 1000) (d : decode cc pc = .ok (.baload, 1)) (g : WP l E R (xA E) Y k n (pc + 1) ls (vI (jI (sB j z)) :: st) M) : WP l E R (xA E) Y k n pc ls (vI (jI z) :: vQ (E.2.2.2.2 j) :: st) M := fun H locs lr hP hS hl hn => va_tb F.1 F.2.1 (F.2.2.2.2.2.1.2.2.2.2.2.1.1 j hj).2.2.2 hS (jI_in ⟨hz.1, hz.2.1⟩ (by omega)) (v := .int (jI (sB j z))) (by rw [jI_clamp (by omega)]; unfold sB; rw [jI_of]) d (g H locs lr hP hS hl hn)
theorem x_i2b (F : xFix E (xA E) Y cc own nL) {x : Int32} (d : decode cc pc = .ok (.i2b, 1)) (g : WP l E R (xA E) Y k n (pc + 1) ls (vI x.toInt8.toInt32 :: st) M) : WP l E R (xA E) Y k n pc ls (vI x :: st) M := fun H locs lr hP hS hl hn => lv_i2b F.1 F.2.1 d rfl (g H locs lr hP hS hl hn)
variable {y : MethodName} {cy : ByteArray} {nLy : Nat} {rty : Option FieldType} {d' idx : Nat} {As : List xV} {post : xV → xM → Prop} {st0 : List xV}
theorem x_callQP (F : xFix E (xA E) Y cc own nL) {j : Nat} (hj : j < 8) (hM : XP l E d' y cy nLy rty (vQ (E.2.2.2.1 j) :: As) M post) (hl : xML own idx y) (hv : xMV y cy nLy rty As.length) (hyc : y.cls = "java/lang/String") (hR : d' + 1 ≤ R.frames ∧ 8 + (nLy + 11) + 64 * d' ≤ R.locals) (hcs : k ≤ R.cells ∧ n ≤ R.slots) (hst : (st.map xcat).sum ≤ 8) (hs : st0 = As.reverse ++ vQ (E.2.2.2.1 j) :: st) (d : decode cc pc = .ok (.invokevirtual idx, 3)) (g : ∀ r M', post r M' → WP l E R (xA E) Y k n (pc + 3) ls (xps r st) M') : WP l E R (xA E) Y k n pc ls st0 M := by
  subst hs
  refine x_run (a := (xc E.2.2.1 (vQ (E.2.2.2.1 j)) :: As.map (xc E.2.2.1)).toArray) F ?_ g
  intro H locs lr hP hS hlr
  have hrecv := vk_recv F.2.2.2.2.2.1.2.2.2.2.2.1 hj hS
  rw [← hyc] at hrecv
  exact va_runV (As := As.map (xc E.2.2.1)) ⟨F.1, F.2.1, F.2.2.1, F.2.2.2.1, F.2.2.2.2.1⟩ hM (xcw_V F hl hv hR) ⟨xPc_blind _ _ _, hrecv, xpre F (vQ (E.2.2.2.1 j) :: As) hP hS⟩ rfl (by simp) (by rw [← F.2.2.1]; exact hlr.1) (by simp [xc]) (lv_room (xst_sum _ hst)) d hcs
theorem x_Q0 {r : xV} {M' : xM} (F : xFix E (xA E) Y cc own nL) {j : Nat} (hj : j < 8) (hM : XF l E d' y cy nLy rty [vQ (E.2.2.2.1 j)] M r M') (hl : xML own idx y) (hv : xMV y cy nLy rty 0) (d : decode cc pc = .ok (.invokevirtual idx, 3)) (hyc : y.cls = "java/lang/String") (hR : d' + 1 ≤ R.frames ∧ 8 + (nLy + 11) + 64 * d' ≤ R.locals) (hcs : k ≤ R.cells ∧ n ≤ R.slots) (hst : (st.map xcat).sum ≤ 8) (g : WP l E R (xA E) Y k n (pc + 3) ls (xps r st) M') : WP l E R (xA E) Y k n pc ls (vQ (E.2.2.2.1 j) :: st) M := x_callQP (As := []) F hj hM hl hv hyc hR hcs hst rfl d (fun _ _ h => by rw [h.1, h.2]; exact g)
theorem x_Q1 {r v : xV} {M' : xM} (F : xFix E (xA E) Y cc own nL) {j : Nat} (hj : j < 8) (hM : XF l E d' y cy nLy rty [vQ (E.2.2.2.1 j), v] M r M') (hl : xML own idx y) (hv : xMV y cy nLy rty 1) (d : decode cc pc = .ok (.invokevirtual idx, 3)) (hyc : y.cls = "java/lang/String") (hR : d' + 1 ≤ R.frames ∧ 8 + (nLy + 11) + 64 * d' ≤ R.locals) (hcs : k ≤ R.cells ∧ n ≤ R.slots) (hst : (st.map xcat).sum ≤ 8) (g : WP l E R (xA E) Y k n (pc + 3) ls (xps r st) M') : WP l E R (xA E) Y k n pc ls (v :: vQ (E.2.2.2.1 j) :: st) M := x_callQP (As := [v]) F hj hM hl hv hyc hR hcs hst rfl d (fun _ _ h => by rw [h.1, h.2]; exact g)
theorem x_Q2 {r v u : xV} {M' : xM} (F : xFix E (xA E) Y cc own nL) {j : Nat} (hj : j < 8) (hM : XF l E d' y cy nLy rty [vQ (E.2.2.2.1 j), v, u] M r M') (hl : xML own idx y) (hv : xMV y cy nLy rty 2) (d : decode cc pc = .ok (.invokevirtual idx, 3)) (hyc : y.cls = "java/lang/String") (hR : d' + 1 ≤ R.frames ∧ 8 + (nLy + 11) + 64 * d' ≤ R.locals) (hcs : k ≤ R.cells ∧ n ≤ R.slots) (hst : (st.map xcat).sum ≤ 8) (g : WP l E R (xA E) Y k n (pc + 3) ls (xps r st) M') : WP l E R (xA E) Y k n pc ls (u :: v :: vQ (E.2.2.2.1 j) :: st) M := x_callQP (As := [v, u]) F hj hM hl hv hyc hR hcs hst rfl d (fun _ _ h => by rw [h.1, h.2]; exact g)
end XSTR
theorem flCompact : Cond.fieldLink "java/lang/String" 38 "java/lang/String" "COMPACT_STRINGS" "Z" ∈ LW := LW_of 326 (by decide +kernel) (by decide +kernel)
theorem flFormat : Cond.fieldLink "java/lang/String" 1053 "jdk/internal/util/Preconditions" "SIOOBE_FORMATTER" "Ljava/util/function/BiFunction;" ∈ LW := LW_of 346 (by decide +kernel) (by decide +kernel)
theorem flValue : Cond.fieldLink "java/lang/String" 9 "java/lang/String" "value" "[B" ∈ LW := LW_of 1463 (by decide +kernel) (by decide +kernel)
theorem flCoder : Cond.fieldLink "java/lang/String" 15 "java/lang/String" "coder" "B" ∈ LW := LW_of 1464 (by decide +kernel) (by decide +kernel)
theorem sLen_le : ∀ j, j < 8 → sLen j ≤ 11 := by decide +kernel
theorem sB_ok : ∀ j, j < 8 → ∀ z : Nat, z < sLen j → (0 ≤ sB j z ∧ sB j z < 128) ∧ (((jI (sB j z) &&& jI 255).toUInt32 % 65536).toInt32 = jI (sB j z)) := by decide +kernel
theorem i2b_ok : ∀ n : Nat, n < 128 → (jI (n : Int)).toInt8.toInt32 = jI (n : Int) := by decide +kernel
set_option maxRecDepth 20000 in
theorem m_J0_coder_7d493 {l : Launch} {E : xE} {j : Nat} {M : xM} (hj : j < 8) : XF l E 1 yJ0_coder_7d493 cJ0_coder_7d493 1 (some FieldType.byte) [vQ (E.2.2.2.1 j)] M (vI (jI 0)) (M) := by
  refine xp_start (by decide +kernel) rfl (Nat.le_of_ble_eq_true rfl) ?_
  intro Y F FR
  refine x_gets1 F flCompact dJ0_coder_7d493_0 ?_
  refine xj_if_eq (tgt := 13) F dJ0_coder_7d493_3 (by decide) (by omega) (fun h_1 => ?_) (fun h_1 => ?_)
  · omega
  · refine x_aload_nQ F dJ0_coder_7d493_6 rfl ?_
    refine x_getCoder F hj flCoder dJ0_coder_7d493_7 ?_
    refine x_goto (tgt := 14) F dJ0_coder_7d493_10 (by decide) ?_
    refine x_iret F FR dJ0_coder_7d493_14 rfl (Nat.le_refl _) (Nat.le_refl _) ?_
    exact ⟨rfl, rfl⟩
set_option maxRecDepth 20000 in
theorem m_J0_isLatin1_aae02 {l : Launch} {E : xE} {j : Nat} {M : xM} (hj : j < 8) : XF l E 1 yJ0_isLatin1_aae02 cJ0_isLatin1_aae02 1 (some FieldType.boolean) [vQ (E.2.2.2.1 j)] M (vI (jI 1)) (M) := by
  refine xp_start (by decide +kernel) rfl (Nat.le_of_ble_eq_true rfl) ?_
  intro Y F FR
  refine x_gets1 F flCompact dJ0_isLatin1_aae02_0 ?_
  refine xj_if_eq (tgt := 17) F dJ0_isLatin1_aae02_3 (by decide) (by omega) (fun h_1 => ?_) (fun h_1 => ?_)
  · omega
  · refine x_aload_nQ F dJ0_isLatin1_aae02_6 rfl ?_
    refine x_getCoder F hj flCoder dJ0_isLatin1_aae02_7 ?_
    refine xj_if_ne (tgt := 17) F dJ0_isLatin1_aae02_10 (by decide) (by omega) (fun h_2 => ?_) (fun h_2 => ?_)
    · omega
    · refine xj_iconst F dJ0_isLatin1_aae02_13 ?_
      refine x_goto (tgt := 18) F dJ0_isLatin1_aae02_14 (by decide) ?_
      refine x_iret F FR dJ0_isLatin1_aae02_18 rfl (Nat.le_refl _) (Nat.le_refl _) ?_
      exact ⟨rfl, rfl⟩
set_option maxRecDepth 20000 in
theorem m_J0_length_8abf5 {l : Launch} {E : xE} {j : Nat} {M : xM} (hj : j < 8) : XF l E 2 yJ0_length_8abf5 cJ0_length_8abf5 1 (some FieldType.int) [vQ (E.2.2.2.1 j)] M (vI (jI (sLen j : Int))) (M) := by
  refine xp_start (by decide +kernel) rfl (Nat.le_of_ble_eq_true rfl) ?_
  intro Y F FR
  refine x_aload_nQ F dJ0_length_8abf5_0 rfl ?_
  refine x_getVal F hj flValue dJ0_length_8abf5_1 ?_
  refine x_blen F hj dJ0_length_8abf5_4 ?_
  refine x_aload_nQ F dJ0_length_8abf5_5 rfl ?_
  refine x_Q0 F hj (m_J0_coder_7d493 hj) mlJ0_335 mvJ0_coder_7d493 dJ0_length_8abf5_6 (by decide +kernel) ⟨Nat.le_of_ble_eq_true rfl, Nat.le_of_ble_eq_true rfl⟩ ⟨Nat.zero_le _, Nat.zero_le _⟩ (Nat.le_of_ble_eq_true rfl) ?_
  refine x_ishr F dJ0_length_8abf5_9 ?_
  rw [show jI (sLen j : Int) >>> (jI 0 &&& 31) = jI (sLen j : Int) from sb_shr0 _]
  refine x_iret F FR dJ0_length_8abf5_10 rfl (Nat.le_refl _) (Nat.le_refl _) ?_
  exact ⟨rfl, rfl⟩
theorem xEnt_3 {z n : Int} {v : xV} (hv : xcat v = 1) : xEnt [vI (jI z), vI (jI n), v] ++ List.replicate (3 - (xEnt [vI (jI z), vI (jI n), v]).length) vU = [vI (jI z), vI (jI n), v] := by
  have h : xEnt [vI (jI z), vI (jI n), v] = [vI (jI z), vI (jI n), v] := by
    show vI (jI z) :: vI (jI n) :: v :: (if xcat v = 2 then vU :: xEnt [] else xEnt []) = _
    rw [hv]; rfl
  rw [h]; rfl
theorem xEnt_3l {z n : Int} {v : xV} (hv : xcat v = 1) : (xEnt [vI (jI z), vI (jI n), v]).length ≤ 3 := by
  show (vI (jI z) :: vI (jI n) :: v :: (if xcat v = 2 then vU :: xEnt [] else xEnt [])).length ≤ 3
  rw [hv]; exact Nat.le_refl _
set_option maxRecDepth 20000 in
theorem m_J3_checkIndex_8e157 {l : Launch} {E : xE} {z n : Int} {v : xV} {M : xM} (hz : 0 ≤ z ∧ z < n) (hn : n < 1000) (hv : xcat v = 1) : XF l E 1 yJ3_checkIndex_8e157 cJ3_checkIndex_8e157 3 (some FieldType.int) [vI (jI z), vI (jI n), v] M (vI (jI z)) (M) := by
  refine xp_start (by decide +kernel) (xEnt_3 hv) (xEnt_3l hv) ?_
  intro Y F FR
  refine x_iload_n F dJ3_checkIndex_8e157_0 rfl ?_
  refine xj_if_lt (tgt := 9) F dJ3_checkIndex_8e157_1 (by decide) (by omega) (fun h_1 => ?_) (fun h_1 => ?_)
  · omega
  · refine x_iload_n F dJ3_checkIndex_8e157_4 rfl ?_
    refine x_iload_n F dJ3_checkIndex_8e157_5 rfl ?_
    refine xj_icmp_lt (tgt := 16) F dJ3_checkIndex_8e157_6 (by decide) (by omega) (fun h_2 => ?_) (fun h_2 => ?_)
    · refine x_iload_n F dJ3_checkIndex_8e157_16 rfl ?_
      refine x_iret F FR dJ3_checkIndex_8e157_17 rfl (Nat.le_refl _) (Nat.le_refl _) ?_
      exact ⟨rfl, rfl⟩
    · omega
set_option maxRecDepth 20000 in
theorem m_J0_checkIndex_df160 {l : Launch} {E : xE} {z n : Int} {M : xM} (hz : 0 ≤ z ∧ z < n) (hn : n < 1000) : XF l E 2 yJ0_checkIndex_df160 cJ0_checkIndex_df160 2 none [vI (jI z), vI (jI n)] M (vU) (M) := by
  refine xp_start (by decide +kernel) rfl (Nat.le_of_ble_eq_true rfl) ?_
  intro Y F FR
  refine x_iload_n F dJ0_checkIndex_df160_0 rfl ?_
  refine x_iload_n F dJ0_checkIndex_df160_1 rfl ?_
  refine x_getsF F flFormat dJ0_checkIndex_df160_2 (fun v9 hv9 => ?_)
  refine x_S3 F (m_J3_checkIndex_8e157 hz hn hv9) mlJ0_1059 msJ3_checkIndex_8e157 dJ0_checkIndex_df160_5 ⟨Nat.le_of_ble_eq_true rfl, Nat.le_of_ble_eq_true rfl⟩ ⟨Nat.zero_le _, Nat.zero_le _⟩ (Nat.le_of_ble_eq_true rfl) ?_
  refine x_pop F dJ0_checkIndex_df160_8 rfl ?_
  refine x_vret F FR dJ0_checkIndex_df160_9 (Nat.le_refl _) (Nat.le_refl _) ?_
  exact ⟨rfl, rfl⟩
theorem sBnar {x : Int} (h : 0 ≤ x ∧ x < 128) : narrow .char (.int (jI x)) = .int (jI x) := by
  have e : jI x = nI x.toNat := by rw [← jI_nat]; congr 1; omega
  rw [e]
  exact (pk_charN (by omega)).1
set_option maxRecDepth 20000 in
theorem m_J1_charAt_3b067 {l : Launch} {E : xE} {j : Nat} {z : Int} {M : xM} (hj : j < 8) (hz : 0 ≤ z ∧ z < sLen j) : XF l E 3 yJ1_charAt_3b067 cJ1_charAt_3b067 2 (some FieldType.char) [vQ (E.2.2.2.2 j), vI (jI z)] M (vI (jI (sB j z))) (M) := by
  refine xp_start (by decide +kernel) rfl (Nat.le_of_ble_eq_true rfl) ?_
  intro Y F FR
  have hL := sLen_le j hj
  obtain ⟨hb, hc⟩ := sB_ok j hj z.toNat (by omega)
  rw [show ((z.toNat : Nat) : Int) = z by omega] at hb hc
  refine x_iload_n F dJ1_charAt_3b067_0 rfl ?_
  refine x_aload_nQ F dJ1_charAt_3b067_1 rfl ?_
  refine x_blen F hj dJ1_charAt_3b067_2 ?_
  refine x_S2 F (m_J0_checkIndex_df160 hz (by omega)) mlJ1_9 msJ0_checkIndex_df160 dJ1_charAt_3b067_3 ⟨Nat.le_of_ble_eq_true rfl, Nat.le_of_ble_eq_true rfl⟩ ⟨Nat.zero_le _, Nat.zero_le _⟩ (Nat.le_of_ble_eq_true rfl) ?_
  refine x_aload_nQ F dJ1_charAt_3b067_6 rfl ?_
  refine x_iload_n F dJ1_charAt_3b067_7 rfl ?_
  refine x_bald F hj (by omega) dJ1_charAt_3b067_8 ?_
  refine xj_sipush F dJ1_charAt_3b067_9 (by decide) ?_
  refine x_iand F dJ1_charAt_3b067_12 ?_
  refine x_i2c F dJ1_charAt_3b067_13 ?_
  refine x_iret F FR dJ1_charAt_3b067_14 (by rw [hc]; exact sBnar hb) (Nat.le_refl _) (Nat.le_refl _) ?_
  exact ⟨by rw [hc], rfl⟩
set_option maxRecDepth 20000 in
theorem m_J0_charAt_5068e {l : Launch} {E : xE} {j : Nat} {z : Int} {M : xM} (hj : j < 8) (hz : 0 ≤ z ∧ z < sLen j) : XF l E 4 yJ0_charAt_5068e cJ0_charAt_5068e 2 (some FieldType.char) [vQ (E.2.2.2.1 j), vI (jI z)] M (vI (jI (sB j z))) (M) := by
  refine xp_start (by decide +kernel) rfl (Nat.le_of_ble_eq_true rfl) ?_
  intro Y F FR
  have hL := sLen_le j hj
  obtain ⟨hb, hc⟩ := sB_ok j hj z.toNat (by omega)
  rw [show ((z.toNat : Nat) : Int) = z by omega] at hb hc
  refine x_aload_nQ F dJ0_charAt_5068e_0 rfl ?_
  refine x_Q0 F hj (m_J0_isLatin1_aae02 hj) mlJ0_492 mvJ0_isLatin1_aae02 dJ0_charAt_5068e_1 (by decide +kernel) ⟨Nat.le_of_ble_eq_true rfl, Nat.le_of_ble_eq_true rfl⟩ ⟨Nat.zero_le _, Nat.zero_le _⟩ (Nat.le_of_ble_eq_true rfl) ?_
  refine xj_if_eq (tgt := 16) F dJ0_charAt_5068e_4 (by decide) (by omega) (fun h_1 => ?_) (fun h_1 => ?_)
  · omega
  · refine x_aload_nQ F dJ0_charAt_5068e_7 rfl ?_
    refine x_getVal F hj flValue dJ0_charAt_5068e_8 ?_
    refine x_iload_n F dJ0_charAt_5068e_11 rfl ?_
    refine x_S2 F (m_J1_charAt_3b067 hj hz) mlJ0_495 msJ1_charAt_3b067 dJ0_charAt_5068e_12 ⟨Nat.le_of_ble_eq_true rfl, Nat.le_of_ble_eq_true rfl⟩ ⟨Nat.zero_le _, Nat.zero_le _⟩ (Nat.le_of_ble_eq_true rfl) ?_
    refine x_iret F FR dJ0_charAt_5068e_15 (sBnar hb) (Nat.le_refl _) (Nat.le_refl _) ?_
    exact ⟨rfl, rfl⟩
set_option maxRecDepth 20000 in
theorem m_J1_canEncode_9a6ad {l : Launch} {E : xE} {z : Int} {M : xM} (hz : 0 ≤ z ∧ z < 128) : XF l E 1 yJ1_canEncode_9a6ad cJ1_canEncode_9a6ad 1 (some FieldType.boolean) [vI (jI z)] M (vI (jI 1)) (M) := by
  refine xp_start (by decide +kernel) rfl (Nat.le_of_ble_eq_true rfl) ?_
  intro Y F FR
  refine x_iload_n F dJ1_canEncode_9a6ad_0 rfl ?_
  refine xj_if_lt (tgt := 15) F dJ1_canEncode_9a6ad_1 (by decide) (by omega) (fun h_1 => ?_) (fun h_1 => ?_)
  · omega
  · refine x_iload_n F dJ1_canEncode_9a6ad_4 rfl ?_
    refine xj_sipush F dJ1_canEncode_9a6ad_5 (by decide) ?_
    refine xj_icmp_gt (tgt := 15) F dJ1_canEncode_9a6ad_8 (by decide) (by omega) (fun h_2 => ?_) (fun h_2 => ?_)
    · omega
    · refine xj_iconst F dJ1_canEncode_9a6ad_11 ?_
      refine x_goto (tgt := 16) F dJ1_canEncode_9a6ad_12 (by decide) ?_
      refine x_iret F FR dJ1_canEncode_9a6ad_16 rfl (Nat.le_refl _) (Nat.le_refl _) ?_
      exact ⟨rfl, rfl⟩
/-- where a sign stands in "btas" -/
def vxP (ch : Int) : Int → Bool := fun p => decide (sB 7 p = ch)
def vxI (ch : Int) : Int := fnP (vxP ch) 0 4
set_option maxRecDepth 20000 in
theorem L_J1_indexOfChar {l : Launch} {E : xE} {ch : Int} {M : xM} (hc : 0 ≤ ch ∧ ch < 128) {Y : xY} (F : xFix E (xA E) Y cJ1_indexOfChar_4cfef yJ1_indexOfChar_4cfef.cls 6) (FR : xRet E Y (some FieldType.int) 0 0 (fun r' M'' => r' = vI (jI (vxI ch)) ∧ M'' = M) (fun _ _ => False)) : ∀ (k : Nat) (i : Int), 0 ≤ i ∧ i ≤ 4 → fnP (vxP ch) i (4 - i).toNat = vxI ch → (4 - i).toNat < k → WP l E (xRm 1 0 0) (xA E) Y 0 0 7 [vQ (E.2.2.2.2 7), vI (jI ch), vI (jI 0), vI (jI 4), vI (jI ch), vI (jI i)] [] M := by
  intro k
  induction k with
  | zero => intro i hi hf hk; exact absurd hk (Nat.not_lt_zero _)
  | succ k ih =>
    intro i hi hf hk
    have hb : 0 ≤ sB 7 i ∧ sB 7 i < 128 := by
      rcases Int.lt_or_le i 4 with h | h
      · have h9 := (sB_ok 7 (by decide) i.toNat (by show i.toNat < 4; omega)).1
        rwa [show ((i.toNat : Nat) : Int) = i by omega] at h9
      · rw [show i = 4 by omega]
        decide
    refine x_iload F dJ1_indexOfChar_4cfef_7 rfl ?_
    refine x_iload_n F dJ1_indexOfChar_4cfef_9 rfl ?_
    refine xj_icmp_ge (tgt := 31) F dJ1_indexOfChar_4cfef_10 (by decide) (by omega) (fun h_1 => ?_) (fun h_1 => ?_)
    · rw [show (4 - i).toNat = 0 by omega] at hf
      refine xj_iconst F dJ1_indexOfChar_4cfef_31 ?_
      refine x_iret F FR dJ1_indexOfChar_4cfef_32 rfl (Nat.le_refl _) (Nat.le_refl _) ?_
      exact ⟨vj hf, rfl⟩
    · refine x_aload_nQ F dJ1_indexOfChar_4cfef_13 rfl ?_
      refine x_iload F dJ1_indexOfChar_4cfef_14 rfl ?_
      refine x_bald (j := 7) F (by decide) (by show 0 ≤ i ∧ i < 4 ∧ i < 1000; omega) dJ1_indexOfChar_4cfef_16 ?_
      refine x_iload F dJ1_indexOfChar_4cfef_17 rfl ?_
      refine xj_icmp_ne (tgt := 25) F dJ1_indexOfChar_4cfef_19 (by decide) (by omega) (fun h_2 => ?_) (fun h_2 => ?_)
      · have ht : vxP ch i = false := decide_eq_false h_2
        rw [show (4 - i).toNat = (4 - (i + 1)).toNat + 1 by omega] at hf
        simp only [fnP] at hf
        rw [if_neg (by rw [ht]; decide)] at hf
        refine xj_iinc F dJ1_indexOfChar_4cfef_25 rfl ?_
        refine x_goto (tgt := 7) F dJ1_indexOfChar_4cfef_28 (by decide) ?_
        exact ih (i + 1) (by omega) hf (by omega)
      · have ht : vxP ch i = true := decide_eq_true h_2
        rw [show (4 - i).toNat = (4 - (i + 1)).toNat + 1 by omega] at hf
        simp only [fnP] at hf
        rw [if_pos ht] at hf
        refine x_iload F dJ1_indexOfChar_4cfef_22 rfl ?_
        refine x_iret F FR dJ1_indexOfChar_4cfef_24 rfl (Nat.le_refl _) (Nat.le_refl _) ?_
        exact ⟨vj hf, rfl⟩
set_option maxRecDepth 20000 in
theorem m_J1_indexOfChar_4cfef {l : Launch} {E : xE} {ch : Int} {M : xM} (hc : 0 ≤ ch ∧ ch < 128) : XF l E 1 yJ1_indexOfChar_4cfef cJ1_indexOfChar_4cfef 6 (some FieldType.int) [vQ (E.2.2.2.2 7), vI (jI ch), vI (jI 0), vI (jI 4)] M (vI (jI (vxI ch))) (M) := by
  refine xp_start (by decide +kernel) rfl (Nat.le_of_ble_eq_true rfl) ?_
  intro Y F FR
  refine x_iload_n F dJ1_indexOfChar_4cfef_0 rfl ?_
  refine x_i2b F dJ1_indexOfChar_4cfef_1 ?_
  have e8 : (jI ch).toInt8.toInt32 = jI ch := by have := i2b_ok ch.toNat (by omega); rwa [show ((ch.toNat : Nat) : Int) = ch by omega] at this
  rw [e8]
  refine x_istore F dJ1_indexOfChar_4cfef_2 (by decide) ?_
  refine x_iload_n F dJ1_indexOfChar_4cfef_4 rfl ?_
  refine x_istore F dJ1_indexOfChar_4cfef_5 (by decide) ?_
  exact L_J1_indexOfChar hc F FR _ 0 (by omega) rfl (Nat.lt_succ_self _)
set_option maxRecDepth 20000 in
theorem m_J1_indexOf_4cfef {l : Launch} {E : xE} {ch : Int} {M : xM} (hc : 0 ≤ ch ∧ ch < 128) : XF l E 2 yJ1_indexOf_4cfef cJ1_indexOf_4cfef 4 (some FieldType.int) [vQ (E.2.2.2.2 7), vI (jI ch), vI (jI 0), vI (jI 4)] M (vI (jI (vxI ch))) (M) := by
  refine xp_start (by decide +kernel) rfl (Nat.le_of_ble_eq_true rfl) ?_
  intro Y F FR
  refine x_iload_n F dJ1_indexOf_4cfef_0 rfl ?_
  refine x_S1 F (m_J1_canEncode_9a6ad hc) mlJ1_88 msJ1_canEncode_9a6ad dJ1_indexOf_4cfef_1 ⟨Nat.le_of_ble_eq_true rfl, Nat.le_of_ble_eq_true rfl⟩ ⟨Nat.zero_le _, Nat.zero_le _⟩ (Nat.le_of_ble_eq_true rfl) ?_
  refine xj_if_ne (tgt := 9) F dJ1_indexOf_4cfef_4 (by decide) (by omega) (fun h_1 => ?_) (fun h_1 => ?_)
  · refine x_iload_n F dJ1_indexOf_4cfef_9 rfl ?_
    refine xj_iconst F dJ1_indexOf_4cfef_10 ?_
    refine x_S2 F (m_J9_max_7cf53 (by first | assumption | omega | decide) (by first | assumption | omega | decide)) mlJ1_92 msJ9_max_7cf53 dJ1_indexOf_4cfef_11 ⟨Nat.le_of_ble_eq_true rfl, Nat.le_of_ble_eq_true rfl⟩ ⟨Nat.zero_le _, Nat.zero_le _⟩ (Nat.le_of_ble_eq_true rfl) ?_
    refine x_istore_n F dJ1_indexOf_4cfef_14 (by decide) ?_
    refine x_iload_n F dJ1_indexOf_4cfef_15 rfl ?_
    refine x_aload_nQ F dJ1_indexOf_4cfef_16 rfl ?_
    refine x_blen (j := 7) F (by decide) dJ1_indexOf_4cfef_17 ?_
    rw [show jI (sLen 7 : Int) = jI 4 from rfl]
    refine x_S2 F (m_J9_min_7cf53 (by first | assumption | omega | decide) (by first | assumption | omega | decide)) mlJ1_38 msJ9_min_7cf53 dJ1_indexOf_4cfef_18 ⟨Nat.le_of_ble_eq_true rfl, Nat.le_of_ble_eq_true rfl⟩ ⟨Nat.zero_le _, Nat.zero_le _⟩ (Nat.le_of_ble_eq_true rfl) ?_
    refine x_istore_n F dJ1_indexOf_4cfef_21 (by decide) ?_
    refine x_iload_n F dJ1_indexOf_4cfef_22 rfl ?_
    refine x_iload_n F dJ1_indexOf_4cfef_23 rfl ?_
    refine xj_icmp_lt (tgt := 29) F dJ1_indexOf_4cfef_24 (by decide) (by omega) (fun h_2 => ?_) (fun h_2 => ?_)
    · refine x_aload_nQ F dJ1_indexOf_4cfef_29 rfl ?_
      refine x_iload_n F dJ1_indexOf_4cfef_30 rfl ?_
      refine x_iload_n F dJ1_indexOf_4cfef_31 rfl ?_
      refine x_iload_n F dJ1_indexOf_4cfef_32 rfl ?_
      refine x_S4 F (m_J1_indexOfChar_4cfef hc) mlJ1_95 msJ1_indexOfChar_4cfef dJ1_indexOf_4cfef_33 ⟨Nat.le_of_ble_eq_true rfl, Nat.le_of_ble_eq_true rfl⟩ ⟨Nat.zero_le _, Nat.zero_le _⟩ (Nat.le_of_ble_eq_true rfl) ?_
      refine x_iret F FR dJ1_indexOf_4cfef_36 rfl (Nat.le_refl _) (Nat.le_refl _) ?_
      exact ⟨rfl, rfl⟩
    · omega
  · omega
set_option maxRecDepth 20000 in
theorem m_J0_indexOf_7cf53 {l : Launch} {E : xE} {ch : Int} {M : xM} (hc : 0 ≤ ch ∧ ch < 128) : XF l E 3 yJ0_indexOf_7cf53 cJ0_indexOf_7cf53 3 (some FieldType.int) [vQ (E.2.2.2.1 7), vI (jI ch), vI (jI 0)] M (vI (jI (vxI ch))) (M) := by
  refine xp_start (by decide +kernel) rfl (Nat.le_of_ble_eq_true rfl) ?_
  intro Y F FR
  refine x_aload_nQ F dJ0_indexOf_7cf53_0 rfl ?_
  refine x_Q0 F (by decide) (m_J0_isLatin1_aae02 (j := 7) (by decide)) mlJ0_492 mvJ0_isLatin1_aae02 dJ0_indexOf_7cf53_1 (by decide +kernel) ⟨Nat.le_of_ble_eq_true rfl, Nat.le_of_ble_eq_true rfl⟩ ⟨Nat.zero_le _, Nat.zero_le _⟩ (Nat.le_of_ble_eq_true rfl) ?_
  refine xj_if_eq (tgt := 23) F dJ0_indexOf_7cf53_4 (by decide) (by omega) (fun h_1 => ?_) (fun h_1 => ?_)
  · omega
  · refine x_aload_nQ F dJ0_indexOf_7cf53_7 rfl ?_
    refine x_getVal (j := 7) F (by decide) flValue dJ0_indexOf_7cf53_8 ?_
    refine x_iload_n F dJ0_indexOf_7cf53_11 rfl ?_
    refine x_iload_n F dJ0_indexOf_7cf53_12 rfl ?_
    refine x_aload_nQ F dJ0_indexOf_7cf53_13 rfl ?_
    refine x_Q0 F (by decide) (m_J0_length_8abf5 (j := 7) (by decide)) mlJ0_505 mvJ0_length_8abf5 dJ0_indexOf_7cf53_14 (by decide +kernel) ⟨Nat.le_of_ble_eq_true rfl, Nat.le_of_ble_eq_true rfl⟩ ⟨Nat.zero_le _, Nat.zero_le _⟩ (Nat.le_of_ble_eq_true rfl) ?_
    rw [show jI (sLen 7 : Int) = jI 4 from rfl]
    refine x_S4 F (m_J1_indexOf_4cfef hc) mlJ0_637 msJ1_indexOf_4cfef dJ0_indexOf_7cf53_17 ⟨Nat.le_of_ble_eq_true rfl, Nat.le_of_ble_eq_true rfl⟩ ⟨Nat.zero_le _, Nat.zero_le _⟩ (Nat.le_of_ble_eq_true rfl) ?_
    refine x_goto (tgt := 36) F dJ0_indexOf_7cf53_20 (by decide) ?_
    refine x_iret F FR dJ0_indexOf_7cf53_36 rfl (Nat.le_refl _) (Nat.le_refl _) ?_
    exact ⟨rfl, rfl⟩
set_option maxRecDepth 20000 in
theorem m_J0_indexOf_0f7a4 {l : Launch} {E : xE} {ch : Int} {M : xM} (hc : 0 ≤ ch ∧ ch < 128) : XF l E 4 yJ0_indexOf_0f7a4 cJ0_indexOf_0f7a4 2 (some FieldType.int) [vQ (E.2.2.2.1 7), vI (jI ch)] M (vI (jI (vxI ch))) (M) := by
  refine xp_start (by decide +kernel) rfl (Nat.le_of_ble_eq_true rfl) ?_
  intro Y F FR
  refine x_aload_nQ F dJ0_indexOf_0f7a4_0 rfl ?_
  refine x_iload_n F dJ0_indexOf_0f7a4_1 rfl ?_
  refine xj_iconst F dJ0_indexOf_0f7a4_2 ?_
  refine x_Q2 F (by decide) (m_J0_indexOf_7cf53 hc) mlJ0_633 mvJ0_indexOf_7cf53 dJ0_indexOf_0f7a4_3 (by decide +kernel) ⟨Nat.le_of_ble_eq_true rfl, Nat.le_of_ble_eq_true rfl⟩ ⟨Nat.zero_le _, Nat.zero_le _⟩ (Nat.le_of_ble_eq_true rfl) ?_
  refine x_iret F FR dJ0_indexOf_0f7a4_6 rfl (Nat.le_refl _) (Nat.le_refl _) ?_
  exact ⟨rfl, rfl⟩
