/-! THE OBJECT'S OWN SMALL METHODS -/
theorem hS_of {M : xM} {c : Nat} (h : okC M c) : ∀ q : Int, 0 ≤ szI M c q ∧ szI M c q ≤ 6 := h.1
theorem eqC_swP {M M' : xM} {c c' : Nat} (h : eqC M M' c c') {s t : Int} (hs : 0 ≤ s ∧ s < 24) (ht : 0 ≤ t ∧ t < 24) : eqC (swP M c s t) (swP M' c' s t) c c' := by
  refine ⟨fun j hj => ?_, fun j hj => ⟨?_, ?_, ?_⟩, fun j a b => ?_⟩
  · rw [swP_row (by omega), swP_row (by omega)]; exact h.1 j hj
  · rw [swP_r2, swP_r2, swC_at _ hs ht, swC_at _ hs ht, (h.2.1 s.toNat (by omega)).1, (h.2.1 t.toNat (by omega)).1, (h.2.1 j hj).1]
    simp only [true_and]
  · rw [swP_r3, swP_r3, swC_at _ hs ht, swC_at _ hs ht, (h.2.1 s.toNat (by omega)).2.1, (h.2.1 t.toNat (by omega)).2.1, (h.2.1 j hj).2.1]
    simp only [true_and]
  · rw [swP_r4, swP_r4, swC_at _ hs ht, swC_at _ hs ht, (h.2.1 s.toNat (by omega)).2.2, (h.2.1 t.toNat (by omega)).2.2, (h.2.1 j hj).2.2]
    simp only [true_and]
  · rw [swP_row (by omega), swP_row (by omega)]; exact h.2.2 j a b
theorem eqC_up {M M' : xM} {c c' : Nat} (h : eqC M M' c c') {k : Nat} {x : Int32} : eqC (upI M c k x) (upI M' c' k x) c c' := by
  refine ⟨fun j hj => ?_, fun j hj => ?_, fun j a b => ?_⟩
  · rw [upI_row (by omega), upI_row (by omega)]; exact h.1 j hj
  · rw [upI_row (by omega), upI_row (by omega), upI_row (by omega), upI_row (by omega), upI_row (by omega), upI_row (by omega)]; exact h.2.1 j hj
  · rw [upI_1, upI_1, h.2.2 j a b]; simp only [true_and]
theorem eqC_cs {M M' : xM} {c c' : Nat} (h : eqC M M' c c') (t b : Int) : eqC (csM M c t b) (csM M' c' t b) c c' := by
  unfold csM
  rw [szI_e h]
  split
  · refine ⟨fun j hj => ?_, fun j hj => ?_, fun j a b => ?_⟩
    · rw [upI_1, upI_1, h.1 j hj]; simp only [true_and]
    · rw [upI_row (by omega), upI_row (by omega), upI_row (by omega), upI_row (by omega), upI_row (by omega), upI_row (by omega)]; exact h.2.1 j hj
    · rw [upI_row (by omega), upI_row (by omega)]; exact h.2.2 j a b
  · exact h
theorem eqC_wr {M M' : xM} {c c' : Nat} (h : eqC M M' c c') {i : Nat} (hi : i = 2 ∨ i = 3 ∨ i = 4) (z : Int) (x : Int32) : eqC (wrI M (c + i) 24 z x) (wrI M' (c' + i) 24 z x) c c' := by
  have e : ∀ k, (k = 2 ∨ k = 3 ∨ k = 4) → ∀ j, M'.1 (c' + k) j = M.1 (c + k) j → (wrI M' (c' + i) 24 z x).1 (c' + k) j = (wrI M (c + i) 24 z x).1 (c + k) j := by
    intro k _ j hj
    rw [wrI_1, wrI_1, hj]
    by_cases hk : k = i
    · subst hk; simp only [true_and]
    · rw [if_neg (by omega), if_neg (by omega)]
  refine ⟨fun j hj => ?_, fun j hj => ⟨e 2 (by omega) j (h.2.1 j hj).1, e 3 (by omega) j (h.2.1 j hj).2.1, e 4 (by omega) j (h.2.1 j hj).2.2⟩, fun j a b => ?_⟩
  · rw [wrI_row (by omega), wrI_row (by omega)]; exact h.1 j hj
  · rw [wrI_row (by omega), wrI_row (by omega)]; exact h.2.2 j a b
theorem eqC_ar {M M' : xM} {c c' : Nat} (h : eqC M M' c c') (r x v : Int) : eqC (arM M c r x v) (arM M' c' r x v) c c' := by
  unfold arM
  rw [h.2.2 6 (by omega) (by omega), szI_e h]
  exact eqC_wr (eqC_wr (eqC_wr (eqC_cs (eqC_up h) r 1) (by omega) _ _) (by omega) _ _) (by omega) _ _
def osI (M : xM) (c : Nat) (r p z : Int) : Int :=
  if z = 0 then rdI (M.1 (c + 2)) 24 (spI r p) else if z = 1 then heI M c r p else if z = 2 then rdI (M.1 (c + 4)) 24 (spI r p)
  else if z = 3 then sbI M c r (p - (M.1 c 4).toInt) (p - 1) + sbI M c (rbI M c r) (p - (M.1 c 4).toInt) p
  else if z = 4 then hhI M c r p else if z = 5 then hhI M c r p else if z = 6 then hhI M c r p % 2
  else sbI M c r (p + 1) (p + (M.1 c 4).toInt) + sbI M c (rfI M c r) p (p + (M.1 c 4).toInt)
theorem osI_e {M M' : xM} {c c' : Nat} (h : eqC M M' c c') (r p z : Int) : osI M' c' r p z = osI M c r p z := by
  unfold osI
  rw [rd2_e h, heI_e h, rd4_e h, sbI_e h, sbI_e h, sbI_e h, sbI_e h, rbI_e h, rfI_e h, hhI_e h, h.2.2 4 (by omega) (by omega)]
def owI (M : xM) (c : Nat) (r z : Int) : Int :=
  if z = 0 then szI M c r else if z = 1 then odI M c r else if z = 2 then dcI M c r else if z = 3 then dcI M c r % 2
  else if z = 4 then (goA M c r).1 else if z = 5 then (goA M c r).2 else hiI M c r
theorem owI_e {M M' : xM} {c c' : Nat} (h : eqC M M' c c') (r z : Int) : owI M' c' r z = owI M c r z := by
  unfold owI
  rw [szI_e h, odI_e h, dcI_e h, goA_e h, hiI_e h]
def ohI (M : xM) (z : Int) : Int :=
  if z = 0 then sumI (szI M 1) 4 else if z = 1 then oaI M 1 else if z = 2 then (M.1 1 6).toInt else if z = 3 then (M.1 1 7).toInt else if z = 4 then (M.1 1 8).toInt
  else if z = 5 then daI M 1 else if z = 6 then (M.1 1 4).toInt else if z = 7 then (M.1 1 5).toInt else (M.1 16 2).toInt
theorem ohI_e {M M' : xM} (h : eqC M M' 1 1) (h16 : M'.1 16 2 = M.1 16 2) (z : Int) : ohI M' z = ohI M z := by
  unfold ohI
  rw [show szI M' 1 = szI M 1 from funext fun r => szI_e h r, oaI_e h, daI_e h, h.2.2 4 (by omega) (by omega), h.2.2 5 (by omega) (by omega), h.2.2 6 (by omega) (by omega), h.2.2 7 (by omega) (by omega), h.2.2 8 (by omega) (by omega), h16]
theorem vj2 {a b : Int} (h : b = a) : vI (jI a) = vI (jI b) := by rw [h]
set_option maxRecDepth 20000 in
theorem m_X6_ofSinger {l : Launch} {E : xE} {r p z : Int} {M : xM} (hO : okC M 1) (hT : okT M) (hr : 0 ≤ r ∧ r < 4) (hp : 0 ≤ p ∧ p < 6) (hz : 0 ≤ z ∧ z ≤ 7) : XP l E 16 yX6_ofSinger cX6_ofSinger 4 (some FieldType.int) [vA 0, vI (jI r), vI (jI p), vI (jI z)] M (fun r' M' => r' = vI (jI (osI M 1 r p z)) ∧ sameX M M') := by
  refine xp_start (plainFor_of_name (by decide)) rfl (Nat.le_of_ble_eq_true rfl) ?_
  intro Y F FR
  have hC : isCh 1 := ch1
  have hC6 : isCh 6 := ch6
  have hS := hS_of hO
  refine x_iload_n F dX6_ofSinger_0 rfl ?_
  by_cases h_1 : z = 0
  · refine xj_tabIn (off := 43) (tgt := 44) F dX6_ofSinger_1 (by omega) (by omega) (by rw [h_1]; rfl) (by decide) (by omega) ?_
    refine x_aload_n F dX6_ofSinger_44 rfl ?_
    refine x_getc (v := 1) F flX6_12 rfl dX6_ofSinger_45 (by decide) (by decide) rfl rfl ?_
    refine x_iload_n F dX6_ofSinger_48 rfl ?_
    refine x_iload_n F dX6_ofSinger_49 rfl ?_
    refine x_V2 F (m_X1_numberAt (by first | assumption | omega | decide) (by first | assumption | omega | decide) (by first | assumption | omega | decide)) mlX6_250 mvX1_numberAt rfl dX6_ofSinger_50 (by decide) rfl ⟨Nat.le_of_ble_eq_true rfl, Nat.le_of_ble_eq_true rfl⟩ ⟨Nat.zero_le _, Nat.zero_le _⟩ (Nat.le_of_ble_eq_true rfl) ?_
    have hf_2 := rg_rdI (M.1 (1 + 2)) 24 (spI r p)
    refine x_iret F FR dX6_ofSinger_53 rfl (Nat.le_refl _) (Nat.le_refl _) ?_
    refine ⟨vj2 (by unfold osI; rw [if_pos (by omega)]), sameX.rfl' _⟩
  by_cases h_3 : z = 1
  · refine xj_tabIn (off := 53) (tgt := 54) F dX6_ofSinger_1 (by omega) (by omega) (by rw [h_3]; rfl) (by decide) (by omega) ?_
    refine x_aload_n F dX6_ofSinger_54 rfl ?_
    refine x_getc (v := 1) F flX6_12 rfl dX6_ofSinger_55 (by decide) (by decide) rfl rfl ?_
    refine x_iload_n F dX6_ofSinger_58 rfl ?_
    refine x_iload_n F dX6_ofSinger_59 rfl ?_
    refine x_V2 F (m_X1_heightAt (by first | assumption | omega | decide) (by first | assumption | omega | decide) (by first | assumption | omega | decide)) mlX6_92 mvX1_heightAt rfl dX6_ofSinger_60 (by decide) rfl ⟨Nat.le_of_ble_eq_true rfl, Nat.le_of_ble_eq_true rfl⟩ ⟨Nat.zero_le _, Nat.zero_le _⟩ (Nat.le_of_ble_eq_true rfl) ?_
    have hf_4 := rg_heI M 1 r p
    refine x_iret F FR dX6_ofSinger_63 rfl (Nat.le_refl _) (Nat.le_refl _) ?_
    refine ⟨vj2 (by unfold osI; rw [if_neg (by omega), if_pos (by omega)]), sameX.rfl' _⟩
  by_cases h_5 : z = 2
  · refine xj_tabIn (off := 63) (tgt := 64) F dX6_ofSinger_1 (by omega) (by omega) (by rw [h_5]; rfl) (by decide) (by omega) ?_
    refine x_aload_n F dX6_ofSinger_64 rfl ?_
    refine x_getc (v := 1) F flX6_12 rfl dX6_ofSinger_65 (by decide) (by decide) rfl rfl ?_
    refine x_iload_n F dX6_ofSinger_68 rfl ?_
    refine x_iload_n F dX6_ofSinger_69 rfl ?_
    refine x_V2 F (m_X1_voiceAt (by first | assumption | omega | decide) (by first | assumption | omega | decide) (by first | assumption | omega | decide)) mlX6_253 mvX1_voiceAt rfl dX6_ofSinger_70 (by decide) rfl ⟨Nat.le_of_ble_eq_true rfl, Nat.le_of_ble_eq_true rfl⟩ ⟨Nat.zero_le _, Nat.zero_le _⟩ (Nat.le_of_ble_eq_true rfl) ?_
    have hf_6 := rg_rdI (M.1 (1 + 4)) 24 (spI r p)
    refine x_iret F FR dX6_ofSinger_73 rfl (Nat.le_refl _) (Nat.le_refl _) ?_
    refine ⟨vj2 (by unfold osI; rw [if_neg (by omega), if_neg (by omega), if_pos (by omega)]), sameX.rfl' _⟩
  by_cases h_7 : z = 3
  · refine xj_tabIn (off := 73) (tgt := 74) F dX6_ofSinger_1 (by omega) (by omega) (by rw [h_7]; rfl) (by decide) (by omega) ?_
    refine x_aload_n F dX6_ofSinger_74 rfl ?_
    refine x_getc (v := 1) F flX6_12 rfl dX6_ofSinger_75 (by decide) (by decide) rfl rfl ?_
    refine x_iload_n F dX6_ofSinger_78 rfl ?_
    refine x_iload_n F dX6_ofSinger_79 rfl ?_
    refine x_V2 F (m_X1_heardBy (by first | assumption | omega | decide) (by first | assumption | omega | decide) (by first | assumption | omega | decide) (by first | assumption | omega | decide)) mlX6_256 mvX1_heardBy rfl dX6_ofSinger_80 (by decide) rfl ⟨Nat.le_of_ble_eq_true rfl, Nat.le_of_ble_eq_true rfl⟩ ⟨Nat.zero_le _, Nat.zero_le _⟩ (Nat.le_of_ble_eq_true rfl) ?_
    refine x_iret F FR dX6_ofSinger_83 rfl (Nat.le_refl _) (Nat.le_refl _) ?_
    refine ⟨vj2 (by unfold osI; rw [if_neg (by omega), if_neg (by omega), if_neg (by omega), if_pos (by omega)]), sameX.rfl' _⟩
  by_cases h_8 : z = 4
  · refine xj_tabIn (off := 83) (tgt := 84) F dX6_ofSinger_1 (by omega) (by omega) (by rw [h_8]; rfl) (by decide) (by omega) ?_
    refine x_aload_n F dX6_ofSinger_84 rfl ?_
    refine x_getc (v := 1) F flX6_12 rfl dX6_ofSinger_85 (by decide) (by decide) rfl rfl ?_
    refine x_iload_n F dX6_ofSinger_88 rfl ?_
    refine x_iload_n F dX6_ofSinger_89 rfl ?_
    refine x_V2 F (m_X1_higherHeardBy (by first | assumption | omega | decide) (by first | assumption | omega | decide) (by first | assumption | omega | decide) (by first | assumption | omega | decide)) mlX6_259 mvX1_higherHeardBy rfl dX6_ofSinger_90 (by decide) rfl ⟨Nat.le_of_ble_eq_true rfl, Nat.le_of_ble_eq_true rfl⟩ ⟨Nat.zero_le _, Nat.zero_le _⟩ (Nat.le_of_ble_eq_true rfl) ?_
    have hf_9 := hhI_b hS r p
    refine x_iret F FR dX6_ofSinger_93 rfl (Nat.le_refl _) (Nat.le_refl _) ?_
    refine ⟨vj2 (by unfold osI; rw [if_neg (by omega), if_neg (by omega), if_neg (by omega), if_neg (by omega), if_pos (by omega)]), sameX.rfl' _⟩
  by_cases h_10 : z = 5
  · refine xj_tabIn (off := 93) (tgt := 94) F dX6_ofSinger_1 (by omega) (by omega) (by rw [h_10]; rfl) (by decide) (by omega) ?_
    refine x_aload_n F dX6_ofSinger_94 rfl ?_
    refine x_getc (v := 1) F flX6_12 rfl dX6_ofSinger_95 (by decide) (by decide) rfl rfl ?_
    refine x_aload_n F dX6_ofSinger_98 rfl ?_
    refine x_getc (v := 50) F flX6_43 rfl dX6_ofSinger_99 (by decide) (by decide) rfl rfl ?_
    refine x_iload_n F dX6_ofSinger_102 rfl ?_
    refine x_iload_n F dX6_ofSinger_103 rfl ?_
    refine x_V3 F (m_X1_higherByTree hC hO hr hp hT) mlX6_262 mvX1_higherByTree rfl dX6_ofSinger_104 (by decide) rfl ⟨Nat.le_of_ble_eq_true rfl, Nat.le_of_ble_eq_true rfl⟩ ⟨Nat.zero_le _, Nat.zero_le _⟩ (Nat.le_of_ble_eq_true rfl) ?_
    refine x_iret F FR dX6_ofSinger_107 rfl (Nat.le_refl _) (Nat.le_refl _) ?_
    refine ⟨vj2 (by unfold osI; rw [if_neg (by omega), if_neg (by omega), if_neg (by omega), if_neg (by omega), if_neg (by omega), if_pos (by omega)]; exact (hyI_eq hC hO hr hp hT).symm), hyM_same hC hO hr hp hT⟩
  by_cases h_11 : z = 6
  · refine xj_tabIn (off := 107) (tgt := 108) F dX6_ofSinger_1 (by omega) (by omega) (by rw [h_11]; rfl) (by decide) (by omega) ?_
    refine x_aload_n F dX6_ofSinger_108 rfl ?_
    refine x_getc (v := 1) F flX6_12 rfl dX6_ofSinger_109 (by decide) (by decide) rfl rfl ?_
    refine x_iload_n F dX6_ofSinger_112 rfl ?_
    refine x_iload_n F dX6_ofSinger_113 rfl ?_
    refine x_V2 F (m_X1_higherHeardBy (by first | assumption | omega | decide) (by first | assumption | omega | decide) (by first | assumption | omega | decide) (by first | assumption | omega | decide)) mlX6_259 mvX1_higherHeardBy rfl dX6_ofSinger_114 (by decide) rfl ⟨Nat.le_of_ble_eq_true rfl, Nat.le_of_ble_eq_true rfl⟩ ⟨Nat.zero_le _, Nat.zero_le _⟩ (Nat.le_of_ble_eq_true rfl) ?_
    have hf_12 := hhI_b hS r p
    refine xj_iconst F dX6_ofSinger_117 ?_
    refine xj_and1 F dX6_ofSinger_118 (by omega) ?_
    refine x_iret F FR dX6_ofSinger_119 rfl (Nat.le_refl _) (Nat.le_refl _) ?_
    refine ⟨vj2 (by unfold osI; rw [if_neg (by omega), if_neg (by omega), if_neg (by omega), if_neg (by omega), if_neg (by omega), if_neg (by omega), if_pos (by omega)]), sameX.rfl' _⟩
  refine xj_tabOut (tgt := 120) F dX6_ofSinger_1 (by omega) (by decide) (by omega) ?_
  refine x_aload_n F dX6_ofSinger_120 rfl ?_
  refine x_getc (v := 1) F flX6_12 rfl dX6_ofSinger_121 (by decide) (by decide) rfl rfl ?_
  refine x_iload_n F dX6_ofSinger_124 rfl ?_
  refine x_iload_n F dX6_ofSinger_125 rfl ?_
  refine x_V2 F (m_X1_hearersOf (by first | assumption | omega | decide) (by first | assumption | omega | decide) (by first | assumption | omega | decide) (by first | assumption | omega | decide)) mlX6_266 mvX1_hearersOf rfl dX6_ofSinger_126 (by decide) rfl ⟨Nat.le_of_ble_eq_true rfl, Nat.le_of_ble_eq_true rfl⟩ ⟨Nat.zero_le _, Nat.zero_le _⟩ (Nat.le_of_ble_eq_true rfl) ?_
  refine x_iret F FR dX6_ofSinger_129 rfl (Nat.le_refl _) (Nat.le_refl _) ?_
  refine ⟨vj2 (by unfold osI; rw [if_neg (by omega), if_neg (by omega), if_neg (by omega), if_neg (by omega), if_neg (by omega), if_neg (by omega), if_neg (by omega)]), sameX.rfl' _⟩
set_option maxRecDepth 20000 in
theorem m_X6_ofRow {l : Launch} {E : xE} {r z : Int} {M : xM} (hO : okC M 1) (hr : 0 ≤ r ∧ r < 4) (hz : 0 ≤ z ∧ z ≤ 6) : XP l E 14 yX6_ofRow cX6_ofRow 3 (some FieldType.int) [vA 0, vI (jI r), vI (jI z)] M (fun r' M' => r' = vI (jI (owI M 1 r z)) ∧ sameX M M') := by
  refine xp_start (plainFor_of_name (by decide)) rfl (Nat.le_of_ble_eq_true rfl) ?_
  intro Y F FR
  have hC : isCh 1 := ch1
  have hC6 : isCh 6 := ch6
  have hS := hS_of hO
  refine x_iload_n F dX6_ofRow_0 rfl ?_
  by_cases h_1 : z = 0
  · refine xj_tabIn (off := 39) (tgt := 40) F dX6_ofRow_1 (by omega) (by omega) (by rw [h_1]; rfl) (by decide) (by omega) ?_
    refine x_aload_n F dX6_ofRow_40 rfl ?_
    refine x_getc (v := 1) F flX6_12 rfl dX6_ofRow_41 (by decide) (by decide) rfl rfl ?_
    refine x_iload_n F dX6_ofRow_44 rfl ?_
    refine x_V1 F (m_X1_sizeOf (by first | assumption | omega | decide) (by first | assumption | omega | decide)) mlX6_107 mvX1_sizeOf rfl dX6_ofRow_45 (by decide) rfl ⟨Nat.le_of_ble_eq_true rfl, Nat.le_of_ble_eq_true rfl⟩ ⟨Nat.zero_le _, Nat.zero_le _⟩ (Nat.le_of_ble_eq_true rfl) ?_
    have hf_2 := rg_szI M 1 r
    refine x_iret F FR dX6_ofRow_48 rfl (Nat.le_refl _) (Nat.le_refl _) ?_
    refine ⟨vj2 (by unfold owI; rw [if_pos (by omega)]), sameX.rfl' _⟩
  by_cases h_3 : z = 1
  · refine xj_tabIn (off := 48) (tgt := 49) F dX6_ofRow_1 (by omega) (by omega) (by rw [h_3]; rfl) (by decide) (by omega) ?_
    refine x_aload_n F dX6_ofRow_49 rfl ?_
    refine x_getc (v := 1) F flX6_12 rfl dX6_ofRow_50 (by decide) (by decide) rfl rfl ?_
    refine x_iload_n F dX6_ofRow_53 rfl ?_
    refine x_V1 F (m_X1_oddIn (by first | assumption | omega | decide) (by first | assumption | omega | decide) (by first | assumption | omega | decide)) mlX6_269 mvX1_oddIn rfl dX6_ofRow_54 (by decide) rfl ⟨Nat.le_of_ble_eq_true rfl, Nat.le_of_ble_eq_true rfl⟩ ⟨Nat.zero_le _, Nat.zero_le _⟩ (Nat.le_of_ble_eq_true rfl) ?_
    have hf_4 := odI_b hS r
    refine x_iret F FR dX6_ofRow_57 rfl (Nat.le_refl _) (Nat.le_refl _) ?_
    refine ⟨vj2 (by unfold owI; rw [if_neg (by omega), if_pos (by omega)]), sameX.rfl' _⟩
  by_cases h_5 : z = 2
  · refine xj_tabIn (off := 57) (tgt := 58) F dX6_ofRow_1 (by omega) (by omega) (by rw [h_5]; rfl) (by decide) (by omega) ?_
    refine x_aload_n F dX6_ofRow_58 rfl ?_
    refine x_getc (v := 1) F flX6_12 rfl dX6_ofRow_59 (by decide) (by decide) rfl rfl ?_
    refine x_iload_n F dX6_ofRow_62 rfl ?_
    refine x_V1 F (m_X1_discordOf (by first | assumption | omega | decide) (by first | assumption | omega | decide) (by first | assumption | omega | decide)) mlX6_120 mvX1_discordOf rfl dX6_ofRow_63 (by decide) rfl ⟨Nat.le_of_ble_eq_true rfl, Nat.le_of_ble_eq_true rfl⟩ ⟨Nat.zero_le _, Nat.zero_le _⟩ (Nat.le_of_ble_eq_true rfl) ?_
    have hf_6 := dcI_b hS r
    refine x_iret F FR dX6_ofRow_66 rfl (Nat.le_refl _) (Nat.le_refl _) ?_
    refine ⟨vj2 (by unfold owI; rw [if_neg (by omega), if_neg (by omega), if_pos (by omega)]), sameX.rfl' _⟩
  by_cases h_7 : z = 3
  · refine xj_tabIn (off := 66) (tgt := 67) F dX6_ofRow_1 (by omega) (by omega) (by rw [h_7]; rfl) (by decide) (by omega) ?_
    refine x_aload_n F dX6_ofRow_67 rfl ?_
    refine x_getc (v := 1) F flX6_12 rfl dX6_ofRow_68 (by decide) (by decide) rfl rfl ?_
    refine x_iload_n F dX6_ofRow_71 rfl ?_
    refine x_V1 F (m_X1_discordOf (by first | assumption | omega | decide) (by first | assumption | omega | decide) (by first | assumption | omega | decide)) mlX6_120 mvX1_discordOf rfl dX6_ofRow_72 (by decide) rfl ⟨Nat.le_of_ble_eq_true rfl, Nat.le_of_ble_eq_true rfl⟩ ⟨Nat.zero_le _, Nat.zero_le _⟩ (Nat.le_of_ble_eq_true rfl) ?_
    have hf_8 := dcI_b hS r
    refine xj_iconst F dX6_ofRow_75 ?_
    refine xj_and1 F dX6_ofRow_76 (by omega) ?_
    refine x_iret F FR dX6_ofRow_77 rfl (Nat.le_refl _) (Nat.le_refl _) ?_
    refine ⟨vj2 (by unfold owI; rw [if_neg (by omega), if_neg (by omega), if_neg (by omega), if_pos (by omega)]), sameX.rfl' _⟩
  by_cases h_9 : z = 4
  · refine xj_tabIn (off := 77) (tgt := 78) F dX6_ofRow_1 (by omega) (by omega) (by rw [h_9]; rfl) (by decide) (by omega) ?_
    refine x_aload_n F dX6_ofRow_78 rfl ?_
    refine x_getc (v := 64) F flX6_50 rfl dX6_ofRow_79 (by decide) (by decide) rfl rfl ?_
    refine x_aload_n F dX6_ofRow_82 rfl ?_
    refine x_getc (v := 1) F flX6_12 rfl dX6_ofRow_83 (by decide) (by decide) rfl rfl ?_
    refine x_iload_n F dX6_ofRow_86 rfl ?_
    refine x_V2P F (m_X5_goThrough hC hO hr) mlX6_272 mvX5_goThrough rfl dX6_ofRow_87 (by decide) rfl ⟨Nat.le_of_ble_eq_true rfl, Nat.le_of_ble_eq_true rfl⟩ ⟨Nat.zero_le _, Nat.zero_le _⟩ (Nat.le_of_ble_eq_true rfl) (fun r_87 M_87 q_87 => ?_)
    obtain ⟨rfl, q3_87, q4_87⟩ := q_87
    refine x_aload_n F dX6_ofRow_90 rfl ?_
    refine x_getc (v := 64) F flX6_50 rfl dX6_ofRow_91 (by decide) (by decide) rfl rfl ?_
    refine xj_getiN F fnX6_276 rfl dX6_ofRow_94 (by decide) (by decide) rfl (fun hg_10 => ?_)
    refine x_iret F FR dX6_ofRow_97 rfl (Nat.le_refl _) (Nat.le_refl _) ?_
    refine ⟨vj2 (by unfold owI; rw [if_neg (by omega), if_neg (by omega), if_neg (by omega), if_neg (by omega), if_pos (by omega)]; exact q4_87.1.symm), q3_87⟩
  by_cases h_11 : z = 5
  · refine xj_tabIn (off := 97) (tgt := 98) F dX6_ofRow_1 (by omega) (by omega) (by rw [h_11]; rfl) (by decide) (by omega) ?_
    refine x_aload_n F dX6_ofRow_98 rfl ?_
    refine x_getc (v := 64) F flX6_50 rfl dX6_ofRow_99 (by decide) (by decide) rfl rfl ?_
    refine x_aload_n F dX6_ofRow_102 rfl ?_
    refine x_getc (v := 1) F flX6_12 rfl dX6_ofRow_103 (by decide) (by decide) rfl rfl ?_
    refine x_iload_n F dX6_ofRow_106 rfl ?_
    refine x_V2P F (m_X5_goThrough hC hO hr) mlX6_272 mvX5_goThrough rfl dX6_ofRow_107 (by decide) rfl ⟨Nat.le_of_ble_eq_true rfl, Nat.le_of_ble_eq_true rfl⟩ ⟨Nat.zero_le _, Nat.zero_le _⟩ (Nat.le_of_ble_eq_true rfl) (fun r_107 M_107 q_107 => ?_)
    obtain ⟨rfl, q3_107, q4_107⟩ := q_107
    refine x_aload_n F dX6_ofRow_110 rfl ?_
    refine x_getc (v := 64) F flX6_50 rfl dX6_ofRow_111 (by decide) (by decide) rfl rfl ?_
    refine xj_getiN F fnX6_280 rfl dX6_ofRow_114 (by decide) (by decide) rfl (fun hg_12 => ?_)
    refine x_iret F FR dX6_ofRow_117 rfl (Nat.le_refl _) (Nat.le_refl _) ?_
    refine ⟨vj2 (by unfold owI; rw [if_neg (by omega), if_neg (by omega), if_neg (by omega), if_neg (by omega), if_neg (by omega), if_pos (by omega)]; exact q4_107.2.symm), q3_107⟩
  refine xj_tabOut (tgt := 118) F dX6_ofRow_1 (by omega) (by decide) (by omega) ?_
  refine x_aload_n F dX6_ofRow_118 rfl ?_
  refine x_getc (v := 1) F flX6_12 rfl dX6_ofRow_119 (by decide) (by decide) rfl rfl ?_
  refine x_iload_n F dX6_ofRow_122 rfl ?_
  refine x_V1 F (m_X1_highestOf (by first | assumption | omega | decide) (by first | assumption | omega | decide) (by first | assumption | omega | decide)) mlX6_283 mvX1_highestOf rfl dX6_ofRow_123 (by decide) rfl ⟨Nat.le_of_ble_eq_true rfl, Nat.le_of_ble_eq_true rfl⟩ ⟨Nat.zero_le _, Nat.zero_le _⟩ (Nat.le_of_ble_eq_true rfl) ?_
  have hf_13 := rg_hiI M 1 r
  refine x_iret F FR dX6_ofRow_126 rfl (Nat.le_refl _) (Nat.le_refl _) ?_
  refine ⟨vj2 (by unfold owI; rw [if_neg (by omega), if_neg (by omega), if_neg (by omega), if_neg (by omega), if_neg (by omega), if_neg (by omega)]), sameX.rfl' _⟩
set_option maxRecDepth 20000 in
theorem m_X6_ofAll {l : Launch} {E : xE} {z : Int} {M : xM} (hO : okC M 1) (hz : 0 ≤ z ∧ z ≤ 8) : XF l E 6 yX6_ofAll cX6_ofAll 2 (some FieldType.int) [vA 0, vI (jI z)] M (vI (jI (ohI M z))) (M) := by
  refine xp_start (plainFor_of_name (by decide)) rfl (Nat.le_of_ble_eq_true rfl) ?_
  intro Y F FR
  have hC : isCh 1 := ch1
  have hC6 : isCh 6 := ch6
  have hS := hS_of hO
  refine x_iload_n F dX6_ofAll_0 rfl ?_
  by_cases h_1 : z = 0
  · refine xj_tabIn (off := 47) (tgt := 48) F dX6_ofAll_1 (by omega) (by omega) (by rw [h_1]; rfl) (by decide) (by omega) ?_
    refine x_aload_n F dX6_ofAll_48 rfl ?_
    refine x_getc (v := 1) F flX6_12 rfl dX6_ofAll_49 (by decide) (by decide) rfl rfl ?_
    refine x_V0 F (m_X1_sizeOfAll (by first | assumption | omega | decide) (by first | assumption | omega | decide)) mlX6_165 mvX1_sizeOfAll rfl dX6_ofAll_52 (by decide) rfl ⟨Nat.le_of_ble_eq_true rfl, Nat.le_of_ble_eq_true rfl⟩ ⟨Nat.zero_le _, Nat.zero_le _⟩ (Nat.le_of_ble_eq_true rfl) ?_
    refine x_iret F FR dX6_ofAll_55 rfl (Nat.le_refl _) (Nat.le_refl _) ?_
    refine ⟨vj2 (by unfold ohI; rw [if_pos (by omega)]), rfl⟩
  by_cases h_2 : z = 1
  · refine xj_tabIn (off := 55) (tgt := 56) F dX6_ofAll_1 (by omega) (by omega) (by rw [h_2]; rfl) (by decide) (by omega) ?_
    refine x_aload_n F dX6_ofAll_56 rfl ?_
    refine x_getc (v := 1) F flX6_12 rfl dX6_ofAll_57 (by decide) (by decide) rfl rfl ?_
    refine x_V0 F (m_X1_oddOfAll (by first | assumption | omega | decide) (by first | assumption | omega | decide)) mlX6_103 mvX1_oddOfAll rfl dX6_ofAll_60 (by decide) rfl ⟨Nat.le_of_ble_eq_true rfl, Nat.le_of_ble_eq_true rfl⟩ ⟨Nat.zero_le _, Nat.zero_le _⟩ (Nat.le_of_ble_eq_true rfl) ?_
    have hf_3 := oaI_b hS
    refine x_iret F FR dX6_ofAll_63 rfl (Nat.le_refl _) (Nat.le_refl _) ?_
    refine ⟨vj2 (by unfold ohI; rw [if_neg (by omega), if_pos (by omega)]), rfl⟩
  by_cases h_4 : z = 2
  · refine xj_tabIn (off := 63) (tgt := 64) F dX6_ofAll_1 (by omega) (by omega) (by rw [h_4]; rfl) (by decide) (by omega) ?_
    refine x_aload_n F dX6_ofAll_64 rfl ?_
    refine x_getc (v := 1) F flX6_12 rfl dX6_ofAll_65 (by decide) (by decide) rfl rfl ?_
    refine xj_getiN F fnX6_286 rfl dX6_ofAll_68 (by decide) (by decide) rfl (fun hg_5 => ?_)
    refine x_iret F FR dX6_ofAll_71 rfl (Nat.le_refl _) (Nat.le_refl _) ?_
    refine ⟨vj2 (by unfold ohI; rw [if_neg (by omega), if_neg (by omega), if_pos (by omega)]), rfl⟩
  by_cases h_6 : z = 3
  · refine xj_tabIn (off := 71) (tgt := 72) F dX6_ofAll_1 (by omega) (by omega) (by rw [h_6]; rfl) (by decide) (by omega) ?_
    refine x_aload_n F dX6_ofAll_72 rfl ?_
    refine x_getc (v := 1) F flX6_12 rfl dX6_ofAll_73 (by decide) (by decide) rfl rfl ?_
    refine xj_getiN F fnX6_289 rfl dX6_ofAll_76 (by decide) (by decide) rfl (fun hg_7 => ?_)
    refine x_iret F FR dX6_ofAll_79 rfl (Nat.le_refl _) (Nat.le_refl _) ?_
    refine ⟨vj2 (by unfold ohI; rw [if_neg (by omega), if_neg (by omega), if_neg (by omega), if_pos (by omega)]), rfl⟩
  by_cases h_8 : z = 4
  · refine xj_tabIn (off := 79) (tgt := 80) F dX6_ofAll_1 (by omega) (by omega) (by rw [h_8]; rfl) (by decide) (by omega) ?_
    refine x_aload_n F dX6_ofAll_80 rfl ?_
    refine x_getc (v := 1) F flX6_12 rfl dX6_ofAll_81 (by decide) (by decide) rfl rfl ?_
    refine xj_getiN F fnX6_292 rfl dX6_ofAll_84 (by decide) (by decide) rfl (fun hg_9 => ?_)
    refine x_iret F FR dX6_ofAll_87 rfl (Nat.le_refl _) (Nat.le_refl _) ?_
    refine ⟨vj2 (by unfold ohI; rw [if_neg (by omega), if_neg (by omega), if_neg (by omega), if_neg (by omega), if_pos (by omega)]), rfl⟩
  by_cases h_10 : z = 5
  · refine xj_tabIn (off := 87) (tgt := 88) F dX6_ofAll_1 (by omega) (by omega) (by rw [h_10]; rfl) (by decide) (by omega) ?_
    refine x_aload_n F dX6_ofAll_88 rfl ?_
    refine x_getc (v := 1) F flX6_12 rfl dX6_ofAll_89 (by decide) (by decide) rfl rfl ?_
    refine x_V0 F (m_X1_discordOfAll (by first | assumption | omega | decide) (by first | assumption | omega | decide)) mlX6_295 mvX1_discordOfAll rfl dX6_ofAll_92 (by decide) rfl ⟨Nat.le_of_ble_eq_true rfl, Nat.le_of_ble_eq_true rfl⟩ ⟨Nat.zero_le _, Nat.zero_le _⟩ (Nat.le_of_ble_eq_true rfl) ?_
    have hf_11 := daI_b hS
    refine x_iret F FR dX6_ofAll_95 rfl (Nat.le_refl _) (Nat.le_refl _) ?_
    refine ⟨vj2 (by unfold ohI; rw [if_neg (by omega), if_neg (by omega), if_neg (by omega), if_neg (by omega), if_neg (by omega), if_pos (by omega)]), rfl⟩
  by_cases h_12 : z = 6
  · refine xj_tabIn (off := 95) (tgt := 96) F dX6_ofAll_1 (by omega) (by omega) (by rw [h_12]; rfl) (by decide) (by omega) ?_
    refine x_aload_n F dX6_ofAll_96 rfl ?_
    refine x_getc (v := 1) F flX6_12 rfl dX6_ofAll_97 (by decide) (by decide) rfl rfl ?_
    refine xj_iconst F dX6_ofAll_100 ?_
    refine x_V1 F (m_X1_settingAt (by first | assumption | omega | decide) (by first | assumption | omega | decide)) mlX6_126 mvX1_settingAt rfl dX6_ofAll_101 (by decide) rfl ⟨Nat.le_of_ble_eq_true rfl, Nat.le_of_ble_eq_true rfl⟩ ⟨Nat.zero_le _, Nat.zero_le _⟩ (Nat.le_of_ble_eq_true rfl) ?_
    refine x_iret F FR dX6_ofAll_104 rfl (Nat.le_refl _) (Nat.le_refl _) ?_
    refine ⟨vj2 (by unfold ohI; rw [if_neg (by omega), if_neg (by omega), if_neg (by omega), if_neg (by omega), if_neg (by omega), if_neg (by omega), if_pos (by omega)]; rfl), rfl⟩
  by_cases h_13 : z = 7
  · refine xj_tabIn (off := 104) (tgt := 105) F dX6_ofAll_1 (by omega) (by omega) (by rw [h_13]; rfl) (by decide) (by omega) ?_
    refine x_aload_n F dX6_ofAll_105 rfl ?_
    refine x_getc (v := 1) F flX6_12 rfl dX6_ofAll_106 (by decide) (by decide) rfl rfl ?_
    refine xj_iconst F dX6_ofAll_109 ?_
    refine x_V1 F (m_X1_settingAt (by first | assumption | omega | decide) (by first | assumption | omega | decide)) mlX6_126 mvX1_settingAt rfl dX6_ofAll_110 (by decide) rfl ⟨Nat.le_of_ble_eq_true rfl, Nat.le_of_ble_eq_true rfl⟩ ⟨Nat.zero_le _, Nat.zero_le _⟩ (Nat.le_of_ble_eq_true rfl) ?_
    refine x_iret F FR dX6_ofAll_113 rfl (Nat.le_refl _) (Nat.le_refl _) ?_
    refine ⟨vj2 (by unfold ohI; rw [if_neg (by omega), if_neg (by omega), if_neg (by omega), if_neg (by omega), if_neg (by omega), if_neg (by omega), if_neg (by omega), if_pos (by omega)]; rfl), rfl⟩
  refine xj_tabOut (tgt := 114) F dX6_ofAll_1 (by omega) (by decide) (by omega) ?_
  refine x_aload_n F dX6_ofAll_114 rfl ?_
  refine x_getc (v := 16) F flX6_29 rfl dX6_ofAll_115 (by decide) (by decide) rfl rfl ?_
  refine x_V0 F (m_X3_size) mlX6_158 mvX3_size rfl dX6_ofAll_118 (by decide) rfl ⟨Nat.le_of_ble_eq_true rfl, Nat.le_of_ble_eq_true rfl⟩ ⟨Nat.zero_le _, Nat.zero_le _⟩ (Nat.le_of_ble_eq_true rfl) ?_
  refine x_iret F FR dX6_ofAll_121 rfl (Nat.le_refl _) (Nat.le_refl _) ?_
  refine ⟨vj2 (by unfold ohI; rw [if_neg (by omega), if_neg (by omega), if_neg (by omega), if_neg (by omega), if_neg (by omega), if_neg (by omega), if_neg (by omega), if_neg (by omega)]), rfl⟩
def orI (M : xM) (z : Int) : Int := oaI (upI M 1 4 (jI z)) 1
theorem bc_okC {M : xM} (hO : okC M 1) : okC (bcM M 6 1) 6 := okC_e (bcM_eq ch6 ch1 (by decide)) hO
theorem bc_qX (M : xM) : qX M (bcM M 6 1) := by
  obtain ⟨-, -, -, -, -, h6, h7⟩ := bcM_at (M := M) ch6 ch1 (by decide)
  exact qX_of6 (fun a ha => h6 a (by omega)) h7
theorem okC_reach {M : xM} {c : Nat} {z : Int} (hO : okC M c) (hz : 1 ≤ z ∧ z ≤ 6) : okC (upI M c 4 (jI z)) c := by
  refine ⟨fun q => by rw [szI_up (by omega)]; exact hO.1 q, ?_, ?_, hLo_of (upI_row (by omega)) hO.2.2.2⟩
  · rw [upI_1, if_pos ⟨rfl, rfl⟩, jI_toInt (by omega)]; exact hz
  · rw [upI_1, if_neg (by omega)]; exact hO.2.2.1
theorem up_qX {M M1 : xM} (h : qX M M1) {k : Nat} {x : Int32} : qX M (upI M1 6 k x) := qX_trans h (qX_of6 (fun a ha => upI_row (by omega)) rfl)
set_option maxRecDepth 20000 in
theorem m_X6_oddWithReach {l : Launch} {E : xE} {z : Int} {M : xM} (hO : okC M 1) (hz : 1 ≤ z ∧ z ≤ 6) : XP l E 6 yX6_oddWithReach cX6_oddWithReach 2 (some FieldType.int) [vA 0, vI (jI z)] M (fun r' M' => r' = vI (jI (orI M z)) ∧ qX M M') := by
  refine xp_start (plainFor_of_name (by decide)) rfl (Nat.le_of_ble_eq_true rfl) ?_
  intro Y F FR
  have hC : isCh 1 := ch1
  have hC6 : isCh 6 := ch6
  have hS := hS_of hO
  refine x_aload_n F dX6_oddWithReach_0 rfl ?_
  refine x_getc (v := 6) F flX6_16 rfl dX6_oddWithReach_1 (by decide) (by decide) rfl rfl ?_
  refine x_aload_n F dX6_oddWithReach_4 rfl ?_
  refine x_getc (v := 1) F flX6_12 rfl dX6_oddWithReach_5 (by decide) (by decide) rfl rfl ?_
  refine x_V1 F (m_X1_become hC6 hC) mlX6_162 mvX1_become rfl dX6_oddWithReach_8 (by decide) rfl ⟨Nat.le_of_ble_eq_true rfl, Nat.le_of_ble_eq_true rfl⟩ ⟨Nat.zero_le _, Nat.zero_le _⟩ (Nat.le_of_ble_eq_true rfl) ?_
  refine x_aload_n F dX6_oddWithReach_11 rfl ?_
  refine x_getc (v := 6) F flX6_16 rfl dX6_oddWithReach_12 (by decide) (by decide) rfl rfl ?_
  refine xj_iconst F dX6_oddWithReach_15 ?_
  refine x_iload_n F dX6_oddWithReach_16 rfl ?_
  refine x_V2 F (m_X1_changeSetting hC6 (by decide)) mlX6_129 mvX1_changeSetting rfl dX6_oddWithReach_17 (by decide) rfl ⟨Nat.le_of_ble_eq_true rfl, Nat.le_of_ble_eq_true rfl⟩ ⟨Nat.zero_le _, Nat.zero_le _⟩ (Nat.le_of_ble_eq_true rfl) ?_
  have hO6 : okC (upI (bcM M 6 1) 6 4 (jI z)) 6 := okC_reach (bc_okC hO) hz
  have hS6 := hS_of hO6
  refine x_aload_n F dX6_oddWithReach_20 rfl ?_
  refine x_getc (v := 6) F flX6_16 rfl dX6_oddWithReach_21 (by decide) (by decide) rfl rfl ?_
  refine x_V0 F (m_X1_oddOfAll hC6 hO6) mlX6_103 mvX1_oddOfAll rfl dX6_oddWithReach_24 (by decide) rfl ⟨Nat.le_of_ble_eq_true rfl, Nat.le_of_ble_eq_true rfl⟩ ⟨Nat.zero_le _, Nat.zero_le _⟩ (Nat.le_of_ble_eq_true rfl) ?_
  refine x_iret F FR dX6_oddWithReach_27 rfl (Nat.le_refl _) (Nat.le_refl _) ?_
  exact ⟨vj2 (oaI_e (eqC_up (bcM_eq ch6 ch1 (by decide)))).symm, up_qX (bc_qX M)⟩
def bpF (M : xM) (r : Int) (a : Nat) : Nat → Int × Int → Int × Int
  | 0, q => q
  | n + 1, q => if (bpF M r a n q).1 < oaI (swP M 1 (spI r a) (spI r ((a : Int) + 1 + n))) 1 then (oaI (swP M 1 (spI r a) (spI r ((a : Int) + 1 + n))) 1, 6 * a + ((a : Int) + 1 + n)) else bpF M r a n q
def bpG (M : xM) (r : Int) : Nat → Int × Int
  | 0 => (oaI M 1, -1)
  | n + 1 => bpF M r n (szI M 1 r - ((n : Int) + 1)).toNat (bpG M r n)
def bpI (M : xM) (r : Int) : Int := (bpG M r (szI M 1 r).toNat).2
theorem spI_in {r p : Int} (hr : 0 ≤ r ∧ r < 4) (hp : 0 ≤ p ∧ p < 6) : 0 ≤ spI r p ∧ spI r p < 24 := by unfold spI; rw [if_pos (by omega)]; omega
theorem bpS {M : xM} {r a b : Int} (hr : 0 ≤ r ∧ r < 4) (ha : 0 ≤ a ∧ a < 6) (hb : 0 ≤ b ∧ b < 6) : oaI (swP (bcM M 6 1) 6 (spI r a) (spI r b)) 6 = oaI (swP M 1 (spI r a) (spI r b)) 1 := oaI_e (eqC_swP (bcM_eq ch6 ch1 (by decide)) (spI_in hr ha) (spI_in hr hb))
set_option maxRecDepth 20000 in
theorem L_X6_bestPair_47 {l : Launch} {E : xE} {r : Int} {M0 : xM} (hO : okC M0 1) (hr : 0 ≤ r ∧ r < 4) {a : Nat} (ha : (a : Int) < szI M0 1 r) {Y : xY} (F : xFix E (xA E) Y cX6_bestPair yX6_bestPair.cls 8) (FR : xRet E Y (some FieldType.int) 0 0 (fun r' M' => r' = vI (jI (bpI M0 r)) ∧ M' = bcM M0 6 1) (fun _ _ => False)) : ∀ (k : Nat) (n : Nat) (w : xV), (n : Int) ≤ szI M0 1 r - ((a : Int) + 1) → (0 ≤ (bpF M0 r a n (bpG M0 r a)).1 ∧ (bpF M0 r a n (bpG M0 r a)).1 ≤ 24) → (∀ (n : Nat) (y w : xV), n = (szI M0 1 r - ((a : Int) + 1)).toNat → 0 ≤ (bpF M0 r a n (bpG M0 r a)).1 ∧ (bpF M0 r a n (bpG M0 r a)).1 ≤ 24 → WP l E (xRm 6 0 0) (xA E) Y 0 0 113 [vA 0, vI (jI r), vI (jI (bpF M0 r a n (bpG M0 r a)).2), vI (jI (bpF M0 r a n (bpG M0 r a)).1), vI (jI (szI M0 1 r)), vI (jI (a : Int)), y, w] [] (bcM M0 6 1)) → (szI M0 1 r - a - n).toNat < k → WP l E (xRm 6 0 0) (xA E) Y 0 0 47 [vA 0, vI (jI r), vI (jI (bpF M0 r a n (bpG M0 r a)).2), vI (jI (bpF M0 r a n (bpG M0 r a)).1), vI (jI (szI M0 1 r)), vI (jI (a : Int)), vI (jI ((a : Int) + 1 + n)), w] [] (bcM M0 6 1) := by
  intro k
  induction k with
  | zero => intro n w hn hq hex hk; exact absurd hk (Nat.not_lt_zero _)
  | succ k ih =>
    intro n w hn hq hex hk
    have hC : isCh 1 := ch1
    have hC6 : isCh 6 := ch6
    have hS := hS_of hO
    have hs := hS r
    have hO6 := bc_okC hO
    refine x_iload F dX6_bestPair_47 rfl ?_
    refine x_iload F dX6_bestPair_49 rfl ?_
    refine xj_icmp_ge (tgt := 113) F dX6_bestPair_51 (by decide) (by omega) (fun h_1 => ?_) (fun h_1 => ?_)
    · have e : n = (szI M0 1 r - ((a : Int) + 1)).toNat := by omega
      exact hex n _ _ e hq
    · have hn6 : (a : Int) + 1 + n < 6 := by omega
      have hO7 : okC (swP (bcM M0 6 1) 6 (spI r (a : Int)) (spI r ((a : Int) + 1 + n))) 6 := okC_swP hO6 _ _
      have hob := oaI_b (hS_of hO7)
      refine x_aload_n F dX6_bestPair_54 rfl ?_
      refine x_getc (v := 6) F flX6_16 rfl dX6_bestPair_55 (by decide) (by decide) rfl rfl ?_
      refine x_iload_n F dX6_bestPair_58 rfl ?_
      refine x_iload F dX6_bestPair_59 rfl ?_
      refine x_iload_n F dX6_bestPair_61 rfl ?_
      refine x_iload F dX6_bestPair_62 rfl ?_
      refine x_V4 F (m_X1_swapPlaces hC6 (by omega) (by omega) (by omega) (by omega)) mlX6_180 mvX1_swapPlaces rfl dX6_bestPair_64 (by decide) rfl ⟨Nat.le_of_ble_eq_true rfl, Nat.le_of_ble_eq_true rfl⟩ ⟨Nat.zero_le _, Nat.zero_le _⟩ (Nat.le_of_ble_eq_true rfl) ?_
      refine x_aload_n F dX6_bestPair_67 rfl ?_
      refine x_getc (v := 6) F flX6_16 rfl dX6_bestPair_68 (by decide) (by decide) rfl rfl ?_
      refine x_V0 F (m_X1_oddOfAll hC6 hO7) mlX6_103 mvX1_oddOfAll rfl dX6_bestPair_71 (by decide) rfl ⟨Nat.le_of_ble_eq_true rfl, Nat.le_of_ble_eq_true rfl⟩ ⟨Nat.zero_le _, Nat.zero_le _⟩ (Nat.le_of_ble_eq_true rfl) ?_
      rw [bpS hr (by omega) (by omega)] at hob ⊢
      refine x_istore F dX6_bestPair_74 (by decide) ?_
      refine x_aload_n F dX6_bestPair_76 rfl ?_
      refine x_getc (v := 6) F flX6_16 rfl dX6_bestPair_77 (by decide) (by decide) rfl rfl ?_
      refine x_iload_n F dX6_bestPair_80 rfl ?_
      refine x_iload F dX6_bestPair_81 rfl ?_
      refine x_iload_n F dX6_bestPair_83 rfl ?_
      refine x_iload F dX6_bestPair_84 rfl ?_
      refine x_V4 F (m_X1_swapPlaces hC6 (by omega) (by omega) (by omega) (by omega)) mlX6_180 mvX1_swapPlaces rfl dX6_bestPair_86 (by decide) rfl ⟨Nat.le_of_ble_eq_true rfl, Nat.le_of_ble_eq_true rfl⟩ ⟨Nat.zero_le _, Nat.zero_le _⟩ (Nat.le_of_ble_eq_true rfl) ?_
      rw [swP_swP (spI_in hr (by omega)) (spI_in hr (by omega))]
      refine x_iload F dX6_bestPair_89 rfl ?_
      refine x_iload_n F dX6_bestPair_91 rfl ?_
      refine xj_icmp_le (tgt := 107) F dX6_bestPair_92 (by decide) (by omega) (fun h_2 => ?_) (fun h_2 => ?_)
      · have hst : (bpF M0 r a (n + 1) (bpG M0 r a)) = (bpF M0 r a n (bpG M0 r a)) := by simp only [bpF]; exact if_neg (by omega)
        refine xj_iinc F dX6_bestPair_107 rfl ?_
        refine x_goto (tgt := 47) F dX6_bestPair_110 (by decide) ?_
        have g := fun w => ih (n + 1) w (by omega) (by rw [hst]; first | exact hq | exact hob) hex (by omega)
        rw [hst, show (a : Int) + 1 + ((n + 1 : Nat) : Int) = (a : Int) + 1 + n + 1 by omega] at g
        exact g _
      · have hst : (bpF M0 r a (n + 1) (bpG M0 r a)) = (oaI (swP M0 1 (spI r (a : Int)) (spI r ((a : Int) + 1 + n))) 1, 6 * a + ((a : Int) + 1 + n)) := by simp only [bpF]; exact if_pos (by omega)
        refine x_iload F dX6_bestPair_95 rfl ?_
        refine x_istore_n F dX6_bestPair_97 (by decide) ?_
        refine xj_bipush F dX6_bestPair_98 (by decide) ?_
        refine x_iload F dX6_bestPair_100 rfl ?_
        refine xj_imul F dX6_bestPair_102 ?_
        refine x_iload F dX6_bestPair_103 rfl ?_
        refine xj_iadd F dX6_bestPair_105 ?_
        refine x_istore_n F dX6_bestPair_106 (by decide) ?_
        refine xj_iinc F dX6_bestPair_107 rfl ?_
        refine x_goto (tgt := 47) F dX6_bestPair_110 (by decide) ?_
        have g := fun w => ih (n + 1) w (by omega) (by rw [hst]; first | exact hq | exact hob) hex (by omega)
        rw [hst, show (a : Int) + 1 + ((n + 1 : Nat) : Int) = (a : Int) + 1 + n + 1 by omega] at g
        exact g _
set_option maxRecDepth 20000 in
theorem L_X6_bestPair {l : Launch} {E : xE} {r : Int} {M0 : xM} (hO : okC M0 1) (hr : 0 ≤ r ∧ r < 4) {Y : xY} (F : xFix E (xA E) Y cX6_bestPair yX6_bestPair.cls 8) (FR : xRet E Y (some FieldType.int) 0 0 (fun r' M' => r' = vI (jI (bpI M0 r)) ∧ M' = bcM M0 6 1) (fun _ _ => False)) : ∀ (k : Nat) (a : Nat) (y w : xV), (a : Int) ≤ szI M0 1 r → (0 ≤ (bpG M0 r a).1 ∧ (bpG M0 r a).1 ≤ 24) → (szI M0 1 r - a).toNat < k → WP l E (xRm 6 0 0) (xA E) Y 0 0 34 [vA 0, vI (jI r), vI (jI (bpG M0 r a).2), vI (jI (bpG M0 r a).1), vI (jI (szI M0 1 r)), vI (jI (a : Int)), y, w] [] (bcM M0 6 1) := by
  intro k
  induction k with
  | zero => intro a y w hn hq hk; exact absurd hk (Nat.not_lt_zero _)
  | succ k ih =>
    intro a y w hn hq hk
    have hC : isCh 1 := ch1
    have hC6 : isCh 6 := ch6
    have hS := hS_of hO
    have hs := hS r
    refine x_iload F dX6_bestPair_34 rfl ?_
    refine x_iload F dX6_bestPair_36 rfl ?_
    refine xj_icmp_ge (tgt := 119) F dX6_bestPair_38 (by decide) (by omega) (fun h_1 => ?_) (fun h_1 => ?_)
    · refine x_iload_n F dX6_bestPair_119 rfl ?_
      refine x_iret F FR dX6_bestPair_120 rfl (Nat.le_refl _) (Nat.le_refl _) ?_
      have e : a = (szI M0 1 r).toNat := by omega
      subst e
      exact ⟨rfl, rfl⟩
    · refine x_iload F dX6_bestPair_41 rfl ?_
      refine xj_iconst F dX6_bestPair_43 ?_
      refine xj_iadd F dX6_bestPair_44 ?_
      refine x_istore F dX6_bestPair_45 (by decide) ?_
      have e0 : bpF M0 r a 0 (bpG M0 r a) = bpG M0 r a := rfl
      refine (fun g => ?_) (L_X6_bestPair_47 (l := l) hO hr (a := a) (by omega) F FR _ 0 w (by omega) (by rw [e0]; exact hq) (fun n y9 w9 hn9 hq9 => ?_) (Nat.lt_succ_self _))
      · rw [e0, show (a : Int) + 1 + ((0 : Nat) : Int) = (a : Int) + 1 by omega] at g
        exact g
      · subst hn9
        refine xj_iinc F dX6_bestPair_113 rfl ?_
        refine x_goto (tgt := 34) F dX6_bestPair_116 (by decide) ?_
        exact ih (a + 1) y9 w9 (by omega) hq9 (by omega)
set_option maxRecDepth 20000 in
theorem m_X6_bestPair {l : Launch} {E : xE} {r : Int} {M0 : xM} (hO : okC M0 1) (hr : 0 ≤ r ∧ r < 4) : XP l E 6 yX6_bestPair cX6_bestPair 8 (some FieldType.int) [vA 0, vI (jI r)] M0 (fun r' M' => r' = vI (jI (bpI M0 r)) ∧ M' = bcM M0 6 1) := by
  refine xp_start (plainFor_of_name (by decide)) rfl (Nat.le_of_ble_eq_true rfl) ?_
  intro Y F FR
  have hC : isCh 1 := ch1
  have hC6 : isCh 6 := ch6
  have hS := hS_of hO
  have hs := hS r
  refine xj_iconst F dX6_bestPair_0 ?_
  refine x_istore_n F dX6_bestPair_1 (by decide) ?_
  refine x_aload_n F dX6_bestPair_2 rfl ?_
  refine x_getc (v := 1) F flX6_12 rfl dX6_bestPair_3 (by decide) (by decide) rfl rfl ?_
  refine x_V0 F (m_X1_oddOfAll (by first | assumption | omega | decide) (by first | assumption | omega | decide)) mlX6_103 mvX1_oddOfAll rfl dX6_bestPair_6 (by decide) rfl ⟨Nat.le_of_ble_eq_true rfl, Nat.le_of_ble_eq_true rfl⟩ ⟨Nat.zero_le _, Nat.zero_le _⟩ (Nat.le_of_ble_eq_true rfl) ?_
  have hf_1 := oaI_b hS
  refine x_istore_n F dX6_bestPair_9 (by decide) ?_
  refine x_aload_n F dX6_bestPair_10 rfl ?_
  refine x_getc (v := 1) F flX6_12 rfl dX6_bestPair_11 (by decide) (by decide) rfl rfl ?_
  refine x_iload_n F dX6_bestPair_14 rfl ?_
  refine x_V1 F (m_X1_sizeOf (by first | assumption | omega | decide) (by first | assumption | omega | decide)) mlX6_107 mvX1_sizeOf rfl dX6_bestPair_15 (by decide) rfl ⟨Nat.le_of_ble_eq_true rfl, Nat.le_of_ble_eq_true rfl⟩ ⟨Nat.zero_le _, Nat.zero_le _⟩ (Nat.le_of_ble_eq_true rfl) ?_
  have hf_2 := rg_szI M0 1 r
  refine x_istore F dX6_bestPair_18 (by decide) ?_
  refine x_aload_n F dX6_bestPair_20 rfl ?_
  refine x_getc (v := 6) F flX6_16 rfl dX6_bestPair_21 (by decide) (by decide) rfl rfl ?_
  refine x_aload_n F dX6_bestPair_24 rfl ?_
  refine x_getc (v := 1) F flX6_12 rfl dX6_bestPair_25 (by decide) (by decide) rfl rfl ?_
  refine x_V1 F (m_X1_become (by first | assumption | omega | decide) (by first | assumption | omega | decide)) mlX6_162 mvX1_become rfl dX6_bestPair_28 (by decide) rfl ⟨Nat.le_of_ble_eq_true rfl, Nat.le_of_ble_eq_true rfl⟩ ⟨Nat.zero_le _, Nat.zero_le _⟩ (Nat.le_of_ble_eq_true rfl) ?_
  refine xj_iconst F dX6_bestPair_31 ?_
  refine x_istore F dX6_bestPair_32 (by decide) ?_
  exact L_X6_bestPair hO hr F FR _ 0 vU vU (by omega) (oaI_b hS) (Nat.lt_succ_self _)
def brF (M : xM) (x : Int) : Nat → Int × Int
  | 0 => (-1, -1)
  | n + 1 => if szI M 1 n < 6 ∧ (brF M x n).1 < oaI (arM M 1 n x 0) 1 then (oaI (arM M 1 n x 0) 1, (n : Int)) else brF M x n
theorem arM_qX {M : xM} {r x v : Int} : qX M (arM M 6 r x v) := by
  obtain ⟨h1, h2, -⟩ := arM_at (M := M) (c := 6) (r := r) (h := x) (v := v)
  exact qX_of6 (fun a ha => h1 a (by omega)) h2
set_option maxRecDepth 20000 in
theorem L_X6_bestRowFor {l : Launch} {E : xE} {x : Int} {M0 : xM} (hO : okC M0 1) (hx : 100 ≤ x ∧ x ≤ 220) {Y : xY} (F : xFix E (xA E) Y cX6_bestRowFor yX6_bestRowFor.cls 6) (FR : xRet E Y (some FieldType.int) 0 0 (fun r' M' => r' = vI (jI (brF M0 x 4).2) ∧ qX M0 M') (fun _ _ => False)) : ∀ (k : Nat) (n : Nat) (M : xM) (y : xV), n ≤ 4 → qX M0 M → (-1 ≤ (brF M0 x n).1 ∧ (brF M0 x n).1 ≤ 24) → (4 - n) < k → WP l E (xRm 6 0 0) (xA E) Y 0 0 7 [vA 0, vI (jI x), vI (jI (brF M0 x n).2), vI (jI (brF M0 x n).1), vI (jI (n : Int)), y] [] M := by
  intro k
  induction k with
  | zero => intro n M y hn hX hq hk; exact absurd hk (Nat.not_lt_zero _)
  | succ k ih =>
    intro n M y hn hX hq hk
    have hC : isCh 1 := ch1
    have hC6 : isCh 6 := ch6
    have hOM : okC M 1 := okC_e (qX_e hX) hO
    have hS := hS_of hOM
    have hs := hS (n : Int)
    have es : szI M 1 (n : Int) = szI M0 1 n := szI_e (qX_e hX) _
    refine x_iload F dX6_bestRowFor_7 rfl ?_
    refine xj_iconst F dX6_bestRowFor_9 ?_
    refine xj_icmp_ge (tgt := 77) F dX6_bestRowFor_10 (by decide) (by omega) (fun h_1 => ?_) (fun h_1 => ?_)
    · refine x_iload_n F dX6_bestRowFor_77 rfl ?_
      refine x_iret F FR dX6_bestRowFor_78 rfl (Nat.le_refl _) (Nat.le_refl _) ?_
      have e : n = 4 := by omega
      subst e
      exact ⟨rfl, hX⟩
    · refine x_aload_n F dX6_bestRowFor_13 rfl ?_
      refine x_getc (v := 1) F flX6_12 rfl dX6_bestRowFor_14 (by decide) (by decide) rfl rfl ?_
      refine x_iload F dX6_bestRowFor_17 rfl ?_
      refine x_V1 F (m_X1_sizeOf (by first | assumption | omega | decide) (by first | assumption | omega | decide)) mlX6_107 mvX1_sizeOf rfl dX6_bestRowFor_19 (by decide) rfl ⟨Nat.le_of_ble_eq_true rfl, Nat.le_of_ble_eq_true rfl⟩ ⟨Nat.zero_le _, Nat.zero_le _⟩ (Nat.le_of_ble_eq_true rfl) ?_
      have hf_2 := rg_szI M 1 (n : Int)
      refine xj_bipush F dX6_bestRowFor_22 (by decide) ?_
      refine xj_icmp_ge (tgt := 71) F dX6_bestRowFor_24 (by decide) (by omega) (fun h_3 => ?_) (fun h_3 => ?_)
      · have hst : (brF M0 x (n + 1)) = (brF M0 x n) := by simp only [brF]; exact if_neg (by omega)
        have hX2 := hX
        refine xj_iinc F dX6_bestRowFor_71 rfl ?_
        refine x_goto (tgt := 7) F dX6_bestRowFor_74 (by decide) ?_
        have g := fun y => ih (n + 1) _ y (by omega) hX2 (by rw [hst]; first | exact hq | exact ⟨by omega, by omega⟩) (by omega)
        rw [hst] at g
        exact g _
      · refine x_aload_n F dX6_bestRowFor_27 rfl ?_
        refine x_getc (v := 6) F flX6_16 rfl dX6_bestRowFor_28 (by decide) (by decide) rfl rfl ?_
        refine x_aload_n F dX6_bestRowFor_31 rfl ?_
        refine x_getc (v := 1) F flX6_12 rfl dX6_bestRowFor_32 (by decide) (by decide) rfl rfl ?_
        refine x_V1 F (m_X1_become hC6 hC) mlX6_162 mvX1_become rfl dX6_bestRowFor_35 (by decide) rfl ⟨Nat.le_of_ble_eq_true rfl, Nat.le_of_ble_eq_true rfl⟩ ⟨Nat.zero_le _, Nat.zero_le _⟩ (Nat.le_of_ble_eq_true rfl) ?_
        have hE : eqC M0 (bcM M 6 1) 1 6 := eqC_trans (qX_e hX) (bcM_eq ch6 ch1 (by decide))
        have hO6 := okC_e hE hO
        have hS6 := hS_of hO6
        have hs6 : szI (bcM M 6 1) 6 (n : Int) = szI M0 1 n := szI_e hE _
        refine x_aload_n F dX6_bestRowFor_38 rfl ?_
        refine x_getc (v := 6) F flX6_16 rfl dX6_bestRowFor_39 (by decide) (by decide) rfl rfl ?_
        refine x_iload F dX6_bestRowFor_42 rfl ?_
        refine x_iload_n F dX6_bestRowFor_44 rfl ?_
        refine xj_iconst F dX6_bestRowFor_45 ?_
        refine x_V3 F (m_X1_arrive hC6 hS6 (by omega)) mlX6_80 mvX1_arrive rfl dX6_bestRowFor_46 (by decide) rfl ⟨Nat.le_of_ble_eq_true rfl, Nat.le_of_ble_eq_true rfl⟩ ⟨Nat.zero_le _, Nat.zero_le _⟩ (Nat.le_of_ble_eq_true rfl) ?_
        refine x_pop F dX6_bestRowFor_49 rfl ?_
        have hE3 := eqC_ar hE (n : Int) x 0
        have hO7 : okC (arM (bcM M 6 1) 6 (n : Int) x 0) 6 := okC_arM hO6 (by omega) (by omega) (by omega)
        have hob := oaI_b (hS_of hO7)
        have ho : oaI (arM (bcM M 6 1) 6 (n : Int) x 0) 6 = oaI (arM M0 1 (n : Int) x 0) 1 := oaI_e hE3
        have hX2 : qX M0 (arM (bcM M 6 1) 6 (n : Int) x 0) := qX_trans (qX_trans hX (bc_qX M)) arM_qX
        refine x_aload_n F dX6_bestRowFor_50 rfl ?_
        refine x_getc (v := 6) F flX6_16 rfl dX6_bestRowFor_51 (by decide) (by decide) rfl rfl ?_
        refine x_V0 F (m_X1_oddOfAll hC6 hO7) mlX6_103 mvX1_oddOfAll rfl dX6_bestRowFor_54 (by decide) rfl ⟨Nat.le_of_ble_eq_true rfl, Nat.le_of_ble_eq_true rfl⟩ ⟨Nat.zero_le _, Nat.zero_le _⟩ (Nat.le_of_ble_eq_true rfl) ?_
        rw [ho] at hob ⊢
        refine x_istore F dX6_bestRowFor_57 (by decide) ?_
        refine x_iload F dX6_bestRowFor_59 rfl ?_
        refine x_iload_n F dX6_bestRowFor_61 rfl ?_
        refine xj_icmp_le (tgt := 71) F dX6_bestRowFor_62 (by decide) (by omega) (fun h_4 => ?_) (fun h_4 => ?_)
        · have hst : (brF M0 x (n + 1)) = (brF M0 x n) := by simp only [brF]; exact if_neg (by omega)
          refine xj_iinc F dX6_bestRowFor_71 rfl ?_
          refine x_goto (tgt := 7) F dX6_bestRowFor_74 (by decide) ?_
          have g := fun y => ih (n + 1) _ y (by omega) hX2 (by rw [hst]; first | exact hq | exact ⟨by omega, by omega⟩) (by omega)
          rw [hst] at g
          exact g _
        · have hst : (brF M0 x (n + 1)) = (oaI (arM M0 1 (n : Int) x 0) 1, (n : Int)) := by simp only [brF]; exact if_pos (by omega)
          refine x_iload F dX6_bestRowFor_65 rfl ?_
          refine x_istore_n F dX6_bestRowFor_67 (by decide) ?_
          refine x_iload F dX6_bestRowFor_68 rfl ?_
          refine x_istore_n F dX6_bestRowFor_70 (by decide) ?_
          refine xj_iinc F dX6_bestRowFor_71 rfl ?_
          refine x_goto (tgt := 7) F dX6_bestRowFor_74 (by decide) ?_
          have g := fun y => ih (n + 1) _ y (by omega) hX2 (by rw [hst]; first | exact hq | exact ⟨by omega, by omega⟩) (by omega)
          rw [hst] at g
          exact g _
set_option maxRecDepth 20000 in
theorem m_X6_bestRowFor {l : Launch} {E : xE} {x : Int} {M0 : xM} (hO : okC M0 1) (hx : 100 ≤ x ∧ x ≤ 220) : XP l E 6 yX6_bestRowFor cX6_bestRowFor 6 (some FieldType.int) [vA 0, vI (jI x)] M0 (fun r' M' => r' = vI (jI (brF M0 x 4).2) ∧ qX M0 M') := by
  refine xp_start (plainFor_of_name (by decide)) rfl (Nat.le_of_ble_eq_true rfl) ?_
  intro Y F FR
  refine xj_iconst F dX6_bestRowFor_0 ?_
  refine x_istore_n F dX6_bestRowFor_1 (by decide) ?_
  refine xj_iconst F dX6_bestRowFor_2 ?_
  refine x_istore_n F dX6_bestRowFor_3 (by decide) ?_
  refine xj_iconst F dX6_bestRowFor_4 ?_
  refine x_istore F dX6_bestRowFor_5 (by decide) ?_
  exact L_X6_bestRowFor hO hx F FR _ 0 M0 vU (by omega) (qX_rfl M0) (show (-1 : Int) ≤ -1 ∧ (-1 : Int) ≤ 24 by decide) (Nat.lt_succ_self _)
