/-! THE TIE: chant -/
section TIEE
theorem dp_tie {M K K0 : xM} {k : Nat} {s : Int} (H : Rl M K) (T : txR M K0) (hc : recZ K0 K k s) (hp : pOK M s) (hw : isW (cdI M s) = true) : cdB K k = dpb M s ∧ (dpb M s = true → Rl (dpM M s) (dpZ K k)) := by
  obtain ⟨c1, c2, c3, c4⟩ := hc
  simp only [T.2, htV] at c1 c2 c3 c4
  have e1 : lt K k = cdI M s := c1
  have e78 : zI K 78 = (M.1 1 6).toInt := congrArg Int32.toInt (Rl_f H (j := 6) (by omega) (by omega))
  have hS := Rl_hS H
  rcases isW_iff.mp hw with e | e | e | e | e | e
  · obtain ⟨b1, b2, b3⟩ := jt_b hp e
    obtain ⟨d1, d2⟩ := c3 e
    rw [e] at c2 d1 d2
    have er : lr K k = jtR M s := by
      unfold lr jtR
      rw [c2, show wdN 106 = 3 from rfl, show s + 1 + 3 + 1 = s + 5 by omega]
    have eh : l1 K k = jtH M s := by
      unfold l1 jtH
      rw [d1, show wdN 106 = 3 from rfl, show s + 1 + 3 + 1 + 1 + 1 = s + 7 by omega, show s + 7 + 1 = s + 8 by omega, show s + 8 + 1 = s + 9 by omega]
    have ev : l2 K k = jtV M s := by
      unfold l2 jtV
      rw [d2, vcx_e, show wdN 106 = 3 from rfl, show s + 1 + 3 + 1 + 1 + 4 = s + 10 by omega]
    have eb : cdB K k = decide (szI M 1 (jtR M s) < 6 ∧ (M.1 1 6).toInt < 999) := by
      unfold cdB
      rw [e1, if_pos e, er, Rl_sz H b1, e78]
    have ed : dpb M s = decide (szI M 1 (jtR M s) < 6 ∧ (M.1 1 6).toInt < 999) := by
      unfold dpb
      rw [if_pos e]
    have ez : dpZ K k = jnZ K (jtR M s) (jtH M s) (jtV M s) := by
      unfold dpZ
      rw [e1, if_pos e, er, eh, ev]
    have em : dpM M s = jtM M s := by
      unfold dpM
      rw [if_pos e]
    refine ⟨by rw [eb, ed], fun h => ?_⟩
    rw [ed, decide_eq_true_iff] at h
    rw [ez, em]
    unfold jtM
    rw [if_pos h]
    exact Rl_jn H b1 h.1 h.2 ⟨by omega, by omega⟩ (by omega)
  · obtain ⟨b1, b2, b3⟩ := st_b hp e
    obtain ⟨d1, d2⟩ := c4 e
    rw [e] at c2 d1 d2
    have er : lr K k = stP M s 5 := by
      unfold lr stP
      rw [c2, show wdN 115 = 3 from rfl, show s + 1 + 3 + 1 = s + 5 by omega]
    have eh : l1 K k = stP M s 7 := by
      unfold l1 stP
      rw [d1, show wdN 115 = 3 from rfl, show s + 1 + 3 + 1 + 1 + 1 = s + 7 by omega]
    have ev : l2 K k = stP M s 8 := by
      unfold l2 stP
      rw [d2, show wdN 115 = 3 from rfl, show s + 1 + 3 + 1 + 1 + 1 + 1 = s + 8 by omega]
    have eb : cdB K k = decide (((0 ≤ stP M s 5 ∧ stP M s 5 ≤ 3) ∧ 0 ≤ stP M s 7 ∧ stP M s 7 < szI M 1 (stP M s 5)) ∧ ((0 ≤ stP M s 5 ∧ stP M s 5 ≤ 3) ∧ 0 ≤ stP M s 8 ∧ stP M s 8 < szI M 1 (stP M s 5))) := by
      unfold cdB
      rw [e1, if_neg (by rw [e]; decide), if_pos e, er, eh, ev, Rl_sz H b1]
    have ed : dpb M s = decide (stP M s 7 < szI M 1 (stP M s 5) ∧ stP M s 8 < szI M 1 (stP M s 5)) := by
      unfold dpb
      rw [if_neg (by rw [e]; decide), if_pos e]
    have ez : dpZ K k = swZ K (stP M s 5) (stP M s 7) (stP M s 5) (stP M s 8) := by
      unfold dpZ
      rw [e1, if_neg (by rw [e]; decide), if_pos e, er, eh, ev]
    have em : dpM M s = stM M s := by
      unfold dpM
      rw [if_neg (by rw [e]; decide), if_pos e]
    refine ⟨by rw [eb, ed]; exact decide_eq_decide.mpr ⟨fun h => by omega, fun h => by omega⟩, fun h => ?_⟩
    rw [ed, decide_eq_true_iff] at h
    rw [ez, em]
    unfold stM
    rw [if_pos h]
    exact Rl_sw H ⟨b1.1, b1.2, b2.1, h.1⟩ ⟨b1.1, b1.2, b3.1, h.2⟩
  · have b1 := en_b hp (Or.inl e)
    have hs := hS (enR M s)
    rw [e] at c2
    have er : lr K k = enR M s := by
      unfold lr enR plI
      rw [c2, e, show wdN 116 = 3 from rfl, show ((sLen (fmN 116) : Nat) : Int) = 6 from rfl, show s + 1 + 3 + 1 = s + 5 by omega, show s + 6 - 1 = s + 5 by omega]
    have eb : cdB K k = true := by
      unfold cdB
      rw [e1, if_neg (by rw [e]; decide), if_neg (by rw [e]; decide)]
    have ed : dpb M s = true := by
      unfold dpb
      rw [if_neg (by rw [e]; decide), if_neg (by rw [e]; decide)]
      exact decide_eq_true (by omega)
    have ez : dpZ K k = trZ K (enR M s) (szI M 1 (enR M s) / 2).toNat := by
      unfold dpZ
      rw [e1, if_neg (by rw [e]; decide), if_neg (by rw [e]; decide), if_pos e, er, Rl_sz H b1]
    have em : dpM M s = trM M 1 (enR M s) (szI M 1 (enR M s) / 2).toNat := by
      unfold dpM
      rw [if_neg (by rw [e]; decide), if_neg (by rw [e]; decide), if_pos e]
    refine ⟨by rw [eb, ed], fun _ => ?_⟩
    rw [ez, em]
    exact Rl_tr H b1 _ (by omega)
  · have b1 := en_b hp (Or.inr (Or.inl e))
    rw [e] at c2
    have er : lr K k = enR M s := by
      unfold lr enR plI
      rw [c2, e, show wdN 108 = 2 from rfl, show ((sLen (fmN 108) : Nat) : Int) = 5 from rfl, show s + 1 + 2 + 1 = s + 4 by omega, show s + 5 - 1 = s + 4 by omega]
    have eb : cdB K k = true := by
      unfold cdB
      rw [e1, if_neg (by rw [e]; decide), if_neg (by rw [e]; decide)]
    have ed : dpb M s = true := by
      unfold dpb
      rw [if_neg (by rw [e]; decide), if_neg (by rw [e]; decide)]
      exact decide_eq_true (by omega)
    have ez : dpZ K k = soZ K (enR M s) 0 (zI K (enR M s)).toNat := by
      unfold dpZ
      rw [e1, if_neg (by rw [e]; decide), if_neg (by rw [e]; decide), if_neg (by rw [e]; decide), er, e]
      rfl
    have em : dpM M s = srM M 1 (enR M s) 0 (szI M 1 (enR M s) - 1).toNat := by
      unfold dpM
      rw [if_neg (by rw [e]; decide), if_neg (by rw [e]; decide), if_neg (by rw [e]; decide), if_pos e]
    refine ⟨by rw [eb, ed], fun _ => ?_⟩
    rw [ez, em]
    exact Rl_so H b1 (by decide)
  · have b1 := en_b hp (Or.inr (Or.inr (Or.inl e)))
    rw [e] at c2
    have er : lr K k = enR M s := by
      unfold lr enR plI
      rw [c2, e, show wdN 104 = 3 from rfl, show ((sLen (fmN 104) : Nat) : Int) = 6 from rfl, show s + 1 + 3 + 1 = s + 5 by omega, show s + 6 - 1 = s + 5 by omega]
    have eb : cdB K k = true := by
      unfold cdB
      rw [e1, if_neg (by rw [e]; decide), if_neg (by rw [e]; decide)]
    have ed : dpb M s = true := by
      unfold dpb
      rw [if_neg (by rw [e]; decide), if_neg (by rw [e]; decide)]
      exact decide_eq_true (by omega)
    have ez : dpZ K k = soZ K (enR M s) 1 (zI K (enR M s)).toNat := by
      unfold dpZ
      rw [e1, if_neg (by rw [e]; decide), if_neg (by rw [e]; decide), if_neg (by rw [e]; decide), er, e]
      rfl
    have em : dpM M s = srM M 1 (enR M s) 1 (szI M 1 (enR M s) - 1).toNat := by
      unfold dpM
      rw [if_neg (by rw [e]; decide), if_neg (by rw [e]; decide), if_neg (by rw [e]; decide), if_neg (by rw [e]; decide), if_pos e]
    refine ⟨by rw [eb, ed], fun _ => ?_⟩
    rw [ez, em]
    exact Rl_so H b1 (by decide)
  · have b1 := en_b hp (Or.inr (Or.inr (Or.inr e)))
    rw [e] at c2
    have er : lr K k = enR M s := by
      unfold lr enR plI
      rw [c2, e, show wdN 118 = 4 from rfl, show ((sLen (fmN 118) : Nat) : Int) = 7 from rfl, show s + 1 + 4 + 1 = s + 6 by omega, show s + 7 - 1 = s + 6 by omega]
    have eb : cdB K k = true := by
      unfold cdB
      rw [e1, if_neg (by rw [e]; decide), if_neg (by rw [e]; decide)]
    have ed : dpb M s = true := by
      unfold dpb
      rw [if_neg (by rw [e]; decide), if_neg (by rw [e]; decide)]
      exact decide_eq_true (by omega)
    have ez : dpZ K k = soZ K (enR M s) 2 (zI K (enR M s)).toNat := by
      unfold dpZ
      rw [e1, if_neg (by rw [e]; decide), if_neg (by rw [e]; decide), if_neg (by rw [e]; decide), er, e]
      rfl
    have em : dpM M s = srM M 1 (enR M s) 2 (szI M 1 (enR M s) - 1).toNat := by
      unfold dpM
      rw [if_neg (by rw [e]; decide), if_neg (by rw [e]; decide), if_neg (by rw [e]; decide), if_neg (by rw [e]; decide), if_neg (by rw [e]; decide), if_pos e]
    refine ⟨by rw [eb, ed], fun _ => ?_⟩
    rw [ez, em]
    exact Rl_so H b1 (by decide)
theorem isW_al {M K0 : xM} {s : Int} (T : txR M K0) (h : al (tsT K0 s) = true) : isW (cdI M s) = true := by
  by_cases hw : isW (cdZ K0 s) = true
  · rw [← T.2]
    exact hw
  · unfold tsT at h
    rw [if_neg hw] at h
    cases h
theorem recZ_dp {K0 K : xM} {i k : Nat} {t : Int} (h : recZ K0 K i t) : recZ K0 (dpZ K k) i t := by
  unfold recZ
  rw [dpZ_row (by decide), dpZ_row (by decide), dpZ_row (by decide), dpZ_row (by decide)]
  exact h
theorem pa_dp {K : xM} {k : Nat} : pa (dpZ K k) = pa K := by
  unfold pa
  rw [dpZ_row (by decide)]
theorem txR_dp {M K0 : xM} {s : Int} (T : txR M K0) : txR (dpM M s) K0 := ⟨by rw [(dpM_tx M s).t]; exact T.1, fun z => by rw [(dpM_tx M s).c]; exact T.2 z⟩
theorem chN_end {M : xM} {s : Int} (h : ¬ s < tlI M) : ∀ g : Nat, chN g s M = (M, 0)
  | 0 => rfl
  | g + 1 => by simp only [chN]; exact if_neg (fun z => h z.1)
theorem cnZ_end {K : xM} {k : Nat} (h : ¬ (k : Int) < pa K) : ∀ g : Nat, cnZ g k K = (K, k)
  | 0 => rfl
  | g + 1 => by simp only [cnZ]; exact if_neg (fun z => h z.1)
/-- part by part, on both sides -/
theorem ch_tie {K0 : xM} : ∀ (f : Nat) (s : Int) (M K : xM) (k : Nat), Rl M K → txR M K0 → 0 ≤ s → s ≤ tlI M → tlI M - s < 6 * (f : Int) → (fzR K0 f s).2.1 = true → (fzR K0 f s).1 = tlI M → pa K = (k : Int) + (fzR K0 f s).2.2.length → (∀ i t, (fzR K0 f s).2.2[i]? = some t → recZ K0 K (k + i) t) → ∀ g h : Nat, f ≤ g → f ≤ h →
    Rl (chN g s M).1 (cnZ h k K).1 ∧ ((cnZ h k K).2 : Int) = (k : Int) + (chN g s M).2
  | 0, s, M, K, k, H, T, h0, h1, h2, _, _, _, _ => by omega
  | f + 1, s, M, K, k, H, T, h0, h1, h2, h3, h4, h5, h6 => by
    intro g h hg hh
    obtain ⟨g', rfl⟩ : ∃ g', g = g' + 1 := ⟨g - 1, by omega⟩
    obtain ⟨h', rfl⟩ : ∃ h', h = h' + 1 := ⟨h - 1, by omega⟩
    obtain ⟨p1, p2⟩ := fmR_ts T ⟨h0, h1⟩
    simp only [fzR] at h3 h4 h5 h6
    by_cases hal : al (tsT K0 s) = true
    · obtain ⟨a1, a2, a3, a4, hpO⟩ := p1 hal
      rw [if_pos hal, a2, T.2] at h3 h4 h5 h6
      have hw := isW_al T hal
      -- what stands first
      have hk : (k : Int) < pa K ∧ recZ K0 K k s := by
        split at h5
        · rename_i h9
          rw [if_pos h9] at h6
          exact ⟨by rw [h5, List.length_cons]; omega, h6 0 s rfl⟩
        · rename_i h9
          rw [if_neg h9] at h6
          exact ⟨by rw [h5, List.length_cons]; omega, h6 0 s rfl⟩
      obtain ⟨d1, d2⟩ := dp_tie H T hk.2 hpO hw
      simp only [chN, cnZ]
      by_cases hd : dpb M s = true
      · rw [if_pos ⟨hpO.2.1, hd⟩, if_pos ⟨hk.1, by rw [d1]; exact hd⟩]
        have H2 := d2 hd
        have T2 := txR_dp (s := s) T
        have et := (dpM_tx M s).t
        by_cases h9 : cdI M (s + plI M s) = 59
        · rw [if_pos h9] at h3 h4 h5 h6
          have hin := cdI_in (M := M) (z := s + plI M s) (by omega)
          have ih := ch_tie f (s + plI M s + 1) (dpM M s) (dpZ K k) (k + 1) H2 T2 (by omega) (by omega) (by omega) h3 (by rw [et]; exact h4) (by rw [pa_dp, h5, List.length_cons]; omega) (fun i t hi => by
            have := h6 (i + 1) t (by rw [List.getElem?_cons_succ]; exact hi)
            rw [show k + 1 + i = k + (i + 1) by omega]
            exact recZ_dp this) g' h' (by omega) (by omega)
          refine ⟨ih.1, ?_⟩
          have := ih.2
          show _ = (k : Int) + ((chN g' (s + plI M s + 1) (dpM M s)).2 + 1)
          omega
        · rw [if_neg h9] at h3 h4 h5 h6
          have h4' : s + plI M s = tlI M := h4
          rw [chN_end (M := dpM M s) (s := s + plI M s + 1) (by omega) g', cnZ_end (K := dpZ K k) (k := k + 1) (by
            rw [pa_dp, h5]
            show ¬ (((k + 1 : Nat) : Int) < (k : Int) + (([s] : List Int).length : Int))
            rw [List.length_cons, List.length_nil]
            omega) h']
          exact ⟨H2, by show (((k + 1 : Nat)) : Int) = (k : Int) + (0 + 1); omega⟩
      · rw [if_neg (fun z => hd z.2), if_neg (fun z => hd (by rw [← d1]; exact z.2))]
        exact ⟨H, by show (k : Int) = (k : Int) + 0; omega⟩
    · rw [if_neg hal] at h3
      cases h3
theorem dpZ_2 (K : xM) (k : Nat) : (dpZ K k).2 = K.2 := by
  unfold dpZ
  repeat' split
  · exact jnZ_2 K _ _ _
  · unfold swZ
    rw [upI_2, exZ_2]
  · exact trZ_2 K _ _
  · exact soZ_2 K _ _ _
theorem cnZ_row {a : Nat} (ha : a ≠ 69) : ∀ (n k : Nat) (K : xM), (cnZ n k K).1.1 a = K.1 a
  | 0, _, _ => rfl
  | n + 1, k, K => by
    simp only [cnZ]
    split
    · rw [cnZ_row ha n (k + 1) (dpZ K k), dpZ_row ha]
    · rfl
theorem cnZ_2 : ∀ (n k : Nat) (K : xM), (cnZ n k K).1.2 = K.2
  | 0, _, _ => rfl
  | n + 1, k, K => by
    simp only [cnZ]
    split
    · rw [cnZ_2 n (k + 1) (dpZ K k), dpZ_2]
    · rfl
theorem chN_row {a : Nat} (ha : 5 < a) : ∀ (n : Nat) (s : Int) (M : xM), (chN n s M).1.1 a = M.1 a
  | 0, _, _ => rfl
  | n + 1, s, M => by
    simp only [chN]
    split
    · rw [chN_row ha n _ (dpM M s), dpM_row M s ha]
    · rfl
theorem ch_c (M : xM) : (chX M = 0 ∧ whB M = true) ∨ (chX M = 2 ∧ ¬ whB M = true) := by
  unfold chX
  by_cases h : whB M = true
  · rw [if_neg (fun z => z h)]
    exact Or.inl ⟨rfl, h⟩
  · rw [if_pos h]
    exact Or.inr ⟨rfl, h⟩
theorem lkT_Rl {M K K2 : xM} (h : Rl M K) (lk : lkT K K2) : Rl M K2 := Rl_r h (fun _ _ => rfl) (fun k hk => lk.2.1 k (by omega)) lk.2.2.1 (fun a ha => lk.1 a (by omega))
theorem tie_chant {M M1 : xM} {r' : xV} (H : Rl M M)
    (W : (chX M = 0 → r' = vI (jI 0) ∧ ∃ Mc, Mc = upI (chN 60 0 (svM M 1)).1 48 1 (jI 0) ∧ M1 = upL Mc 79 0 ((jI (chN 60 0 (svM M 1)).2)).toInt64) ∧ (chX M ≠ 0 → r' = vI (jI 1) ∧ M1 = M)) :
    Rl M M1 ∧ ∀ r9 M2, cmQ M1 r9 M2 → tOut r' r9 M2 ∧ Rl M2 M2 := by
  have hH := H.2.1.1
  rcases ch_c M with ⟨hX, hw⟩ | ⟨hX, hw⟩
  · obtain ⟨rfl, Mc, eC, rfl⟩ := W.1 hX
    have hm := Rl_mid H (Mc := Mc) (fun a ha => by rw [eC, upI_row (by omega), chN_row (by omega), svM_r hH (by omega)]) ((jI (chN 60 0 (svM M 1)).2)).toInt64
    refine ⟨hm, fun r9 M2 P => ?_⟩
    have h1 := Rl_t0 hm
    obtain ⟨-, e2, e3⟩ := fe_tie h1
    rw [e2] at hw
    obtain ⟨z1, z2⟩ := e3 hw
    obtain ⟨M9, hx, hrc, rfl, rfl⟩ := P.2 hw
    have lk := lkT_rdX (s := (fzZ (t0 (upL Mc 79 0 ((jI (chN 60 0 (svM M 1)).2)).toInt64))).1) hx
    have h3 := lkT_Rl h1 lk
    have h4 := Rl_sv h3
    have T := Rl_tx h1
    have hb := h1.2.2.2.1.1
    have et : txE M (svM M 1) := ⟨svM_r hH (by omega), svM_r hH (by omega)⟩
    have T4 : txR (svM M 1) (t0 (upL Mc 79 0 ((jI (chN 60 0 (svM M 1)).2)).toInt64)) := ⟨by rw [et.t]; exact T.1, fun z => by rw [et.c]; exact T.2 z⟩
    obtain ⟨q1, q2⟩ := ch_tie 12 0 (svM M 1) (svZ (spM M9 (fzZ (t0 (upL Mc 79 0 ((jI (chN 60 0 (svM M 1)).2)).toInt64))).1)) 0 h4 T4 (by omega) (by rw [et.t]; exact hb.1) (by rw [et.t]; omega) z1 (by rw [et.t]; exact z2) (by
        show (((svZ (spM M9 _)).1 68 13)).toInt = _
        rw [svZ_6k _ (by decide)]
        show ((upI M9 68 12 _).1 68 13).toInt = _
        rw [upI_1, if_neg (by decide)]
        have := hrc.1
        unfold pa at this
        rw [this]
        show _ = (((0 : Nat)) : Int) + _
        rw [Int.natCast_zero, Int.zero_add]
        rfl) (fun i t hi => by
        have := hrc.2 i t hi
        rw [Nat.zero_add]
        unfold recZ
        rw [svZ_r _ (by decide) (by decide), svZ_r _ (by decide) (by decide), svZ_r _ (by decide) (by decide), svZ_r _ (by decide) (by decide)]
        show (((upI M9 68 12 _).1 75 i)).toInt = _ ∧ ((upI M9 68 12 _).1 76 i).toInt = _ ∧ (_ → ((upI M9 68 12 _).1 77 i).toInt = _ ∧ ((upI M9 68 12 _).1 78 i).toInt = _) ∧ (_ → ((upI M9 68 12 _).1 77 i).toInt = _ ∧ ((upI M9 68 12 _).1 78 i).toInt = _)
        rw [upI_row (by decide), upI_row (by decide), upI_row (by decide), upI_row (by decide)]
        exact this) 60 12 (by omega) (by omega)
    have h5 := Rl_cl q1
    rw [← eC] at h5
    refine ⟨tie_yes rfl ?_ (b := jI (chN 60 0 (svM M 1)).2) ?_ (congrArg jI (by rw [q2]; omega)), Rl_fin h5 (fun a ha => ?_)⟩
    · rw [upI_1, if_neg (by decide), cnZ_row (by decide), svZ_6k _ (by decide), lk.2.1 5 (by omega), t0_5]
    · rw [upI_2, cnZ_2, svZ_2, lk.2.2.2.2]
      exact upL_79 Mc _
    · rw [upI_row (by omega), cnZ_row (by omega), svZ_r _ (by omega) (by omega), lk.1 a (by omega), t0_r _ (by omega)]
      rfl
  · obtain ⟨rfl, rfl⟩ := W.2 (by omega)
    refine ⟨H, fun r9 M2 P => ?_⟩
    have h1 := Rl_t0 H
    obtain ⟨-, e2, -⟩ := fe_tie h1
    rw [e2] at hw
    obtain ⟨rfl, M9, hx, rfl⟩ := P.1 hw
    have lk := lkT_rdX (s := (fzZ (t0 M1)).1) hx
    have h3 := lkT_Rl h1 lk
    refine ⟨⟨1, by omega, rfl, by rw [upI_1, if_pos ⟨rfl, rfl⟩], jI 0, rfl, fun z => by omega⟩, ?_⟩
    refine Rl_r h3 (fun a ha => ?_) (fun k hk => by rw [upI_1, if_neg (by omega)]) (eqV_69 (upI_row (by decide))) (fun a ha => upI_row (by omega))
    rw [upI_row (by omega), lk.1 a (by omega), t0_r _ (by omega)]
end TIEE
