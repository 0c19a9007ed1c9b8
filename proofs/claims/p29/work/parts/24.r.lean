/-! MORE ROWS: reads of an array that is known, a choice between two constants -/
theorem qX_rf (M : xM) : qX M M := ⟨fun _ _ => rfl, fun h => h, rfl⟩
section XSEL
variable {l : Launch} {E : xE} {R : Room} {A : Nat → Prop} {Y : xY} {cc : ByteArray} {own : String} {nL : Nat} {k n pc : Nat} {ls st : List xV} {M : xM}
theorem xf_hald (F : xFix E A Y cc own nL) {a : Nat} {z : Int} {f : Nat → Int32} {j : Nat} (hk : isH E a) (hf : M.1 a = f) (d : decode cc pc = .ok (.iaload, 1)) (h : 0 ≤ z ∧ z < 24) (hj : z.toNat = j) (g : rg (f j).toInt → WP l E R A Y k n (pc + 1) ls (vI (jI (f j).toInt) :: st) M) : WP l E R A Y k n pc ls (vI (jI z) :: vA a :: st) M := x_hald F hk d (jI_in ⟨h.1, h.2⟩ (by omega)) (by
  have g := g (rg_of _)
  rw [jI_clamp (by omega), hf, hj]
  rw [jI_of] at g
  exact g)
theorem xf_nald (F : xFix E A Y cc own nL) {a N9 : Nat} {z : Int} {f : Nat → Int32} {j : Nat} (hk : xk a = (8, N9)) (hf : M.1 a = f) (d : decode cc pc = .ok (.iaload, 1)) (h : 0 ≤ z ∧ z < N9 ∧ z < 2147483648) (hj : z.toNat = j) (g : rg (f j).toInt → WP l E R A Y k n (pc + 1) ls (vI (jI (f j).toInt) :: st) M) : WP l E R A Y k n pc ls (vI (jI z) :: vA a :: st) M := xj_iald F hk d h (by
  have g := g (rg_of _)
  rw [hf, hj]
  rw [jI_of] at g
  exact g)
theorem xf_hast (F : xFix E A Y cc own nL) {a : Nat} {z : Int} {x : Int32} (hk : isH E a) (d : decode cc pc = .ok (.iastore, 1)) (h : 0 ≤ z ∧ z < 24) (g : WP l E R A Y k n (pc + 1) ls st (upI M a z.toNat x)) : WP l E R A Y k n pc ls (vI x :: vI (jI z) :: vA a :: st) M := x_hast F hk d (jI_in ⟨h.1, h.2⟩ (by omega)) (by rw [jI_clamp (by omega)]; exact g)
def xCP (cc : ByteArray) (pc : Nat) (a : Int) (la : Nat) : Prop := (decode cc pc = .ok (.iconst a, 1) ∧ la = 1) ∨ (decode cc pc = .ok (.bipush a, 2) ∧ la = 2 ∧ (Int8.ofInt a).toInt32 = jI a)
theorem x_cp (F : xFix E A Y cc own nL) {a : Int} {la : Nat} (h : xCP cc pc a la) (g : WP l E R A Y k n (pc + la) ls (vI (jI a) :: st) M) : WP l E R A Y k n pc ls st M := by
  rcases h with ⟨d, rfl⟩ | ⟨d, rfl, e⟩
  · exact xj_iconst F d g
  · exact xj_bipush F d e g
theorem xs_icmp_eq (F : xFix E A Y cc own nL) {z u : Int} {off goff a b : Int} {tgt la lb e : Nat} (d : decode cc pc = .ok (.if_icmp .eq off, 3)) (ht : (pc : Int) + off = (tgt : Int)) (ha : xCP cc (pc + 3) a la) (hb : xCP cc tgt b lb) (dg : decode cc (pc + 3 + la) = .ok (.goto goff, 3)) (he : ((pc + 3 + la : Nat) : Int) + goff = (e : Int)) (he2 : tgt + lb = e) (h : rg z ∧ rg u) (g : WP l E R A Y k n e ls (vI (jI (if z ≠ u then a else b)) :: st) M) : WP l E R A Y k n pc ls (vI (jI u) :: vI (jI z) :: st) M := by
  refine xj_icmp_eq F d ht h (fun q => ?_) (fun q => ?_)
  · rw [if_neg (by omega)] at g
    refine x_cp F hb ?_
    rw [he2]
    exact g
  · rw [if_pos (by omega)] at g
    refine x_cp F ha ?_
    exact x_goto F dg he g
theorem xs_if_eq (F : xFix E A Y cc own nL) {z : Int} {off goff a b : Int} {tgt la lb e : Nat} (d : decode cc pc = .ok (.ifCond .eq off, 3)) (ht : (pc : Int) + off = (tgt : Int)) (ha : xCP cc (pc + 3) a la) (hb : xCP cc tgt b lb) (dg : decode cc (pc + 3 + la) = .ok (.goto goff, 3)) (he : ((pc + 3 + la : Nat) : Int) + goff = (e : Int)) (he2 : tgt + lb = e) (h : rg z) (g : WP l E R A Y k n e ls (vI (jI (if z ≠ 0 then a else b)) :: st) M) : WP l E R A Y k n pc ls (vI (jI z) :: st) M := by
  refine xj_if_eq F d ht h (fun q => ?_) (fun q => ?_)
  · rw [if_neg (by omega)] at g
    refine x_cp F hb ?_
    rw [he2]
    exact g
  · rw [if_pos (by omega)] at g
    refine x_cp F ha ?_
    exact x_goto F dg he g
theorem xs_icmp_ne (F : xFix E A Y cc own nL) {z u : Int} {off goff a b : Int} {tgt la lb e : Nat} (d : decode cc pc = .ok (.if_icmp .ne off, 3)) (ht : (pc : Int) + off = (tgt : Int)) (ha : xCP cc (pc + 3) a la) (hb : xCP cc tgt b lb) (dg : decode cc (pc + 3 + la) = .ok (.goto goff, 3)) (he : ((pc + 3 + la : Nat) : Int) + goff = (e : Int)) (he2 : tgt + lb = e) (h : rg z ∧ rg u) (g : WP l E R A Y k n e ls (vI (jI (if z = u then a else b)) :: st) M) : WP l E R A Y k n pc ls (vI (jI u) :: vI (jI z) :: st) M := by
  refine xj_icmp_ne F d ht h (fun q => ?_) (fun q => ?_)
  · rw [if_neg (by omega)] at g
    refine x_cp F hb ?_
    rw [he2]
    exact g
  · rw [if_pos (by omega)] at g
    refine x_cp F ha ?_
    exact x_goto F dg he g
theorem xs_if_ne (F : xFix E A Y cc own nL) {z : Int} {off goff a b : Int} {tgt la lb e : Nat} (d : decode cc pc = .ok (.ifCond .ne off, 3)) (ht : (pc : Int) + off = (tgt : Int)) (ha : xCP cc (pc + 3) a la) (hb : xCP cc tgt b lb) (dg : decode cc (pc + 3 + la) = .ok (.goto goff, 3)) (he : ((pc + 3 + la : Nat) : Int) + goff = (e : Int)) (he2 : tgt + lb = e) (h : rg z) (g : WP l E R A Y k n e ls (vI (jI (if z = 0 then a else b)) :: st) M) : WP l E R A Y k n pc ls (vI (jI z) :: st) M := by
  refine xj_if_ne F d ht h (fun q => ?_) (fun q => ?_)
  · rw [if_neg (by omega)] at g
    refine x_cp F hb ?_
    rw [he2]
    exact g
  · rw [if_pos (by omega)] at g
    refine x_cp F ha ?_
    exact x_goto F dg he g
theorem xs_icmp_lt (F : xFix E A Y cc own nL) {z u : Int} {off goff a b : Int} {tgt la lb e : Nat} (d : decode cc pc = .ok (.if_icmp .lt off, 3)) (ht : (pc : Int) + off = (tgt : Int)) (ha : xCP cc (pc + 3) a la) (hb : xCP cc tgt b lb) (dg : decode cc (pc + 3 + la) = .ok (.goto goff, 3)) (he : ((pc + 3 + la : Nat) : Int) + goff = (e : Int)) (he2 : tgt + lb = e) (h : rg z ∧ rg u) (g : WP l E R A Y k n e ls (vI (jI (if u ≤ z then a else b)) :: st) M) : WP l E R A Y k n pc ls (vI (jI u) :: vI (jI z) :: st) M := by
  refine xj_icmp_lt F d ht h (fun q => ?_) (fun q => ?_)
  · rw [if_neg (by omega)] at g
    refine x_cp F hb ?_
    rw [he2]
    exact g
  · rw [if_pos (by omega)] at g
    refine x_cp F ha ?_
    exact x_goto F dg he g
theorem xs_if_lt (F : xFix E A Y cc own nL) {z : Int} {off goff a b : Int} {tgt la lb e : Nat} (d : decode cc pc = .ok (.ifCond .lt off, 3)) (ht : (pc : Int) + off = (tgt : Int)) (ha : xCP cc (pc + 3) a la) (hb : xCP cc tgt b lb) (dg : decode cc (pc + 3 + la) = .ok (.goto goff, 3)) (he : ((pc + 3 + la : Nat) : Int) + goff = (e : Int)) (he2 : tgt + lb = e) (h : rg z) (g : WP l E R A Y k n e ls (vI (jI (if 0 ≤ z then a else b)) :: st) M) : WP l E R A Y k n pc ls (vI (jI z) :: st) M := by
  refine xj_if_lt F d ht h (fun q => ?_) (fun q => ?_)
  · rw [if_neg (by omega)] at g
    refine x_cp F hb ?_
    rw [he2]
    exact g
  · rw [if_pos (by omega)] at g
    refine x_cp F ha ?_
    exact x_goto F dg he g
theorem xs_icmp_ge (F : xFix E A Y cc own nL) {z u : Int} {off goff a b : Int} {tgt la lb e : Nat} (d : decode cc pc = .ok (.if_icmp .ge off, 3)) (ht : (pc : Int) + off = (tgt : Int)) (ha : xCP cc (pc + 3) a la) (hb : xCP cc tgt b lb) (dg : decode cc (pc + 3 + la) = .ok (.goto goff, 3)) (he : ((pc + 3 + la : Nat) : Int) + goff = (e : Int)) (he2 : tgt + lb = e) (h : rg z ∧ rg u) (g : WP l E R A Y k n e ls (vI (jI (if z < u then a else b)) :: st) M) : WP l E R A Y k n pc ls (vI (jI u) :: vI (jI z) :: st) M := by
  refine xj_icmp_ge F d ht h (fun q => ?_) (fun q => ?_)
  · rw [if_neg (by omega)] at g
    refine x_cp F hb ?_
    rw [he2]
    exact g
  · rw [if_pos (by omega)] at g
    refine x_cp F ha ?_
    exact x_goto F dg he g
theorem xs_if_ge (F : xFix E A Y cc own nL) {z : Int} {off goff a b : Int} {tgt la lb e : Nat} (d : decode cc pc = .ok (.ifCond .ge off, 3)) (ht : (pc : Int) + off = (tgt : Int)) (ha : xCP cc (pc + 3) a la) (hb : xCP cc tgt b lb) (dg : decode cc (pc + 3 + la) = .ok (.goto goff, 3)) (he : ((pc + 3 + la : Nat) : Int) + goff = (e : Int)) (he2 : tgt + lb = e) (h : rg z) (g : WP l E R A Y k n e ls (vI (jI (if z < 0 then a else b)) :: st) M) : WP l E R A Y k n pc ls (vI (jI z) :: st) M := by
  refine xj_if_ge F d ht h (fun q => ?_) (fun q => ?_)
  · rw [if_neg (by omega)] at g
    refine x_cp F hb ?_
    rw [he2]
    exact g
  · rw [if_pos (by omega)] at g
    refine x_cp F ha ?_
    exact x_goto F dg he g
theorem xs_icmp_gt (F : xFix E A Y cc own nL) {z u : Int} {off goff a b : Int} {tgt la lb e : Nat} (d : decode cc pc = .ok (.if_icmp .gt off, 3)) (ht : (pc : Int) + off = (tgt : Int)) (ha : xCP cc (pc + 3) a la) (hb : xCP cc tgt b lb) (dg : decode cc (pc + 3 + la) = .ok (.goto goff, 3)) (he : ((pc + 3 + la : Nat) : Int) + goff = (e : Int)) (he2 : tgt + lb = e) (h : rg z ∧ rg u) (g : WP l E R A Y k n e ls (vI (jI (if z ≤ u then a else b)) :: st) M) : WP l E R A Y k n pc ls (vI (jI u) :: vI (jI z) :: st) M := by
  refine xj_icmp_gt F d ht h (fun q => ?_) (fun q => ?_)
  · rw [if_neg (by omega)] at g
    refine x_cp F hb ?_
    rw [he2]
    exact g
  · rw [if_pos (by omega)] at g
    refine x_cp F ha ?_
    exact x_goto F dg he g
theorem xs_if_gt (F : xFix E A Y cc own nL) {z : Int} {off goff a b : Int} {tgt la lb e : Nat} (d : decode cc pc = .ok (.ifCond .gt off, 3)) (ht : (pc : Int) + off = (tgt : Int)) (ha : xCP cc (pc + 3) a la) (hb : xCP cc tgt b lb) (dg : decode cc (pc + 3 + la) = .ok (.goto goff, 3)) (he : ((pc + 3 + la : Nat) : Int) + goff = (e : Int)) (he2 : tgt + lb = e) (h : rg z) (g : WP l E R A Y k n e ls (vI (jI (if z ≤ 0 then a else b)) :: st) M) : WP l E R A Y k n pc ls (vI (jI z) :: st) M := by
  refine xj_if_gt F d ht h (fun q => ?_) (fun q => ?_)
  · rw [if_neg (by omega)] at g
    refine x_cp F hb ?_
    rw [he2]
    exact g
  · rw [if_pos (by omega)] at g
    refine x_cp F ha ?_
    exact x_goto F dg he g
theorem xs_icmp_le (F : xFix E A Y cc own nL) {z u : Int} {off goff a b : Int} {tgt la lb e : Nat} (d : decode cc pc = .ok (.if_icmp .le off, 3)) (ht : (pc : Int) + off = (tgt : Int)) (ha : xCP cc (pc + 3) a la) (hb : xCP cc tgt b lb) (dg : decode cc (pc + 3 + la) = .ok (.goto goff, 3)) (he : ((pc + 3 + la : Nat) : Int) + goff = (e : Int)) (he2 : tgt + lb = e) (h : rg z ∧ rg u) (g : WP l E R A Y k n e ls (vI (jI (if u < z then a else b)) :: st) M) : WP l E R A Y k n pc ls (vI (jI u) :: vI (jI z) :: st) M := by
  refine xj_icmp_le F d ht h (fun q => ?_) (fun q => ?_)
  · rw [if_neg (by omega)] at g
    refine x_cp F hb ?_
    rw [he2]
    exact g
  · rw [if_pos (by omega)] at g
    refine x_cp F ha ?_
    exact x_goto F dg he g
theorem xs_if_le (F : xFix E A Y cc own nL) {z : Int} {off goff a b : Int} {tgt la lb e : Nat} (d : decode cc pc = .ok (.ifCond .le off, 3)) (ht : (pc : Int) + off = (tgt : Int)) (ha : xCP cc (pc + 3) a la) (hb : xCP cc tgt b lb) (dg : decode cc (pc + 3 + la) = .ok (.goto goff, 3)) (he : ((pc + 3 + la : Nat) : Int) + goff = (e : Int)) (he2 : tgt + lb = e) (h : rg z) (g : WP l E R A Y k n e ls (vI (jI (if 0 < z then a else b)) :: st) M) : WP l E R A Y k n pc ls (vI (jI z) :: st) M := by
  refine xj_if_le F d ht h (fun q => ?_) (fun q => ?_)
  · rw [if_neg (by omega)] at g
    refine x_cp F hb ?_
    rw [he2]
    exact g
  · rw [if_pos (by omega)] at g
    refine x_cp F ha ?_
    exact x_goto F dg he g
end XSEL
