/-! WHOLE NUMBERS: the ints of the walk as jI z, z : Int; booleans as jb p -/
abbrev rg (z : Int) : Prop := -2147483648 ≤ z ∧ z < 2147483648
def jI (z : Int) : Int32 := Int32.ofInt z
def jb (p : Prop) [Decidable p] : Int32 := if p then jI 1 else jI 0
theorem jb_t {p : Prop} [Decidable p] (h : p) : jb p = jI 1 := if_pos h
theorem jb_f {p : Prop} [Decidable p] (h : ¬ p) : jb p = jI 0 := if_neg h
theorem jb_c {p q : Prop} [Decidable p] [Decidable q] (h : p ↔ q) : jb p = jb q := by
  by_cases hp : p
  · rw [jb_t hp, jb_t (h.mp hp)]
  · rw [jb_f hp, jb_f (fun z => hp (h.mpr z))]
theorem jI_toInt {z : Int} (h : rg z) : (jI z).toInt = z := Int32.toInt_ofInt_of_le h.1 h.2
theorem jI_of (x : Int32) : jI x.toInt = x := Int32.ofInt_toInt x
theorem rg_of (x : Int32) : rg x.toInt := ⟨Int32.le_toInt x, Int32.toInt_lt x⟩
theorem jI_ex (x : Int32) : ∃ z : Int, rg z ∧ x = jI z := ⟨x.toInt, rg_of x, (jI_of x).symm⟩
theorem jI_bv (z : Int) : (jI z).toBitVec = BitVec.ofInt 32 z := rfl
theorem jI_add (a b : Int) : jI a + jI b = jI (a + b) := by
  apply Int32.toBitVec.inj; rw [Int32.toBitVec_add, jI_bv, jI_bv, jI_bv, BitVec.ofInt_add]
theorem jI_mul (a b : Int) : jI a * jI b = jI (a * b) := by
  apply Int32.toBitVec.inj; rw [Int32.toBitVec_mul, jI_bv, jI_bv, jI_bv, BitVec.ofInt_mul]
theorem jI_neg (a : Int) : -jI a = jI (-a) := Int32.neg_ofInt
theorem jI_sub (a b : Int) : jI a - jI b = jI (a - b) := by
  rw [Int32.sub_eq_add_neg, jI_neg, jI_add, Int.sub_eq_add_neg]
theorem jI_le {a b : Int} (ha : rg a) (hb : rg b) : jI a ≤ jI b ↔ a ≤ b := by
  rw [Int32.le_iff_toInt_le, jI_toInt ha, jI_toInt hb]
theorem jI_lt {a b : Int} (ha : rg a) (hb : rg b) : jI a < jI b ↔ a < b := by
  rw [Int32.lt_iff_toInt_lt, jI_toInt ha, jI_toInt hb]
theorem jI_eq {a b : Int} (ha : rg a) (hb : rg b) : jI a = jI b ↔ a = b := by
  rw [← Int32.toInt_inj, jI_toInt ha, jI_toInt hb]
theorem jI_0 : jI 0 = 0 := rfl
theorem jI_nat (n : Nat) : jI (n : Int) = nI n := by
  unfold jI nI; exact Int32.ofInt_eq_ofNat
theorem jI_clamp {z : Int} (h : rg z) : (jI z).toNatClampNeg = z.toNat := Int32.toNatClampNeg_ofInt_of_le h.1 h.2
theorem jI_in {z : Int} {n : Nat} (h : 0 ≤ z ∧ z < n) (hz : rg z) : vp_in (jI z) n := by
  unfold vp_in
  rw [show (0 : Int32) = jI 0 from rfl, jI_lt hz (by omega), jI_clamp hz]
  omega
theorem jI_div {a b : Int} (ha : rg a) (h0 : 0 ≤ a) (hb : rg b) (h1 : 0 < b) : jI a / jI b = jI (a / b) := by
  have e1 : jI a = nI a.toNat := by rw [← jI_nat, Int.toNat_of_nonneg h0]
  have e2 : jI b = nI b.toNat := by rw [← jI_nat, Int.toNat_of_nonneg (by omega)]
  rw [e1, e2, pk_div (by omega) (by omega) (by omega), ← jI_nat]
  congr 1
  rw [Int.natCast_ediv, Int.toNat_of_nonneg h0, Int.toNat_of_nonneg (by omega)]
theorem jI_rem {a b : Int} (ha : rg a) (h0 : 0 ≤ a) (hb : rg b) (h1 : 0 < b) : jI a - jI a / jI b * jI b = jI (a % b) := by
  rw [jI_div ha h0 hb h1, jI_mul, jI_sub]
  congr 1
  have := Int.emod_add_mul_ediv a b
  rw [Int.mul_comm]
  omega
theorem jI_and1 {a : Int} (ha : rg a) (h0 : 0 ≤ a) : jI a &&& jI 1 = jI (a % 2) := by
  have e1 : jI a = nI a.toNat := by rw [← jI_nat, Int.toNat_of_nonneg h0]
  rw [e1, show jI 1 = nI 1 from rfl, pk_andN (by omega) 1 (by decide), ← jI_nat]
  congr 1
  omega
theorem jI_max {a b : Int} : (if a ≤ b then jI b else jI a) = jI (max a b) := by
  by_cases h : a ≤ b
  · rw [if_pos h, Int.max_eq_right h]
  · rw [if_neg h, Int.max_eq_left (by omega)]
section XJ
variable {l : Launch} {E : xE} {R : Room} {A : Nat → Prop} {Y : xY} {cc : ByteArray} {own : String} {nL : Nat} {k n pc : Nat} {ls st : List xV} {M : xM}
theorem xj_iadd (F : xFix E A Y cc own nL) {a b : Int} (d : decode cc pc = .ok (.iadd, 1)) (g : WP l E R A Y k n (pc + 1) ls (vI (jI (a + b)) :: st) M) : WP l E R A Y k n pc ls (vI (jI b) :: vI (jI a) :: st) M := x_iadd F d (by rw [jI_add]; exact g)
theorem xj_isub (F : xFix E A Y cc own nL) {a b : Int} (d : decode cc pc = .ok (.isub, 1)) (g : WP l E R A Y k n (pc + 1) ls (vI (jI (a - b)) :: st) M) : WP l E R A Y k n pc ls (vI (jI b) :: vI (jI a) :: st) M := x_isub F d (by rw [jI_sub]; exact g)
theorem xj_imul (F : xFix E A Y cc own nL) {a b : Int} (d : decode cc pc = .ok (.imul, 1)) (g : WP l E R A Y k n (pc + 1) ls (vI (jI (a * b)) :: st) M) : WP l E R A Y k n pc ls (vI (jI b) :: vI (jI a) :: st) M := x_imul F d (by rw [jI_mul]; exact g)
theorem xj_ineg (F : xFix E A Y cc own nL) {a : Int} (d : decode cc pc = .ok (.ineg, 1)) (g : WP l E R A Y k n (pc + 1) ls (vI (jI (-a)) :: st) M) : WP l E R A Y k n pc ls (vI (jI a) :: st) M := x_ineg F d (by rw [jI_neg]; exact g)
theorem xj_idiv (F : xFix E A Y cc own nL) {a b : Int} (d : decode cc pc = .ok (.idiv, 1)) (h : rg a ∧ 0 ≤ a ∧ rg b ∧ 0 < b) (g : WP l E R A Y k n (pc + 1) ls (vI (jI (a / b)) :: st) M) : WP l E R A Y k n pc ls (vI (jI b) :: vI (jI a) :: st) M := x_idiv F d (fun z => by rw [show (0 : Int32) = jI 0 from rfl, jI_eq h.2.2.1 (by omega)] at z; omega) (by rw [jI_div h.1 h.2.1 h.2.2.1 h.2.2.2]; exact g)
theorem xj_irem (F : xFix E A Y cc own nL) {a b : Int} (d : decode cc pc = .ok (.irem, 1)) (h : rg a ∧ 0 ≤ a ∧ rg b ∧ 0 < b) (g : WP l E R A Y k n (pc + 1) ls (vI (jI (a % b)) :: st) M) : WP l E R A Y k n pc ls (vI (jI b) :: vI (jI a) :: st) M := x_irem F d (fun z => by rw [show (0 : Int32) = jI 0 from rfl, jI_eq h.2.2.1 (by omega)] at z; omega) (by rw [jI_rem h.1 h.2.1 h.2.2.1 h.2.2.2]; exact g)
theorem xj_and1 (F : xFix E A Y cc own nL) {a : Int} (d : decode cc pc = .ok (.iand, 1)) (h : rg a ∧ 0 ≤ a) (g : WP l E R A Y k n (pc + 1) ls (vI (jI (a % 2)) :: st) M) : WP l E R A Y k n pc ls (vI (jI 1) :: vI (jI a) :: st) M := x_iand F d (by rw [jI_and1 h.1 h.2]; exact g)
theorem xj_iconst (F : xFix E A Y cc own nL) {i : Int} (d : decode cc pc = .ok (.iconst i, 1)) (g : WP l E R A Y k n (pc + 1) ls (vI (jI i) :: st) M) : WP l E R A Y k n pc ls st M := x_iconst F d rfl g
theorem xj_bipush (F : xFix E A Y cc own nL) {i : Int} (d : decode cc pc = .ok (.bipush i, 2)) (h : (Int8.ofInt i).toInt32 = jI i) (g : WP l E R A Y k n (pc + 2) ls (vI (jI i) :: st) M) : WP l E R A Y k n pc ls st M := x_bipush F d h g
theorem xj_sipush (F : xFix E A Y cc own nL) {i : Int} (d : decode cc pc = .ok (.sipush i, 3)) (h : (Int16.ofInt i).toInt32 = jI i) (g : WP l E R A Y k n (pc + 3) ls (vI (jI i) :: st) M) : WP l E R A Y k n pc ls st M := x_sipush F d h g
theorem xj_iinc (F : xFix E A Y cc own nL) {i : Nat} {c z : Int} (d : decode cc pc = .ok (.iinc i c, 3)) (hv : ls[i]? = some (vI (jI z))) (g : WP l E R A Y k n (pc + 3) (stl ls i (vI (jI (z + c)))) st M) : WP l E R A Y k n pc ls st M := x_iinc F d hv (jI_add z c) g
theorem xj_iald (F : xFix E A Y cc own nL) {a N9 : Nat} {z : Int} (hk : xk a = (8, N9)) (d : decode cc pc = .ok (.iaload, 1)) (h : 0 ≤ z ∧ z < N9 ∧ z < 2147483648) (g : WP l E R A Y k n (pc + 1) ls (vI (M.1 a z.toNat) :: st) M) : WP l E R A Y k n pc ls (vI (jI z) :: vA a :: st) M := x_iald F hk d (jI_in ⟨h.1, h.2.1⟩ (by omega)) (by rw [jI_clamp (by omega)]; exact g)
theorem xj_cald (F : xFix E A Y cc own nL) {a N9 : Nat} {z : Int} (hk : xk a = (9, N9)) (d : decode cc pc = .ok (.caload, 1)) (h : 0 ≤ z ∧ z < N9 ∧ z < 2147483648) (g : WP l E R A Y k n (pc + 1) ls (vI (M.1 a z.toNat) :: st) M) : WP l E R A Y k n pc ls (vI (jI z) :: vA a :: st) M := x_cald F hk d (jI_in ⟨h.1, h.2.1⟩ (by omega)) (by rw [jI_clamp (by omega)]; exact g)
theorem xj_aaldC (F : xFix E A Y cc own nL) {a N9 : Nat} {z : Int} (hk : xk a = (11, N9)) (d : decode cc pc = .ok (.aaload, 1)) (h : 0 ≤ z ∧ z < N9 ∧ z < 2147483648) (g : WP l E R A Y k n (pc + 1) ls (vA (18 + 5 * z.toNat) :: st) M) : WP l E R A Y k n pc ls (vI (jI z) :: vA a :: st) M := x_aaldC F hk d (jI_in ⟨h.1, h.2.1⟩ (by omega)) (by rw [jI_clamp (by omega)]; exact g)
theorem xj_aaldN (F : xFix E A Y cc own nL) {a N9 : Nat} {z : Int} (hk : xk a = (12, N9)) (d : decode cc pc = .ok (.aaload, 1)) (h : 0 ≤ z ∧ z < N9 ∧ z < 2147483648) (g : WP l E R A Y k n (pc + 1) ls (vA (52 + z.toNat) :: st) M) : WP l E R A Y k n pc ls (vI (jI z) :: vA a :: st) M := x_aaldN F hk d (jI_in ⟨h.1, h.2.1⟩ (by omega)) (by rw [jI_clamp (by omega)]; exact g)
theorem xj_iast (F : xFix E A Y cc own nL) {a N9 : Nat} {z : Int} {x : Int32} (hk : xk a = (8, N9)) (d : decode cc pc = .ok (.iastore, 1)) (h : 0 ≤ z ∧ z < N9 ∧ z < 2147483648) (g : WP l E R A Y k n (pc + 1) ls st (upI M a z.toNat x)) : WP l E R A Y k n pc ls (vI x :: vI (jI z) :: vA a :: st) M := x_iast F hk d (jI_in ⟨h.1, h.2.1⟩ (by omega)) (by rw [jI_clamp (by omega)]; exact g)
theorem xj_cast (F : xFix E A Y cc own nL) {a N9 : Nat} {z : Int} {x : Int32} (hk : xk a = (9, N9)) (d : decode cc pc = .ok (.castore, 1)) (h : 0 ≤ z ∧ z < N9 ∧ z < 2147483648) (hx : vp_nar .char x = x) (g : WP l E R A Y k n (pc + 1) ls st (upI M a z.toNat x)) : WP l E R A Y k n pc ls (vI x :: vI (jI z) :: vA a :: st) M := x_cast F hk d (jI_in ⟨h.1, h.2.1⟩ (by omega)) hx (by rw [jI_clamp (by omega)]; exact g)
theorem xj_alen (F : xFix E A Y cc own nL) {a t9 N9 : Nat} (hk : xk a = (t9, N9)) (d : decode cc pc = .ok (.arraylength, 1)) (ht : t9 = 8 ∨ t9 = 9 ∨ t9 = 11 ∨ t9 = 12) (g : WP l E R A Y k n (pc + 1) ls (vI (jI (N9 : Int)) :: st) M) : WP l E R A Y k n pc ls (vA a :: st) M := x_alen F hk ht (by rw [jI_nat]; rfl) d g
theorem xj_icmp_eq (F : xFix E A Y cc own nL) {a b : Int} {off : Int} {tgt : Nat} (d : decode cc pc = .ok (.if_icmp .eq off, 3)) (ht : (pc : Int) + off = (tgt : Int)) (h : rg a ∧ rg b) (g1 : a = b → WP l E R A Y k n tgt ls st M) (g2 : a ≠ b → WP l E R A Y k n (pc + 3) ls st M) : WP l E R A Y k n pc ls (vI (jI b) :: vI (jI a) :: st) M := x_icmp_eq F d ht (fun q => g1 ((jI_eq h.1 h.2).mp q)) (fun q => g2 (fun z => q ((jI_eq h.1 h.2).mpr z)))
theorem xj_icmp_ne (F : xFix E A Y cc own nL) {a b : Int} {off : Int} {tgt : Nat} (d : decode cc pc = .ok (.if_icmp .ne off, 3)) (ht : (pc : Int) + off = (tgt : Int)) (h : rg a ∧ rg b) (g1 : a ≠ b → WP l E R A Y k n tgt ls st M) (g2 : a = b → WP l E R A Y k n (pc + 3) ls st M) : WP l E R A Y k n pc ls (vI (jI b) :: vI (jI a) :: st) M := x_icmp_ne F d ht (fun q => g1 (fun z => q ((jI_eq h.1 h.2).mpr z))) (fun q => g2 ((jI_eq h.1 h.2).mp q))
theorem xj_icmp_lt (F : xFix E A Y cc own nL) {a b : Int} {off : Int} {tgt : Nat} (d : decode cc pc = .ok (.if_icmp .lt off, 3)) (ht : (pc : Int) + off = (tgt : Int)) (h : rg a ∧ rg b) (g1 : a < b → WP l E R A Y k n tgt ls st M) (g2 : b ≤ a → WP l E R A Y k n (pc + 3) ls st M) : WP l E R A Y k n pc ls (vI (jI b) :: vI (jI a) :: st) M := x_icmp_lt F d ht (fun q => g1 ((jI_lt h.1 h.2).mp q)) (fun q => g2 (by rw [jI_lt h.1 h.2] at q; omega))
theorem xj_icmp_ge (F : xFix E A Y cc own nL) {a b : Int} {off : Int} {tgt : Nat} (d : decode cc pc = .ok (.if_icmp .ge off, 3)) (ht : (pc : Int) + off = (tgt : Int)) (h : rg a ∧ rg b) (g1 : b ≤ a → WP l E R A Y k n tgt ls st M) (g2 : a < b → WP l E R A Y k n (pc + 3) ls st M) : WP l E R A Y k n pc ls (vI (jI b) :: vI (jI a) :: st) M := x_icmp_ge F d ht (fun q => g1 ((jI_le h.2 h.1).mp q)) (fun q => g2 (by rw [jI_le h.2 h.1] at q; omega))
theorem xj_icmp_gt (F : xFix E A Y cc own nL) {a b : Int} {off : Int} {tgt : Nat} (d : decode cc pc = .ok (.if_icmp .gt off, 3)) (ht : (pc : Int) + off = (tgt : Int)) (h : rg a ∧ rg b) (g1 : b < a → WP l E R A Y k n tgt ls st M) (g2 : a ≤ b → WP l E R A Y k n (pc + 3) ls st M) : WP l E R A Y k n pc ls (vI (jI b) :: vI (jI a) :: st) M := x_icmp_gt F d ht (fun q => g1 ((jI_lt h.2 h.1).mp q)) (fun q => g2 (by rw [jI_lt h.2 h.1] at q; omega))
theorem xj_icmp_le (F : xFix E A Y cc own nL) {a b : Int} {off : Int} {tgt : Nat} (d : decode cc pc = .ok (.if_icmp .le off, 3)) (ht : (pc : Int) + off = (tgt : Int)) (h : rg a ∧ rg b) (g1 : a ≤ b → WP l E R A Y k n tgt ls st M) (g2 : b < a → WP l E R A Y k n (pc + 3) ls st M) : WP l E R A Y k n pc ls (vI (jI b) :: vI (jI a) :: st) M := x_icmp_le F d ht (fun q => g1 ((jI_le h.1 h.2).mp q)) (fun q => g2 (by rw [jI_le h.1 h.2] at q; omega))
theorem xj_if_eq (F : xFix E A Y cc own nL) {a : Int} {off : Int} {tgt : Nat} (d : decode cc pc = .ok (.ifCond .eq off, 3)) (ht : (pc : Int) + off = (tgt : Int)) (h : rg a) (g1 : a = 0 → WP l E R A Y k n tgt ls st M) (g2 : a ≠ 0 → WP l E R A Y k n (pc + 3) ls st M) : WP l E R A Y k n pc ls (vI (jI a) :: st) M := x_if_eq F d ht (fun q => g1 ((jI_eq h (by omega)).mp q)) (fun q => g2 (fun z => q ((jI_eq h (by omega)).mpr z)))
theorem xj_if_ne (F : xFix E A Y cc own nL) {a : Int} {off : Int} {tgt : Nat} (d : decode cc pc = .ok (.ifCond .ne off, 3)) (ht : (pc : Int) + off = (tgt : Int)) (h : rg a) (g1 : a ≠ 0 → WP l E R A Y k n tgt ls st M) (g2 : a = 0 → WP l E R A Y k n (pc + 3) ls st M) : WP l E R A Y k n pc ls (vI (jI a) :: st) M := x_if_ne F d ht (fun q => g1 (fun z => q ((jI_eq h (by omega)).mpr z))) (fun q => g2 ((jI_eq h (by omega)).mp q))
theorem xj_if_lt (F : xFix E A Y cc own nL) {a : Int} {off : Int} {tgt : Nat} (d : decode cc pc = .ok (.ifCond .lt off, 3)) (ht : (pc : Int) + off = (tgt : Int)) (h : rg a) (g1 : a < 0 → WP l E R A Y k n tgt ls st M) (g2 : 0 ≤ a → WP l E R A Y k n (pc + 3) ls st M) : WP l E R A Y k n pc ls (vI (jI a) :: st) M := x_if_lt F d ht (fun q => g1 ((jI_lt h (by omega)).mp q)) (fun q => g2 (by rw [show (0 : Int32) = jI 0 from rfl, jI_lt h (by omega)] at q; omega))
theorem xj_if_ge (F : xFix E A Y cc own nL) {a : Int} {off : Int} {tgt : Nat} (d : decode cc pc = .ok (.ifCond .ge off, 3)) (ht : (pc : Int) + off = (tgt : Int)) (h : rg a) (g1 : 0 ≤ a → WP l E R A Y k n tgt ls st M) (g2 : a < 0 → WP l E R A Y k n (pc + 3) ls st M) : WP l E R A Y k n pc ls (vI (jI a) :: st) M := x_if_ge F d ht (fun q => g1 ((jI_le (by omega) h).mp q)) (fun q => g2 (by rw [show (0 : Int32) = jI 0 from rfl, jI_le (by omega) h] at q; omega))
theorem xj_if_gt (F : xFix E A Y cc own nL) {a : Int} {off : Int} {tgt : Nat} (d : decode cc pc = .ok (.ifCond .gt off, 3)) (ht : (pc : Int) + off = (tgt : Int)) (h : rg a) (g1 : 0 < a → WP l E R A Y k n tgt ls st M) (g2 : a ≤ 0 → WP l E R A Y k n (pc + 3) ls st M) : WP l E R A Y k n pc ls (vI (jI a) :: st) M := x_if_gt F d ht (fun q => g1 ((jI_lt (by omega) h).mp q)) (fun q => g2 (by rw [show (0 : Int32) = jI 0 from rfl, jI_lt (by omega) h] at q; omega))
theorem xj_if_le (F : xFix E A Y cc own nL) {a : Int} {off : Int} {tgt : Nat} (d : decode cc pc = .ok (.ifCond .le off, 3)) (ht : (pc : Int) + off = (tgt : Int)) (h : rg a) (g1 : a ≤ 0 → WP l E R A Y k n tgt ls st M) (g2 : 0 < a → WP l E R A Y k n (pc + 3) ls st M) : WP l E R A Y k n pc ls (vI (jI a) :: st) M := x_if_le F d ht (fun q => g1 ((jI_le h (by omega)).mp q)) (fun q => g2 (by rw [show (0 : Int32) = jI 0 from rfl, jI_le h (by omega)] at q; omega))
theorem xb_if_eq (F : xFix E A Y cc own nL) {p : Prop} [Decidable p] {off : Int} {tgt : Nat} (d : decode cc pc = .ok (.ifCond .eq off, 3)) (ht : (pc : Int) + off = (tgt : Int)) (g1 : ¬ p → WP l E R A Y k n tgt ls st M) (g2 : p → WP l E R A Y k n (pc + 3) ls st M) : WP l E R A Y k n pc ls (vI (jb p) :: st) M := x_if_eq F d ht (fun q => g1 (fun hp => by rw [jb_t hp] at q; exact absurd q (by decide))) (fun q => by
  by_cases hp : p
  · exact g2 hp
  · rw [jb_f hp] at q; exact absurd rfl q)
theorem xb_if_ne (F : xFix E A Y cc own nL) {p : Prop} [Decidable p] {off : Int} {tgt : Nat} (d : decode cc pc = .ok (.ifCond .ne off, 3)) (ht : (pc : Int) + off = (tgt : Int)) (g1 : p → WP l E R A Y k n tgt ls st M) (g2 : ¬ p → WP l E R A Y k n (pc + 3) ls st M) : WP l E R A Y k n pc ls (vI (jb p) :: st) M := x_if_ne F d ht (fun q => by
  by_cases hp : p
  · exact g1 hp
  · rw [jb_f hp] at q; exact absurd rfl q) (fun q => g2 (fun hp => by rw [jb_t hp] at q; exact absurd q (by decide)))
end XJ
theorem jb_nar (p : Prop) [Decidable p] : narrow .boolean (.int (jb p)) = .int (jb p) := by
  by_cases h : p
  · rw [jb_t h]; rfl
  · rw [jb_f h]; rfl
section XJ2
variable {l : Launch} {E : xE} {R : Room} {A : Nat → Prop} {Y : xY} {cc : ByteArray} {own : String} {nL : Nat} {k n pc : Nat} {ls st : List xV} {M : xM}
theorem xj_geti (F : xFix E A Y cc own nL) {idx ci j a N9 : Nat} (h : xFL own idx ci j) (hk : xk a = (ci, N9)) (d : decode cc pc = .ok (.getfield idx, 3)) (hc : ci < 8) (hj : j < N9) (hf : xft ci j = 0) (g : rg (M.1 a j).toInt → WP l E R A Y k n (pc + 3) ls (vI (jI (M.1 a j).toInt) :: st) M) : WP l E R A Y k n pc ls (vA a :: st) M := x_geti F h hk d hc hj hf (by have := g (rg_of _); rw [jI_of] at this; exact this)
theorem xj_getiN (F : xFix E A Y cc own nL) {idx ci j a N9 : Nat} (h : xFN own idx ci j) (hk : xk a = (ci, N9)) (d : decode cc pc = .ok (.getfield idx, 3)) (hc : ci < 8) (hj : j < N9) (hf : xft ci j = 0) (g : rg (M.1 a j).toInt → WP l E R A Y k n (pc + 3) ls (vI (jI (M.1 a j).toInt) :: st) M) : WP l E R A Y k n pc ls (vA a :: st) M := x_getiN F h hk d hc hj hf (by have := g (rg_of _); rw [jI_of] at this; exact this)
theorem xj_lald2 (F : xFix E A Y cc own nL) {a N9 : Nat} {z : Int} (hk : xk a = (8, N9)) (d : decode cc pc = .ok (.iaload, 1)) (h : 0 ≤ z ∧ z < N9 ∧ z < 2147483648) (g : rg (M.1 a z.toNat).toInt → WP l E R A Y k n (pc + 1) ls (vI (jI (M.1 a z.toNat).toInt) :: st) M) : WP l E R A Y k n pc ls (vI (jI z) :: vA a :: st) M := xj_iald F hk d h (by have := g (rg_of _); rw [jI_of] at this; exact this)
theorem xj_cald2 (F : xFix E A Y cc own nL) {a N9 : Nat} {z : Int} (hk : xk a = (9, N9)) (d : decode cc pc = .ok (.caload, 1)) (h : 0 ≤ z ∧ z < N9 ∧ z < 2147483648) (g : rg (M.1 a z.toNat).toInt → WP l E R A Y k n (pc + 1) ls (vI (jI (M.1 a z.toNat).toInt) :: st) M) : WP l E R A Y k n pc ls (vI (jI z) :: vA a :: st) M := xj_cald F hk d h (by have := g (rg_of _); rw [jI_of] at this; exact this)
end XJ2
section XJ3
variable {l : Launch} {E : xE} {R : Room} {A : Nat → Prop} {Y : xY} {cc : ByteArray} {own : String} {nL : Nat} {k n pc : Nat} {ls st : List xV} {M : xM}
theorem xj_look (F : xFix E A Y cc own nL) {dflt : Int} {ps : Array (Int × Int)} {len : Nat} {z : Int} {off : Int} {tgt : Nat} (d : decode cc pc = .ok (.lookupswitch dflt ps, len)) (hp : (ps.toList.zip (ps.toList.drop 1)).all (fun (a, next) => a.1 < next.1) = true) (ho : Op.lookupswitch.offset ps.toList dflt z = off) (ht : (pc : Int) + off = (tgt : Int)) (hz : rg z) (g : WP l E R A Y k n tgt ls st M) : WP l E R A Y k n pc ls (vI (jI z) :: st) M := fun H locs lr hP hS hl hn => lv_lookup F.1 F.2.1 d hp (by rw [jI_toInt hz]; exact ho) ht (g H locs lr hP hS hl hn)
theorem xj_tabIn (F : xFix E A Y cc own nL) {dflt lo hi : Int} {offs : Array Int} {len : Nat} {z : Int} {off : Int} {tgt : Nat} (d : decode cc pc = .ok (.tableswitch dflt lo hi offs, len)) (h1 : ¬ z < lo) (h2 : ¬ hi < z) (ho : offs[(z - lo).toNat]? = some off) (ht : (pc : Int) + off = (tgt : Int)) (hz : rg z) (g : WP l E R A Y k n tgt ls st M) : WP l E R A Y k n pc ls (vI (jI z) :: st) M := fun H locs lr hP hS hl hn => lv_tableIn F.1 F.2.1 d (by rw [jI_toInt hz]; exact h1) (by rw [jI_toInt hz]; exact h2) (by rw [jI_toInt hz]; exact ho) ht (g H locs lr hP hS hl hn)
theorem xj_tabOut (F : xFix E A Y cc own nL) {dflt lo hi : Int} {offs : Array Int} {len : Nat} {z : Int} {tgt : Nat} (d : decode cc pc = .ok (.tableswitch dflt lo hi offs, len)) (h : z < lo ∨ hi < z) (ht : (pc : Int) + dflt = (tgt : Int)) (hz : rg z) (g : WP l E R A Y k n tgt ls st M) : WP l E R A Y k n pc ls (vI (jI z) :: st) M := fun H locs lr hP hS hl hn => lv_tableOut F.1 F.2.1 d (by rw [jI_toInt hz]; exact h) ht (g H locs lr hP hS hl hn)
theorem x_lcmp (F : xFix E A Y cc own nL) {x y : Int64} (d : decode cc pc = .ok (.lcmp, 1)) (g : WP l E R A Y k n (pc + 1) ls (vI (lg_cmp x y) :: st) M) : WP l E R A Y k n pc ls (vL y :: vL x :: st) M := fun H locs lr hP hS hl hn => W.lcmp F.1 F.2.1 d (g H locs lr hP hS hl hn)
theorem x_dcmp (F : xFix E A Y cc own nL) {x y : UInt64} {op : CmpOp} (d : decode cc pc = .ok (.dcmp op, 1)) (g : WP l E R A Y k n (pc + 1) ls (vI (Op.cmpValue (FP.dcmp x y) op) :: st) M) : WP l E R A Y k n pc ls (vD y :: vD x :: st) M := fun H locs lr hP hS hl hn => lv_dcmp F.1 F.2.1 d (g H locs lr hP hS hl hn)
theorem x_dconst0 (F : xFix E A Y cc own nL) (d : decode cc pc = .ok (.dconst 0, 1)) (g : WP l E R A Y k n (pc + 1) ls (vD FP.dconst0 :: st) M) : WP l E R A Y k n pc ls st M := fun H locs lr hP hS hl hn => lv_dconst0 F.1 F.2.1 d (g H locs lr hP hS hl hn)
theorem x_dconst1 (F : xFix E A Y cc own nL) (d : decode cc pc = .ok (.dconst 1, 1)) (g : WP l E R A Y k n (pc + 1) ls (vD FP.dconst1 :: st) M) : WP l E R A Y k n pc ls st M := fun H locs lr hP hS hl hn => lv_dconst1 F.1 F.2.1 d (g H locs lr hP hS hl hn)
theorem x_i2d (F : xFix E A Y cc own nL) {x : Int32} (d : decode cc pc = .ok (.i2d, 1)) (g : WP l E R A Y k n (pc + 1) ls (vD (FP.i2d x) :: st) M) : WP l E R A Y k n pc ls (vI x :: st) M := fun H locs lr hP hS hl hn => lv_i2d F.1 F.2.1 d (g H locs lr hP hS hl hn)
theorem x_d2l (F : xFix E A Y cc own nL) {x : UInt64} (d : decode cc pc = .ok (.d2l, 1)) (g : WP l E R A Y k n (pc + 1) ls (vL (FP.d2l x) :: st) M) : WP l E R A Y k n pc ls (vD x :: st) M := fun H locs lr hP hS hl hn => lv_d2l F.1 F.2.1 d (g H locs lr hP hS hl hn)
theorem x_dmul (F : xFix E A Y cc own nL) {x y : UInt64} (d : decode cc pc = .ok (.dmul, 1)) (hne : vf_n64 (FP.dmul x y)) (g : WP l E R A Y k n (pc + 1) ls (vD (FP.dmul x y) :: st) M) : WP l E R A Y k n pc ls (vD y :: vD x :: st) M := fun H locs lr hP hS hl hn => lv_dmul F.1 F.2.1 d hne (g H locs lr hP hS hl hn)
theorem x_dsub (F : xFix E A Y cc own nL) {x y : UInt64} (d : decode cc pc = .ok (.dsub, 1)) (hne : vf_n64 (FP.dsub x y)) (g : WP l E R A Y k n (pc + 1) ls (vD (FP.dsub x y) :: st) M) : WP l E R A Y k n pc ls (vD y :: vD x :: st) M := fun H locs lr hP hS hl hn => lv_dsub F.1 F.2.1 d hne (g H locs lr hP hS hl hn)
theorem x_ddiv (F : xFix E A Y cc own nL) {x y : UInt64} (d : decode cc pc = .ok (.ddiv, 1)) (hne : vf_n64 (FP.ddiv x y)) (g : WP l E R A Y k n (pc + 1) ls (vD (FP.ddiv x y) :: st) M) : WP l E R A Y k n pc ls (vD y :: vD x :: st) M := fun H locs lr hP hS hl hn => lv_ddiv F.1 F.2.1 d hne (g H locs lr hP hS hl hn)
theorem x_lshl (F : xFix E A Y cc own nL) {x : Int64} {y : Int32} (d : decode cc pc = .ok (.lshl, 1)) (g : WP l E R A Y k n (pc + 1) ls (vL (x <<< (y.toInt64 &&& 63)) :: st) M) : WP l E R A Y k n pc ls (vI y :: vL x :: st) M := fun H locs lr hP hS hl hn => lv_lshl F.1 F.2.1 d rfl (g H locs lr hP hS hl hn)
theorem x_ishl (F : xFix E A Y cc own nL) {x y : Int32} (d : decode cc pc = .ok (.ishl, 1)) (g : WP l E R A Y k n (pc + 1) ls (vI (x <<< (y &&& 31)) :: st) M) : WP l E R A Y k n pc ls (vI y :: vI x :: st) M := fun H locs lr hP hS hl hn => lv_ishl F.1 F.2.1 d (g H locs lr hP hS hl hn)
theorem x_ishr (F : xFix E A Y cc own nL) {x y : Int32} (d : decode cc pc = .ok (.ishr, 1)) (g : WP l E R A Y k n (pc + 1) ls (vI (x >>> (y &&& 31)) :: st) M) : WP l E R A Y k n pc ls (vI y :: vI x :: st) M := fun H locs lr hP hS hl hn => lv_ishr F.1 F.2.1 d (g H locs lr hP hS hl hn)
theorem x_iushr (F : xFix E A Y cc own nL) {x y v : Int32} (d : decode cc pc = .ok (.iushr, 1)) (hv : (x.toUInt32 >>> (y.toUInt32 &&& Int32.toUInt32 31)).toInt32 = v) (g : WP l E R A Y k n (pc + 1) ls (vI v :: st) M) : WP l E R A Y k n pc ls (vI y :: vI x :: st) M := fun H locs lr hP hS hl hn => lv_iushr F.1 F.2.1 d hv (g H locs lr hP hS hl hn)
end XJ3
