/-! THE LAW: the world that the constructors make -/
def lwB (a : Nat) : Bool := match a with
  | 1 => true
  | 6 => true
  | 11 => true
  | 18 => true
  | 23 => true
  | 28 => true
  | 33 => true
  | 38 => true
  | 43 => true
  | _ => false
def lwM0 : xM := (fun a => if lwB a = true then (fun k => if k = 4 then 6 else if k = 5 then 1 else 0) else if a = 71 then (upd (upd (fun _ => 0) 0 6) 1 1) else fun _ => 0, (fun _ _ => none, fun _ _ => 0))
def lwFx (f1 : Nat → Nat) (q1 q2 q3 q4 a : Nat) : Nat := if a < 68 then f1 a else if a = 68 then q1 else if a = 69 then q2 else if a = 70 then q3 else if a = 71 then q4 else 0
def lwS (G : nC) (f1 : Nat → Nat) (q1 q2 q3 q4 : Nat) : va_W := oddW G f1 0 ++ [(q1, .inl (G.2 0, 24, .inl (fun _ => 0)))] ++ [(q2, .inl (G.2 0, 24, .inl (fun _ => 0)))] ++ [(q3, .inl (G.2 0, 24, .inl (fun _ => 0)))] ++ [(q4, .inl (G.2 0, 5, .inl (upd (upd (fun _ => 0) 0 6) 1 1)))]
theorem lwS_len (G : nC) (f1 : Nat → Nat) (q1 q2 q3 q4 : Nat) : (lwS G f1 q1 q2 q3 q4).length = 72 := rfl
section LWS
variable {G : nC} {f1 adK adV : Nat → Nat} {q1 q2 q3 q4 : Nat}
theorem lw_N72 : xN (G.1, G.2, lwFx f1 q1 q2 q3 q4, adK, adV) = 72 := if_neg (show ¬ (0 : Nat) = 1 by decide)
set_option maxRecDepth 20000 in
theorem lw_s0 : (lwS G f1 q1 q2 q3 q4)[0]? = some (lwFx f1 q1 q2 q3 q4 0, xent (G.1, G.2, lwFx f1 q1 q2 q3 q4, adK, adV) lwM0 0) := rfl
set_option maxRecDepth 20000 in
theorem lw_s1 : (lwS G f1 q1 q2 q3 q4)[1]? = some (lwFx f1 q1 q2 q3 q4 1, xent (G.1, G.2, lwFx f1 q1 q2 q3 q4, adK, adV) lwM0 1) := rfl
set_option maxRecDepth 20000 in
theorem lw_s2 : (lwS G f1 q1 q2 q3 q4)[2]? = some (lwFx f1 q1 q2 q3 q4 2, xent (G.1, G.2, lwFx f1 q1 q2 q3 q4, adK, adV) lwM0 2) := rfl
set_option maxRecDepth 20000 in
theorem lw_s3 : (lwS G f1 q1 q2 q3 q4)[3]? = some (lwFx f1 q1 q2 q3 q4 3, xent (G.1, G.2, lwFx f1 q1 q2 q3 q4, adK, adV) lwM0 3) := rfl
set_option maxRecDepth 20000 in
theorem lw_s4 : (lwS G f1 q1 q2 q3 q4)[4]? = some (lwFx f1 q1 q2 q3 q4 4, xent (G.1, G.2, lwFx f1 q1 q2 q3 q4, adK, adV) lwM0 4) := rfl
set_option maxRecDepth 20000 in
theorem lw_s5 : (lwS G f1 q1 q2 q3 q4)[5]? = some (lwFx f1 q1 q2 q3 q4 5, xent (G.1, G.2, lwFx f1 q1 q2 q3 q4, adK, adV) lwM0 5) := rfl
set_option maxRecDepth 20000 in
theorem lw_s6 : (lwS G f1 q1 q2 q3 q4)[6]? = some (lwFx f1 q1 q2 q3 q4 6, xent (G.1, G.2, lwFx f1 q1 q2 q3 q4, adK, adV) lwM0 6) := rfl
set_option maxRecDepth 20000 in
theorem lw_s7 : (lwS G f1 q1 q2 q3 q4)[7]? = some (lwFx f1 q1 q2 q3 q4 7, xent (G.1, G.2, lwFx f1 q1 q2 q3 q4, adK, adV) lwM0 7) := rfl
set_option maxRecDepth 20000 in
theorem lw_s8 : (lwS G f1 q1 q2 q3 q4)[8]? = some (lwFx f1 q1 q2 q3 q4 8, xent (G.1, G.2, lwFx f1 q1 q2 q3 q4, adK, adV) lwM0 8) := rfl
set_option maxRecDepth 20000 in
theorem lw_s9 : (lwS G f1 q1 q2 q3 q4)[9]? = some (lwFx f1 q1 q2 q3 q4 9, xent (G.1, G.2, lwFx f1 q1 q2 q3 q4, adK, adV) lwM0 9) := rfl
set_option maxRecDepth 20000 in
theorem lw_s10 : (lwS G f1 q1 q2 q3 q4)[10]? = some (lwFx f1 q1 q2 q3 q4 10, xent (G.1, G.2, lwFx f1 q1 q2 q3 q4, adK, adV) lwM0 10) := rfl
set_option maxRecDepth 20000 in
theorem lw_s11 : (lwS G f1 q1 q2 q3 q4)[11]? = some (lwFx f1 q1 q2 q3 q4 11, xent (G.1, G.2, lwFx f1 q1 q2 q3 q4, adK, adV) lwM0 11) := rfl
set_option maxRecDepth 20000 in
theorem lw_s12 : (lwS G f1 q1 q2 q3 q4)[12]? = some (lwFx f1 q1 q2 q3 q4 12, xent (G.1, G.2, lwFx f1 q1 q2 q3 q4, adK, adV) lwM0 12) := rfl
set_option maxRecDepth 20000 in
theorem lw_s13 : (lwS G f1 q1 q2 q3 q4)[13]? = some (lwFx f1 q1 q2 q3 q4 13, xent (G.1, G.2, lwFx f1 q1 q2 q3 q4, adK, adV) lwM0 13) := rfl
set_option maxRecDepth 20000 in
theorem lw_s14 : (lwS G f1 q1 q2 q3 q4)[14]? = some (lwFx f1 q1 q2 q3 q4 14, xent (G.1, G.2, lwFx f1 q1 q2 q3 q4, adK, adV) lwM0 14) := rfl
set_option maxRecDepth 20000 in
theorem lw_s15 : (lwS G f1 q1 q2 q3 q4)[15]? = some (lwFx f1 q1 q2 q3 q4 15, xent (G.1, G.2, lwFx f1 q1 q2 q3 q4, adK, adV) lwM0 15) := rfl
set_option maxRecDepth 20000 in
theorem lw_s16 : (lwS G f1 q1 q2 q3 q4)[16]? = some (lwFx f1 q1 q2 q3 q4 16, xent (G.1, G.2, lwFx f1 q1 q2 q3 q4, adK, adV) lwM0 16) := rfl
set_option maxRecDepth 20000 in
theorem lw_s18 : (lwS G f1 q1 q2 q3 q4)[18]? = some (lwFx f1 q1 q2 q3 q4 18, xent (G.1, G.2, lwFx f1 q1 q2 q3 q4, adK, adV) lwM0 18) := rfl
set_option maxRecDepth 20000 in
theorem lw_s19 : (lwS G f1 q1 q2 q3 q4)[19]? = some (lwFx f1 q1 q2 q3 q4 19, xent (G.1, G.2, lwFx f1 q1 q2 q3 q4, adK, adV) lwM0 19) := rfl
set_option maxRecDepth 20000 in
theorem lw_s20 : (lwS G f1 q1 q2 q3 q4)[20]? = some (lwFx f1 q1 q2 q3 q4 20, xent (G.1, G.2, lwFx f1 q1 q2 q3 q4, adK, adV) lwM0 20) := rfl
set_option maxRecDepth 20000 in
theorem lw_s21 : (lwS G f1 q1 q2 q3 q4)[21]? = some (lwFx f1 q1 q2 q3 q4 21, xent (G.1, G.2, lwFx f1 q1 q2 q3 q4, adK, adV) lwM0 21) := rfl
set_option maxRecDepth 20000 in
theorem lw_s22 : (lwS G f1 q1 q2 q3 q4)[22]? = some (lwFx f1 q1 q2 q3 q4 22, xent (G.1, G.2, lwFx f1 q1 q2 q3 q4, adK, adV) lwM0 22) := rfl
set_option maxRecDepth 20000 in
theorem lw_s23 : (lwS G f1 q1 q2 q3 q4)[23]? = some (lwFx f1 q1 q2 q3 q4 23, xent (G.1, G.2, lwFx f1 q1 q2 q3 q4, adK, adV) lwM0 23) := rfl
set_option maxRecDepth 20000 in
theorem lw_s24 : (lwS G f1 q1 q2 q3 q4)[24]? = some (lwFx f1 q1 q2 q3 q4 24, xent (G.1, G.2, lwFx f1 q1 q2 q3 q4, adK, adV) lwM0 24) := rfl
set_option maxRecDepth 20000 in
theorem lw_s25 : (lwS G f1 q1 q2 q3 q4)[25]? = some (lwFx f1 q1 q2 q3 q4 25, xent (G.1, G.2, lwFx f1 q1 q2 q3 q4, adK, adV) lwM0 25) := rfl
set_option maxRecDepth 20000 in
theorem lw_s26 : (lwS G f1 q1 q2 q3 q4)[26]? = some (lwFx f1 q1 q2 q3 q4 26, xent (G.1, G.2, lwFx f1 q1 q2 q3 q4, adK, adV) lwM0 26) := rfl
set_option maxRecDepth 20000 in
theorem lw_s27 : (lwS G f1 q1 q2 q3 q4)[27]? = some (lwFx f1 q1 q2 q3 q4 27, xent (G.1, G.2, lwFx f1 q1 q2 q3 q4, adK, adV) lwM0 27) := rfl
set_option maxRecDepth 20000 in
theorem lw_s28 : (lwS G f1 q1 q2 q3 q4)[28]? = some (lwFx f1 q1 q2 q3 q4 28, xent (G.1, G.2, lwFx f1 q1 q2 q3 q4, adK, adV) lwM0 28) := rfl
set_option maxRecDepth 20000 in
theorem lw_s29 : (lwS G f1 q1 q2 q3 q4)[29]? = some (lwFx f1 q1 q2 q3 q4 29, xent (G.1, G.2, lwFx f1 q1 q2 q3 q4, adK, adV) lwM0 29) := rfl
set_option maxRecDepth 20000 in
theorem lw_s30 : (lwS G f1 q1 q2 q3 q4)[30]? = some (lwFx f1 q1 q2 q3 q4 30, xent (G.1, G.2, lwFx f1 q1 q2 q3 q4, adK, adV) lwM0 30) := rfl
set_option maxRecDepth 20000 in
theorem lw_s31 : (lwS G f1 q1 q2 q3 q4)[31]? = some (lwFx f1 q1 q2 q3 q4 31, xent (G.1, G.2, lwFx f1 q1 q2 q3 q4, adK, adV) lwM0 31) := rfl
set_option maxRecDepth 20000 in
theorem lw_s32 : (lwS G f1 q1 q2 q3 q4)[32]? = some (lwFx f1 q1 q2 q3 q4 32, xent (G.1, G.2, lwFx f1 q1 q2 q3 q4, adK, adV) lwM0 32) := rfl
set_option maxRecDepth 20000 in
theorem lw_s33 : (lwS G f1 q1 q2 q3 q4)[33]? = some (lwFx f1 q1 q2 q3 q4 33, xent (G.1, G.2, lwFx f1 q1 q2 q3 q4, adK, adV) lwM0 33) := rfl
set_option maxRecDepth 20000 in
theorem lw_s34 : (lwS G f1 q1 q2 q3 q4)[34]? = some (lwFx f1 q1 q2 q3 q4 34, xent (G.1, G.2, lwFx f1 q1 q2 q3 q4, adK, adV) lwM0 34) := rfl
set_option maxRecDepth 20000 in
theorem lw_s35 : (lwS G f1 q1 q2 q3 q4)[35]? = some (lwFx f1 q1 q2 q3 q4 35, xent (G.1, G.2, lwFx f1 q1 q2 q3 q4, adK, adV) lwM0 35) := rfl
set_option maxRecDepth 20000 in
theorem lw_s36 : (lwS G f1 q1 q2 q3 q4)[36]? = some (lwFx f1 q1 q2 q3 q4 36, xent (G.1, G.2, lwFx f1 q1 q2 q3 q4, adK, adV) lwM0 36) := rfl
set_option maxRecDepth 20000 in
theorem lw_s37 : (lwS G f1 q1 q2 q3 q4)[37]? = some (lwFx f1 q1 q2 q3 q4 37, xent (G.1, G.2, lwFx f1 q1 q2 q3 q4, adK, adV) lwM0 37) := rfl
set_option maxRecDepth 20000 in
theorem lw_s38 : (lwS G f1 q1 q2 q3 q4)[38]? = some (lwFx f1 q1 q2 q3 q4 38, xent (G.1, G.2, lwFx f1 q1 q2 q3 q4, adK, adV) lwM0 38) := rfl
set_option maxRecDepth 20000 in
theorem lw_s39 : (lwS G f1 q1 q2 q3 q4)[39]? = some (lwFx f1 q1 q2 q3 q4 39, xent (G.1, G.2, lwFx f1 q1 q2 q3 q4, adK, adV) lwM0 39) := rfl
set_option maxRecDepth 20000 in
theorem lw_s40 : (lwS G f1 q1 q2 q3 q4)[40]? = some (lwFx f1 q1 q2 q3 q4 40, xent (G.1, G.2, lwFx f1 q1 q2 q3 q4, adK, adV) lwM0 40) := rfl
set_option maxRecDepth 20000 in
theorem lw_s41 : (lwS G f1 q1 q2 q3 q4)[41]? = some (lwFx f1 q1 q2 q3 q4 41, xent (G.1, G.2, lwFx f1 q1 q2 q3 q4, adK, adV) lwM0 41) := rfl
set_option maxRecDepth 20000 in
theorem lw_s42 : (lwS G f1 q1 q2 q3 q4)[42]? = some (lwFx f1 q1 q2 q3 q4 42, xent (G.1, G.2, lwFx f1 q1 q2 q3 q4, adK, adV) lwM0 42) := rfl
set_option maxRecDepth 20000 in
theorem lw_s43 : (lwS G f1 q1 q2 q3 q4)[43]? = some (lwFx f1 q1 q2 q3 q4 43, xent (G.1, G.2, lwFx f1 q1 q2 q3 q4, adK, adV) lwM0 43) := rfl
set_option maxRecDepth 20000 in
theorem lw_s44 : (lwS G f1 q1 q2 q3 q4)[44]? = some (lwFx f1 q1 q2 q3 q4 44, xent (G.1, G.2, lwFx f1 q1 q2 q3 q4, adK, adV) lwM0 44) := rfl
set_option maxRecDepth 20000 in
theorem lw_s45 : (lwS G f1 q1 q2 q3 q4)[45]? = some (lwFx f1 q1 q2 q3 q4 45, xent (G.1, G.2, lwFx f1 q1 q2 q3 q4, adK, adV) lwM0 45) := rfl
set_option maxRecDepth 20000 in
theorem lw_s46 : (lwS G f1 q1 q2 q3 q4)[46]? = some (lwFx f1 q1 q2 q3 q4 46, xent (G.1, G.2, lwFx f1 q1 q2 q3 q4, adK, adV) lwM0 46) := rfl
set_option maxRecDepth 20000 in
theorem lw_s47 : (lwS G f1 q1 q2 q3 q4)[47]? = some (lwFx f1 q1 q2 q3 q4 47, xent (G.1, G.2, lwFx f1 q1 q2 q3 q4, adK, adV) lwM0 47) := rfl
set_option maxRecDepth 20000 in
theorem lw_s48 : (lwS G f1 q1 q2 q3 q4)[48]? = some (lwFx f1 q1 q2 q3 q4 48, xent (G.1, G.2, lwFx f1 q1 q2 q3 q4, adK, adV) lwM0 48) := rfl
set_option maxRecDepth 20000 in
theorem lw_s49 : (lwS G f1 q1 q2 q3 q4)[49]? = some (lwFx f1 q1 q2 q3 q4 49, xent (G.1, G.2, lwFx f1 q1 q2 q3 q4, adK, adV) lwM0 49) := rfl
set_option maxRecDepth 20000 in
theorem lw_s50 : (lwS G f1 q1 q2 q3 q4)[50]? = some (lwFx f1 q1 q2 q3 q4 50, xent (G.1, G.2, lwFx f1 q1 q2 q3 q4, adK, adV) lwM0 50) := rfl
set_option maxRecDepth 20000 in
theorem lw_s52 : (lwS G f1 q1 q2 q3 q4)[52]? = some (lwFx f1 q1 q2 q3 q4 52, xent (G.1, G.2, lwFx f1 q1 q2 q3 q4, adK, adV) lwM0 52) := rfl
set_option maxRecDepth 20000 in
theorem lw_s53 : (lwS G f1 q1 q2 q3 q4)[53]? = some (lwFx f1 q1 q2 q3 q4 53, xent (G.1, G.2, lwFx f1 q1 q2 q3 q4, adK, adV) lwM0 53) := rfl
set_option maxRecDepth 20000 in
theorem lw_s54 : (lwS G f1 q1 q2 q3 q4)[54]? = some (lwFx f1 q1 q2 q3 q4 54, xent (G.1, G.2, lwFx f1 q1 q2 q3 q4, adK, adV) lwM0 54) := rfl
set_option maxRecDepth 20000 in
theorem lw_s55 : (lwS G f1 q1 q2 q3 q4)[55]? = some (lwFx f1 q1 q2 q3 q4 55, xent (G.1, G.2, lwFx f1 q1 q2 q3 q4, adK, adV) lwM0 55) := rfl
set_option maxRecDepth 20000 in
theorem lw_s56 : (lwS G f1 q1 q2 q3 q4)[56]? = some (lwFx f1 q1 q2 q3 q4 56, xent (G.1, G.2, lwFx f1 q1 q2 q3 q4, adK, adV) lwM0 56) := rfl
set_option maxRecDepth 20000 in
theorem lw_s57 : (lwS G f1 q1 q2 q3 q4)[57]? = some (lwFx f1 q1 q2 q3 q4 57, xent (G.1, G.2, lwFx f1 q1 q2 q3 q4, adK, adV) lwM0 57) := rfl
set_option maxRecDepth 20000 in
theorem lw_s58 : (lwS G f1 q1 q2 q3 q4)[58]? = some (lwFx f1 q1 q2 q3 q4 58, xent (G.1, G.2, lwFx f1 q1 q2 q3 q4, adK, adV) lwM0 58) := rfl
set_option maxRecDepth 20000 in
theorem lw_s59 : (lwS G f1 q1 q2 q3 q4)[59]? = some (lwFx f1 q1 q2 q3 q4 59, xent (G.1, G.2, lwFx f1 q1 q2 q3 q4, adK, adV) lwM0 59) := rfl
set_option maxRecDepth 20000 in
theorem lw_s60 : (lwS G f1 q1 q2 q3 q4)[60]? = some (lwFx f1 q1 q2 q3 q4 60, xent (G.1, G.2, lwFx f1 q1 q2 q3 q4, adK, adV) lwM0 60) := rfl
set_option maxRecDepth 20000 in
theorem lw_s61 : (lwS G f1 q1 q2 q3 q4)[61]? = some (lwFx f1 q1 q2 q3 q4 61, xent (G.1, G.2, lwFx f1 q1 q2 q3 q4, adK, adV) lwM0 61) := rfl
set_option maxRecDepth 20000 in
theorem lw_s62 : (lwS G f1 q1 q2 q3 q4)[62]? = some (lwFx f1 q1 q2 q3 q4 62, xent (G.1, G.2, lwFx f1 q1 q2 q3 q4, adK, adV) lwM0 62) := rfl
set_option maxRecDepth 20000 in
theorem lw_s63 : (lwS G f1 q1 q2 q3 q4)[63]? = some (lwFx f1 q1 q2 q3 q4 63, xent (G.1, G.2, lwFx f1 q1 q2 q3 q4, adK, adV) lwM0 63) := rfl
set_option maxRecDepth 20000 in
theorem lw_s64 : (lwS G f1 q1 q2 q3 q4)[64]? = some (lwFx f1 q1 q2 q3 q4 64, xent (G.1, G.2, lwFx f1 q1 q2 q3 q4, adK, adV) lwM0 64) := rfl
set_option maxRecDepth 20000 in
theorem lw_s65 : (lwS G f1 q1 q2 q3 q4)[65]? = some (lwFx f1 q1 q2 q3 q4 65, xent (G.1, G.2, lwFx f1 q1 q2 q3 q4, adK, adV) lwM0 65) := rfl
set_option maxRecDepth 20000 in
theorem lw_s66 : (lwS G f1 q1 q2 q3 q4)[66]? = some (lwFx f1 q1 q2 q3 q4 66, xent (G.1, G.2, lwFx f1 q1 q2 q3 q4, adK, adV) lwM0 66) := rfl
set_option maxRecDepth 20000 in
theorem lw_s67 : (lwS G f1 q1 q2 q3 q4)[67]? = some (lwFx f1 q1 q2 q3 q4 67, xent (G.1, G.2, lwFx f1 q1 q2 q3 q4, adK, adV) lwM0 67) := rfl
set_option maxRecDepth 20000 in
theorem lw_s68 : (lwS G f1 q1 q2 q3 q4)[68]? = some (lwFx f1 q1 q2 q3 q4 68, xent (G.1, G.2, lwFx f1 q1 q2 q3 q4, adK, adV) lwM0 68) := rfl
set_option maxRecDepth 20000 in
theorem lw_s69 : (lwS G f1 q1 q2 q3 q4)[69]? = some (lwFx f1 q1 q2 q3 q4 69, xent (G.1, G.2, lwFx f1 q1 q2 q3 q4, adK, adV) lwM0 69) := rfl
set_option maxRecDepth 20000 in
theorem lw_s70 : (lwS G f1 q1 q2 q3 q4)[70]? = some (lwFx f1 q1 q2 q3 q4 70, xent (G.1, G.2, lwFx f1 q1 q2 q3 q4, adK, adV) lwM0 70) := rfl
set_option maxRecDepth 20000 in
theorem lw_s71 : (lwS G f1 q1 q2 q3 q4)[71]? = some (lwFx f1 q1 q2 q3 q4 71, xent (G.1, G.2, lwFx f1 q1 q2 q3 q4, adK, adV) lwM0 71) := rfl
theorem lw_s17 : (lwS G f1 q1 q2 q3 q4)[17]? = some (lwFx f1 q1 q2 q3 q4 17, .inl (G.2 2, 6, .inr (.inr (.inr (.inr (va_up (va_up (va_up (va_up (va_up (va_up (fun _ => none) 0 (some (f1 18))) 1 (some (f1 23))) 2 (some (f1 28))) 3 (some (f1 33))) 4 (some (f1 38))) 5 (some (f1 43)))))))) := rfl
theorem lw_s51 : (lwS G f1 q1 q2 q3 q4)[51]? = some (lwFx f1 q1 q2 q3 q4 51, .inl (G.2 3, 12, .inr (.inr (.inr (.inr (va_up (va_up (va_up (va_up (va_up (va_up (va_up (va_up (va_up (va_up (va_up (va_up (fun _ => none) 0 (some (f1 52))) 1 (some (f1 53))) 2 (some (f1 54))) 3 (some (f1 55))) 4 (some (f1 56))) 5 (some (f1 57))) 6 (some (f1 58))) 7 (some (f1 59))) 8 (some (f1 60))) 9 (some (f1 61))) 10 (some (f1 62))) 11 (some (f1 63)))))))) := rfl
theorem arrV_cong {c : ClassId} {N : Nat} {f g : Nat → Value} (h : ∀ j, j < N → f j = g j) : arrV c N f = arrV c N g := by
  unfold arrV
  have : (fun j : Fin N => f j.val) = (fun j : Fin N => g j.val) := funext fun j => h j.val j.isLt
  rw [this]
theorem lw_c17 {c : ClassId} : vp_cell c (6, .inr (.inr (.inr (.inr (va_up (va_up (va_up (va_up (va_up (va_up (fun _ => none) 0 (some (f1 18))) 1 (some (f1 23))) 2 (some (f1 28))) 3 (some (f1 33))) 4 (some (f1 38))) 5 (some (f1 43))))))) = vp_cell c (6, .inr (.inr (.inr (.inr (fun k => some (lwFx f1 q1 q2 q3 q4 (18 + 5 * k))))))) := by
  rw [vp_cell_q, vp_cell_q]
  refine arrV_cong (fun j hj => ?_)
  rcases (show j = 0 ∨ j = 1 ∨ j = 2 ∨ j = 3 ∨ j = 4 ∨ j = 5 by omega) with rfl | rfl | rfl | rfl | rfl | rfl <;> rfl
theorem lw_c51 {c : ClassId} : vp_cell c (12, .inr (.inr (.inr (.inr (va_up (va_up (va_up (va_up (va_up (va_up (va_up (va_up (va_up (va_up (va_up (va_up (fun _ => none) 0 (some (f1 52))) 1 (some (f1 53))) 2 (some (f1 54))) 3 (some (f1 55))) 4 (some (f1 56))) 5 (some (f1 57))) 6 (some (f1 58))) 7 (some (f1 59))) 8 (some (f1 60))) 9 (some (f1 61))) 10 (some (f1 62))) 11 (some (f1 63))))))) = vp_cell c (12, .inr (.inr (.inr (.inr (fun k => some (lwFx f1 q1 q2 q3 q4 (52 + k % 12))))))) := by
  rw [vp_cell_q, vp_cell_q]
  refine arrV_cong (fun j hj => ?_)
  rcases (show j = 0 ∨ j = 1 ∨ j = 2 ∨ j = 3 ∨ j = 4 ∨ j = 5 ∨ j = 6 ∨ j = 7 ∨ j = 8 ∨ j = 9 ∨ j = 10 ∨ j = 11 by omega) with rfl | rfl | rfl | rfl | rfl | rfl | rfl | rfl | rfl | rfl | rfl | rfl <;> rfl
theorem lw_at (adK adV : Nat → Nat) : ∀ k, k < 72 → k ≠ 17 → k ≠ 51 → (lwS G f1 q1 q2 q3 q4)[k]? = some (lwFx f1 q1 q2 q3 q4 k, xent (G.1, G.2, lwFx f1 q1 q2 q3 q4, adK, adV) lwM0 k)
  | 0, _, _, _ => lw_s0
  | 1, _, _, _ => lw_s1
  | 2, _, _, _ => lw_s2
  | 3, _, _, _ => lw_s3
  | 4, _, _, _ => lw_s4
  | 5, _, _, _ => lw_s5
  | 6, _, _, _ => lw_s6
  | 7, _, _, _ => lw_s7
  | 8, _, _, _ => lw_s8
  | 9, _, _, _ => lw_s9
  | 10, _, _, _ => lw_s10
  | 11, _, _, _ => lw_s11
  | 12, _, _, _ => lw_s12
  | 13, _, _, _ => lw_s13
  | 14, _, _, _ => lw_s14
  | 15, _, _, _ => lw_s15
  | 16, _, _, _ => lw_s16
  | 17, _, h17, h51 => by omega
  | 18, _, _, _ => lw_s18
  | 19, _, _, _ => lw_s19
  | 20, _, _, _ => lw_s20
  | 21, _, _, _ => lw_s21
  | 22, _, _, _ => lw_s22
  | 23, _, _, _ => lw_s23
  | 24, _, _, _ => lw_s24
  | 25, _, _, _ => lw_s25
  | 26, _, _, _ => lw_s26
  | 27, _, _, _ => lw_s27
  | 28, _, _, _ => lw_s28
  | 29, _, _, _ => lw_s29
  | 30, _, _, _ => lw_s30
  | 31, _, _, _ => lw_s31
  | 32, _, _, _ => lw_s32
  | 33, _, _, _ => lw_s33
  | 34, _, _, _ => lw_s34
  | 35, _, _, _ => lw_s35
  | 36, _, _, _ => lw_s36
  | 37, _, _, _ => lw_s37
  | 38, _, _, _ => lw_s38
  | 39, _, _, _ => lw_s39
  | 40, _, _, _ => lw_s40
  | 41, _, _, _ => lw_s41
  | 42, _, _, _ => lw_s42
  | 43, _, _, _ => lw_s43
  | 44, _, _, _ => lw_s44
  | 45, _, _, _ => lw_s45
  | 46, _, _, _ => lw_s46
  | 47, _, _, _ => lw_s47
  | 48, _, _, _ => lw_s48
  | 49, _, _, _ => lw_s49
  | 50, _, _, _ => lw_s50
  | 51, _, h17, h51 => by omega
  | 52, _, _, _ => lw_s52
  | 53, _, _, _ => lw_s53
  | 54, _, _, _ => lw_s54
  | 55, _, _, _ => lw_s55
  | 56, _, _, _ => lw_s56
  | 57, _, _, _ => lw_s57
  | 58, _, _, _ => lw_s58
  | 59, _, _, _ => lw_s59
  | 60, _, _, _ => lw_s60
  | 61, _, _, _ => lw_s61
  | 62, _, _, _ => lw_s62
  | 63, _, _, _ => lw_s63
  | 64, _, _, _ => lw_s64
  | 65, _, _, _ => lw_s65
  | 66, _, _, _ => lw_s66
  | 67, _, _, _ => lw_s67
  | 68, _, _, _ => lw_s68
  | 69, _, _, _ => lw_s69
  | 70, _, _, _ => lw_s70
  | 71, _, _, _ => lw_s71
  | k + 72, h, _, _ => by omega
theorem lw_ad {k : Nat} (hk : k < 72) : ∃ e, (lwS G f1 q1 q2 q3 q4)[k]? = some (lwFx f1 q1 q2 q3 q4 k, e) := by
  by_cases h17 : k = 17
  · subst h17
    exact ⟨_, lw_s17⟩
  by_cases h51 : k = 51
  · subst h51
    exact ⟨_, lw_s51⟩
  exact ⟨_, lw_at (fun _ => 0) (fun _ => 0) k hk h17 h51⟩
theorem lw_P0 {H : Heap} (h : va_P G.1 vwCl (lwS G f1 q1 q2 q3 q4) H) : va_P G.1 vwCl (xws (G.1, G.2, lwFx f1 q1 q2 q3 q4, adK, adV) lwM0) H := by
  intro k q hk
  have hk72 : k < 72 := by
    have := (List.getElem?_eq_some_iff.mp hk).1
    rw [xws_len, lw_N72] at this
    exact this
  rw [xws_at _ lwM0 (by rw [lw_N72]; exact hk72)] at hk
  cases hk
  by_cases h17 : k = 17
  · subst h17
    have g := h 17 _ lw_s17
    show H[lwFx f1 q1 q2 q3 q4 17]? = some (vp_cell (G.2 2) (6, .inr (.inr (.inr (.inr (fun k => some (lwFx f1 q1 q2 q3 q4 (18 + 5 * k))))))))
    rw [← lw_c17]
    exact g
  by_cases h51 : k = 51
  · subst h51
    have g := h 51 _ lw_s51
    show H[lwFx f1 q1 q2 q3 q4 51]? = some (vp_cell (G.2 3) (12, .inr (.inr (.inr (.inr (fun k => some (lwFx f1 q1 q2 q3 q4 (52 + k % 12))))))))
    rw [← lw_c51]
    exact g
  exact h k _ (lw_at adK adV k hk72 h17 h51)
theorem lw_hf {A : Nat → Prop} (h : va_D A (lwS G f1 q1 q2 q3 q4)) : (∀ a, a < 72 → A (lwFx f1 q1 q2 q3 q4 a)) ∧ ∀ i j, i < 72 → j < 72 → lwFx f1 q1 q2 q3 q4 i = lwFx f1 q1 q2 q3 q4 j → i = j := by
  refine ⟨fun a ha => ?_, fun i j hi hj e => ?_⟩
  · obtain ⟨e, he⟩ := lw_ad (G := G) (f1 := f1) (q1 := q1) (q2 := q2) (q3 := q3) (q4 := q4) ha
    exact h.2 a _ he
  · obtain ⟨e1, h1⟩ := lw_ad (G := G) (f1 := f1) (q1 := q1) (q2 := q2) (q3 := q3) (q4 := q4) hi
    obtain ⟨e2, h2⟩ := lw_ad (G := G) (f1 := f1) (q1 := q1) (q2 := q2) (q3 := q3) (q4 := q4) hj
    exact h.1 i j _ _ h1 h2 e
end LWS
theorem lw_sz0 (r : Int) : szI lwM0 1 r = 0 := by
  unfold szI
  rw [show lwM0.1 (1 + 1) = fun _ => 0 from rfl]
  split <;> rfl
theorem lw_nv {r p : Int} (h : vld lwM0 1 r p) : False := by
  have h1 := h.2.2
  rw [lw_sz0] at h1
  omega
theorem lw_okC : okC lwM0 1 := by
  refine ⟨fun r => ?_, ?_, ?_, fun k hk => ?_⟩
  · rw [lw_sz0]
    omega
  · exact ⟨by decide, by decide⟩
  · exact Or.inr (by decide)
  · show -1 ≤ ((0 : Int32)).toInt ∧ ((0 : Int32)).toInt ≤ 1000
    decide
theorem lw_Cl : Cl 0 lwM0 (fun _ => 0) (fun _ => 0) (fun _ => 0) (upd (upd (fun _ => 0) 0 6) 1 1) := by
  refine ⟨Rl_mk lw_okC ⟨⟨by decide, by decide⟩, fun r p hv => (lw_nv hv).elim, fun r p r2 p2 hv => (lw_nv hv).elim⟩ (fun r p hv => (lw_nv hv).elim) (fun r p hv => (lw_nv hv).elim) (fun r p _ _ _ _ => by show ((0 : Int32)).toInt = 0; decide) (fun j hj => ?_) ?_ (by decide) (by decide), ⟨⟨⟨by decide, by decide⟩, ⟨by decide, by decide⟩⟩, fun a k b h => by cases h⟩, rfl, rfl, rfl, rfl⟩
  · rcases (show j = 0 ∨ j = 1 ∨ j = 2 ∨ j = 3 ∨ j = 4 by omega) with rfl | rfl | rfl | rfl | rfl <;> rfl
  · rw [sum4, lw_sz0, lw_sz0, lw_sz0, lw_sz0]
    decide
