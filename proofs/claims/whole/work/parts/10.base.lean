/-! numbers: an int on the machine is shown as the Int that it stands for -/
abbrev inI (a : Int) : Prop := -2147483648 ≤ a ∧ a ≤ 2147483647
abbrev inL (a : Int) : Prop := -9223372036854775808 ≤ a ∧ a ≤ 9223372036854775807
def jI (a : Int) : Value := .int (Int32.ofInt a)
def jL (a : Int) : Value := .long (Int64.ofInt a)
def jF (H : Int → Int) : Nat → Int32 := fun k => Int32.ofInt (H (k : Int))
noncomputable def bI (P : Prop) : Int := @ite _ P (Classical.propDecidable P) 1 0
theorem bI_t {P : Prop} (h : P) : (1 : Int) = bI P := by
  unfold bI
  exact (@if_pos P (Classical.propDecidable P) h _ _ _).symm
theorem bI_f {P : Prop} (h : ¬ P) : (0 : Int) = bI P := by
  unfold bI
  exact (@if_neg P (Classical.propDecidable P) h _ _ _).symm
theorem bI_c {P : Prop} : (bI P = 1 ∧ P) ∨ (bI P = 0 ∧ ¬ P) := by
  by_cases h : P
  · exact Or.inl ⟨(bI_t h).symm, h⟩
  · exact Or.inr ⟨(bI_f h).symm, h⟩
theorem bI_x {P Q : Prop} (h : P ↔ Q) : bI P = bI Q := by rw [propext h]
theorem tI {a : Int} (h : inI a) : (Int32.ofInt a).toInt = a := Int32.toInt_ofInt_of_le (by omega) (by omega)
theorem tL {a : Int} (h : inL a) : (Int64.ofInt a).toInt = a := Int64.toInt_ofInt_of_le (by omega) (by omega)
theorem inI_toInt (x : Int32) : inI x.toInt := by
  have h1 := x.le_toInt
  have h2 := x.toInt_lt
  omega
theorem jI_toInt (x : Int32) : Value.int x = jI x.toInt := by
  unfold jI
  rw [Int32.ofInt_toInt]
theorem oI_inj {a b : Int} (ha : inI a) (hb : inI b) : Int32.ofInt a = Int32.ofInt b ↔ a = b := by
  rw [← Int32.toInt_inj, tI ha, tI hb]
theorem oI_lt {a b : Int} (ha : inI a) (hb : inI b) : Int32.ofInt a < Int32.ofInt b ↔ a < b := by
  rw [Int32.lt_iff_toInt_lt, tI ha, tI hb]
theorem oI_le {a b : Int} (ha : inI a) (hb : inI b) : Int32.ofInt a ≤ Int32.ofInt b ↔ a ≤ b := by
  rw [Int32.le_iff_toInt_le, tI ha, tI hb]
theorem oI_zero : (0 : Int32) = Int32.ofInt 0 := by decide
theorem in0 : inI 0 := by decide
theorem oL_inj {a b : Int} (ha : inL a) (hb : inL b) : Int64.ofInt a = Int64.ofInt b ↔ a = b := by
  rw [← Int64.toInt_inj, tL ha, tL hb]
theorem oL_lt {a b : Int} (ha : inL a) (hb : inL b) : Int64.ofInt a < Int64.ofInt b ↔ a < b := by
  rw [Int64.lt_iff_toInt_lt, tL ha, tL hb]
theorem oI_div {a b : Int} (ha : inI a) (hb : 0 < b ∧ b ≤ 2147483647) : Int32.ofInt a / Int32.ofInt b = Int32.ofInt (a.tdiv b) := by
  have hb2 : inI b := by omega
  rw [← Int32.toInt_inj, Int32.toInt_div_of_ne_right, tI ha, tI hb2, tI]
  · have h1 := Int.natAbs_tdiv_le_natAbs a b
    by_cases h : a = -2147483648
    · subst h
      by_cases h9 : b = 1
      · subst h9
        decide
      · have h3 : Int.tdiv (-2147483648) b = -(Int.tdiv 2147483648 b) := Int.neg_tdiv ..
        have h4 := Int.tdiv_eq_ediv_of_nonneg (a := 2147483648) (b := b) (by decide)
        have h5 : (2147483648 : Int) / b ≤ 2147483648 / 2 := by
          refine Int.ediv_le_of_le_mul (by omega) ?_
          have : (2147483648 : Int) / 2 = 1073741824 := by decide
          omega
        have h6 : 0 ≤ (2147483648 : Int) / b := Int.ediv_nonneg (by decide) (by omega)
        have : (2147483648 : Int) / 2 = 1073741824 := by decide
        omega
    · omega
  · intro h
    have h2 := congrArg Int32.toInt h
    rw [tI hb2] at h2
    have h3 : (-1 : Int32).toInt = -1 := by decide
    omega
theorem oL_div {a b : Int} (ha : inL a) (hb : 0 < b ∧ b ≤ 9223372036854775807) (ha2 : -9223372036854775808 < a) : Int64.ofInt a / Int64.ofInt b = Int64.ofInt (a.tdiv b) := by
  have hb2 : inL b := by omega
  rw [← Int64.toInt_inj, Int64.toInt_div_of_ne_right, tL ha, tL hb2, tL]
  · have h1 := Int.natAbs_tdiv_le_natAbs a b
    omega
  · intro h
    have h2 := congrArg Int64.toInt h
    rw [tL hb2] at h2
    have h3 : (-1 : Int64).toInt = -1 := by decide
    omega
theorem oI_ne {b : Int} (hb : 0 < b ∧ b ≤ 2147483647) : ¬ Int32.ofInt b = 0 := by
  rw [oI_zero, oI_inj (by omega) in0]
  omega
theorem oL_ne {b : Int} (hb : 0 < b ∧ b ≤ 9223372036854775807) : ¬ Int64.ofInt b = 0 := by
  have h : (0 : Int64) = Int64.ofInt 0 := by decide
  rw [h, oL_inj (by omega) (by decide)]
  omega
theorem oI_rem {a b : Int} (ha : inI a) (hb : 0 < b ∧ b ≤ 2147483647) : Int32.ofInt a - Int32.ofInt a / Int32.ofInt b * Int32.ofInt b = Int32.ofInt (a.tmod b) := by
  rw [oI_div ha hb, ← Int32.ofInt_mul, ← Int32.ofInt_sub, Int.tmod_def, Int.mul_comm b]
theorem oL_rem {a b : Int} (ha : inL a) (hb : 0 < b ∧ b ≤ 9223372036854775807) (ha2 : -9223372036854775808 < a) : Int64.ofInt a - Int64.ofInt a / Int64.ofInt b * Int64.ofInt b = Int64.ofInt (a.tmod b) := by
  rw [oL_div ha hb ha2, ← Int64.ofInt_mul, ← Int64.ofInt_sub, Int.tmod_def, Int.mul_comm b]
theorem o_i2l {a : Int} (ha : inI a) : (Int32.ofInt a).toInt64 = Int64.ofInt a := by
  rw [← Int64.toInt_inj, Int32.toInt_toInt64, tI ha, tL (by omega)]
theorem o_nat {a : Int} (ha : inI a) : (Int32.ofInt a).toNatClampNeg = a.toNat := Int32.toNatClampNeg_ofInt_of_le (by omega) (by omega)
theorem o_in {a : Int} {n : Nat} (h : 0 ≤ a ∧ a < (n : Int)) (ha : inI a) : vp_in (Int32.ofInt a) n := by
  unfold vp_in
  rw [o_nat ha, oI_zero, oI_lt ha in0]
  omega
theorem jF_at {H : Int → Int} {a : Int} (h : 0 ≤ a) (ha : inI a) : jF H (Int32.ofInt a).toNatClampNeg = Int32.ofInt (H a) := by
  rw [o_nat ha]
  unfold jF
  rw [Int.toNat_of_nonneg h]
def jU (H : Int → Int) (k x : Int) : Int → Int := fun j => if j = k then x else H j
theorem jU_self (H : Int → Int) (k x : Int) : jU H k x k = x := by simp [jU]
theorem jU_ne (H : Int → Int) {k j : Int} (x : Int) (h : j ≠ k) : jU H k x j = H j := by simp [jU, h]
theorem jF_up {H : Int → Int} {a x : Int} (h : 0 ≤ a) (ha : inI a) : upd (jF H) (Int32.ofInt a).toNatClampNeg (Int32.ofInt x) = jF (jU H a x) := by
  rw [o_nat ha]
  funext q
  unfold upd jF jU
  by_cases hq : q = a.toNat
  · rw [if_pos hq, if_pos (by omega)]
  · rw [if_neg hq, if_neg (by omega)]
/-! intervals -/
theorem iv_add {a b la ua lb ub lo hi : Int} (ha : la ≤ a ∧ a ≤ ua) (hb : lb ≤ b ∧ b ≤ ub) (h : (decide (lo ≤ la + lb) && decide (ua + ub ≤ hi)) = true) : lo ≤ a + b ∧ a + b ≤ hi := by
  simp only [Bool.and_eq_true, decide_eq_true_eq] at h
  omega
theorem iv_sub {a b la ua lb ub lo hi : Int} (ha : la ≤ a ∧ a ≤ ua) (hb : lb ≤ b ∧ b ≤ ub) (h : (decide (lo ≤ la - ub) && decide (ua - lb ≤ hi)) = true) : lo ≤ a - b ∧ a - b ≤ hi := by
  simp only [Bool.and_eq_true, decide_eq_true_eq] at h
  omega
theorem iv_neg {a la ua lo hi : Int} (ha : la ≤ a ∧ a ≤ ua) (h : (decide (lo ≤ -ua) && decide (-la ≤ hi)) = true) : lo ≤ -a ∧ -a ≤ hi := by
  simp only [Bool.and_eq_true, decide_eq_true_eq] at h
  omega
theorem iv_mulp {a b la ua lb ub lo hi : Int} (ha : la ≤ a ∧ a ≤ ua) (hb : lb ≤ b ∧ b ≤ ub) (h : (decide (0 ≤ la) && (decide (0 ≤ lb) && (decide (lo ≤ la * lb) && decide (ua * ub ≤ hi)))) = true) : lo ≤ a * b ∧ a * b ≤ hi := by
  simp only [Bool.and_eq_true, decide_eq_true_eq] at h
  have h1 : la * lb ≤ a * b := Int.mul_le_mul ha.1 hb.1 h.2.1 (by omega)
  have h2 : a * b ≤ ua * ub := Int.mul_le_mul ha.2 hb.2 (by omega) (by omega)
  omega
theorem mul_lo {a b A B : Int} (ha : -A ≤ a ∧ a ≤ A) (hb : -B ≤ b ∧ b ≤ B) : -(A * B) ≤ a * b ∧ a * b ≤ A * B := by
  have hA : 0 ≤ A := by omega
  have hB : 0 ≤ B := by omega
  have h1 : a.natAbs ≤ A.natAbs := by omega
  have h2 : b.natAbs ≤ B.natAbs := by omega
  have h3 : (a * b).natAbs ≤ (A * B).natAbs := by
    rw [Int.natAbs_mul, Int.natAbs_mul]
    exact Nat.mul_le_mul h1 h2
  have h4 : 0 ≤ A * B := Int.mul_nonneg hA hB
  omega
theorem iv_mul {a b la ua lb ub lo hi : Int} (A B : Int) (ha : la ≤ a ∧ a ≤ ua) (hb : lb ≤ b ∧ b ≤ ub) (h : (decide (-A ≤ la) && (decide (ua ≤ A) && (decide (-B ≤ lb) && (decide (ub ≤ B) && (decide (lo ≤ -(A * B)) && decide (A * B ≤ hi)))))) = true) : lo ≤ a * b ∧ a * b ≤ hi := by
  simp only [Bool.and_eq_true, decide_eq_true_eq] at h
  have h1 := mul_lo (a := a) (b := b) (A := A) (B := B) (by omega) (by omega)
  omega
theorem iv_div {a b la ua lo hi : Int} (ha : la ≤ a ∧ a ≤ ua) (hb : 0 < b) (h : (decide (0 ≤ la) && (decide (lo ≤ 0) && decide (ua ≤ hi))) = true) : lo ≤ a / b ∧ a / b ≤ hi := by
  simp only [Bool.and_eq_true, decide_eq_true_eq] at h
  have h1 : 0 ≤ a / b := Int.ediv_nonneg (by omega) (by omega)
  have h2 : a / b ≤ a := Int.ediv_le_self b (by omega)
  omega
theorem iv_mod {a b lb ub lo hi : Int} (hb : lb ≤ b ∧ b ≤ ub) (h : (decide (0 < lb) && (decide (lo ≤ 0) && decide (ub - 1 ≤ hi))) = true) : lo ≤ a % b ∧ a % b ≤ hi := by
  simp only [Bool.and_eq_true, decide_eq_true_eq] at h
  have h1 := Int.emod_nonneg a (b := b) (by omega)
  have h2 := Int.emod_lt_of_pos a (b := b) (by omega)
  omega
theorem iv_tdiv {a b la ua lo hi : Int} (ha : la ≤ a ∧ a ≤ ua) (h : (decide (lo ≤ la) && (decide (lo ≤ -ua) && (decide (ua ≤ hi) && decide (-la ≤ hi)))) = true) : lo ≤ a.tdiv b ∧ a.tdiv b ≤ hi := by
  simp only [Bool.and_eq_true, decide_eq_true_eq] at h
  have h1 := Int.natAbs_tdiv_le_natAbs a b
  omega
theorem iv_tmod {a b lb ub lo hi : Int} (hb : lb ≤ b ∧ b ≤ ub) (h : (decide (0 < lb) && (decide (lo ≤ -(ub - 1)) && decide (ub - 1 ≤ hi))) = true) : lo ≤ a.tmod b ∧ a.tmod b ≤ hi := by
  simp only [Bool.and_eq_true, decide_eq_true_eq] at h
  have h1 := Int.tmod_lt_of_pos a (b := b) (by omega)
  have h2 := Int.tmod_lt_of_pos (-a) (b := b) (by omega)
  rw [Int.neg_tmod] at h2
  omega
theorem iv_i {a lo hi : Int} (ha : lo ≤ a ∧ a ≤ hi) (h : (decide (-2147483648 ≤ lo) && decide (hi ≤ 2147483647)) = true) : inI a := by
  simp only [Bool.and_eq_true, decide_eq_true_eq] at h
  omega
theorem iv_l {a lo hi : Int} (ha : lo ≤ a ∧ a ≤ hi) (h : (decide (-9223372036854775808 ≤ lo) && decide (hi ≤ 9223372036854775807)) = true) : inL a := by
  simp only [Bool.and_eq_true, decide_eq_true_eq] at h
  omega
theorem iv_pi {a lo hi : Int} (ha : lo ≤ a ∧ a ≤ hi) (h : (decide (0 < lo) && decide (hi ≤ 2147483647)) = true) : 0 < a ∧ a ≤ 2147483647 := by
  simp only [Bool.and_eq_true, decide_eq_true_eq] at h
  omega
theorem iv_pl {a lo hi : Int} (ha : lo ≤ a ∧ a ≤ hi) (h : (decide (0 < lo) && decide (hi ≤ 9223372036854775807)) = true) : 0 < a ∧ a ≤ 9223372036854775807 := by
  simp only [Bool.and_eq_true, decide_eq_true_eq] at h
  omega
theorem iv_ix {a lo hi : Int} {n : Nat} (ha : lo ≤ a ∧ a ≤ hi) (h : (decide (0 ≤ lo) && (decide (hi < (n : Int)) && decide (hi ≤ 2147483647))) = true) : 0 ≤ a ∧ a < (n : Int) ∧ inI a := by
  simp only [Bool.and_eq_true, decide_eq_true_eq] at h
  omega
theorem iv_nn {a lo hi : Int} (ha : lo ≤ a ∧ a ≤ hi) (h : decide (0 ≤ lo) = true) : 0 ≤ a := by
  simp only [decide_eq_true_eq] at h
  omega
theorem iv_gt {a lo hi : Int} (ha : lo ≤ a ∧ a ≤ hi) (h : decide (-9223372036854775808 < lo) = true) : -9223372036854775808 < a := by
  simp only [decide_eq_true_eq] at h
  omega
theorem iv_w {a la ua lo hi : Int} (ha : la ≤ a ∧ a ≤ ua) (h : (decide (lo ≤ la) && decide (ua ≤ hi)) = true) : lo ≤ a ∧ a ≤ hi := by
  simp only [Bool.and_eq_true, decide_eq_true_eq] at h
  omega
/-! rows -/
section JR
variable {p : Program} {l : Launch} {e : Env} {R : Room} {s : State} {m : MethodId} {args : Array Value} {below : List Frame} {meth : Method} {c : Code} {H : Heap} {locs : List Loc} {cells slots : Nat} {Q : State → Prop}
variable {cc : ByteArray} {nL : Nat} {Ts : List Cond} {own : String} {pc : Nat} {ls : Array Slot} {rest : List Value}
theorem j_iconst (S : CallFix p m c cc nL s args Ts own) {n : Int} (hdg : decode cc pc = .ok (.iconst n, 1)) (k : W p l e R s m args below meth c H locs cells slots Q (F0 m (pc + 1) ls (jI n :: rest))) : W p l e R s m args below meth c H locs cells slots Q (F0 m pc ls rest) := lv_iconst S.1 S.2.1 hdg rfl k
theorem j_bipush (S : CallFix p m c cc nL s args Ts own) {n : Int} (hdg : decode cc pc = .ok (.bipush n, 2)) (hv : (Int8.ofInt n).toInt32 = Int32.ofInt n) (k : W p l e R s m args below meth c H locs cells slots Q (F0 m (pc + 2) ls (jI n :: rest))) : W p l e R s m args below meth c H locs cells slots Q (F0 m pc ls rest) := lv_bipush S.1 S.2.1 hdg hv k
theorem j_sipush (S : CallFix p m c cc nL s args Ts own) {n : Int} (hdg : decode cc pc = .ok (.sipush n, 3)) (hv : (Int16.ofInt n).toInt32 = Int32.ofInt n) (k : W p l e R s m args below meth c H locs cells slots Q (F0 m (pc + 3) ls (jI n :: rest))) : W p l e R s m args below meth c H locs cells slots Q (F0 m pc ls rest) := lv_sipush S.1 S.2.1 hdg hv k
theorem j_lconst (S : CallFix p m c cc nL s args Ts own) {n : Fin 2} {a : Int} (hdg : decode cc pc = .ok (.lconst n, 1)) (hv : Int64.ofNat (n : Nat) = Int64.ofInt a) (k : W p l e R s m args below meth c H locs cells slots Q (F0 m (pc + 1) ls (jL a :: rest))) : W p l e R s m args below meth c H locs cells slots Q (F0 m pc ls rest) := lv_lconst S.1 S.2.1 hdg hv k
theorem j_ldc (S : CallFix p m c cc nL s args Ts own) {index : Nat} {v : Int32} {n : Int} (hc : (Jvm.Cond.constant own index v).before args s = true) (hv : v = Int32.ofInt n) (hdg : decode cc pc = .ok (.ldc index, 2)) (k : W p l e R s m args below meth c H locs cells slots Q (F0 m (pc + 2) ls (jI n :: rest))) : W p l e R s m args below meth c H locs cells slots Q (F0 m pc ls rest) := by
  subst hv
  exact lv_ldc S.1 S.2.1 S.2.2.2.1 hc hdg k
theorem j_ldc2 (S : CallFix p m c cc nL s args Ts own) {index : Nat} {v : Int64} {n : Int} (hc : (Jvm.Cond.constantLong own index v).before args s = true) (hv : v = Int64.ofInt n) (hdg : decode cc pc = .ok (.ldc2_w index, 3)) (k : W p l e R s m args below meth c H locs cells slots Q (F0 m (pc + 3) ls (jL n :: rest))) : W p l e R s m args below meth c H locs cells slots Q (F0 m pc ls rest) := by
  subst hv
  exact lv_ldc2 S.1 S.2.1 S.2.2.2.1 hc hdg k
theorem j_iload_n (S : CallFix p m c cc nL s args Ts own) {k : Fin 4} {i : Nat} {x : Int} (hdg : decode cc pc = .ok (.iload_n k, 1)) (hi : (k : Nat) = i) (hl : ls[i]? = some (.val (jI x))) (kk : W p l e R s m args below meth c H locs cells slots Q (F0 m (pc + 1) ls (jI x :: rest))) : W p l e R s m args below meth c H locs cells slots Q (F0 m pc ls rest) := lv_iload_n S.1 S.2.1 hdg hi hl kk
theorem j_iload (S : CallFix p m c cc nL s args Ts own) {i : Nat} {x : Int} (hdg : decode cc pc = .ok (.iload i, 2)) (hl : ls[i]? = some (.val (jI x))) (kk : W p l e R s m args below meth c H locs cells slots Q (F0 m (pc + 2) ls (jI x :: rest))) : W p l e R s m args below meth c H locs cells slots Q (F0 m pc ls rest) := lv_iload S.1 S.2.1 hdg hl kk
theorem j_lload_n (S : CallFix p m c cc nL s args Ts own) {k : Fin 4} {i : Nat} {x : Int} (hdg : decode cc pc = .ok (.lload_n k, 1)) (hi : (k : Nat) = i) (hl : ls[i]? = some (.val (jL x))) (kk : W p l e R s m args below meth c H locs cells slots Q (F0 m (pc + 1) ls (jL x :: rest))) : W p l e R s m args below meth c H locs cells slots Q (F0 m pc ls rest) := lv_lload_n S.1 S.2.1 hdg hi hl kk
theorem j_lload (S : CallFix p m c cc nL s args Ts own) {i : Nat} {x : Int} (hdg : decode cc pc = .ok (.lload i, 2)) (hl : ls[i]? = some (.val (jL x))) (kk : W p l e R s m args below meth c H locs cells slots Q (F0 m (pc + 2) ls (jL x :: rest))) : W p l e R s m args below meth c H locs cells slots Q (F0 m pc ls rest) := lv_lload S.1 S.2.1 hdg hl kk
theorem j_istore_n (S : CallFix p m c cc nL s args Ts own) {k : Fin 4} {i : Nat} {x : Int} {lv lv' : List (Nat × Value)} (hdg : decode cc pc = .ok (.istore_n k, 1)) (hi : (k : Nat) = i) (h : lv_has ls nL lv) (hn : i < nL) (hl : (i, jI x) :: lv.filter (fun q => !(q.1 == i) && !(q.1 + 1 == i && q.2.category == 2)) = lv') (kk : ∀ ls' : Array Slot, lv_has ls' nL lv' → W p l e R s m args below meth c H locs cells slots Q (F0 m (pc + 1) ls' rest)) : W p l e R s m args below meth c H locs cells slots Q (F0 m pc ls (jI x :: rest)) := lv_istore_n S.1 S.2.1 hdg hi h hn hl kk
theorem j_istore (S : CallFix p m c cc nL s args Ts own) {i : Nat} {x : Int} {lv lv' : List (Nat × Value)} (hdg : decode cc pc = .ok (.istore i, 2)) (h : lv_has ls nL lv) (hn : i < nL) (hl : (i, jI x) :: lv.filter (fun q => !(q.1 == i) && !(q.1 + 1 == i && q.2.category == 2)) = lv') (kk : ∀ ls' : Array Slot, lv_has ls' nL lv' → W p l e R s m args below meth c H locs cells slots Q (F0 m (pc + 2) ls' rest)) : W p l e R s m args below meth c H locs cells slots Q (F0 m pc ls (jI x :: rest)) := lv_istore S.1 S.2.1 hdg h hn hl kk
theorem j_lstore_n (S : CallFix p m c cc nL s args Ts own) {k : Fin 4} {i : Nat} {x : Int} {lv lv' : List (Nat × Value)} (hdg : decode cc pc = .ok (.lstore_n k, 1)) (hi : (k : Nat) = i) (h : lv_has ls nL lv) (hn : i + 1 < nL) (hl : (i, jL x) :: lv.filter (fun q => !(q.1 == i) && (!(q.1 == i + 1) && !(q.1 + 1 == i && q.2.category == 2))) = lv') (kk : ∀ ls' : Array Slot, lv_has ls' nL lv' → W p l e R s m args below meth c H locs cells slots Q (F0 m (pc + 1) ls' rest)) : W p l e R s m args below meth c H locs cells slots Q (F0 m pc ls (jL x :: rest)) := lv_lstore_n S.1 S.2.1 hdg hi h hn hl kk
theorem j_lstore (S : CallFix p m c cc nL s args Ts own) {i : Nat} {x : Int} {lv lv' : List (Nat × Value)} (hdg : decode cc pc = .ok (.lstore i, 2)) (h : lv_has ls nL lv) (hn : i + 1 < nL) (hl : (i, jL x) :: lv.filter (fun q => !(q.1 == i) && (!(q.1 == i + 1) && !(q.1 + 1 == i && q.2.category == 2))) = lv') (kk : ∀ ls' : Array Slot, lv_has ls' nL lv' → W p l e R s m args below meth c H locs cells slots Q (F0 m (pc + 2) ls' rest)) : W p l e R s m args below meth c H locs cells slots Q (F0 m pc ls (jL x :: rest)) := lv_lstore S.1 S.2.1 hdg h hn hl kk
theorem j_iinc (S : CallFix p m c cc nL s args Ts own) {i k : Nat} {n x y : Int} {lv lv' : List (Nat × Value)} (hdg : decode cc pc = .ok (.iinc i n, 3)) (h : lv_has ls nL lv) (hk : lv[k]? = some (i, jI x)) (hy : x + n = y) (hn : i < nL) (hl : (i, jI y) :: lv.filter (fun q => !(q.1 == i) && !(q.1 + 1 == i && q.2.category == 2)) = lv') (kk : ∀ ls' : Array Slot, lv_has ls' nL lv' → W p l e R s m args below meth c H locs cells slots Q (F0 m (pc + 3) ls' rest)) : W p l e R s m args below meth c H locs cells slots Q (F0 m pc ls rest) := lv_iinc S.1 S.2.1 hdg h hk (by rw [← hy, Int32.ofInt_add]) hn hl kk
theorem j_iadd (S : CallFix p m c cc nL s args Ts own) {a b : Int} (hdg : decode cc pc = .ok (.iadd, 1)) (k : W p l e R s m args below meth c H locs cells slots Q (F0 m (pc + 1) ls (jI (a + b) :: rest))) : W p l e R s m args below meth c H locs cells slots Q (F0 m pc ls (jI b :: jI a :: rest)) := lv_iadd S.1 S.2.1 hdg (by rw [← Int32.ofInt_add]; exact k)
theorem j_ladd (S : CallFix p m c cc nL s args Ts own) {a b : Int} (hdg : decode cc pc = .ok (.ladd, 1)) (k : W p l e R s m args below meth c H locs cells slots Q (F0 m (pc + 1) ls (jL (a + b) :: rest))) : W p l e R s m args below meth c H locs cells slots Q (F0 m pc ls (jL b :: jL a :: rest)) := lv_ladd S.1 S.2.1 hdg (by rw [← Int64.ofInt_add]; exact k)
theorem j_isub (S : CallFix p m c cc nL s args Ts own) {a b : Int} (hdg : decode cc pc = .ok (.isub, 1)) (k : W p l e R s m args below meth c H locs cells slots Q (F0 m (pc + 1) ls (jI (a - b) :: rest))) : W p l e R s m args below meth c H locs cells slots Q (F0 m pc ls (jI b :: jI a :: rest)) := lv_isub S.1 S.2.1 hdg (by rw [← Int32.ofInt_sub]; exact k)
theorem j_lsub (S : CallFix p m c cc nL s args Ts own) {a b : Int} (hdg : decode cc pc = .ok (.lsub, 1)) (k : W p l e R s m args below meth c H locs cells slots Q (F0 m (pc + 1) ls (jL (a - b) :: rest))) : W p l e R s m args below meth c H locs cells slots Q (F0 m pc ls (jL b :: jL a :: rest)) := lv_lsub S.1 S.2.1 hdg (by rw [← Int64.ofInt_sub]; exact k)
theorem j_imul (S : CallFix p m c cc nL s args Ts own) {a b : Int} (hdg : decode cc pc = .ok (.imul, 1)) (k : W p l e R s m args below meth c H locs cells slots Q (F0 m (pc + 1) ls (jI (a * b) :: rest))) : W p l e R s m args below meth c H locs cells slots Q (F0 m pc ls (jI b :: jI a :: rest)) := lv_imul S.1 S.2.1 hdg (by rw [← Int32.ofInt_mul]; exact k)
theorem j_lmul (S : CallFix p m c cc nL s args Ts own) {a b : Int} (hdg : decode cc pc = .ok (.lmul, 1)) (k : W p l e R s m args below meth c H locs cells slots Q (F0 m (pc + 1) ls (jL (a * b) :: rest))) : W p l e R s m args below meth c H locs cells slots Q (F0 m pc ls (jL b :: jL a :: rest)) := lv_lmul S.1 S.2.1 hdg (by rw [← Int64.ofInt_mul]; exact k)
theorem j_ineg (S : CallFix p m c cc nL s args Ts own) {a : Int} (hdg : decode cc pc = .ok (.ineg, 1)) (k : W p l e R s m args below meth c H locs cells slots Q (F0 m (pc + 1) ls (jI (-a) :: rest))) : W p l e R s m args below meth c H locs cells slots Q (F0 m pc ls (jI a :: rest)) := lv_ineg S.1 S.2.1 hdg (by rw [← Int32.ofInt_neg]; exact k)
theorem j_lneg (S : CallFix p m c cc nL s args Ts own) {a : Int} (hdg : decode cc pc = .ok (.lneg, 1)) (k : W p l e R s m args below meth c H locs cells slots Q (F0 m (pc + 1) ls (jL (-a) :: rest))) : W p l e R s m args below meth c H locs cells slots Q (F0 m pc ls (jL a :: rest)) := lv_lneg S.1 S.2.1 hdg (by rw [← Int64.ofInt_neg]; exact k)
theorem j_idiv (S : CallFix p m c cc nL s args Ts own) {a b : Int} (hdg : decode cc pc = .ok (.idiv, 1)) (ha : inI a) (hb : 0 < b ∧ b ≤ 2147483647) (k : W p l e R s m args below meth c H locs cells slots Q (F0 m (pc + 1) ls (jI (a.tdiv b) :: rest))) : W p l e R s m args below meth c H locs cells slots Q (F0 m pc ls (jI b :: jI a :: rest)) := lv_idiv S.1 S.2.1 hdg (oI_ne hb) (by rw [oI_div ha hb]; exact k)
theorem j_idivp (S : CallFix p m c cc nL s args Ts own) {a b : Int} (hdg : decode cc pc = .ok (.idiv, 1)) (ha : inI a) (hb : 0 < b ∧ b ≤ 2147483647) (h0 : 0 ≤ a) (k : W p l e R s m args below meth c H locs cells slots Q (F0 m (pc + 1) ls (jI (a / b) :: rest))) : W p l e R s m args below meth c H locs cells slots Q (F0 m pc ls (jI b :: jI a :: rest)) := j_idiv S hdg ha hb (by rw [Int.tdiv_eq_ediv_of_nonneg h0]; exact k)
theorem j_irem (S : CallFix p m c cc nL s args Ts own) {a b : Int} (hdg : decode cc pc = .ok (.irem, 1)) (ha : inI a) (hb : 0 < b ∧ b ≤ 2147483647) (k : W p l e R s m args below meth c H locs cells slots Q (F0 m (pc + 1) ls (jI (a.tmod b) :: rest))) : W p l e R s m args below meth c H locs cells slots Q (F0 m pc ls (jI b :: jI a :: rest)) := lv_irem S.1 S.2.1 hdg (oI_ne hb) (by rw [oI_rem ha hb]; exact k)
theorem j_iremp (S : CallFix p m c cc nL s args Ts own) {a b : Int} (hdg : decode cc pc = .ok (.irem, 1)) (ha : inI a) (hb : 0 < b ∧ b ≤ 2147483647) (h0 : 0 ≤ a) (k : W p l e R s m args below meth c H locs cells slots Q (F0 m (pc + 1) ls (jI (a % b) :: rest))) : W p l e R s m args below meth c H locs cells slots Q (F0 m pc ls (jI b :: jI a :: rest)) := j_irem S hdg ha hb (by rw [Int.tmod_eq_emod_of_nonneg h0]; exact k)
theorem j_ldiv (S : CallFix p m c cc nL s args Ts own) {a b : Int} (hdg : decode cc pc = .ok (.ldiv, 1)) (ha : inL a) (hb : 0 < b ∧ b ≤ 9223372036854775807) (h2 : -9223372036854775808 < a) (k : W p l e R s m args below meth c H locs cells slots Q (F0 m (pc + 1) ls (jL (a.tdiv b) :: rest))) : W p l e R s m args below meth c H locs cells slots Q (F0 m pc ls (jL b :: jL a :: rest)) := lv_ldiv S.1 S.2.1 hdg (oL_ne hb) (by rw [oL_div ha hb h2]; exact k)
theorem j_ldivp (S : CallFix p m c cc nL s args Ts own) {a b : Int} (hdg : decode cc pc = .ok (.ldiv, 1)) (ha : inL a) (hb : 0 < b ∧ b ≤ 9223372036854775807) (h0 : 0 ≤ a) (k : W p l e R s m args below meth c H locs cells slots Q (F0 m (pc + 1) ls (jL (a / b) :: rest))) : W p l e R s m args below meth c H locs cells slots Q (F0 m pc ls (jL b :: jL a :: rest)) := j_ldiv S hdg ha hb (by omega) (by rw [Int.tdiv_eq_ediv_of_nonneg h0]; exact k)
theorem j_lrem (S : CallFix p m c cc nL s args Ts own) {a b : Int} (hdg : decode cc pc = .ok (.lrem, 1)) (ha : inL a) (hb : 0 < b ∧ b ≤ 9223372036854775807) (h2 : -9223372036854775808 < a) (k : W p l e R s m args below meth c H locs cells slots Q (F0 m (pc + 1) ls (jL (a.tmod b) :: rest))) : W p l e R s m args below meth c H locs cells slots Q (F0 m pc ls (jL b :: jL a :: rest)) := lv_lrem S.1 S.2.1 hdg (oL_ne hb) (by rw [oL_rem ha hb h2]; exact k)
theorem j_lremp (S : CallFix p m c cc nL s args Ts own) {a b : Int} (hdg : decode cc pc = .ok (.lrem, 1)) (ha : inL a) (hb : 0 < b ∧ b ≤ 9223372036854775807) (h0 : 0 ≤ a) (k : W p l e R s m args below meth c H locs cells slots Q (F0 m (pc + 1) ls (jL (a % b) :: rest))) : W p l e R s m args below meth c H locs cells slots Q (F0 m pc ls (jL b :: jL a :: rest)) := j_lrem S hdg ha hb (by omega) (by rw [Int.tmod_eq_emod_of_nonneg h0]; exact k)
theorem j_i2l (S : CallFix p m c cc nL s args Ts own) {a : Int} (hdg : decode cc pc = .ok (.i2l, 1)) (ha : inI a) (k : W p l e R s m args below meth c H locs cells slots Q (F0 m (pc + 1) ls (jL a :: rest))) : W p l e R s m args below meth c H locs cells slots Q (F0 m pc ls (jI a :: rest)) := lv_i2l S.1 S.2.1 hdg (o_i2l ha) k
theorem j_l2i (S : CallFix p m c cc nL s args Ts own) {a : Int} (hdg : decode cc pc = .ok (.l2i, 1)) (k : W p l e R s m args below meth c H locs cells slots Q (F0 m (pc + 1) ls (jI a :: rest))) : W p l e R s m args below meth c H locs cells slots Q (F0 m pc ls (jL a :: rest)) := lv_l2i S.1 S.2.1 hdg Int64.toInt32_ofInt k
theorem j_goto (S : CallFix p m c cc nL s args Ts own) {off : Int} {tgt : Nat} (hdg : decode cc pc = .ok (.goto off, 3)) (ht : (pc : Int) + off = (tgt : Int)) (k : W p l e R s m args below meth c H locs cells slots Q (F0 m tgt ls rest)) : W p l e R s m args below meth c H locs cells slots Q (F0 m pc ls rest) := lv_goto S.1 S.2.1 hdg ht k
theorem j_as {a b : Int} (h : a = b) (k : W p l e R s m args below meth c H locs cells slots Q (F0 m pc ls (jI b :: rest))) : W p l e R s m args below meth c H locs cells slots Q (F0 m pc ls (jI a :: rest)) := h ▸ k
theorem j_asl {a b : Int} (h : a = b) (k : W p l e R s m args below meth c H locs cells slots Q (F0 m pc ls (jL b :: rest))) : W p l e R s m args below meth c H locs cells slots Q (F0 m pc ls (jL a :: rest)) := h ▸ k
theorem j_icmp_eq (S : CallFix p m c cc nL s args Ts own) {a b off : Int} {tgt : Nat} (hdg : decode cc pc = .ok (.if_icmp .eq off, 3)) (ht : (pc : Int) + off = (tgt : Int)) (ha : inI a) (hb : inI b) (kt : a = b → W p l e R s m args below meth c H locs cells slots Q (F0 m tgt ls rest)) (kf : ¬ a = b → W p l e R s m args below meth c H locs cells slots Q (F0 m (pc + 3) ls rest)) : W p l e R s m args below meth c H locs cells slots Q (F0 m pc ls (jI b :: jI a :: rest)) := lv_icmp_eq S.1 S.2.1 hdg ht (fun h => kt ((oI_inj ha hb).mp h)) (fun h => kf (fun q => h ((oI_inj ha hb).mpr q)))
theorem j_if_eq (S : CallFix p m c cc nL s args Ts own) {a off : Int} {tgt : Nat} (hdg : decode cc pc = .ok (.ifCond .eq off, 3)) (ht : (pc : Int) + off = (tgt : Int)) (ha : inI a) (kt : a = 0 → W p l e R s m args below meth c H locs cells slots Q (F0 m tgt ls rest)) (kf : ¬ a = 0 → W p l e R s m args below meth c H locs cells slots Q (F0 m (pc + 3) ls rest)) : W p l e R s m args below meth c H locs cells slots Q (F0 m pc ls (jI a :: rest)) := by
  have hb : inI 0 := in0
  refine lv_if_eq S.1 S.2.1 hdg ht ?_ ?_ <;> rw [oI_zero]
  · exact (fun h => kt ((oI_inj ha hb).mp h))
  · exact (fun h => kf (fun q => h ((oI_inj ha hb).mpr q)))
theorem j_icmp_ne (S : CallFix p m c cc nL s args Ts own) {a b off : Int} {tgt : Nat} (hdg : decode cc pc = .ok (.if_icmp .ne off, 3)) (ht : (pc : Int) + off = (tgt : Int)) (ha : inI a) (hb : inI b) (kt : ¬ a = b → W p l e R s m args below meth c H locs cells slots Q (F0 m tgt ls rest)) (kf : a = b → W p l e R s m args below meth c H locs cells slots Q (F0 m (pc + 3) ls rest)) : W p l e R s m args below meth c H locs cells slots Q (F0 m pc ls (jI b :: jI a :: rest)) := lv_icmp_ne S.1 S.2.1 hdg ht (fun h => kt (fun q => h ((oI_inj ha hb).mpr q))) (fun h => kf ((oI_inj ha hb).mp h))
theorem j_if_ne (S : CallFix p m c cc nL s args Ts own) {a off : Int} {tgt : Nat} (hdg : decode cc pc = .ok (.ifCond .ne off, 3)) (ht : (pc : Int) + off = (tgt : Int)) (ha : inI a) (kt : ¬ a = 0 → W p l e R s m args below meth c H locs cells slots Q (F0 m tgt ls rest)) (kf : a = 0 → W p l e R s m args below meth c H locs cells slots Q (F0 m (pc + 3) ls rest)) : W p l e R s m args below meth c H locs cells slots Q (F0 m pc ls (jI a :: rest)) := by
  have hb : inI 0 := in0
  refine lv_if_ne S.1 S.2.1 hdg ht ?_ ?_ <;> rw [oI_zero]
  · exact (fun h => kt (fun q => h ((oI_inj ha hb).mpr q)))
  · exact (fun h => kf ((oI_inj ha hb).mp h))
theorem j_icmp_lt (S : CallFix p m c cc nL s args Ts own) {a b off : Int} {tgt : Nat} (hdg : decode cc pc = .ok (.if_icmp .lt off, 3)) (ht : (pc : Int) + off = (tgt : Int)) (ha : inI a) (hb : inI b) (kt : a < b → W p l e R s m args below meth c H locs cells slots Q (F0 m tgt ls rest)) (kf : b ≤ a → W p l e R s m args below meth c H locs cells slots Q (F0 m (pc + 3) ls rest)) : W p l e R s m args below meth c H locs cells slots Q (F0 m pc ls (jI b :: jI a :: rest)) := lv_icmp_lt S.1 S.2.1 hdg ht (fun h => kt ((oI_lt ha hb).mp h)) (fun h => kf (Int.not_lt.mp (fun q => h ((oI_lt ha hb).mpr q))))
theorem j_if_lt (S : CallFix p m c cc nL s args Ts own) {a off : Int} {tgt : Nat} (hdg : decode cc pc = .ok (.ifCond .lt off, 3)) (ht : (pc : Int) + off = (tgt : Int)) (ha : inI a) (kt : a < 0 → W p l e R s m args below meth c H locs cells slots Q (F0 m tgt ls rest)) (kf : 0 ≤ a → W p l e R s m args below meth c H locs cells slots Q (F0 m (pc + 3) ls rest)) : W p l e R s m args below meth c H locs cells slots Q (F0 m pc ls (jI a :: rest)) := by
  have hb : inI 0 := in0
  refine lv_if_lt S.1 S.2.1 hdg ht ?_ ?_ <;> rw [oI_zero]
  · exact (fun h => kt ((oI_lt ha hb).mp h))
  · exact (fun h => kf (Int.not_lt.mp (fun q => h ((oI_lt ha hb).mpr q))))
theorem j_icmp_ge (S : CallFix p m c cc nL s args Ts own) {a b off : Int} {tgt : Nat} (hdg : decode cc pc = .ok (.if_icmp .ge off, 3)) (ht : (pc : Int) + off = (tgt : Int)) (ha : inI a) (hb : inI b) (kt : b ≤ a → W p l e R s m args below meth c H locs cells slots Q (F0 m tgt ls rest)) (kf : a < b → W p l e R s m args below meth c H locs cells slots Q (F0 m (pc + 3) ls rest)) : W p l e R s m args below meth c H locs cells slots Q (F0 m pc ls (jI b :: jI a :: rest)) := lv_icmp_ge S.1 S.2.1 hdg ht (fun h => kt ((oI_le hb ha).mp h)) (fun h => kf (Int.not_le.mp (fun q => h ((oI_le hb ha).mpr q))))
theorem j_if_ge (S : CallFix p m c cc nL s args Ts own) {a off : Int} {tgt : Nat} (hdg : decode cc pc = .ok (.ifCond .ge off, 3)) (ht : (pc : Int) + off = (tgt : Int)) (ha : inI a) (kt : 0 ≤ a → W p l e R s m args below meth c H locs cells slots Q (F0 m tgt ls rest)) (kf : a < 0 → W p l e R s m args below meth c H locs cells slots Q (F0 m (pc + 3) ls rest)) : W p l e R s m args below meth c H locs cells slots Q (F0 m pc ls (jI a :: rest)) := by
  have hb : inI 0 := in0
  refine lv_if_ge S.1 S.2.1 hdg ht ?_ ?_ <;> rw [oI_zero]
  · exact (fun h => kt ((oI_le hb ha).mp h))
  · exact (fun h => kf (Int.not_le.mp (fun q => h ((oI_le hb ha).mpr q))))
theorem j_icmp_gt (S : CallFix p m c cc nL s args Ts own) {a b off : Int} {tgt : Nat} (hdg : decode cc pc = .ok (.if_icmp .gt off, 3)) (ht : (pc : Int) + off = (tgt : Int)) (ha : inI a) (hb : inI b) (kt : b < a → W p l e R s m args below meth c H locs cells slots Q (F0 m tgt ls rest)) (kf : a ≤ b → W p l e R s m args below meth c H locs cells slots Q (F0 m (pc + 3) ls rest)) : W p l e R s m args below meth c H locs cells slots Q (F0 m pc ls (jI b :: jI a :: rest)) := lv_icmp_gt S.1 S.2.1 hdg ht (fun h => kt ((oI_lt hb ha).mp h)) (fun h => kf (Int.not_lt.mp (fun q => h ((oI_lt hb ha).mpr q))))
theorem j_if_gt (S : CallFix p m c cc nL s args Ts own) {a off : Int} {tgt : Nat} (hdg : decode cc pc = .ok (.ifCond .gt off, 3)) (ht : (pc : Int) + off = (tgt : Int)) (ha : inI a) (kt : 0 < a → W p l e R s m args below meth c H locs cells slots Q (F0 m tgt ls rest)) (kf : a ≤ 0 → W p l e R s m args below meth c H locs cells slots Q (F0 m (pc + 3) ls rest)) : W p l e R s m args below meth c H locs cells slots Q (F0 m pc ls (jI a :: rest)) := by
  have hb : inI 0 := in0
  refine lv_if_gt S.1 S.2.1 hdg ht ?_ ?_ <;> rw [oI_zero]
  · exact (fun h => kt ((oI_lt hb ha).mp h))
  · exact (fun h => kf (Int.not_lt.mp (fun q => h ((oI_lt hb ha).mpr q))))
theorem j_icmp_le (S : CallFix p m c cc nL s args Ts own) {a b off : Int} {tgt : Nat} (hdg : decode cc pc = .ok (.if_icmp .le off, 3)) (ht : (pc : Int) + off = (tgt : Int)) (ha : inI a) (hb : inI b) (kt : a ≤ b → W p l e R s m args below meth c H locs cells slots Q (F0 m tgt ls rest)) (kf : b < a → W p l e R s m args below meth c H locs cells slots Q (F0 m (pc + 3) ls rest)) : W p l e R s m args below meth c H locs cells slots Q (F0 m pc ls (jI b :: jI a :: rest)) := lv_icmp_le S.1 S.2.1 hdg ht (fun h => kt ((oI_le ha hb).mp h)) (fun h => kf (Int.not_le.mp (fun q => h ((oI_le ha hb).mpr q))))
theorem j_if_le (S : CallFix p m c cc nL s args Ts own) {a off : Int} {tgt : Nat} (hdg : decode cc pc = .ok (.ifCond .le off, 3)) (ht : (pc : Int) + off = (tgt : Int)) (ha : inI a) (kt : a ≤ 0 → W p l e R s m args below meth c H locs cells slots Q (F0 m tgt ls rest)) (kf : 0 < a → W p l e R s m args below meth c H locs cells slots Q (F0 m (pc + 3) ls rest)) : W p l e R s m args below meth c H locs cells slots Q (F0 m pc ls (jI a :: rest)) := by
  have hb : inI 0 := in0
  refine lv_if_le S.1 S.2.1 hdg ht ?_ ?_ <;> rw [oI_zero]
  · exact (fun h => kt ((oI_le ha hb).mp h))
  · exact (fun h => kf (Int.not_le.mp (fun q => h ((oI_le ha hb).mpr q))))
theorem j_ifb_eq (S : CallFix p m c cc nL s args Ts own) {P : Prop} {off : Int} {tgt : Nat} (hdg : decode cc pc = .ok (.ifCond .eq off, 3)) (ht : (pc : Int) + off = (tgt : Int)) (kt : ¬ P → W p l e R s m args below meth c H locs cells slots Q (F0 m tgt ls rest)) (kf : P → W p l e R s m args below meth c H locs cells slots Q (F0 m (pc + 3) ls rest)) : W p l e R s m args below meth c H locs cells slots Q (F0 m pc ls (jI (bI P) :: rest)) := by
  rcases @bI_c P with ⟨e, h⟩ | ⟨e, h⟩ <;> rw [e]
  · exact j_if_eq S hdg ht (by decide) (fun q => absurd q (by decide)) (fun _ => kf h)
  · exact j_if_eq S hdg ht (by decide) (fun _ => kt h) (fun q => absurd rfl q)
theorem j_ifb_ne (S : CallFix p m c cc nL s args Ts own) {P : Prop} {off : Int} {tgt : Nat} (hdg : decode cc pc = .ok (.ifCond .ne off, 3)) (ht : (pc : Int) + off = (tgt : Int)) (kt : P → W p l e R s m args below meth c H locs cells slots Q (F0 m tgt ls rest)) (kf : ¬ P → W p l e R s m args below meth c H locs cells slots Q (F0 m (pc + 3) ls rest)) : W p l e R s m args below meth c H locs cells slots Q (F0 m pc ls (jI (bI P) :: rest)) := by
  rcases @bI_c P with ⟨e, h⟩ | ⟨e, h⟩ <;> rw [e]
  · exact j_if_ne S hdg ht (by decide) (fun _ => kt h) (fun q => absurd q (by decide))
  · exact j_if_ne S hdg ht (by decide) (fun q => absurd rfl q) (fun _ => kf h)
theorem lc_gt {a b : Int} (ha : inL a) (hb : inL b) (h : b < a) : lg_cmp (Int64.ofInt a) (Int64.ofInt b) = Int32.ofInt 1 := by
  unfold lg_cmp
  rw [if_pos ((oL_lt hb ha).mpr h)]
  rfl
theorem lc_eq {a b : Int} (h : a = b) : lg_cmp (Int64.ofInt a) (Int64.ofInt b) = Int32.ofInt 0 := by
  subst h
  unfold lg_cmp
  rw [if_neg (by rw [gt_iff_lt, Int64.lt_iff_toInt_lt]; omega), if_pos rfl]
  rfl
theorem lc_lt {a b : Int} (ha : inL a) (hb : inL b) (h : a < b) : lg_cmp (Int64.ofInt a) (Int64.ofInt b) = Int32.ofInt (-1) := by
  unfold lg_cmp
  rw [if_neg (by rw [gt_iff_lt, oL_lt hb ha]; omega), if_neg (by rw [oL_inj ha hb]; omega)]
  rfl
theorem j_lcmp_eq (S : CallFix p m c cc nL s args Ts own) {a b off : Int} {tgt pc1 : Nat} (hpc : pc + 1 = pc1) (hdg : decode cc pc = .ok (.lcmp, 1)) (hdg2 : decode cc pc1 = .ok (.ifCond .eq off, 3)) (ht : (pc1 : Int) + off = (tgt : Int)) (ha : inL a) (hb : inL b) (kt : a = b → W p l e R s m args below meth c H locs cells slots Q (F0 m tgt ls rest)) (kf : ¬ a = b → W p l e R s m args below meth c H locs cells slots Q (F0 m (pc1 + 3) ls rest)) : W p l e R s m args below meth c H locs cells slots Q (F0 m pc ls (jL b :: jL a :: rest)) := by
  subst hpc
  refine W.lcmp S.1 S.2.1 hdg ?_
  rcases Int.lt_trichotomy a b with h | h | h
  · rw [lc_lt ha hb h]
    exact j_if_eq (a := -1) S hdg2 ht (by decide) (fun q => kt (by omega)) (fun q => kf (by omega))
  · rw [lc_eq h]
    exact j_if_eq (a := 0) S hdg2 ht (by decide) (fun q => kt (by omega)) (fun q => kf (by omega))
  · rw [lc_gt ha hb h]
    exact j_if_eq (a := 1) S hdg2 ht (by decide) (fun q => kt (by omega)) (fun q => kf (by omega))
theorem j_lcmp_ne (S : CallFix p m c cc nL s args Ts own) {a b off : Int} {tgt pc1 : Nat} (hpc : pc + 1 = pc1) (hdg : decode cc pc = .ok (.lcmp, 1)) (hdg2 : decode cc pc1 = .ok (.ifCond .ne off, 3)) (ht : (pc1 : Int) + off = (tgt : Int)) (ha : inL a) (hb : inL b) (kt : ¬ a = b → W p l e R s m args below meth c H locs cells slots Q (F0 m tgt ls rest)) (kf : a = b → W p l e R s m args below meth c H locs cells slots Q (F0 m (pc1 + 3) ls rest)) : W p l e R s m args below meth c H locs cells slots Q (F0 m pc ls (jL b :: jL a :: rest)) := by
  subst hpc
  refine W.lcmp S.1 S.2.1 hdg ?_
  rcases Int.lt_trichotomy a b with h | h | h
  · rw [lc_lt ha hb h]
    exact j_if_ne (a := -1) S hdg2 ht (by decide) (fun q => kt (by omega)) (fun q => kf (by omega))
  · rw [lc_eq h]
    exact j_if_ne (a := 0) S hdg2 ht (by decide) (fun q => kt (by omega)) (fun q => kf (by omega))
  · rw [lc_gt ha hb h]
    exact j_if_ne (a := 1) S hdg2 ht (by decide) (fun q => kt (by omega)) (fun q => kf (by omega))
theorem j_lcmp_lt (S : CallFix p m c cc nL s args Ts own) {a b off : Int} {tgt pc1 : Nat} (hpc : pc + 1 = pc1) (hdg : decode cc pc = .ok (.lcmp, 1)) (hdg2 : decode cc pc1 = .ok (.ifCond .lt off, 3)) (ht : (pc1 : Int) + off = (tgt : Int)) (ha : inL a) (hb : inL b) (kt : a < b → W p l e R s m args below meth c H locs cells slots Q (F0 m tgt ls rest)) (kf : b ≤ a → W p l e R s m args below meth c H locs cells slots Q (F0 m (pc1 + 3) ls rest)) : W p l e R s m args below meth c H locs cells slots Q (F0 m pc ls (jL b :: jL a :: rest)) := by
  subst hpc
  refine W.lcmp S.1 S.2.1 hdg ?_
  rcases Int.lt_trichotomy a b with h | h | h
  · rw [lc_lt ha hb h]
    exact j_if_lt (a := -1) S hdg2 ht (by decide) (fun q => kt (by omega)) (fun q => kf (by omega))
  · rw [lc_eq h]
    exact j_if_lt (a := 0) S hdg2 ht (by decide) (fun q => kt (by omega)) (fun q => kf (by omega))
  · rw [lc_gt ha hb h]
    exact j_if_lt (a := 1) S hdg2 ht (by decide) (fun q => kt (by omega)) (fun q => kf (by omega))
theorem j_lcmp_ge (S : CallFix p m c cc nL s args Ts own) {a b off : Int} {tgt pc1 : Nat} (hpc : pc + 1 = pc1) (hdg : decode cc pc = .ok (.lcmp, 1)) (hdg2 : decode cc pc1 = .ok (.ifCond .ge off, 3)) (ht : (pc1 : Int) + off = (tgt : Int)) (ha : inL a) (hb : inL b) (kt : b ≤ a → W p l e R s m args below meth c H locs cells slots Q (F0 m tgt ls rest)) (kf : a < b → W p l e R s m args below meth c H locs cells slots Q (F0 m (pc1 + 3) ls rest)) : W p l e R s m args below meth c H locs cells slots Q (F0 m pc ls (jL b :: jL a :: rest)) := by
  subst hpc
  refine W.lcmp S.1 S.2.1 hdg ?_
  rcases Int.lt_trichotomy a b with h | h | h
  · rw [lc_lt ha hb h]
    exact j_if_ge (a := -1) S hdg2 ht (by decide) (fun q => kt (by omega)) (fun q => kf (by omega))
  · rw [lc_eq h]
    exact j_if_ge (a := 0) S hdg2 ht (by decide) (fun q => kt (by omega)) (fun q => kf (by omega))
  · rw [lc_gt ha hb h]
    exact j_if_ge (a := 1) S hdg2 ht (by decide) (fun q => kt (by omega)) (fun q => kf (by omega))
theorem j_lcmp_gt (S : CallFix p m c cc nL s args Ts own) {a b off : Int} {tgt pc1 : Nat} (hpc : pc + 1 = pc1) (hdg : decode cc pc = .ok (.lcmp, 1)) (hdg2 : decode cc pc1 = .ok (.ifCond .gt off, 3)) (ht : (pc1 : Int) + off = (tgt : Int)) (ha : inL a) (hb : inL b) (kt : b < a → W p l e R s m args below meth c H locs cells slots Q (F0 m tgt ls rest)) (kf : a ≤ b → W p l e R s m args below meth c H locs cells slots Q (F0 m (pc1 + 3) ls rest)) : W p l e R s m args below meth c H locs cells slots Q (F0 m pc ls (jL b :: jL a :: rest)) := by
  subst hpc
  refine W.lcmp S.1 S.2.1 hdg ?_
  rcases Int.lt_trichotomy a b with h | h | h
  · rw [lc_lt ha hb h]
    exact j_if_gt (a := -1) S hdg2 ht (by decide) (fun q => kt (by omega)) (fun q => kf (by omega))
  · rw [lc_eq h]
    exact j_if_gt (a := 0) S hdg2 ht (by decide) (fun q => kt (by omega)) (fun q => kf (by omega))
  · rw [lc_gt ha hb h]
    exact j_if_gt (a := 1) S hdg2 ht (by decide) (fun q => kt (by omega)) (fun q => kf (by omega))
theorem j_lcmp_le (S : CallFix p m c cc nL s args Ts own) {a b off : Int} {tgt pc1 : Nat} (hpc : pc + 1 = pc1) (hdg : decode cc pc = .ok (.lcmp, 1)) (hdg2 : decode cc pc1 = .ok (.ifCond .le off, 3)) (ht : (pc1 : Int) + off = (tgt : Int)) (ha : inL a) (hb : inL b) (kt : a ≤ b → W p l e R s m args below meth c H locs cells slots Q (F0 m tgt ls rest)) (kf : b < a → W p l e R s m args below meth c H locs cells slots Q (F0 m (pc1 + 3) ls rest)) : W p l e R s m args below meth c H locs cells slots Q (F0 m pc ls (jL b :: jL a :: rest)) := by
  subst hpc
  refine W.lcmp S.1 S.2.1 hdg ?_
  rcases Int.lt_trichotomy a b with h | h | h
  · rw [lc_lt ha hb h]
    exact j_if_le (a := -1) S hdg2 ht (by decide) (fun q => kt (by omega)) (fun q => kf (by omega))
  · rw [lc_eq h]
    exact j_if_le (a := 0) S hdg2 ht (by decide) (fun q => kt (by omega)) (fun q => kf (by omega))
  · rw [lc_gt ha hb h]
    exact j_if_le (a := 1) S hdg2 ht (by decide) (fun q => kt (by omega)) (fun q => kf (by omega))
theorem j_iald (S : CallFix p m c cc nL s args Ts own) {D : va_G} {cl : List vw_C} {tys : List (ClassId × FieldType)} {ws : va_W} {a : Nat} (hK : va_K D cl tys s) (hP : va_P D cl ws H) (q0 t0 : Nat) {cA : ClassId} {n : Nat} {f : Int → Int} (ha : ws[q0]? = some (a, .inl (cA, n, .inl (jF f)))) (ht : tys[t0]? = some (cA, .int)) {i : Int} (hin : 0 ≤ i ∧ i < (n : Int) ∧ inI i) (hdg : decode cc pc = .ok (.iaload, 1)) (kk : W p l e R s m args below meth c H locs cells slots Q (F0 m (pc + 1) ls (jI (f i) :: rest))) : W p l e R s m args below meth c H locs cells slots Q (F0 m pc ls (jI i :: .ref a :: rest)) := by
  refine va_iald S.1 S.2.1 hK hP q0 t0 ha ht (o_in ⟨hin.1, hin.2.1⟩ hin.2.2) hdg ?_
  rw [jF_at hin.1 hin.2.2]
  exact kk
theorem j_iast (S : CallFix p m c cc nL s args Ts own) {D : va_G} {cl : List vw_C} {A : Nat → Prop} {tys : List (ClassId × FieldType)} {ws ws1 : va_W} {H0 : Heap} {a : Nat} (hK : va_K D cl tys s) (hP : va_P D cl ws H) (hD : va_D A ws) (hS : va_S A H0 H locs) (q0 t0 : Nat) {cA : ClassId} {n : Nat} {f : Int → Int} (ha : ws[q0]? = some (a, .inl (cA, n, .inl (jF f)))) (ht : tys[t0]? = some (cA, .int)) {i x : Int} (hin : 0 ≤ i ∧ i < (n : Int) ∧ inI i) (h1 : ws.set q0 (a, .inl (cA, n, .inl (jF (jU f i x)))) = ws1) (hdg : decode cc pc = .ok (.iastore, 1)) (kk : ∀ (H1 : Heap) (locs1 : List Loc), va_P D cl ws1 H1 → va_D A ws1 → va_S A H0 H1 locs1 → W p l e R s m args below meth c H1 locs1 cells slots Q (F0 m (pc + 1) ls rest)) : W p l e R s m args below meth c H locs cells slots Q (F0 m pc ls (jI x :: jI i :: .ref a :: rest)) := by
  subst h1
  refine va_iast S.1 S.2.1 hK hP hD hS q0 t0 ha ht (o_in ⟨hin.1, hin.2.1⟩ hin.2.2) hdg ?_
  rw [jF_up hin.1 hin.2.2]
  exact kk
end JR
