theorem sp_eq_iv {x y M : Int} (hx : -M ≤ x ∧ x ≤ M) : -M ≤ sp_eq x y ∧ sp_eq x y ≤ M := by
  unfold sp_eq
  split
  · omega
  · have := Int.natAbs_tdiv_le_natAbs x y
    omega
theorem sp_nol_iv {x y u ub : Int} (hx : 0 ≤ x ∧ x ≤ u) (hy : 0 < y) (hu : u + 1 ≤ ub) : 0 ≤ sp_nol x y ∧ sp_nol x y ≤ ub := by
  unfold sp_nol
  have h1 : 0 ≤ (2 * x + y - 1) / (2 * y) := Int.ediv_nonneg (by omega) (by omega)
  have h2 : (2 * x + y - 1) / (2 * y) < x + 1 := Int.ediv_lt_of_lt_mul (by omega) (by
    have : x * 2 ≤ x * (2 * y) := Int.mul_le_mul_of_nonneg_left (by omega) hx.1
    rw [Int.add_mul]
    omega)
  omega
theorem sp_nog_iv {x y u ub : Int} (hx : 0 ≤ x ∧ x ≤ u) (hy : 0 < y) (hu : u + 1 ≤ ub) : 0 ≤ sp_nog x y ∧ sp_nog x y ≤ ub := by
  unfold sp_nog
  have h1 : 0 ≤ (2 * x + y) / (2 * y) := Int.ediv_nonneg (by omega) (by omega)
  have h2 : (2 * x + y) / (2 * y) < x + 1 := Int.ediv_lt_of_lt_mul (by omega) (by
    have : x * 2 ≤ x * (2 * y) := Int.mul_le_mul_of_nonneg_left (by omega) hx.1
    rw [Int.add_mul]
    omega)
  omega
theorem sp_eq_iff {up low : Int} (h : 0 < up) (h2 : 1 ≤ low) : sp_eq up low = 0 ↔ ¬ up.tmod low = 0 := by
  constructor
  · intro e q
    rw [sp_eq_1 h2 q] at e
    have h3 := Int.tmod_def up low
    rw [q, e, Int.mul_zero] at h3
    omega
  · intro q
    exact sp_eq_0 (Or.inr q)
theorem sp_nr_iv {p q low : Int} (h : 1 ≤ low ∧ low ≤ 10000) : 1 ≤ sp_nr p q low ∧ sp_nr p q low ≤ 10000 := by
  have := @sp_nr_rng p q low h.1
  omega
theorem emod_iv {x y : Int} (hy : 1 ≤ y ∧ y ≤ 1000000000000) : 0 ≤ x % y ∧ x % y ≤ 1000000000000 := by
  have := Int.emod_nonneg x (b := y) (by omega)
  have := Int.emod_lt_of_pos x (b := y) (by omega)
  omega
theorem sp_left_iv {d p q : Int} (hq : 1 ≤ q ∧ q ≤ 1000000000000) : 0 ≤ p * d - sp_mm d p q * q ∧ p * d - sp_mm d p q * q ≤ 1000000000000 := by
  unfold sp_mm
  have h := Int.emod_def (p * d) q
  rw [Int.mul_comm q] at h
  rw [← h]
  exact emod_iv hq
theorem sp_mm_iv {d p q : Int} (hd : 2 ≤ d ∧ d ≤ 720) (hp : 0 ≤ p ∧ p ≤ 1000000000000) (hq : 1 ≤ q ∧ q ≤ 1000000000000) (h : p < q) : 0 ≤ sp_mm d p q ∧ sp_mm d p q ≤ 720 := by
  unfold sp_mm
  have h1 : 0 ≤ p * d := Int.mul_nonneg hp.1 (by omega)
  have h2 : 0 ≤ p * d / q := Int.ediv_nonneg h1 (by omega)
  have h3 : p * d ≤ q * d := Int.mul_le_mul_of_nonneg_right (by omega) (by omega)
  have h4 : p * d / q ≤ d := Int.ediv_le_of_le_mul (by omega) (by rw [Int.mul_comm d]; exact h3)
  omega
theorem sp_ln_iv {d v p q : Int} (hv : 2 ≤ v ∧ v ≤ 60) (hq : 1 ≤ q ∧ q ≤ 1000000000000) (_ : p < q) : 0 ≤ sp_ln d v p q ∧ sp_ln d v p q ≤ 60 := by
  unfold sp_ln sp_nol
  have h1 : 0 ≤ p * d - sp_mm d p q * q ∧ p * d - sp_mm d p q * q < q := by
    unfold sp_mm
    have h := Int.emod_def (p * d) q
    rw [Int.mul_comm q] at h
    rw [← h]
    exact ⟨Int.emod_nonneg _ (by omega), Int.emod_lt_of_pos _ (by omega)⟩
  generalize p * d - sp_mm d p q * q = x at h1 ⊢
  have h2 : 0 ≤ x * v := Int.mul_nonneg h1.1 (by omega)
  have h3 : x * v ≤ q * v := Int.mul_le_mul_of_nonneg_right (by omega) (by omega)
  have h4 : 0 ≤ (2 * (x * v) + q - 1) / (2 * q) := Int.ediv_nonneg (by omega) (by omega)
  have h5 : (2 * (x * v) + q - 1) / (2 * q) < v + 1 := Int.ediv_lt_of_lt_mul (by omega) (by
    have h6 : v * (2 * q) = 2 * (q * v) := by rw [Int.mul_left_comm, Int.mul_comm v]
    rw [Int.add_mul, h6]
    omega)
  omega
theorem sp_rd_iv {d v p q : Int} (hd : 2 ≤ d ∧ d ≤ 720) (hv : 2 ≤ v ∧ v ≤ 60) (hp : 0 ≤ p ∧ p ≤ 1000000000000) (hq : 1 ≤ q ∧ q ≤ 1000000000000) (h : p < q) : 0 ≤ sp_rd d v p q ∧ sp_rd d v p q ≤ 43260 := by
  have h1 := sp_mm_iv hd hp hq h
  have h2 := sp_ln_iv (d := d) (p := p) hv hq h
  have h3 : 0 ≤ sp_mm d p q * v ∧ sp_mm d p q * v ≤ 43200 := iv_mulp h1 hv (by decide)
  unfold sp_rd
  omega
theorem sp_fs_iv {w u1 u2 n b : Int} (hw : 10 ≤ w ∧ w ≤ 200) (h1 : 5 ≤ u1 ∧ u1 ≤ 120) (h2 : 5 ≤ u2 ∧ u2 ≤ 120) (hn : 2 ≤ n ∧ n ≤ 1000) (hb : -120 ≤ b ∧ b ≤ 120) : -17280000 ≤ sp_fs w u1 u2 n b ∧ sp_fs w u1 u2 n b ≤ 17280000 := by
  have a1 : 50 ≤ w * u2 ∧ w * u2 ≤ 24000 := iv_mulp hw h2 (by decide)
  have a2 : -120000 ≤ b * n ∧ b * n ≤ 120000 := iv_mul 120 1000 hb hn (by decide)
  have a3 : -144000 ≤ w * u2 - b * n ∧ w * u2 - b * n ≤ 144000 := by omega
  exact sp_eq_iv (iv_mul 120 144000 h1 a3 (by decide))
theorem gcd_iv {a b : Int} (hb : 1 ≤ b ∧ b ≤ 1000) : 1 ≤ ((Int.gcd a b : Nat) : Int) ∧ ((Int.gcd a b : Nat) : Int) ≤ 1000 := by
  have h1 : 0 < Int.gcd a b := Int.gcd_pos_of_ne_zero_right _ (by omega)
  have h2 : Int.gcd a b ∣ b.natAbs := Nat.gcd_dvd_right _ _
  have h3 := Nat.le_of_dvd (by omega) h2
  omega
theorem gcd_0 {x : Int} (hx : 0 ≤ x) : ((Int.gcd x 0 : Nat) : Int) = x := by
  rw [Int.gcd_zero_right]
  omega
theorem gcd_step {x y : Int} (hx : 0 ≤ x) (hy : 0 ≤ y) : Int.gcd y (x % y) = Int.gcd x y := by
  obtain ⟨m, rfl⟩ := Int.eq_ofNat_of_zero_le hx
  obtain ⟨n, rfl⟩ := Int.eq_ofNat_of_zero_le hy
  rw [← Int.natCast_emod]
  show Nat.gcd n (m % n) = Nat.gcd m n
  rw [Nat.gcd_comm n, ← Nat.gcd_rec, Nat.gcd_comm]
theorem sp_lt_0 {up low what : Int} (h : what = 0) : sp_lt up low what = up.tdiv ((Int.gcd ((Int.natAbs up : Nat) : Int) low : Nat) : Int) := by
  unfold sp_lt
  rw [if_pos h]
  rfl
theorem sp_lt_1 {up low what : Int} (h : ¬ what = 0) (hl : 0 ≤ low) : sp_lt up low what = low / ((Int.gcd ((Int.natAbs up : Nat) : Int) low : Nat) : Int) := by
  unfold sp_lt
  rw [if_neg h, Int.tdiv_eq_ediv_of_nonneg hl]
  rfl
def p2 (k : Int) : Int := 2 ^ (21 - k).toNat
theorem p2_s {k : Int} (h : 0 ≤ k ∧ k ≤ 20) : p2 k = 2 * p2 (k + 1) := by
  unfold p2
  rw [show (21 - k).toNat = (21 - (k + 1)).toNat + 1 by omega, Int.pow_succ, Int.mul_comm]
theorem cm_lt {x y k : Int} (hm : (k = 0 ∧ 0 < y) ∨ (y < x ∧ x * y < p2 k)) (hk : 0 ≤ k ∧ k ≤ 21) (hy : 0 < y) : k ≤ 20 := by
  rcases hm with h | ⟨h1, h2⟩
  · omega
  · by_cases e : k = 21
    · subst e
      have h3 : p2 21 = 1 := by decide
      have h4 : 0 < x * y := Int.mul_pos (by omega) hy
      omega
    · omega
theorem cm_next {x y k : Int} (hx : 0 ≤ x ∧ x ≤ 1000000000) (hy : 0 ≤ y ∧ y ≤ 1000) (hm : (k = 0 ∧ 0 < y) ∨ (y < x ∧ x * y < p2 k)) (hy0 : 0 < y) (hk : 0 ≤ k ∧ k ≤ 21) : x % y < y ∧ y * (x % y) < p2 (k + 1) := by
  have h1 := Int.emod_nonneg x (b := y) (by omega)
  have h2 := Int.emod_lt_of_pos x (b := y) hy0
  refine ⟨h2, ?_⟩
  have hk2 := cm_lt hm hk hy0
  rcases hm with ⟨e, -⟩ | ⟨a, b⟩
  · subst e
    have h3 : y * (x % y) ≤ 1000 * 999 := Int.mul_le_mul (by omega) (by omega) h1 (by decide)
    have h4 : p2 (0 + 1) = 1048576 := by decide
    omega
  · rw [p2_s ⟨hk.1, hk2⟩] at b
    have h3 := Int.emod_add_mul_ediv x y
    have h4 : 1 ≤ x / y := Int.le_ediv_of_mul_le hy0 (by omega)
    have h5 : y * 1 ≤ y * (x / y) := Int.mul_le_mul_of_nonneg_left h4 (by omega)
    have h6 : 2 * (x % y) ≤ x := by omega
    have h7 : y * (2 * (x % y)) ≤ y * x := Int.mul_le_mul_of_nonneg_left h6 (by omega)
    rw [Int.mul_left_comm, Int.mul_comm y x] at h7
    omega
theorem xor_neg {a b : Int} (ha : inL a) (hb : 0 < b ∧ b ≤ 9223372036854775807) : Int64.ofInt a ^^^ Int64.ofInt b < 0 ↔ a < 0 := by
  have h0 : (0 : Int64) = Int64.ofInt 0 := by decide
  rw [Int64.lt_iff_toInt_lt, h0, tL (a := 0) (by decide)]
  have e : (Int64.ofInt a ^^^ Int64.ofInt b).toInt = ((Int64.ofInt a).toBitVec ^^^ (Int64.ofInt b).toBitVec).toInt := rfl
  have hA : (Int64.ofInt a).toBitVec.toInt = a := tL ha
  have hB : (Int64.ofInt b).toBitVec.toInt = b := tL (by omega)
  have m1 := BitVec.msb_eq_toInt (x := (Int64.ofInt a).toBitVec)
  have m2 := BitVec.msb_eq_toInt (x := (Int64.ofInt b).toBitVec)
  have m3 := BitVec.msb_eq_toInt (x := (Int64.ofInt a).toBitVec ^^^ (Int64.ofInt b).toBitVec)
  rw [BitVec.msb_xor, m1, m2, hA, hB, decide_eq_false (show ¬ b < 0 by omega), Bool.xor_false] at m3
  rw [e]
  exact (decide_eq_decide.mp m3).symm
theorem fm_b {x y : Int} (h : Int.tmod x y = 0) : Int.tmod x y = x % y := by
  rw [Int.emod_eq_tmod, if_pos (Or.inr (Int.dvd_of_tmod_eq_zero h))]
  omega
theorem fm_c {x y : Int} (hx : x < 0) (hy : 0 < y) (h : ¬ Int.tmod x y = 0) : Int.tmod x y + y = x % y := by
  rw [Int.emod_eq_tmod, if_neg (fun q => by
    rcases q with q | q
    · omega
    · exact h (Int.tmod_eq_zero_of_dvd q))]
  omega
section JX
variable {p : Program} {l : Launch} {e : Env} {R : Room} {s : State} {m : MethodId} {args : Array Value} {below : List Frame} {meth : Method} {c : Code} {H : Heap} {locs : List Loc} {cells slots : Nat} {Q : State → Prop}
variable {cc : ByteArray} {nL : Nat} {Ts : List Cond} {own : String} {pc : Nat} {ls : Array Slot} {rest : List Value}
theorem j_lxor_ge (S : CallFix p m c cc nL s args Ts own) {a b off : Int} {tgt pc1 pc2 pc3 : Nat} (h1 : pc + 1 = pc1) (h2 : pc1 + 1 = pc2) (h3 : pc2 + 1 = pc3) (hdg : decode cc pc = .ok (.lxor, 1)) (hdg1 : decode cc pc1 = .ok (.lconst 0, 1)) (hdg2 : decode cc pc2 = .ok (.lcmp, 1)) (hdg3 : decode cc pc3 = .ok (.ifCond .ge off, 3)) (ht : (pc3 : Int) + off = (tgt : Int)) (ha : inL a) (hb : 0 < b ∧ b ≤ 9223372036854775807) (kt : 0 ≤ a → W p l e R s m args below meth c H locs cells slots Q (F0 m tgt ls rest)) (kf : a < 0 → W p l e R s m args below meth c H locs cells slots Q (F0 m (pc3 + 3) ls rest)) : W p l e R s m args below meth c H locs cells slots Q (F0 m pc ls (jL b :: jL a :: rest)) := by
  subst h1
  subst h2
  subst h3
  refine lv_lxor S.1 S.2.1 hdg ?_
  refine j_lconst (a := 0) S hdg1 rfl ?_
  refine W.lcmp S.1 S.2.1 hdg2 ?_
  have h0 : (0 : Int64) = Int64.ofInt 0 := by decide
  have hx := xor_neg ha hb
  rw [h0] at hx
  have hc : (0 ≤ lg_cmp (Int64.ofInt a ^^^ Int64.ofInt b) (Int64.ofInt 0)) ↔ 0 ≤ a := by
    rw [lg_cmp_ge]
    constructor
    · intro q
      exact Int.not_lt.mp (fun z => by
        have := hx.mpr z
        rw [Int64.lt_iff_toInt_lt] at this
        rw [Int64.le_iff_toInt_le] at q
        omega)
    · intro q
      rw [Int64.le_iff_toInt_le]
      refine Int.not_lt.mp (fun z => ?_)
      rw [← Int64.lt_iff_toInt_lt] at z
      have := hx.mp z
      omega
  exact lv_if_ge S.1 S.2.1 hdg3 ht (fun h => kt (hc.mp h)) (fun h => kf (Int.not_le.mp (fun q => h (hc.mpr q))))
end JX
/-- as Met.ofW, of a method that is run by its bytecode though its class has others that aren't -/
theorem Met_ofWF {l : Launch} {y : MethodName} {ws ws' : List Cond} {rm : Room} {Pc : Array Value → State → Prop} {Qc : Array Value → State → Outcome → State → Prop} {mc ms : Nat} {free : Addr → Prop} {cc : ByteArray} {maxL : Nat} {ret : Option FieldType} (hy : plainFor y = true) (hw : ws = Cond.code y cc maxL ret :: ws')
    (body : ∀ (p : Program) (e : Env) (s : State) (m : MethodId) (args : Array Value) (below : List Frame) (meth : Method) (c : Code) (s₁ : State), BodyLoose p l y (headSpec ws rm) cc maxL ret e s m args below meth c s₁ → c.maxLocals = maxL → Pc args s → W p l e (headSpec ws rm).room s m args below meth c s.heap [] 0 0 (MQ below Qc args s mc ms free) (entryFrame m args maxL)) : Met l y ws rm Pc Qc mc ms free := by
  refine MetFree.of_bodySF (code := cc) (maxLocals := maxL) (ret := ret) hy ?_ ?_
  · intro args s m h hn
    obtain ⟨meth, c, h1, h2, h3, h4, h5, h6, -, -⟩ := Cond.code_spec hn (atoms_spec (ws := ws) h _ (by rw [hw]; exact List.mem_cons_self))
    exact ⟨meth, c, h1, h2, h3, h4, h5, h6⟩
  · intro p e s m args below meth c s₁ B hml hP _
    have hh0 : s₁.heap = s.heap := by rw [B.state]; rfl
    obtain ⟨t, a1, o, b1, b2, b3⟩ := body p e s m args below meth c s₁ B hml hP s₁ hh0 (Stand.of_body B)
    exact ⟨t, o, a1, b1, b2, ⟨b3.1, b3.2⟩⟩
theorem MLF_of {l : Launch} {y : MethodName} {ws ws' : List Cond} {rm : Room} {as : List Value} {B : State → Prop} {post : Int → Prop} {cc : ByteArray} {maxL : Nat} (hy : plainFor y = true) (hw : ws = Cond.code y cc maxL (some .long) :: ws') (hn : (lg_sl as).length ≤ maxL)
    (body : ∀ (p : Program) (e : Env) (s : State) (m : MethodId) (args : Array Value) (below : List Frame) (meth : Method) (c : Code) (Q : State → Prop) (ls : Array Slot), CallFix p m c cc maxL s args ws y.cls → (∀ (i : Int) (pc : Nat) (ls' : Array Slot), post i → decode cc pc = .ok (.lreturn, 1) → W p l e rm s m args below meth c s.heap [] 0 0 Q (F0 m pc ls' [jL i])) → B s → lv_has ls maxL (lv_args 0 as) → W p l e rm s m args below meth c s.heap [] 0 0 Q (F0 m 0 ls [])) : ML l y ws rm as B post := by
  refine Met_ofWF (cc := cc) (maxL := maxL) (ret := some .long) hy hw ?_
  intro p e s m args below meth c s₁ B' hml hv
  obtain ⟨rfl, hB⟩ := hv
  have hlocks := B'.notSynchronized
  rw [lg_entry_eq]
  exact body p e s m _ below meth c _ _ ⟨B'.exec, B'.bytes, hml, findClass_of_methodNamed B'.named, atoms_spec (ws := ws) B'.pre⟩ (fun i pc ls' hp hd => W.lret B'.exec B'.bytes B'.returns (fun t ht hW => ⟨i, rfl, hp, ht⟩) (fun _ h => by cases h) hd) hB (lv_entry as hn)
