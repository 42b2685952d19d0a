def R_law : String := "DividingHeadLaw"
def lw_P (b : Addr) (xs : List Int32) (args : Array Value) (s : State) : Prop := args = #[.ref b] ∧ s.IntsAt b xs ∧ xs.length ≤ 2560 ∧ (Jvm.Cond.and given_1 narrow_1).before args s = true
def lw_Q (_ : Array Value) (s : State) (o : Outcome) (t : State) : Prop := o = .returned (some (.int 1)) ∧ Framed s o t [] 10 78
def lw_Z (below : List Frame) (a : Array Value) (s : State) : State → Prop := fun t => ∃ o, t.status = .running ∧ Ended t below o ∧ lw_Q a s o t
/-- the law's own end, with 1 on the stack, nothing written that was there before, its room as the claim has it -/
theorem lw_ret {p : Program} {l : Launch} {e : Env} {s : State} {m : MethodId} {below : List Frame} {meth : Method} {c : Code} {b : Nat} (hx : p.tables.exec = Jvm.exec) (hb : c.code = code) (hr : meth.sig.returnType = ret) (hlocks : meth.locks = false) {pc : Nat} {H : Heap} {ls : Array Slot} (hdg : decode code pc = .ok (.ireturn, 1)) : W p l e room_1 s m #[Value.ref b] below meth c H [] 10 78 (lw_Z below #[Value.ref b] s) (F0 m pc ls [.int 1]) := by
  intro T hT X
  obtain ⟨fs, hret, hrun, hended, hW, hframe⟩ := X.leave (v := some (.int 1)) (hlocks := hlocks) (fun h => by rw [hr] at h; cases h)
  have hmeth' : T.vm.method? m = some meth := X.method'
  refine ⟨T.setFrames fs, ?_, .returned (some (.int 1)), hrun, hended, rfl, ⟨_, rfl⟩, hW, hframe⟩
  jvm_step X.here [X.here.top, hx, hb, hdg, hmeth', hr, ret, narrow_b1]
  (try refine ⟨rfl, ?_⟩); (try refine ⟨rfl, ?_⟩)
  first | (intro acts; rw [hret _ acts rfl rfl rfl]) | rw [hret _ _ rfl rfl rfl]
  exact Steps.refl _
/-- what holds at the law's entry: the machine, the code, the tables' words (any of lw_tbl by 'hts w (by decide +kernel)'), the script of L ints xs at the cell b, what the Statement gives of the start (any of its parts by flat_of_before) -/
def lw_At (p : Program) (s : State) (m : MethodId) (meth : Method) (c : Code) (b L : Nat) (xs : Nat → Int32) : Prop :=
  p.tables.exec = Jvm.exec ∧ c.code = code ∧ meth.sig.returnType = ret ∧ c.maxLocals = 4 ∧ s.vm.findClass R_law = some m.cls ∧ (∀ w ∈ lw_tbl, w.before #[Value.ref b] s = true) ∧ va_X b L xs s s.heap ∧ b < s.heap.size ∧ meth.locks = false ∧ (Jvm.Cond.and given_1 narrow_1).before #[Value.ref b] s = true

/-- the script's int, as an Int -/
def sx (xs : Nat → Int32) (j : Int) : Int := (xs j.toNat).toInt
theorem sx_in {xs : Nat → Int32} {j : Int} : inI (sx xs j) := inI_toInt _
section JL
variable {p : Program} {l : Launch} {e : Env} {R : Room} {s : State} {m : MethodId} {args : Array Value} {below : List Frame} {meth : Method} {c : Code} {H : Heap} {locs : List Loc} {cells slots : Nat} {Q : State → Prop}
variable {cc : ByteArray} {nL : Nat} {Ts : List Cond} {own : String} {pc : Nat} {ls : Array Slot} {rest : List Value} {A : Nat → Prop} {H0 : Heap}
theorem j_sld (S : CallFix p m c cc nL s args Ts own) {b L : Nat} {xs : Nat → Int32} (hX : va_X b L xs s H0) (hbl : b < H0.size) (hbA : ¬ A b) (hS : va_S A H0 H locs) {a : Int} (h : 0 ≤ a ∧ a < (L : Int) ∧ inI a) (hdg : decode cc pc = .ok (.iaload, 1)) (kk : W p l e R s m args below meth c H locs cells slots Q (F0 m (pc + 1) ls (jI (sx xs a) :: rest))) : W p l e R s m args below meth c H locs cells slots Q (F0 m pc ls (jI a :: .ref b :: rest)) := by
  refine va_sld S.1 S.2.1 hX hbl hbA hS (o_in ⟨h.1, h.2.1⟩ h.2.2) hdg ?_
  rw [o_nat h.2.2, jI_toInt]
  exact kk
theorem j_slen (S : CallFix p m c cc nL s args Ts own) {b L : Nat} {xs : Nat → Int32} (hX : va_X b L xs s H0) (hbl : b < H0.size) (hbA : ¬ A b) (hS : va_S A H0 H locs) (hdg : decode cc pc = .ok (.arraylength, 1)) (kk : W p l e R s m args below meth c H locs cells slots Q (F0 m (pc + 1) ls (jI (L : Int) :: rest))) : W p l e R s m args below meth c H locs cells slots Q (F0 m pc ls (.ref b :: rest)) := by
  refine va_slen S.1 S.2.1 hX hbl hbA hS hdg ?_
  have h : Int32.ofNat L = Int32.ofInt (L : Int) := rfl
  rw [h]
  exact kk
theorem j_iandz (S : CallFix p m c cc nL s args Ts own) {a b : Int} (hdg : decode cc pc = .ok (.iand, 1)) (kk : ∀ z : Int, inI z → W p l e R s m args below meth c H locs cells slots Q (F0 m (pc + 1) ls (jI z :: rest))) : W p l e R s m args below meth c H locs cells slots Q (F0 m pc ls (jI b :: jI a :: rest)) := by
  refine lv_iand S.1 S.2.1 hdg ?_
  rw [jI_toInt]
  exact kk _ (inI_toInt _)
end JL
/-- both answer alike, and leave alike worlds -/
theorem R_wheel_det {w x i j a b : Int} (h : R_wheel w x i a) (g : R_wheel w x j b) : i = j ∧ a = b := by
  unfold R_wheel at h g
  omega
theorem R_vernier_det {d v x y i j a b a' b' : Int} (h : R_vernier d v x y i a b) (g : R_vernier d v x y j a' b') : i = j ∧ a = a' ∧ b = b' := by
  unfold R_vernier at h g
  omega
theorem R_circle_det {H H1 H2 : Int → Int} {cc x i j a b : Int} (h : R_circle H cc x i a H1) (g : R_circle H cc x j b H2) : i = j ∧ a = b ∧ H1 = H2 := by
  rcases h with ⟨h1, h2, h3, h4⟩ | ⟨h1, h0, h2, h3, h4⟩ | ⟨h1, h0, h9, h2, h3, h4⟩ | ⟨h1, h0, h9, h2, h3, h4⟩ <;> rcases g with ⟨g1, g2, g3, g4⟩ | ⟨g1, g0, g2, g3, g4⟩ | ⟨g1, g0, g9, g2, g3, g4⟩ | ⟨g1, g0, g9, g2, g3, g4⟩ <;> first | (exfalso; omega) | exact absurd h9 g9 | exact absurd g9 h9 | exact ⟨by omega, by omega, by rw [h4, g4]⟩
theorem R_gear_det {H H1 H2 : Int → Int} {cc x i j a b : Int} (h : R_gear H cc x i a H1) (g : R_gear H cc x j b H2) : i = j ∧ a = b ∧ H1 = H2 := by
  rcases h with ⟨h1, h2, h3, h4⟩ | ⟨h1, h0, h2, h3, h4⟩ | ⟨h1, h0, h2, h3, h4⟩ <;> rcases g with ⟨g1, g2, g3, g4⟩ | ⟨g1, g0, g2, g3, g4⟩ | ⟨g1, g0, g2, g3, g4⟩ <;> first | (exfalso; omega) | exact ⟨by omega, by omega, by rw [h4, g4]⟩
theorem R_error_det {E E1 E2 : Int → Int} {k x i j : Int} (h : R_error E k x i E1) (g : R_error E k x j E2) : i = j ∧ E1 = E2 := by
  rcases h with ⟨h1, h2, h3⟩ | ⟨h1, h0, h2, h3⟩ | ⟨h1, h0, h2, h3⟩ <;> rcases g with ⟨g1, g2, g3⟩ | ⟨g1, g0, g2, g3⟩ | ⟨g1, g0, g2, g3⟩ <;> first | (exfalso; omega) | exact ⟨by omega, by rw [h3, g3]⟩
theorem ok_wheel {H T E : Int → Int} {cc gc w d v x i w' : Int} (hok : SOK H T E cc gc w d v) (h : R_wheel w x i w') : SOK H T E cc gc w' d v := by
  obtain ⟨h1, h2, h3, h4⟩ := hok
  refine ⟨h1, h2, ?_, h4⟩
  unfold R_wheel at h
  omega
theorem ok_vernier {H T E : Int → Int} {cc gc w d v x y i d' v' : Int} (hok : SOK H T E cc gc w d v) (h : R_vernier d v x y i d' v') : SOK H T E cc gc w d' v' := by
  obtain ⟨h1, h2, h3, h4, h5, h6⟩ := hok
  unfold R_vernier at h
  exact ⟨h1, h2, h3, by omega, by omega, h6⟩
theorem ok_circle {H T E H' : Int → Int} {cc gc w d v x i cc' : Int} (hok : SOK H T E cc gc w d v) (h : R_circle H cc x i cc' H') : SOK H' T E cc' gc w d v := by
  obtain ⟨h1, h2, h3, h4, h5, h6, h7⟩ := hok
  rcases h with ⟨-, -, e1, e2⟩ | ⟨-, -, -, e1, e2⟩ | ⟨-, -, -, -, e1, e2⟩ | ⟨g1, g2, -, -, e1, e2⟩
  · rw [e1, e2]
    exact ⟨h1, h2, h3, h4, h5, h6, h7⟩
  · rw [e1, e2]
    exact ⟨h1, h2, h3, h4, h5, h6, h7⟩
  · rw [e1, e2]
    exact ⟨h1, h2, h3, h4, h5, h6, h7⟩
  · rw [e1, e2]
    refine ⟨by omega, h2, h3, h4, h5, fun j a b => ?_, h7⟩
    by_cases e : j = cc
    · rw [e, jU_self]
      exact g1
    · rw [jU_ne _ _ e]
      exact h6 j a (by omega)
theorem ok_gear {H T E T' : Int → Int} {cc gc w d v x i gc' : Int} (hok : SOK H T E cc gc w d v) (h : R_gear T gc x i gc' T') : SOK H T' E cc gc' w d v := by
  obtain ⟨h1, h2, h3, h4, h5, h6, h7, h8⟩ := hok
  rcases h with ⟨-, -, e1, e2⟩ | ⟨-, -, -, e1, e2⟩ | ⟨g1, g2, -, e1, e2⟩
  · rw [e1, e2]
    exact ⟨h1, h2, h3, h4, h5, h6, h7, h8⟩
  · rw [e1, e2]
    exact ⟨h1, h2, h3, h4, h5, h6, h7, h8⟩
  · rw [e1, e2]
    refine ⟨h1, by omega, h3, h4, h5, h6, fun j a b => ?_, h8⟩
    by_cases e : j = gc
    · rw [e, jU_self]
      exact g1
    · rw [jU_ne _ _ e]
      exact h7 j a (by omega)
theorem ok_error {H T E E' : Int → Int} {cc gc w d v k x i : Int} (hok : SOK H T E cc gc w d v) (h : R_error E k x i E') : SOK H T E' cc gc w d v := by
  obtain ⟨h1, h2, h3, h4, h5, h6, h7, h8⟩ := hok
  rcases h with ⟨-, -, e2⟩ | ⟨-, -, -, e2⟩ | ⟨-, g2, -, e2⟩
  · rw [e2]
    exact ⟨h1, h2, h3, h4, h5, h6, h7, h8⟩
  · rw [e2]
    exact ⟨h1, h2, h3, h4, h5, h6, h7, h8⟩
  · rw [e2]
    refine ⟨h1, h2, h3, h4, h5, h6, h7, fun j a b => ?_⟩
    by_cases e : j = k
    · rw [e, jU_self]
      exact g2
    · rw [jU_ne _ _ e]
      exact h8 j a b
abbrev LWorld (x x0 x1 x2 x3 y y0 y1 y2 y3 : Nat) (cA : ClassId) (H T E F G : Int → Int) (cc gc w d v : Int) : va_W := [(x, .inr (0, [.ref x0, .ref x1, .ref x2, .ref x3, jI cc, jI gc, jI w, jI d, jI v])), (x0, .inl (cA, 8, .inl (jF H))), (x1, .inl (cA, 10, .inl (jF T))), (x2, .inl (cA, 8, .inl (jF E))), (x3, .inl (cA, 4, .inl (jF F))), (y, .inr (1, [jI w, jI cc, .ref y0, jI gc, .ref y1, .ref y2, jI d, jI v, .ref y3])), (y0, .inl (cA, 8, .inl (jF H))), (y1, .inl (cA, 10, .inl (jF T))), (y2, .inl (cA, 8, .inl (jF E))), (y3, .inl (cA, 4, .inl (jF G)))]
/-- what holds at the law's loop -/
def LInv (s : State) (D : va_G) (A : Nat → Prop) (x x0 x1 x2 x3 y y0 y1 y2 y3 : Nat) (cA : ClassId) (H T E F G : Int → Int) (cc gc w d v : Int) (Hp : Heap) (lc : List Loc) : Prop := SOK H T E cc gc w d v ∧ va_P D vwCl (LWorld x x0 x1 x2 x3 y y0 y1 y2 y3 cA H T E F G cc gc w d v) Hp ∧ va_D A (LWorld x x0 x1 x2 x3 y y0 y1 y2 y3 cA H T E F G cc gc w d v) ∧ va_S A s.heap Hp lc
abbrev LLs (b x y : Nat) (i : Int) : List (Nat × Value) := [(3, jI i), (2, .ref y), (1, .ref x), (0, .ref b)]
