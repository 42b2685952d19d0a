/-! worlds and contracts -/
abbrev SOK (H T E : Int → Int) (cc gc w d v : Int) : Prop := (0 ≤ cc ∧ cc ≤ 8) ∧ (0 ≤ gc ∧ gc ≤ 10) ∧ (10 ≤ w ∧ w ≤ 200) ∧ (2 ≤ d ∧ d ≤ 720) ∧ (2 ≤ v ∧ v ≤ 60) ∧ (∀ j, 0 ≤ j → j < cc → 5 ≤ H j ∧ H j ≤ 120) ∧ (∀ j, 0 ≤ j → j < gc → 12 ≤ T j ∧ T j ≤ 120) ∧ (∀ j, 0 ≤ j → j < 8 → -100 ≤ E j ∧ E j ≤ 100)
abbrev XW (h a0 a1 a2 a3 : Nat) (cA : ClassId) (H T E F : Int → Int) (cc gc w d v : Int) : va_W := [(h, .inr (0, [.ref a0, .ref a1, .ref a2, .ref a3, jI cc, jI gc, jI w, jI d, jI v])), (a0, .inl (cA, 8, .inl (jF H))), (a1, .inl (cA, 10, .inl (jF T))), (a2, .inl (cA, 8, .inl (jF E))), (a3, .inl (cA, 4, .inl (jF F)))]
abbrev MW (h a0 a1 a2 a3 : Nat) (cA : ClassId) (H T E F : Int → Int) (cc gc w d v : Int) : va_W := [(h, .inr (1, [jI w, jI cc, .ref a0, jI gc, .ref a1, .ref a2, jI d, jI v, .ref a3])), (a0, .inl (cA, 8, .inl (jF H))), (a1, .inl (cA, 10, .inl (jF T))), (a2, .inl (cA, 8, .inl (jF E))), (a3, .inl (cA, 4, .inl (jF F)))]
def WB (D : va_G) (ws : va_W) (cA : ClassId) : State → Prop := fun U => va_P D vwCl ws U.heap ∧ va_K D vwCl [(cA, .int)] U
def W0 : State → Prop := fun _ => True
def QI (post : Int → Prop) : Array Value → State → Outcome → State → Prop := fun _ st oc t => ∃ i : Int, oc = .returned (some (jI i)) ∧ post i ∧ t.heap = st.heap
def QL (post : Int → Prop) : Array Value → State → Outcome → State → Prop := fun _ st oc t => ∃ i : Int, oc = .returned (some (jL i)) ∧ post i ∧ t.heap = st.heap
abbrev MI (l : Launch) (y : MethodName) (ws : List Cond) (rm : Room) (as : List Value) (B : State → Prop) (post : Int → Prop) : Prop := Met l y ws rm (va_Pc as B) (QI post) 0 0 (fun _ => False)
abbrev ML (l : Launch) (y : MethodName) (ws : List Cond) (rm : Room) (as : List Value) (B : State → Prop) (post : Int → Prop) : Prop := Met l y ws rm (va_Pc as B) (QL post) 0 0 (fun _ => False)
def WM (D : va_G) (ws : va_W) (cA : ClassId) (sz : Nat) : State → Prop := fun U => U.heap.size = sz ∧ va_P D vwCl ws U.heap ∧ va_K D vwCl [(cA, .int)] U ∧ va_D (fun _ => True) ws
def WA (D : va_G) (cA : ClassId) (A : Nat → Prop) (ws : va_W) (t : State) : Prop := va_P D vwCl ws t.heap ∧ va_K D vwCl [(cA, .int)] t ∧ va_D A ws
abbrev MMI {S : Type} (l : Launch) (y : MethodName) (ws : List Cond) (rm : Room) (as : List Value) (D : va_G) (cA : ClassId) (w0 : va_W) (Wd : S → va_W) (sz : Nat) (post : Int → S → Prop) : Prop := Met l y ws rm (va_Pc as (WM D w0 cA sz)) (va_Qi (fun r u => ∃ i : Int, r = Int32.ofInt i ∧ post i u) (fun u t => WA D cA (va_A w0 sz) (Wd u) t) (va_A w0 sz)) 0 0 (va_A w0 sz)
abbrev MMV {S : Type} (l : Launch) (y : MethodName) (ws : List Cond) (rm : Room) (as : List Value) (D : va_G) (cA : ClassId) (w0 : va_W) (Wd : S → va_W) (sz : Nat) (post : S → Prop) : Prop := Met l y ws rm (va_Pc as (WM D w0 cA sz)) (va_Qv post (fun u t => WA D cA (va_A w0 sz) (Wd u) t) (va_A w0 sz)) 0 0 (va_A w0 sz)
theorem MI_of {l : Launch} {y : MethodName} {ws ws' : List Cond} {rm : Room} {as : List Value} {B : State → Prop} {post : Int → Prop} {cc : ByteArray} {maxL : Nat} (hy : plainName y.cls = true) (hw : ws = Cond.code y cc maxL (some .int) :: ws') (hn : (lg_sl as).length ≤ maxL)
    (body : ∀ (p : Program) (e : Env) (s : State) (m : MethodId) (args : Array Value) (below : List Frame) (meth : Method) (c : Code) (Q : State → Prop) (ls : Array Slot), CallFix p m c cc maxL s args ws y.cls → (∀ (i : Int) (pc : Nat) (ls' : Array Slot), post i → decode cc pc = .ok (.ireturn, 1) → W p l e rm s m args below meth c s.heap [] 0 0 Q (F0 m pc ls' [jI i])) → B s → lv_has ls maxL (lv_args 0 as) → W p l e rm s m args below meth c s.heap [] 0 0 Q (F0 m 0 ls [])) : MI l y ws rm as B post := by
  refine Met.ofW (cc := cc) (maxL := maxL) (ret := some .int) hy hw ?_
  intro p e s m args below meth c s₁ B' hml hv
  obtain ⟨rfl, hB⟩ := hv
  have hlocks := B'.notSynchronized
  rw [lg_entry_eq]
  exact body p e s m _ below meth c _ _ ⟨B'.exec, B'.bytes, hml, findClass_of_methodNamed B'.named, atoms_spec (ws := ws) B'.pre⟩ (fun i pc ls' hp hd => W.iret B'.exec B'.bytes B'.returns (fun t ht hW => ⟨i, rfl, hp, ht⟩) (fun _ h => by cases h) hd) hB (lv_entry as hn)
theorem nar_b {i : Int} (h : i = 0 ∨ i = 1) : narrow .boolean (jI i) = jI i := by
  rcases h with rfl | rfl <;> rfl
theorem MZ_of {l : Launch} {y : MethodName} {ws ws' : List Cond} {rm : Room} {as : List Value} {B : State → Prop} {post : Int → Prop} {cc : ByteArray} {maxL : Nat} (hy : plainName y.cls = true) (hw : ws = Cond.code y cc maxL (some .boolean) :: ws') (hn : (lg_sl as).length ≤ maxL)
    (body : ∀ (p : Program) (e : Env) (s : State) (m : MethodId) (args : Array Value) (below : List Frame) (meth : Method) (c : Code) (Q : State → Prop) (ls : Array Slot), CallFix p m c cc maxL s args ws y.cls → (∀ (i : Int) (pc : Nat) (ls' : Array Slot), (i = 0 ∨ i = 1) → post i → decode cc pc = .ok (.ireturn, 1) → W p l e rm s m args below meth c s.heap [] 0 0 Q (F0 m pc ls' [jI i])) → B s → lv_has ls maxL (lv_args 0 as) → W p l e rm s m args below meth c s.heap [] 0 0 Q (F0 m 0 ls [])) : MI l y ws rm as B post := by
  refine Met.ofW (cc := cc) (maxL := maxL) (ret := some .boolean) hy hw ?_
  intro p e s m args below meth c s₁ B' hml hv
  obtain ⟨rfl, hB⟩ := hv
  have hlocks := B'.notSynchronized
  rw [lg_entry_eq]
  exact body p e s m _ below meth c _ _ ⟨B'.exec, B'.bytes, hml, findClass_of_methodNamed B'.named, atoms_spec (ws := ws) B'.pre⟩ (fun i pc ls' hb hp hd => W.zret B'.exec B'.bytes B'.returns (nar_b hb) (fun t ht hW => ⟨i, rfl, hp, ht⟩) (fun _ h => by cases h) hd) hB (lv_entry as hn)
theorem ML_of {l : Launch} {y : MethodName} {ws ws' : List Cond} {rm : Room} {as : List Value} {B : State → Prop} {post : Int → Prop} {cc : ByteArray} {maxL : Nat} (hy : plainName y.cls = true) (hw : ws = Cond.code y cc maxL (some .long) :: ws') (hn : (lg_sl as).length ≤ maxL)
    (body : ∀ (p : Program) (e : Env) (s : State) (m : MethodId) (args : Array Value) (below : List Frame) (meth : Method) (c : Code) (Q : State → Prop) (ls : Array Slot), CallFix p m c cc maxL s args ws y.cls → (∀ (i : Int) (pc : Nat) (ls' : Array Slot), post i → decode cc pc = .ok (.lreturn, 1) → W p l e rm s m args below meth c s.heap [] 0 0 Q (F0 m pc ls' [jL i])) → B s → lv_has ls maxL (lv_args 0 as) → W p l e rm s m args below meth c s.heap [] 0 0 Q (F0 m 0 ls [])) : ML l y ws rm as B post := by
  refine Met.ofW (cc := cc) (maxL := maxL) (ret := some .long) hy hw ?_
  intro p e s m args below meth c s₁ B' hml hv
  obtain ⟨rfl, hB⟩ := hv
  have hlocks := B'.notSynchronized
  rw [lg_entry_eq]
  exact body p e s m _ below meth c _ _ ⟨B'.exec, B'.bytes, hml, findClass_of_methodNamed B'.named, atoms_spec (ws := ws) B'.pre⟩ (fun i pc ls' hp hd => W.lret B'.exec B'.bytes B'.returns (fun t ht hW => ⟨i, rfl, hp, ht⟩) (fun _ h => by cases h) hd) hB (lv_entry as hn)
theorem MMI_of {S : Type} {l : Launch} {y : MethodName} {ws ws' : List Cond} {rm : Room} {as : List Value} {D : va_G} {cA : ClassId} {w0 : va_W} {Wd : S → va_W} {sz : Nat} {post : Int → S → Prop} {cc : ByteArray} {maxL : Nat} {ty : FieldType} (hty : ty = .int ∨ ty = .boolean) (hy : plainName y.cls = true) (hw : ws = Cond.code y cc maxL (some ty) :: ws') (hn : (lg_sl as).length ≤ maxL)
    (body : ∀ (p : Program) (e : Env) (s : State) (m : MethodId) (args : Array Value) (below : List Frame) (meth : Method) (c : Code) (Q : State → Prop) (ls : Array Slot) (A : Nat → Prop), CallFix p m c cc maxL s args ws y.cls → (∀ (i : Int) (u : S) (H1 : Heap) (locs1 : List Loc) (pc : Nat) (ls' : Array Slot), (ty = .boolean → (i = 0 ∨ i = 1)) → post i u → va_P D vwCl (Wd u) H1 → va_D A (Wd u) → va_S A s.heap H1 locs1 → decode cc pc = .ok (.ireturn, 1) → W p l e rm s m args below meth c H1 locs1 0 0 Q (F0 m pc ls' [jI i])) → va_P D vwCl w0 s.heap → va_K D vwCl [(cA, .int)] s → va_D A w0 → va_S A s.heap s.heap [] → (∀ q, s.heap.size ≤ q → A q) → lv_has ls maxL (lv_args 0 as) → W p l e rm s m args below meth c s.heap [] 0 0 Q (F0 m 0 ls [])) : MMI l y ws rm as D cA w0 Wd sz post := by
  refine Met.ofW (cc := cc) (maxL := maxL) (ret := some ty) hy hw ?_
  intro p e s m args below meth c s₁ B' hml hv
  obtain ⟨rfl, hsz, hP, hK, hD0⟩ := hv
  subst hsz
  have hlocks := B'.notSynchronized
  rw [lg_entry_eq]
  refine body p e s m _ below meth c _ _ (va_A w0 s.heap.size) ⟨B'.exec, B'.bytes, hml, findClass_of_methodNamed B'.named, atoms_spec (ws := ws) B'.pre⟩ (fun i u H1 locs1 pc ls' hb hp hP1 hD1 hS1 hd => ?_) hP hK hD0.self va_S.rf (fun q h => Or.inr h) (lv_entry as hn)
  have hq : ∀ t : State, t.heap = H1 → s.WarmedH t.vm → va_Qi (fun r u => ∃ i : Int, r = Int32.ofInt i ∧ post i u) (fun u t => WA D cA (va_A w0 s.heap.size) (Wd u) t) (va_A w0 s.heap.size) as.toArray s (.returned (some (.int (Int32.ofInt i)))) t := fun t ht hW => ⟨⟨_, u, rfl, ⟨i, rfl, hp⟩, by rw [ht]; exact hP1, va_K.moved hW.alike hK, hD1⟩, hS1.F ht⟩
  rcases hty with rfl | rfl
  · exact W.iret B'.exec B'.bytes B'.returns hq hS1.2.2 hd
  · exact W.zret B'.exec B'.bytes B'.returns (nar_b (hb rfl)) hq hS1.2.2 hd
theorem MMV_of {S : Type} {l : Launch} {y : MethodName} {ws ws' : List Cond} {rm : Room} {as : List Value} {D : va_G} {cA : ClassId} {w0 : va_W} {Wd : S → va_W} {sz : Nat} {post : S → Prop} {cc : ByteArray} {maxL : Nat} (hy : plainName y.cls = true) (hw : ws = Cond.code y cc maxL none :: ws') (hn : (lg_sl as).length ≤ maxL)
    (body : ∀ (p : Program) (e : Env) (s : State) (m : MethodId) (args : Array Value) (below : List Frame) (meth : Method) (c : Code) (Q : State → Prop) (ls : Array Slot) (A : Nat → Prop), CallFix p m c cc maxL s args ws y.cls → (∀ (u : S) (H1 : Heap) (locs1 : List Loc) (pc : Nat) (ls' : Array Slot), post u → va_P D vwCl (Wd u) H1 → va_D A (Wd u) → va_S A s.heap H1 locs1 → decode cc pc = .ok (.return_, 1) → W p l e rm s m args below meth c H1 locs1 0 0 Q (F0 m pc ls' [])) → va_P D vwCl w0 s.heap → va_K D vwCl [(cA, .int)] s → va_D A w0 → va_S A s.heap s.heap [] → (∀ q, s.heap.size ≤ q → A q) → lv_has ls maxL (lv_args 0 as) → W p l e rm s m args below meth c s.heap [] 0 0 Q (F0 m 0 ls [])) : MMV l y ws rm as D cA w0 Wd sz post := by
  refine Met.ofW (cc := cc) (maxL := maxL) (ret := none) hy hw ?_
  intro p e s m args below meth c s₁ B' hml hv
  obtain ⟨rfl, hsz, hP, hK, hD0⟩ := hv
  subst hsz
  have hlocks := B'.notSynchronized
  rw [lg_entry_eq]
  refine body p e s m _ below meth c _ _ (va_A w0 s.heap.size) ⟨B'.exec, B'.bytes, hml, findClass_of_methodNamed B'.named, atoms_spec (ws := ws) B'.pre⟩ (fun u H1 locs1 pc ls' hp hP1 hD1 hS1 hd => ?_) hP hK hD0.self va_S.rf (fun q h => Or.inr h) (lv_entry as hn)
  exact W.vret B'.exec B'.bytes B'.returns (fun t ht hW => ⟨⟨u, rfl, hp, by rw [ht]; exact hP1, va_K.moved hW.alike hK, hD1⟩, hS1.F ht⟩) hS1.2.2 hd
theorem WB_blind {D : va_G} {ws : va_W} {cA : ClassId} {as : List Value} : FrameBlind (va_Pc as (WB D ws cA)) := fun a U g mk q => ⟨q.1, q.2.1, va_K.moved (u := U) (U := U.calling g mk a) (Vm.Alike.refl U.vm) q.2.2⟩
theorem WM_blind {D : va_G} {ws : va_W} {cA : ClassId} {sz : Nat} {as : List Value} : FrameBlind (va_Pc as (WM D ws cA sz)) := fun a U g mk q => ⟨q.1, q.2.1, q.2.2.1, va_K.moved (u := U) (U := U.calling g mk a) (Vm.Alike.refl U.vm) q.2.2.2.1, q.2.2.2.2⟩
section JC
variable {p : Program} {l : Launch} {e : Env} {R : Room} {s : State} {m : MethodId} {args : Array Value} {below : List Frame} {meth : Method} {c : Code} {H : Heap} {locs : List Loc} {cells slots : Nat} {Q : State → Prop}
variable {cc bytes : ByteArray} {nL maxL n index : Nat} {Ts ws : List Cond} {own C : String} {pc : Nat} {ls : Array Slot} {st0 As : List Value} {y : MethodName} {rm : Room} {ret : Option FieldType} {post : Int → Prop} {b : Addr} {D : va_G} {wx : va_W} {cA : ClassId}
theorem j_get (S : CallFix p m c cc nL s args Ts own) {CT : String} {T : u_T} {N ci : Nat} {a : Nat} {rest : List Value} (hin : ∀ w ∈ u_ws CT T N, w ∈ Ts) (hK : va_K D vwCl [(cA, .int)] s) (hP : va_P D vwCl wx H) {fs : List Value} (he : wx[0]? = some (a, .inr (ci, fs))) (hc : vwCl[ci]? = some (CT, T, N)) (k : Nat) (hk : k < N) (hlink : (Cond.fieldLink own index (T k).1 (T k).2.1 (T k).2.2.1) ∈ Ts) {v : Value} (hv : fs[k]? = some v) (hdg : decode cc pc = .ok (.getfield index, 3)) (kk : W p l e R s m args below meth c H locs cells slots Q (F0 m (pc + 3) ls (v :: rest))) : W p l e R s m args below meth c H locs cells slots Q (F0 m pc ls (.ref a :: rest)) :=
  va_get S.1 S.2.1 S.2.2.2.2 hin S.2.2.2.1 hK hP 0 he hc k hk (S.2.2.2.2 _ hlink) (fun _ h => h) hv hdg kk
theorem j_put (S : CallFix p m c cc nL s args Ts own) {CT : String} {T : u_T} {N ci : Nat} {a : Nat} {A : Nat → Prop} {H0 : Heap} {rest : List Value} (hin : ∀ w ∈ u_ws CT T N, w ∈ Ts) (ty0 : Nat → FieldType) (hty : ∀ k, k < N → parseFieldDescriptor (T k).2.2.1 = some (ty0 k)) (hnm : ∀ a, a < N → ∀ b, b < N → a ≠ b → (T a).2.1 ≠ (T b).2.1) (hK : va_K D vwCl [(cA, .int)] s) (hP : va_P D vwCl wx H) (hD : va_D A wx) (hS : va_S A H0 H locs) {fs : List Value} {wx1 : va_W} {x : Int} (he : wx[0]? = some (a, .inr (ci, fs))) (hc : vwCl[ci]? = some (CT, T, N)) (k : Nat) (hk : k < N) (hlink : (Cond.fieldLink own index (T k).1 (T k).2.1 (T k).2.2.1) ∈ Ts) (hfin : (T k).2.2.2 = false) (hd : parseFieldDescriptor (T k).2.2.1 = some .int) (hl : k < fs.length) (h1 : wx.set 0 (a, .inr (ci, fs.set k (jI x))) = wx1) (hdg : decode cc pc = .ok (.putfield index, 3)) (kk : ∀ (H1 : Heap) (locs1 : List Loc), va_P D vwCl wx1 H1 → va_D A wx1 → va_S A H0 H1 locs1 → W p l e R s m args below meth c H1 locs1 cells slots Q (F0 m (pc + 3) ls rest)) : W p l e R s m args below meth c H locs cells slots Q (F0 m pc ls (jI x :: .ref a :: rest)) := by
  subst h1
  exact va_put S.1 S.2.1 S.2.2.2.2 hin ty0 hty hnm S.2.2.2.1 hK hP hD hS 0 he hc k hk (S.2.2.2.2 _ hlink) (fun _ h => h) hfin hd rfl rfl hl hdg kk
theorem j_csi (S : CallFix p m c cc nL s args Ts own) (hM : MI l y ws rm As W0 post) (cw : CallB R s args own index y bytes maxL ret ws rm 0 0 n ∧ (Cond.static y).before args s = true) (rest : List Value) (hst : st0 = As.reverse ++ rest) (hn : As.length = n) (hsz : ls.size = nL) (hW : (rest.map fun v => v.category).sum ≤ 8) (hf : cells ≤ R.cells ∧ slots ≤ R.slots) (hdg : decode cc pc = .ok (.invokestatic index, 3)) (kk : ∀ i : Int, post i → W p l e R s m args below meth c H locs cells slots Q (F0 m (pc + 3) ls (jI i :: rest))) : W p l e R s m args below meth c H locs cells slots Q (F0 m pc ls st0) := by
  have hr := W.runS (e := e) (H := H) (locs := locs) (below := below) (meth := meth) (g := F0 m pc ls st0) S hM cw ⟨fun _ _ _ _ q => ⟨q.1, trivial⟩, fun _ _ _ => ⟨rfl, trivial⟩⟩ rfl hn hsz hst (lv_room hW) hdg hf
  intro T hT X
  obtain ⟨v, st₀, t, T', L, h0, X', hL, e1, ⟨i, hv, hp, hh⟩, st⟩ := hr T hT X
  cases hv
  obtain ⟨t2, a1, b1⟩ := kk i hp T' (by rw [e1, hh, h0]) (Stand.forget X' (fun q h => (hL q h).elim))
  exact ⟨t2, st t2 a1, b1⟩
theorem j_csl (S : CallFix p m c cc nL s args Ts own) (hM : ML l y ws rm As W0 post) (cw : CallB R s args own index y bytes maxL ret ws rm 0 0 n ∧ (Cond.static y).before args s = true) (rest : List Value) (hst : st0 = As.reverse ++ rest) (hn : As.length = n) (hsz : ls.size = nL) (hW : (rest.map fun v => v.category).sum ≤ 8) (hf : cells ≤ R.cells ∧ slots ≤ R.slots) (hdg : decode cc pc = .ok (.invokestatic index, 3)) (kk : ∀ i : Int, post i → W p l e R s m args below meth c H locs cells slots Q (F0 m (pc + 3) ls (jL i :: rest))) : W p l e R s m args below meth c H locs cells slots Q (F0 m pc ls st0) := by
  have hr := W.runS (e := e) (H := H) (locs := locs) (below := below) (meth := meth) (g := F0 m pc ls st0) S hM cw ⟨fun _ _ _ _ q => ⟨q.1, trivial⟩, fun _ _ _ => ⟨rfl, trivial⟩⟩ rfl hn hsz hst (lv_room hW) hdg hf
  intro T hT X
  obtain ⟨v, st₀, t, T', L, h0, X', hL, e1, ⟨i, hv, hp, hh⟩, st⟩ := hr T hT X
  cases hv
  obtain ⟨t2, a1, b1⟩ := kk i hp T' (by rw [e1, hh, h0]) (Stand.forget X' (fun q h => (hL q h).elim))
  exact ⟨t2, st t2 a1, b1⟩
theorem j_cvi (S : CallFix p m c cc nL s args Ts own) (hM : MI l y ws rm (.ref b :: As) (WB D wx cA) post) (cw : CallW R s args own C index y bytes maxL ret ws rm 0 0 n) (hK : va_K D vwCl [(cA, .int)] s) (hP : va_P D vwCl wx H) {ci : Nat} {q : vw_C} {fs : List Value} (hc : vwCl[ci]? = some q) (hq : q.1 = C) (he : wx[0]? = some (b, .inr (ci, fs))) (rest : List Value) (hst : st0 = As.reverse ++ .ref b :: rest) (hn : As.length = n) (hsz : ls.size = nL) (hW : (rest.map fun v => v.category).sum ≤ 8) (hf : cells ≤ R.cells ∧ slots ≤ R.slots) (hdg : decode cc pc = .ok (.invokevirtual index, 3)) (kk : ∀ i : Int, post i → W p l e R s m args below meth c H locs cells slots Q (F0 m (pc + 3) ls (jI i :: rest))) : W p l e R s m args below meth c H locs cells slots Q (F0 m pc ls st0) := by
  subst hq
  have hr := W.runV (e := e) (H := H) (locs := locs) (below := below) (meth := meth) (g := F0 m pc ls st0) S hM cw ⟨WB_blind, va_recv hK hP hc he, fun U hU hW => ⟨rfl, by rw [hU]; exact hP, va_K.moved hW.alike hK⟩⟩ rfl hn hsz hst (lv_room hW) hdg hf
  intro T hT X
  obtain ⟨v, st₀, t, T', L, h0, X', hL, e1, ⟨i, hv, hp, hh⟩, st⟩ := hr T hT X
  cases hv
  obtain ⟨t2, a1, b1⟩ := kk i hp T' (by rw [e1, hh, h0]) (Stand.forget X' (fun q h => (hL q h).elim))
  exact ⟨t2, st t2 a1, b1⟩
theorem j_cvl (S : CallFix p m c cc nL s args Ts own) (hM : ML l y ws rm (.ref b :: As) (WB D wx cA) post) (cw : CallW R s args own C index y bytes maxL ret ws rm 0 0 n) (hK : va_K D vwCl [(cA, .int)] s) (hP : va_P D vwCl wx H) {ci : Nat} {q : vw_C} {fs : List Value} (hc : vwCl[ci]? = some q) (hq : q.1 = C) (he : wx[0]? = some (b, .inr (ci, fs))) (rest : List Value) (hst : st0 = As.reverse ++ .ref b :: rest) (hn : As.length = n) (hsz : ls.size = nL) (hW : (rest.map fun v => v.category).sum ≤ 8) (hf : cells ≤ R.cells ∧ slots ≤ R.slots) (hdg : decode cc pc = .ok (.invokevirtual index, 3)) (kk : ∀ i : Int, post i → W p l e R s m args below meth c H locs cells slots Q (F0 m (pc + 3) ls (jL i :: rest))) : W p l e R s m args below meth c H locs cells slots Q (F0 m pc ls st0) := by
  subst hq
  have hr := W.runV (e := e) (H := H) (locs := locs) (below := below) (meth := meth) (g := F0 m pc ls st0) S hM cw ⟨WB_blind, va_recv hK hP hc he, fun U hU hW => ⟨rfl, by rw [hU]; exact hP, va_K.moved hW.alike hK⟩⟩ rfl hn hsz hst (lv_room hW) hdg hf
  intro T hT X
  obtain ⟨v, st₀, t, T', L, h0, X', hL, e1, ⟨i, hv, hp, hh⟩, st⟩ := hr T hT X
  cases hv
  obtain ⟨t2, a1, b1⟩ := kk i hp T' (by rw [e1, hh, h0]) (Stand.forget X' (fun q h => (hL q h).elim))
  exact ⟨t2, st t2 a1, b1⟩
/-- a call that writes in its own world wc, which is a part of the caller's -/
theorem j_cvm {U : Type} {Wd : U → va_W} {post : Int → U → Prop} {wc wr : va_W} {A : Nat → Prop} {H0 : Heap} (isC isR : List Nat) (S : CallFix p m c cc nL s args Ts own) (hM : MMI l y ws rm (.ref b :: As) D cA wc Wd H.size post) (cw : CallW R s args own C index y bytes maxL ret ws rm 0 0 n) (hK : va_K D vwCl [(cA, .int)] s) (hP : va_P D vwCl wx H) (hD : va_D A wx) (hS : va_S A H0 H locs) (hA : ∀ q, H0.size ≤ q → A q) (hC : isC.map (fun i => wx[i]?) = wc.map some) (hR : isR.map (fun i => wx[i]?) = wr.map some) (hcn : va_nd isC = true) (hrn : va_nd isR = true) (hdis : ∀ i ∈ isR, i ∉ isC) {ci : Nat} {q : vw_C} {fs : List Value} (hc : vwCl[ci]? = some q) (hq : q.1 = C) (he : wc[0]? = some (b, .inr (ci, fs))) (rest : List Value) (hst : st0 = As.reverse ++ .ref b :: rest) (hn : As.length = n) (hsz : ls.size = nL) (hW : (rest.map fun v => v.category).sum ≤ 8) (hf : cells ≤ R.cells ∧ slots ≤ R.slots) (hdg : decode cc pc = .ok (.invokevirtual index, 3)) (kk : ∀ (i : Int) (u : U) (H1 : Heap) (locs1 : List Loc), post i u → va_P D vwCl (wr ++ Wd u) H1 → va_D A (wr ++ Wd u) → va_S A H0 H1 locs1 → W p l e R s m args below meth c H1 locs1 cells slots Q (F0 m (pc + 3) ls (jI i :: rest))) : W p l e R s m args below meth c H locs cells slots Q (F0 m pc ls st0) := by
  subst hq
  have hPc : va_P D vwCl wc H := hP.by (fun k => (isC[k]?).getD 0) (fun k q hk => by
    obtain ⟨i, h1, h2⟩ := va_in_of isC hC hk
    rw [h1]
    exact h2)
  have hDc : va_D A wc := hD.sub isC hcn hC
  have hFc := va_free (wc := wc) hD hS hA isC hC
  refine va_calli (va_runV (H := H) (locs := locs) (below := below) (meth := meth) (g := F0 m pc ls st0) (rest := rest) S hM cw ⟨WM_blind, va_recv hK hPc hc he, fun U hU hW => ⟨rfl, by rw [hU], by rw [hU]; exact hPc, va_K.moved hW.alike hK, hDc.weaken (fun _ _ _ _ => trivial)⟩⟩ rfl hn hsz hst (lv_room hW) hdg hf) hS (fun q _ h => hFc q h) hFc (fun r u t H1 locs1 ht hvm hw hB hz1 hk1 hS1 => ?_)
  obtain ⟨i, rfl, hp⟩ := hw
  obtain ⟨hP1, hK1, hD1⟩ := hB
  rw [ht] at hP1
  obtain ⟨hP2, hD2⟩ := va_join (wr := wr) (w1 := Wd u) hP hD isC isR hC hR hrn hdis hk1 hFc hP1 hD1
  exact kk i u H1 locs1 hp hP2 hD2 hS1
theorem j_cvv {U : Type} {Wd : U → va_W} {post : U → Prop} {wc wr : va_W} {A : Nat → Prop} {H0 : Heap} (isC isR : List Nat) (S : CallFix p m c cc nL s args Ts own) (hM : MMV l y ws rm (.ref b :: As) D cA wc Wd H.size post) (cw : CallW R s args own C index y bytes maxL ret ws rm 0 0 n) (hK : va_K D vwCl [(cA, .int)] s) (hP : va_P D vwCl wx H) (hD : va_D A wx) (hS : va_S A H0 H locs) (hA : ∀ q, H0.size ≤ q → A q) (hC : isC.map (fun i => wx[i]?) = wc.map some) (hR : isR.map (fun i => wx[i]?) = wr.map some) (hcn : va_nd isC = true) (hrn : va_nd isR = true) (hdis : ∀ i ∈ isR, i ∉ isC) {ci : Nat} {q : vw_C} {fs : List Value} (hc : vwCl[ci]? = some q) (hq : q.1 = C) (he : wc[0]? = some (b, .inr (ci, fs))) (rest : List Value) (hst : st0 = As.reverse ++ .ref b :: rest) (hn : As.length = n) (hsz : ls.size = nL) (hW : (rest.map fun v => v.category).sum ≤ 8) (hf : cells ≤ R.cells ∧ slots ≤ R.slots) (hdg : decode cc pc = .ok (.invokevirtual index, 3)) (kk : ∀ (u : U) (H1 : Heap) (locs1 : List Loc), post u → va_P D vwCl (wr ++ Wd u) H1 → va_D A (wr ++ Wd u) → va_S A H0 H1 locs1 → W p l e R s m args below meth c H1 locs1 cells slots Q (F0 m (pc + 3) ls rest)) : W p l e R s m args below meth c H locs cells slots Q (F0 m pc ls st0) := by
  subst hq
  have hPc : va_P D vwCl wc H := hP.by (fun k => (isC[k]?).getD 0) (fun k q hk => by
    obtain ⟨i, h1, h2⟩ := va_in_of isC hC hk
    rw [h1]
    exact h2)
  have hDc : va_D A wc := hD.sub isC hcn hC
  have hFc := va_free (wc := wc) hD hS hA isC hC
  refine va_callv (va_runV (H := H) (locs := locs) (below := below) (meth := meth) (g := F0 m pc ls st0) (rest := rest) S hM cw ⟨WM_blind, va_recv hK hPc hc he, fun U hU hW => ⟨rfl, by rw [hU], by rw [hU]; exact hPc, va_K.moved hW.alike hK, hDc.weaken (fun _ _ _ _ => trivial)⟩⟩ rfl hn hsz hst (lv_room hW) hdg hf) hS (fun q _ h => hFc q h) hFc (fun u t H1 locs1 ht hvm hw hB hz1 hk1 hS1 => ?_)
  obtain ⟨hP1, hK1, hD1⟩ := hB
  rw [ht] at hP1
  obtain ⟨hP2, hD2⟩ := va_join (wr := wr) (w1 := Wd u) hP hD isC isR hC hR hrn hdis hk1 hFc hP1 hD1
  exact kk u H1 locs1 hw hP2 hD2 hS1
/-- Math's own -/
theorem j_mabs (S : CallFix p m c cc nL s args Ts own) (hsz : ls.size = nL) (hlink : Cond.methodLink own index Lib.Math.abs.name ∈ Ts) (hstat : Cond.static Lib.Math.abs.name ∈ Ts) (hini : Cond.initialized "java/lang/Math" ∈ Ts) (hcode : Cond.code Lib.Math.abs.name Lib.Math.abs.code 1 (some .int) ∈ Ts) (hf : 1 ≤ R.frames) {rest : List Value} (hl : (rest.map fun v => v.category).sum + 13 ≤ R.locals) (hcs : cells ≤ R.cells ∧ slots ≤ R.slots) {a lo hi : Int} (ha : lo ≤ a ∧ a ≤ hi) (hb : (decide (-2147483647 ≤ lo) && decide (hi ≤ 2147483647)) = true) (hdg : decode cc pc = .ok (.invokestatic index, 3)) (kk : W p l e R s m args below meth c H locs cells slots Q (F0 m (pc + 3) ls (jI ((a.natAbs : Nat) : Int) :: rest))) : W p l e R s m args below meth c H locs cells slots Q (F0 m pc ls (jI a :: rest)) := by
  simp only [Bool.and_eq_true, decide_eq_true_eq] at hb
  refine va_mabs S.1 S.2.1 (by rw [S.2.2.1, hsz]) S.2.2.2.1 (S.2.2.2.2 _ hlink) (S.2.2.2.2 _ hstat) (S.2.2.2.2 _ hini) (S.2.2.2.2 _ hcode) hf hl hcs.1 hcs.2 hdg ?_
  have e : (if (0 : Int32) ≤ Int32.ofInt a then Int32.ofInt a else 0 - Int32.ofInt a) = Int32.ofInt ((a.natAbs : Nat) : Int) := by
    rw [oI_zero]
    by_cases h : 0 ≤ a
    · rw [if_pos ((oI_le in0 (by omega)).mpr h)]
      congr 1
      omega
    · rw [if_neg (fun q => h ((oI_le in0 (by omega)).mp q)), ← Int32.ofInt_sub]
      congr 1
      omega
  rw [e]
  exact kk
theorem j_mabsl (S : CallFix p m c cc nL s args Ts own) (hsz : ls.size = nL) (hlink : Cond.methodLink own index Lib.MathLoose.abs_long.x ∈ Ts) (hstat : Cond.static Lib.MathLoose.abs_long.x ∈ Ts) (hini : Cond.initialized "java/lang/Math" ∈ Ts) (hcode : Cond.code Lib.MathLoose.abs_long.x Lib.MathLoose.abs_long.code 2 (some .long) ∈ Ts) (hf : 1 ≤ R.frames) {rest : List Value} (hl : (rest.map fun v => v.category).sum + 13 ≤ R.locals) (hcs : cells ≤ R.cells ∧ slots ≤ R.slots) {a lo hi : Int} (ha : lo ≤ a ∧ a ≤ hi) (hb : (decide (-9223372036854775807 ≤ lo) && decide (hi ≤ 9223372036854775807)) = true) (hdg : decode cc pc = .ok (.invokestatic index, 3)) (kk : W p l e R s m args below meth c H locs cells slots Q (F0 m (pc + 3) ls (jL ((a.natAbs : Nat) : Int) :: rest))) : W p l e R s m args below meth c H locs cells slots Q (F0 m pc ls (jL a :: rest)) := by
  simp only [Bool.and_eq_true, decide_eq_true_eq] at hb
  refine va_mabs_long S.1 S.2.1 (by rw [S.2.2.1, hsz]) S.2.2.2.1 (S.2.2.2.2 _ hlink) (S.2.2.2.2 _ hstat) (S.2.2.2.2 _ hini) (S.2.2.2.2 _ hcode) hf hl hcs.1 hcs.2 hdg ?_
  have e : (if (0 : Int64) < Int64.ofInt a then Int64.ofInt a else -Int64.ofInt a) = Int64.ofInt ((a.natAbs : Nat) : Int) := by
    have hz : (0 : Int64) = Int64.ofInt 0 := by decide
    rw [hz]
    by_cases h : 0 < a
    · rw [if_pos ((oL_lt (by decide) (by omega)).mpr h)]
      congr 1
      omega
    · rw [if_neg (fun q => h ((oL_lt (by decide) (by omega)).mp q)), ← Int64.ofInt_neg]
      congr 1
      omega
  rw [e]
  exact kk
theorem j_mmax (S : CallFix p m c cc nL s args Ts own) (hsz : ls.size = nL) (hlink : Cond.methodLink own index Lib.Math.max.name ∈ Ts) (hstat : Cond.static Lib.Math.max.name ∈ Ts) (hini : Cond.initialized "java/lang/Math" ∈ Ts) (hcode : Cond.code Lib.Math.max.name Lib.Math.max.code 2 (some .int) ∈ Ts) (hf : 1 ≤ R.frames) {rest : List Value} (hl : (rest.map fun v => v.category).sum + 13 ≤ R.locals) (hcs : cells ≤ R.cells ∧ slots ≤ R.slots) {a b : Int} (ha : inI a) (hb : inI b) (hdg : decode cc pc = .ok (.invokestatic index, 3)) (kk : W p l e R s m args below meth c H locs cells slots Q (F0 m (pc + 3) ls (jI (max a b) :: rest))) : W p l e R s m args below meth c H locs cells slots Q (F0 m pc ls (jI b :: jI a :: rest)) := by
  refine va_mmax S.1 S.2.1 (by rw [S.2.2.1, hsz]) S.2.2.2.1 (S.2.2.2.2 _ hlink) (S.2.2.2.2 _ hstat) (S.2.2.2.2 _ hini) (S.2.2.2.2 _ hcode) hf hl hcs.1 hcs.2 hdg ?_
  have e : (if Int32.ofInt a < Int32.ofInt b then Int32.ofInt b else Int32.ofInt a) = Int32.ofInt (max a b) := by
    by_cases h : a < b
    · rw [if_pos ((oI_lt ha hb).mpr h)]
      congr 1
      omega
    · rw [if_neg (fun q => h ((oI_lt ha hb).mp q))]
      congr 1
      omega
  rw [e]
  exact kk
end JC
