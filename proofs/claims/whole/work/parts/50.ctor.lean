/-! the constructors -/
def jZ : Int → Int := fun _ => 0
theorem kk_eq {D : va_G} {cA cB : ClassId} {U : State} (h : va_K D vwCl [(cA, .int), (cB, .int)] U) : cA = cB := by
  have h1 := va_nm_int (h.2 0 _ rfl).2
  have h2 := va_nm_int (h.2 1 _ rfl).2
  exact Option.some.inj (h1.symm.trans h2)
abbrev XN (h : Nat) : va_W := [(h, .inr (0, [.null, .null, .null, .null, jI 0, jI 0, jI 0, jI 0, jI 0]))]
abbrev MN (h : Nat) : va_W := [(h, .inr (1, [jI 0, jI 0, .null, jI 0, .null, .null, jI 0, jI 0, .null]))]
def AtX (D : va_G) (A : Nat → Prop) (h : Nat) (t : State) : Prop := ∃ (a0 a1 a2 a3 : Nat) (cA : ClassId), va_P D vwCl (XW h a0 a1 a2 a3 cA jZ jZ jZ jZ 0 0 40 360 10) t.heap ∧ va_K D vwCl [(cA, .int)] t ∧ va_D A (XW h a0 a1 a2 a3 cA jZ jZ jZ jZ 0 0 40 360 10)
def AtM (D : va_G) (A : Nat → Prop) (h : Nat) (t : State) : Prop := ∃ (a0 a1 a2 a3 : Nat) (cA : ClassId), va_P D vwCl (MW h a0 a1 a2 a3 cA jZ jZ jZ jZ 0 0 40 360 10) t.heap ∧ va_K D vwCl [(cA, .int)] t ∧ va_D A (MW h a0 a1 a2 a3 cA jZ jZ jZ jZ 0 0 40 360 10)
def WN (D : va_G) (ws : va_W) (sz : Nat) : State → Prop := fun U => U.heap.size = sz ∧ va_P D vwCl ws U.heap ∧ va_K D vwCl [] U ∧ va_D (fun _ => True) ws
theorem WN_blind {D : va_G} {ws : va_W} {sz : Nat} {as : List Value} : FrameBlind (va_Pc as (WN D ws sz)) := fun a U g mk q => ⟨q.1, q.2.1, q.2.2.1, va_K.moved (u := U) (U := U.calling g mk a) (Vm.Alike.refl U.vm) q.2.2.2.1, q.2.2.2.2⟩
abbrev rmX0_init : Room := { frames := 1, cells := 4, slots := 30, locals := 24 }
set_option maxHeartbeats 4000000 in
set_option maxRecDepth 100000 in
theorem c_X0_init (l : Launch) (D : va_G) (h sz : Nat) : Met l yX0_init wsX0_init rmX0_init (va_Pc [.ref h] (WN D (XN h) sz)) (va_Qv (fun _ : Unit => True) (fun _ t => AtX D (va_A (XN h) sz) h t) (va_A (XN h) sz)) 4 30 (va_A (XN h) sz) := by
  refine Met.ofW (cc := cX0_init) (maxL := 1) (ret := none) (by decide) rfl ?_
  intro p e s m args below meth c s₁ B hml hv
  obtain ⟨rfl, hsz, hP, hK, hD0⟩ := hv
  have hx := B.exec
  have hb := B.bytes
  have hr := B.returns
  have hts := atoms_spec (ws := wsX0_init) B.pre
  have hown : s.vm.findClass RX0 = some m.cls := findClass_of_methodNamed B.named
  have hlocks := B.notSynchronized
  have hin2 : meth.name = "<init>" := (name_of_methodNamed B.named B.method).1
  have hin : ∀ w ∈ wsX00, w ∈ wsX0_init := fun w hw => List.mem_cons_of_mem _ (List.mem_append_right _ hw)
  subst hsz
  have hD := hD0.self (sz := s.heap.size)
  generalize hAe : va_A (XN h) s.heap.size = A at hD ⊢
  have hA : ∀ q : Nat, s.heap.size ≤ q → A q := fun q h => by rw [← hAe]; exact Or.inr h
  have hS : va_S A s.heap s.heap [] := va_S.rf
  have hl := lv_entry ([.ref h]) (n := 1) (Nat.le_of_ble_eq_true rfl)
  rw [lg_entry_eq]
  generalize (lg_sl ([.ref h]) ++ List.replicate (1 - (lg_sl ([.ref h])).length) Slot.unset).toArray = ls at hl ⊢
  have hl : lv_has ls 1 [(0, .ref h)] := hl
  refine lv_aload_n hx hb dX0_init_0 rfl (lv_at hl 0 rfl) ?_
  refine W.objInit hx hb hown (hts _ (List.mem_of_getElem? (i := 1) rfl)) (hts _ (List.mem_of_getElem? (i := 2) rfl)) (hts _ (List.mem_of_getElem? (i := 3) rfl)) rfl (by rw [hml]; exact hl.1) rfl dX0_init_1 (Nat.le_of_ble_eq_true rfl) (Nat.le_of_ble_eq_true rfl) ?_
  refine W.eq (g2 := F0 m 4 ls []) rfl ?_
  refine lv_aload_n hx hb dX0_init_4 rfl (lv_at hl 0 rfl) ?_
  refine lv_bipush (v := Int32.ofInt 8) hx hb dX0_init_5 (by decide) ?_
  refine va_newa (atype := .int) (N' := 8) (a0 := (8, .inl (jF jZ))) hx hb (hts _ (List.mem_of_getElem? (i := 4) rfl)) rfl hK hP hD hS hA (fun cA => rfl) (by decide) (by decide) (by decide) (Nat.le_of_ble_eq_true rfl) (Nat.le_of_ble_eq_true rfl) dX0_init_7 (fun a0 cA Hp hK hP hD hS => ?_)
  have hK : va_K D vwCl [(cA, .int)] s := hK
  have hP : va_P D vwCl [(h, .inr (0, [.null, .null, .null, .null, jI 0, jI 0, jI 0, jI 0, jI 0])), (a0, .inl (cA, 8, .inl (jF jZ)))] Hp := hP
  have hD : va_D A [(h, .inr (0, [.null, .null, .null, .null, jI 0, jI 0, jI 0, jI 0, jI 0])), (a0, .inl (cA, 8, .inl (jF jZ)))] := hD
  refine W.widen (k := 1) (n := 8) (by omega) (by omega) ?_
  refine va_putF (D := D) (ci := 0) (v := .ref a0) (ty := .array .int) (C := RX0) (T := TX0) (N := 9) hx hb hts hin tyX0 tyX0_ok nmX0 hown hK hP hD hS 0 rfl rfl 0 (by decide) (hts _ (List.mem_of_getElem? (i := 5) rfl)) (fun _ h9 => h9) rfl hin2 rfl (by decide +kernel) rfl rfl (Nat.le_of_ble_eq_true rfl) dX0_init_9 (fun Hp locs hP hD hS => ?_)
  have hP : va_P D vwCl [(h, .inr (0, [.ref a0, .null, .null, .null, jI 0, jI 0, jI 0, jI 0, jI 0])), (a0, .inl (cA, 8, .inl (jF jZ)))] Hp := hP
  have hD : va_D A [(h, .inr (0, [.ref a0, .null, .null, .null, jI 0, jI 0, jI 0, jI 0, jI 0])), (a0, .inl (cA, 8, .inl (jF jZ)))] := hD
  refine lv_aload_n hx hb dX0_init_12 rfl (lv_at hl 0 rfl) ?_
  refine lv_bipush (v := Int32.ofInt 10) hx hb dX0_init_13 (by decide) ?_
  refine va_newa (atype := .int) (N' := 10) (a0 := (10, .inl (jF jZ))) hx hb (hts _ (List.mem_of_getElem? (i := 4) rfl)) rfl hK hP hD hS hA (fun cA => rfl) (by decide) (by decide) (by decide) (Nat.le_of_ble_eq_true rfl) (Nat.le_of_ble_eq_true rfl) dX0_init_15 (fun a1 cB Hp hK hP hD hS => ?_)
  have hce : cA = cB := kk_eq hK
  subst hce
  have hK : va_K D vwCl [(cA, .int)] s := hK.sub [0] rfl
  have hP : va_P D vwCl [(h, .inr (0, [.ref a0, .null, .null, .null, jI 0, jI 0, jI 0, jI 0, jI 0])), (a0, .inl (cA, 8, .inl (jF jZ))), (a1, .inl (cA, 10, .inl (jF jZ)))] Hp := hP
  have hD : va_D A [(h, .inr (0, [.ref a0, .null, .null, .null, jI 0, jI 0, jI 0, jI 0, jI 0])), (a0, .inl (cA, 8, .inl (jF jZ))), (a1, .inl (cA, 10, .inl (jF jZ)))] := hD
  refine W.widen (k := 2) (n := 18) (by omega) (by omega) ?_
  refine va_putF (D := D) (ci := 0) (v := .ref a1) (ty := .array .int) (C := RX0) (T := TX0) (N := 9) hx hb hts hin tyX0 tyX0_ok nmX0 hown hK hP hD hS 0 rfl rfl 1 (by decide) (hts _ (List.mem_of_getElem? (i := 6) rfl)) (fun _ h9 => h9) rfl hin2 rfl (by decide +kernel) rfl rfl (Nat.le_of_ble_eq_true rfl) dX0_init_17 (fun Hp locs hP hD hS => ?_)
  have hP : va_P D vwCl [(h, .inr (0, [.ref a0, .ref a1, .null, .null, jI 0, jI 0, jI 0, jI 0, jI 0])), (a0, .inl (cA, 8, .inl (jF jZ))), (a1, .inl (cA, 10, .inl (jF jZ)))] Hp := hP
  have hD : va_D A [(h, .inr (0, [.ref a0, .ref a1, .null, .null, jI 0, jI 0, jI 0, jI 0, jI 0])), (a0, .inl (cA, 8, .inl (jF jZ))), (a1, .inl (cA, 10, .inl (jF jZ)))] := hD
  refine lv_aload_n hx hb dX0_init_20 rfl (lv_at hl 0 rfl) ?_
  refine lv_bipush (v := Int32.ofInt 8) hx hb dX0_init_21 (by decide) ?_
  refine va_newa (atype := .int) (N' := 8) (a0 := (8, .inl (jF jZ))) hx hb (hts _ (List.mem_of_getElem? (i := 4) rfl)) rfl hK hP hD hS hA (fun cA => rfl) (by decide) (by decide) (by decide) (Nat.le_of_ble_eq_true rfl) (Nat.le_of_ble_eq_true rfl) dX0_init_23 (fun a2 cB Hp hK hP hD hS => ?_)
  have hce : cA = cB := kk_eq hK
  subst hce
  have hK : va_K D vwCl [(cA, .int)] s := hK.sub [0] rfl
  have hP : va_P D vwCl [(h, .inr (0, [.ref a0, .ref a1, .null, .null, jI 0, jI 0, jI 0, jI 0, jI 0])), (a0, .inl (cA, 8, .inl (jF jZ))), (a1, .inl (cA, 10, .inl (jF jZ))), (a2, .inl (cA, 8, .inl (jF jZ)))] Hp := hP
  have hD : va_D A [(h, .inr (0, [.ref a0, .ref a1, .null, .null, jI 0, jI 0, jI 0, jI 0, jI 0])), (a0, .inl (cA, 8, .inl (jF jZ))), (a1, .inl (cA, 10, .inl (jF jZ))), (a2, .inl (cA, 8, .inl (jF jZ)))] := hD
  refine W.widen (k := 3) (n := 26) (by omega) (by omega) ?_
  refine va_putF (D := D) (ci := 0) (v := .ref a2) (ty := .array .int) (C := RX0) (T := TX0) (N := 9) hx hb hts hin tyX0 tyX0_ok nmX0 hown hK hP hD hS 0 rfl rfl 2 (by decide) (hts _ (List.mem_of_getElem? (i := 7) rfl)) (fun _ h9 => h9) rfl hin2 rfl (by decide +kernel) rfl rfl (Nat.le_of_ble_eq_true rfl) dX0_init_25 (fun Hp locs hP hD hS => ?_)
  have hP : va_P D vwCl [(h, .inr (0, [.ref a0, .ref a1, .ref a2, .null, jI 0, jI 0, jI 0, jI 0, jI 0])), (a0, .inl (cA, 8, .inl (jF jZ))), (a1, .inl (cA, 10, .inl (jF jZ))), (a2, .inl (cA, 8, .inl (jF jZ)))] Hp := hP
  have hD : va_D A [(h, .inr (0, [.ref a0, .ref a1, .ref a2, .null, jI 0, jI 0, jI 0, jI 0, jI 0])), (a0, .inl (cA, 8, .inl (jF jZ))), (a1, .inl (cA, 10, .inl (jF jZ))), (a2, .inl (cA, 8, .inl (jF jZ)))] := hD
  refine lv_aload_n hx hb dX0_init_28 rfl (lv_at hl 0 rfl) ?_
  refine lv_iconst (v := Int32.ofInt 4) hx hb dX0_init_29 (by decide) ?_
  refine va_newa (atype := .int) (N' := 4) (a0 := (4, .inl (jF jZ))) hx hb (hts _ (List.mem_of_getElem? (i := 4) rfl)) rfl hK hP hD hS hA (fun cA => rfl) (by decide) (by decide) (by decide) (Nat.le_of_ble_eq_true rfl) (Nat.le_of_ble_eq_true rfl) dX0_init_30 (fun a3 cB Hp hK hP hD hS => ?_)
  have hce : cA = cB := kk_eq hK
  subst hce
  have hK : va_K D vwCl [(cA, .int)] s := hK.sub [0] rfl
  have hP : va_P D vwCl [(h, .inr (0, [.ref a0, .ref a1, .ref a2, .null, jI 0, jI 0, jI 0, jI 0, jI 0])), (a0, .inl (cA, 8, .inl (jF jZ))), (a1, .inl (cA, 10, .inl (jF jZ))), (a2, .inl (cA, 8, .inl (jF jZ))), (a3, .inl (cA, 4, .inl (jF jZ)))] Hp := hP
  have hD : va_D A [(h, .inr (0, [.ref a0, .ref a1, .ref a2, .null, jI 0, jI 0, jI 0, jI 0, jI 0])), (a0, .inl (cA, 8, .inl (jF jZ))), (a1, .inl (cA, 10, .inl (jF jZ))), (a2, .inl (cA, 8, .inl (jF jZ))), (a3, .inl (cA, 4, .inl (jF jZ)))] := hD
  refine W.widen (k := 4) (n := 30) (by omega) (by omega) ?_
  refine va_putF (D := D) (ci := 0) (v := .ref a3) (ty := .array .int) (C := RX0) (T := TX0) (N := 9) hx hb hts hin tyX0 tyX0_ok nmX0 hown hK hP hD hS 0 rfl rfl 3 (by decide) (hts _ (List.mem_of_getElem? (i := 8) rfl)) (fun _ h9 => h9) rfl hin2 rfl (by decide +kernel) rfl rfl (Nat.le_of_ble_eq_true rfl) dX0_init_32 (fun Hp locs hP hD hS => ?_)
  have hP : va_P D vwCl [(h, .inr (0, [.ref a0, .ref a1, .ref a2, .ref a3, jI 0, jI 0, jI 0, jI 0, jI 0])), (a0, .inl (cA, 8, .inl (jF jZ))), (a1, .inl (cA, 10, .inl (jF jZ))), (a2, .inl (cA, 8, .inl (jF jZ))), (a3, .inl (cA, 4, .inl (jF jZ)))] Hp := hP
  have hD : va_D A [(h, .inr (0, [.ref a0, .ref a1, .ref a2, .ref a3, jI 0, jI 0, jI 0, jI 0, jI 0])), (a0, .inl (cA, 8, .inl (jF jZ))), (a1, .inl (cA, 10, .inl (jF jZ))), (a2, .inl (cA, 8, .inl (jF jZ))), (a3, .inl (cA, 4, .inl (jF jZ)))] := hD
  refine lv_aload_n hx hb dX0_init_35 rfl (lv_at hl 0 rfl) ?_
  refine lv_bipush (v := Int32.ofInt 40) hx hb dX0_init_36 (by decide) ?_
  refine va_put (D := D) (ci := 0) (v := jI 40) (ty := .int) (C := RX0) (T := TX0) (N := 9) hx hb hts hin tyX0 tyX0_ok nmX0 hown hK hP hD hS 0 rfl rfl 6 (by decide) (hts _ (List.mem_of_getElem? (i := 9) rfl)) (fun _ h9 => h9) rfl (by decide +kernel) rfl rfl (Nat.le_of_ble_eq_true rfl) dX0_init_38 (fun Hp locs hP hD hS => ?_)
  have hP : va_P D vwCl [(h, .inr (0, [.ref a0, .ref a1, .ref a2, .ref a3, jI 0, jI 0, jI 40, jI 0, jI 0])), (a0, .inl (cA, 8, .inl (jF jZ))), (a1, .inl (cA, 10, .inl (jF jZ))), (a2, .inl (cA, 8, .inl (jF jZ))), (a3, .inl (cA, 4, .inl (jF jZ)))] Hp := hP
  have hD : va_D A [(h, .inr (0, [.ref a0, .ref a1, .ref a2, .ref a3, jI 0, jI 0, jI 40, jI 0, jI 0])), (a0, .inl (cA, 8, .inl (jF jZ))), (a1, .inl (cA, 10, .inl (jF jZ))), (a2, .inl (cA, 8, .inl (jF jZ))), (a3, .inl (cA, 4, .inl (jF jZ)))] := hD
  refine lv_aload_n hx hb dX0_init_41 rfl (lv_at hl 0 rfl) ?_
  refine lv_sipush (v := Int32.ofInt 360) hx hb dX0_init_42 (by decide) ?_
  refine va_put (D := D) (ci := 0) (v := jI 360) (ty := .int) (C := RX0) (T := TX0) (N := 9) hx hb hts hin tyX0 tyX0_ok nmX0 hown hK hP hD hS 0 rfl rfl 7 (by decide) (hts _ (List.mem_of_getElem? (i := 10) rfl)) (fun _ h9 => h9) rfl (by decide +kernel) rfl rfl (Nat.le_of_ble_eq_true rfl) dX0_init_45 (fun Hp locs hP hD hS => ?_)
  have hP : va_P D vwCl [(h, .inr (0, [.ref a0, .ref a1, .ref a2, .ref a3, jI 0, jI 0, jI 40, jI 360, jI 0])), (a0, .inl (cA, 8, .inl (jF jZ))), (a1, .inl (cA, 10, .inl (jF jZ))), (a2, .inl (cA, 8, .inl (jF jZ))), (a3, .inl (cA, 4, .inl (jF jZ)))] Hp := hP
  have hD : va_D A [(h, .inr (0, [.ref a0, .ref a1, .ref a2, .ref a3, jI 0, jI 0, jI 40, jI 360, jI 0])), (a0, .inl (cA, 8, .inl (jF jZ))), (a1, .inl (cA, 10, .inl (jF jZ))), (a2, .inl (cA, 8, .inl (jF jZ))), (a3, .inl (cA, 4, .inl (jF jZ)))] := hD
  refine lv_aload_n hx hb dX0_init_48 rfl (lv_at hl 0 rfl) ?_
  refine lv_bipush (v := Int32.ofInt 10) hx hb dX0_init_49 (by decide) ?_
  refine va_put (D := D) (ci := 0) (v := jI 10) (ty := .int) (C := RX0) (T := TX0) (N := 9) hx hb hts hin tyX0 tyX0_ok nmX0 hown hK hP hD hS 0 rfl rfl 8 (by decide) (hts _ (List.mem_of_getElem? (i := 11) rfl)) (fun _ h9 => h9) rfl (by decide +kernel) rfl rfl (Nat.le_of_ble_eq_true rfl) dX0_init_51 (fun Hp locs hP hD hS => ?_)
  have hP : va_P D vwCl [(h, .inr (0, [.ref a0, .ref a1, .ref a2, .ref a3, jI 0, jI 0, jI 40, jI 360, jI 10])), (a0, .inl (cA, 8, .inl (jF jZ))), (a1, .inl (cA, 10, .inl (jF jZ))), (a2, .inl (cA, 8, .inl (jF jZ))), (a3, .inl (cA, 4, .inl (jF jZ)))] Hp := hP
  have hD : va_D A [(h, .inr (0, [.ref a0, .ref a1, .ref a2, .ref a3, jI 0, jI 0, jI 40, jI 360, jI 10])), (a0, .inl (cA, 8, .inl (jF jZ))), (a1, .inl (cA, 10, .inl (jF jZ))), (a2, .inl (cA, 8, .inl (jF jZ))), (a3, .inl (cA, 4, .inl (jF jZ)))] := hD
  exact W.vret hx hb hr (fun t ht hW => ⟨⟨(), rfl, trivial, a0, a1, a2, a3, cA, by rw [ht]; exact hP, va_K.moved hW.alike hK, hD⟩, hS.F ht⟩) hS.2.2 dX0_init_54
abbrev rmX1_init : Room := { frames := 1, cells := 4, slots := 30, locals := 24 }
set_option maxHeartbeats 4000000 in
set_option maxRecDepth 100000 in
theorem c_X1_init (l : Launch) (D : va_G) (h sz : Nat) : Met l yX1_init wsX1_init rmX1_init (va_Pc [.ref h] (WN D (MN h) sz)) (va_Qv (fun _ : Unit => True) (fun _ t => AtM D (va_A (MN h) sz) h t) (va_A (MN h) sz)) 4 30 (va_A (MN h) sz) := by
  refine Met.ofW (cc := cX1_init) (maxL := 1) (ret := none) (by decide) rfl ?_
  intro p e s m args below meth c s₁ B hml hv
  obtain ⟨rfl, hsz, hP, hK, hD0⟩ := hv
  have hx := B.exec
  have hb := B.bytes
  have hr := B.returns
  have hts := atoms_spec (ws := wsX1_init) B.pre
  have hown : s.vm.findClass RX1 = some m.cls := findClass_of_methodNamed B.named
  have hlocks := B.notSynchronized
  have hin2 : meth.name = "<init>" := (name_of_methodNamed B.named B.method).1
  have hin : ∀ w ∈ wsX10, w ∈ wsX1_init := fun w hw => List.mem_cons_of_mem _ (List.mem_append_right _ hw)
  subst hsz
  have hD := hD0.self (sz := s.heap.size)
  generalize hAe : va_A (MN h) s.heap.size = A at hD ⊢
  have hA : ∀ q : Nat, s.heap.size ≤ q → A q := fun q h => by rw [← hAe]; exact Or.inr h
  have hS : va_S A s.heap s.heap [] := va_S.rf
  have hl := lv_entry ([.ref h]) (n := 1) (Nat.le_of_ble_eq_true rfl)
  rw [lg_entry_eq]
  generalize (lg_sl ([.ref h]) ++ List.replicate (1 - (lg_sl ([.ref h])).length) Slot.unset).toArray = ls at hl ⊢
  have hl : lv_has ls 1 [(0, .ref h)] := hl
  refine lv_aload_n hx hb dX1_init_0 rfl (lv_at hl 0 rfl) ?_
  refine W.objInit hx hb hown (hts _ (List.mem_of_getElem? (i := 1) rfl)) (hts _ (List.mem_of_getElem? (i := 2) rfl)) (hts _ (List.mem_of_getElem? (i := 3) rfl)) rfl (by rw [hml]; exact hl.1) rfl dX1_init_1 (Nat.le_of_ble_eq_true rfl) (Nat.le_of_ble_eq_true rfl) ?_
  refine W.eq (g2 := F0 m 4 ls []) rfl ?_
  refine lv_aload_n hx hb dX1_init_4 rfl (lv_at hl 0 rfl) ?_
  refine lv_bipush (v := Int32.ofInt 40) hx hb dX1_init_5 (by decide) ?_
  refine va_put (D := D) (ci := 1) (v := jI 40) (ty := .int) (C := RX1) (T := TX1) (N := 9) hx hb hts hin tyX1 tyX1_ok nmX1 hown hK hP hD hS 0 rfl rfl 0 (by decide) (hts _ (List.mem_of_getElem? (i := 4) rfl)) (fun _ h9 => h9) rfl (by decide +kernel) rfl rfl (Nat.le_of_ble_eq_true rfl) dX1_init_7 (fun Hp locs hP hD hS => ?_)
  have hP : va_P D vwCl [(h, .inr (1, [jI 40, jI 0, .null, jI 0, .null, .null, jI 0, jI 0, .null]))] Hp := hP
  have hD : va_D A [(h, .inr (1, [jI 40, jI 0, .null, jI 0, .null, .null, jI 0, jI 0, .null]))] := hD
  refine lv_aload_n hx hb dX1_init_10 rfl (lv_at hl 0 rfl) ?_
  refine lv_bipush (v := Int32.ofInt 8) hx hb dX1_init_11 (by decide) ?_
  refine va_newa (atype := .int) (N' := 8) (a0 := (8, .inl (jF jZ))) hx hb (hts _ (List.mem_of_getElem? (i := 5) rfl)) rfl hK hP hD hS hA (fun cA => rfl) (by decide) (by decide) (by decide) (Nat.le_of_ble_eq_true rfl) (Nat.le_of_ble_eq_true rfl) dX1_init_13 (fun a0 cA Hp hK hP hD hS => ?_)
  have hK : va_K D vwCl [(cA, .int)] s := hK
  have hP : va_P D vwCl [(h, .inr (1, [jI 40, jI 0, .null, jI 0, .null, .null, jI 0, jI 0, .null])), (a0, .inl (cA, 8, .inl (jF jZ)))] Hp := hP
  have hD : va_D A [(h, .inr (1, [jI 40, jI 0, .null, jI 0, .null, .null, jI 0, jI 0, .null])), (a0, .inl (cA, 8, .inl (jF jZ)))] := hD
  refine W.widen (k := 1) (n := 8) (by omega) (by omega) ?_
  refine va_putF (D := D) (ci := 1) (v := .ref a0) (ty := .array .int) (C := RX1) (T := TX1) (N := 9) hx hb hts hin tyX1 tyX1_ok nmX1 hown hK hP hD hS 0 rfl rfl 2 (by decide) (hts _ (List.mem_of_getElem? (i := 6) rfl)) (fun _ h9 => h9) rfl hin2 rfl (by decide +kernel) rfl rfl (Nat.le_of_ble_eq_true rfl) dX1_init_15 (fun Hp locs hP hD hS => ?_)
  have hP : va_P D vwCl [(h, .inr (1, [jI 40, jI 0, .ref a0, jI 0, .null, .null, jI 0, jI 0, .null])), (a0, .inl (cA, 8, .inl (jF jZ)))] Hp := hP
  have hD : va_D A [(h, .inr (1, [jI 40, jI 0, .ref a0, jI 0, .null, .null, jI 0, jI 0, .null])), (a0, .inl (cA, 8, .inl (jF jZ)))] := hD
  refine lv_aload_n hx hb dX1_init_18 rfl (lv_at hl 0 rfl) ?_
  refine lv_bipush (v := Int32.ofInt 10) hx hb dX1_init_19 (by decide) ?_
  refine va_newa (atype := .int) (N' := 10) (a0 := (10, .inl (jF jZ))) hx hb (hts _ (List.mem_of_getElem? (i := 5) rfl)) rfl hK hP hD hS hA (fun cA => rfl) (by decide) (by decide) (by decide) (Nat.le_of_ble_eq_true rfl) (Nat.le_of_ble_eq_true rfl) dX1_init_21 (fun a1 cB Hp hK hP hD hS => ?_)
  have hce : cA = cB := kk_eq hK
  subst hce
  have hK : va_K D vwCl [(cA, .int)] s := hK.sub [0] rfl
  have hP : va_P D vwCl [(h, .inr (1, [jI 40, jI 0, .ref a0, jI 0, .null, .null, jI 0, jI 0, .null])), (a0, .inl (cA, 8, .inl (jF jZ))), (a1, .inl (cA, 10, .inl (jF jZ)))] Hp := hP
  have hD : va_D A [(h, .inr (1, [jI 40, jI 0, .ref a0, jI 0, .null, .null, jI 0, jI 0, .null])), (a0, .inl (cA, 8, .inl (jF jZ))), (a1, .inl (cA, 10, .inl (jF jZ)))] := hD
  refine W.widen (k := 2) (n := 18) (by omega) (by omega) ?_
  refine va_putF (D := D) (ci := 1) (v := .ref a1) (ty := .array .int) (C := RX1) (T := TX1) (N := 9) hx hb hts hin tyX1 tyX1_ok nmX1 hown hK hP hD hS 0 rfl rfl 4 (by decide) (hts _ (List.mem_of_getElem? (i := 7) rfl)) (fun _ h9 => h9) rfl hin2 rfl (by decide +kernel) rfl rfl (Nat.le_of_ble_eq_true rfl) dX1_init_23 (fun Hp locs hP hD hS => ?_)
  have hP : va_P D vwCl [(h, .inr (1, [jI 40, jI 0, .ref a0, jI 0, .ref a1, .null, jI 0, jI 0, .null])), (a0, .inl (cA, 8, .inl (jF jZ))), (a1, .inl (cA, 10, .inl (jF jZ)))] Hp := hP
  have hD : va_D A [(h, .inr (1, [jI 40, jI 0, .ref a0, jI 0, .ref a1, .null, jI 0, jI 0, .null])), (a0, .inl (cA, 8, .inl (jF jZ))), (a1, .inl (cA, 10, .inl (jF jZ)))] := hD
  refine lv_aload_n hx hb dX1_init_26 rfl (lv_at hl 0 rfl) ?_
  refine lv_bipush (v := Int32.ofInt 8) hx hb dX1_init_27 (by decide) ?_
  refine va_newa (atype := .int) (N' := 8) (a0 := (8, .inl (jF jZ))) hx hb (hts _ (List.mem_of_getElem? (i := 5) rfl)) rfl hK hP hD hS hA (fun cA => rfl) (by decide) (by decide) (by decide) (Nat.le_of_ble_eq_true rfl) (Nat.le_of_ble_eq_true rfl) dX1_init_29 (fun a2 cB Hp hK hP hD hS => ?_)
  have hce : cA = cB := kk_eq hK
  subst hce
  have hK : va_K D vwCl [(cA, .int)] s := hK.sub [0] rfl
  have hP : va_P D vwCl [(h, .inr (1, [jI 40, jI 0, .ref a0, jI 0, .ref a1, .null, jI 0, jI 0, .null])), (a0, .inl (cA, 8, .inl (jF jZ))), (a1, .inl (cA, 10, .inl (jF jZ))), (a2, .inl (cA, 8, .inl (jF jZ)))] Hp := hP
  have hD : va_D A [(h, .inr (1, [jI 40, jI 0, .ref a0, jI 0, .ref a1, .null, jI 0, jI 0, .null])), (a0, .inl (cA, 8, .inl (jF jZ))), (a1, .inl (cA, 10, .inl (jF jZ))), (a2, .inl (cA, 8, .inl (jF jZ)))] := hD
  refine W.widen (k := 3) (n := 26) (by omega) (by omega) ?_
  refine va_putF (D := D) (ci := 1) (v := .ref a2) (ty := .array .int) (C := RX1) (T := TX1) (N := 9) hx hb hts hin tyX1 tyX1_ok nmX1 hown hK hP hD hS 0 rfl rfl 5 (by decide) (hts _ (List.mem_of_getElem? (i := 8) rfl)) (fun _ h9 => h9) rfl hin2 rfl (by decide +kernel) rfl rfl (Nat.le_of_ble_eq_true rfl) dX1_init_31 (fun Hp locs hP hD hS => ?_)
  have hP : va_P D vwCl [(h, .inr (1, [jI 40, jI 0, .ref a0, jI 0, .ref a1, .ref a2, jI 0, jI 0, .null])), (a0, .inl (cA, 8, .inl (jF jZ))), (a1, .inl (cA, 10, .inl (jF jZ))), (a2, .inl (cA, 8, .inl (jF jZ)))] Hp := hP
  have hD : va_D A [(h, .inr (1, [jI 40, jI 0, .ref a0, jI 0, .ref a1, .ref a2, jI 0, jI 0, .null])), (a0, .inl (cA, 8, .inl (jF jZ))), (a1, .inl (cA, 10, .inl (jF jZ))), (a2, .inl (cA, 8, .inl (jF jZ)))] := hD
  refine lv_aload_n hx hb dX1_init_34 rfl (lv_at hl 0 rfl) ?_
  refine lv_sipush (v := Int32.ofInt 360) hx hb dX1_init_35 (by decide) ?_
  refine va_put (D := D) (ci := 1) (v := jI 360) (ty := .int) (C := RX1) (T := TX1) (N := 9) hx hb hts hin tyX1 tyX1_ok nmX1 hown hK hP hD hS 0 rfl rfl 6 (by decide) (hts _ (List.mem_of_getElem? (i := 9) rfl)) (fun _ h9 => h9) rfl (by decide +kernel) rfl rfl (Nat.le_of_ble_eq_true rfl) dX1_init_38 (fun Hp locs hP hD hS => ?_)
  have hP : va_P D vwCl [(h, .inr (1, [jI 40, jI 0, .ref a0, jI 0, .ref a1, .ref a2, jI 360, jI 0, .null])), (a0, .inl (cA, 8, .inl (jF jZ))), (a1, .inl (cA, 10, .inl (jF jZ))), (a2, .inl (cA, 8, .inl (jF jZ)))] Hp := hP
  have hD : va_D A [(h, .inr (1, [jI 40, jI 0, .ref a0, jI 0, .ref a1, .ref a2, jI 360, jI 0, .null])), (a0, .inl (cA, 8, .inl (jF jZ))), (a1, .inl (cA, 10, .inl (jF jZ))), (a2, .inl (cA, 8, .inl (jF jZ)))] := hD
  refine lv_aload_n hx hb dX1_init_41 rfl (lv_at hl 0 rfl) ?_
  refine lv_bipush (v := Int32.ofInt 10) hx hb dX1_init_42 (by decide) ?_
  refine va_put (D := D) (ci := 1) (v := jI 10) (ty := .int) (C := RX1) (T := TX1) (N := 9) hx hb hts hin tyX1 tyX1_ok nmX1 hown hK hP hD hS 0 rfl rfl 7 (by decide) (hts _ (List.mem_of_getElem? (i := 10) rfl)) (fun _ h9 => h9) rfl (by decide +kernel) rfl rfl (Nat.le_of_ble_eq_true rfl) dX1_init_44 (fun Hp locs hP hD hS => ?_)
  have hP : va_P D vwCl [(h, .inr (1, [jI 40, jI 0, .ref a0, jI 0, .ref a1, .ref a2, jI 360, jI 10, .null])), (a0, .inl (cA, 8, .inl (jF jZ))), (a1, .inl (cA, 10, .inl (jF jZ))), (a2, .inl (cA, 8, .inl (jF jZ)))] Hp := hP
  have hD : va_D A [(h, .inr (1, [jI 40, jI 0, .ref a0, jI 0, .ref a1, .ref a2, jI 360, jI 10, .null])), (a0, .inl (cA, 8, .inl (jF jZ))), (a1, .inl (cA, 10, .inl (jF jZ))), (a2, .inl (cA, 8, .inl (jF jZ)))] := hD
  refine lv_aload_n hx hb dX1_init_47 rfl (lv_at hl 0 rfl) ?_
  refine lv_iconst (v := Int32.ofInt 4) hx hb dX1_init_48 (by decide) ?_
  refine va_newa (atype := .int) (N' := 4) (a0 := (4, .inl (jF jZ))) hx hb (hts _ (List.mem_of_getElem? (i := 5) rfl)) rfl hK hP hD hS hA (fun cA => rfl) (by decide) (by decide) (by decide) (Nat.le_of_ble_eq_true rfl) (Nat.le_of_ble_eq_true rfl) dX1_init_49 (fun a3 cB Hp hK hP hD hS => ?_)
  have hce : cA = cB := kk_eq hK
  subst hce
  have hK : va_K D vwCl [(cA, .int)] s := hK.sub [0] rfl
  have hP : va_P D vwCl [(h, .inr (1, [jI 40, jI 0, .ref a0, jI 0, .ref a1, .ref a2, jI 360, jI 10, .null])), (a0, .inl (cA, 8, .inl (jF jZ))), (a1, .inl (cA, 10, .inl (jF jZ))), (a2, .inl (cA, 8, .inl (jF jZ))), (a3, .inl (cA, 4, .inl (jF jZ)))] Hp := hP
  have hD : va_D A [(h, .inr (1, [jI 40, jI 0, .ref a0, jI 0, .ref a1, .ref a2, jI 360, jI 10, .null])), (a0, .inl (cA, 8, .inl (jF jZ))), (a1, .inl (cA, 10, .inl (jF jZ))), (a2, .inl (cA, 8, .inl (jF jZ))), (a3, .inl (cA, 4, .inl (jF jZ)))] := hD
  refine W.widen (k := 4) (n := 30) (by omega) (by omega) ?_
  refine va_putF (D := D) (ci := 1) (v := .ref a3) (ty := .array .int) (C := RX1) (T := TX1) (N := 9) hx hb hts hin tyX1 tyX1_ok nmX1 hown hK hP hD hS 0 rfl rfl 8 (by decide) (hts _ (List.mem_of_getElem? (i := 11) rfl)) (fun _ h9 => h9) rfl hin2 rfl (by decide +kernel) rfl rfl (Nat.le_of_ble_eq_true rfl) dX1_init_51 (fun Hp locs hP hD hS => ?_)
  have hP : va_P D vwCl [(h, .inr (1, [jI 40, jI 0, .ref a0, jI 0, .ref a1, .ref a2, jI 360, jI 10, .ref a3])), (a0, .inl (cA, 8, .inl (jF jZ))), (a1, .inl (cA, 10, .inl (jF jZ))), (a2, .inl (cA, 8, .inl (jF jZ))), (a3, .inl (cA, 4, .inl (jF jZ)))] Hp := hP
  have hD : va_D A [(h, .inr (1, [jI 40, jI 0, .ref a0, jI 0, .ref a1, .ref a2, jI 360, jI 10, .ref a3])), (a0, .inl (cA, 8, .inl (jF jZ))), (a1, .inl (cA, 10, .inl (jF jZ))), (a2, .inl (cA, 8, .inl (jF jZ))), (a3, .inl (cA, 4, .inl (jF jZ)))] := hD
  exact W.vret hx hb hr (fun t ht hW => ⟨⟨(), rfl, trivial, a0, a1, a2, a3, cA, by rw [ht]; exact hP, va_K.moved hW.alike hK, hD⟩, hS.F ht⟩) hS.2.2 dX1_init_54
