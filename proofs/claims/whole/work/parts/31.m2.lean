abbrev rmX1_errorAt : Room := { frames := 0, cells := 0, slots := 0, locals := 0 }
theorem hdX1_errorAt : yX1_errorAt.cls ≠ "java/lang/invoke/MethodHandle" ∧ yX1_errorAt.cls ≠ "java/lang/invoke/VarHandle" ∧ (parseMethodDescriptor yX1_errorAt.desc).map (fun d => d.parameters.length) = some 3 := by decide +kernel
set_option maxHeartbeats 4000000 in
set_option maxRecDepth 100000 in
theorem c_X1_errorAt (l : Launch) (D : va_G) (h a0 a1 a2 a3 : Nat) (cA : ClassId) (H T E F : Int → Int) (cc gc w d v : Int) (hok : SOK H T E cc gc w d v) (x : Int) (s : Int) (i : Int) (hx : 0 ≤ x ∧ x ≤ 7) (hs : 1 ≤ s ∧ s ≤ 100000) (hi : 0 ≤ i ∧ i ≤ 10000) (hxc : x < cc) : ML l yX1_errorAt wsX1_errorAt rmX1_errorAt [.ref h, jI x, jI s, jI i] (WB D (MW h a0 a1 a2 a3 cA H T E F cc gc w d v) cA) (fun rR => rR = sp_er E (H x) s i) := by
  refine ML_of (cc := cX1_errorAt) (maxL := 9) (by decide) rfl (Nat.le_of_ble_eq_true rfl) ?_
  intro pP eE sS mM aA bL mT cC QQ ls S hret ⟨hP, hK⟩ hl
  obtain ⟨hcc, hgc, hw, hd, hv, hH, hT, hE⟩ := id hok
  have hin : ∀ w ∈ wsX10, w ∈ wsX1_errorAt := fun w hw => List.mem_cons_of_mem _ (List.mem_append_right _ hw)
  have hl : lv_has ls 9 [(0, .ref h), (1, jI x), (2, jI s), (3, jI i)] := hl
  refine j_ldc2 (n := 8) S (S.2.2.2.2 _ (List.mem_of_getElem? (i := 1) rfl)) (by decide) dX1_errorAt_0 ?_
  refine j_iload_n S dX1_errorAt_3 rfl (lv_at hl 3 rfl) ?_
  refine j_i2l S dX1_errorAt_4 (iv_i hi (by decide +kernel)) ?_
  refine j_iload_n S dX1_errorAt_5 rfl (lv_at hl 2 rfl) ?_
  refine j_i2l S dX1_errorAt_6 (iv_i hs (by decide +kernel)) ?_
  refine j_lmul S dX1_errorAt_7 ?_
  refine lv_aload_n S.1 S.2.1 dX1_errorAt_8 rfl (lv_at hl 0 rfl) ?_
  refine j_get (v := .ref a0) S hin hK hP rfl rfl 2 (by decide) (List.mem_of_getElem? (i := 2) rfl) rfl dX1_errorAt_9 ?_
  refine j_iload_n S dX1_errorAt_12 rfl (lv_at hl 1 rfl) ?_
  refine j_iald S hK hP 1 0 rfl rfl (iv_ix (n := 8) hx (by decide +kernel)) dX1_errorAt_13 ?_
  have r1_ := hH x (by omega) (by omega)
  refine j_i2l S dX1_errorAt_14 (iv_i r1_ (by decide +kernel)) ?_
  refine j_lremp S dX1_errorAt_15 (iv_l (iv_mulp (lo := 0) (hi := 1000000000) hi hs (by decide +kernel)) (by decide +kernel)) (iv_pl r1_ (by decide +kernel)) (iv_nn (iv_mulp (lo := 0) (hi := 1000000000) hi hs (by decide +kernel)) (by decide +kernel)) ?_
  refine j_lmul S dX1_errorAt_16 ?_
  refine j_lstore (lv' := [(4, jL (8 * ((i * s) % (H x)))), (0, .ref h), (1, jI x), (2, jI s), (3, jI i)]) S dX1_errorAt_17 hl (by decide) rfl (fun ls hl => ?_)
  refine j_lload S dX1_errorAt_19 (lv_at hl 0 rfl) ?_
  refine lv_aload_n S.1 S.2.1 dX1_errorAt_21 rfl (lv_at hl 1 rfl) ?_
  refine j_get (v := .ref a0) S hin hK hP rfl rfl 2 (by decide) (List.mem_of_getElem? (i := 2) rfl) rfl dX1_errorAt_22 ?_
  refine j_iload_n S dX1_errorAt_25 rfl (lv_at hl 2 rfl) ?_
  refine j_iald S hK hP 1 0 rfl rfl (iv_ix (n := 8) hx (by decide +kernel)) dX1_errorAt_26 ?_
  refine j_i2l S dX1_errorAt_27 (iv_i r1_ (by decide +kernel)) ?_
  refine j_ldivp S dX1_errorAt_28 (iv_l (iv_mulp (lo := 0) (hi := 952) (iv_n 8) (iv_mod (lo := 0) (hi := 119) r1_ (by decide +kernel)) (by decide +kernel)) (by decide +kernel)) (iv_pl r1_ (by decide +kernel)) (iv_nn (iv_mulp (lo := 0) (hi := 952) (iv_n 8) (iv_mod (lo := 0) (hi := 119) r1_ (by decide +kernel)) (by decide +kernel)) (by decide +kernel)) ?_
  have r2_ : 0 ≤ ((8 * ((i * s) % (H x))) / (H x)) ∧ ((8 * ((i * s) % (H x))) / (H x)) ≤ 7 := er_k (hH x (by omega) (by omega))
  refine j_l2i S dX1_errorAt_29 ?_
  refine j_istore (lv' := [(6, jI ((8 * ((i * s) % (H x))) / (H x))), (4, jL (8 * ((i * s) % (H x)))), (0, .ref h), (1, jI x), (2, jI s), (3, jI i)]) S dX1_errorAt_30 hl (by decide) rfl (fun ls hl => ?_)
  refine j_lload S dX1_errorAt_32 (lv_at hl 1 rfl) ?_
  refine lv_aload_n S.1 S.2.1 dX1_errorAt_34 rfl (lv_at hl 2 rfl) ?_
  refine j_get (v := .ref a0) S hin hK hP rfl rfl 2 (by decide) (List.mem_of_getElem? (i := 2) rfl) rfl dX1_errorAt_35 ?_
  refine j_iload_n S dX1_errorAt_38 rfl (lv_at hl 3 rfl) ?_
  refine j_iald S hK hP 1 0 rfl rfl (iv_ix (n := 8) hx (by decide +kernel)) dX1_errorAt_39 ?_
  refine j_i2l S dX1_errorAt_40 (iv_i r1_ (by decide +kernel)) ?_
  refine j_lremp S dX1_errorAt_41 (iv_l (iv_mulp (lo := 0) (hi := 952) (iv_n 8) (iv_mod (lo := 0) (hi := 119) r1_ (by decide +kernel)) (by decide +kernel)) (by decide +kernel)) (iv_pl r1_ (by decide +kernel)) (iv_nn (iv_mulp (lo := 0) (hi := 952) (iv_n 8) (iv_mod (lo := 0) (hi := 119) r1_ (by decide +kernel)) (by decide +kernel)) (by decide +kernel)) ?_
  refine j_lstore (lv' := [(7, jL ((8 * ((i * s) % (H x))) % (H x))), (6, jI ((8 * ((i * s) % (H x))) / (H x))), (4, jL (8 * ((i * s) % (H x)))), (0, .ref h), (1, jI x), (2, jI s), (3, jI i)]) S dX1_errorAt_42 hl (by decide) rfl (fun ls hl => ?_)
  refine lv_aload_n S.1 S.2.1 dX1_errorAt_44 rfl (lv_at hl 3 rfl) ?_
  refine j_get (v := .ref a2) S hin hK hP rfl rfl 5 (by decide) (List.mem_of_getElem? (i := 3) rfl) rfl dX1_errorAt_45 ?_
  refine j_iload S dX1_errorAt_48 (lv_at hl 1 rfl) ?_
  refine j_iald S hK hP 3 0 rfl rfl (iv_ix (n := 8) r2_ (by decide +kernel)) dX1_errorAt_50 ?_
  have t4_ : 0 ≤ ((8 * ((i * s) % (H x))) / (H x)) ∧ ((8 * ((i * s) % (H x))) / (H x)) ≤ 7 := r2_
  have r3_ := hE ((8 * ((i * s) % (H x))) / (H x)) (by omega) (by omega)
  refine j_i2l S dX1_errorAt_51 (iv_i r3_ (by decide +kernel)) ?_
  refine lv_aload_n S.1 S.2.1 dX1_errorAt_52 rfl (lv_at hl 3 rfl) ?_
  refine j_get (v := .ref a0) S hin hK hP rfl rfl 2 (by decide) (List.mem_of_getElem? (i := 2) rfl) rfl dX1_errorAt_53 ?_
  refine j_iload_n S dX1_errorAt_56 rfl (lv_at hl 4 rfl) ?_
  refine j_iald S hK hP 1 0 rfl rfl (iv_ix (n := 8) hx (by decide +kernel)) dX1_errorAt_57 ?_
  refine j_i2l S dX1_errorAt_58 (iv_i r1_ (by decide +kernel)) ?_
  refine j_lmul S dX1_errorAt_59 ?_
  refine lv_aload_n S.1 S.2.1 dX1_errorAt_60 rfl (lv_at hl 3 rfl) ?_
  refine j_get (v := .ref a2) S hin hK hP rfl rfl 5 (by decide) (List.mem_of_getElem? (i := 3) rfl) rfl dX1_errorAt_61 ?_
  refine j_iload S dX1_errorAt_64 (lv_at hl 1 rfl) ?_
  refine j_iconst S dX1_errorAt_66 ?_
  refine j_iadd S dX1_errorAt_67 ?_
  refine j_bipush S dX1_errorAt_68 (by decide) ?_
  refine j_iremp S dX1_errorAt_70 (iv_i (iv_add (lo := 1) (hi := 8) r2_ (iv_n 1) (by decide +kernel)) (by decide +kernel)) (iv_pi (iv_n 8) (by decide +kernel)) (iv_nn (iv_add (lo := 1) (hi := 8) r2_ (iv_n 1) (by decide +kernel)) (by decide +kernel)) ?_
  refine j_iald S hK hP 3 0 rfl rfl (iv_ix (n := 8) (iv_mod (lo := 0) (hi := 7) (iv_n 8) (by decide +kernel)) (by decide +kernel)) dX1_errorAt_71 ?_
  have t6_ : 0 ≤ ((((8 * ((i * s) % (H x))) / (H x)) + 1) % 8) ∧ ((((8 * ((i * s) % (H x))) / (H x)) + 1) % 8) ≤ 7 := (iv_mod (lo := 0) (hi := 7) (iv_n 8) (by decide +kernel))
  have r5_ := hE ((((8 * ((i * s) % (H x))) / (H x)) + 1) % 8) (by omega) (by omega)
  refine lv_aload_n S.1 S.2.1 dX1_errorAt_72 rfl (lv_at hl 3 rfl) ?_
  refine j_get (v := .ref a2) S hin hK hP rfl rfl 5 (by decide) (List.mem_of_getElem? (i := 3) rfl) rfl dX1_errorAt_73 ?_
  refine j_iload S dX1_errorAt_76 (lv_at hl 1 rfl) ?_
  refine j_iald S hK hP 3 0 rfl rfl (iv_ix (n := 8) r2_ (by decide +kernel)) dX1_errorAt_78 ?_
  refine j_isub S dX1_errorAt_79 ?_
  refine j_i2l S dX1_errorAt_80 (iv_i (iv_sub (lo := (-200)) (hi := 200) r5_ r3_ (by decide +kernel)) (by decide +kernel)) ?_
  refine j_lload S dX1_errorAt_81 (lv_at hl 0 rfl) ?_
  refine j_lmul S dX1_errorAt_83 ?_
  refine j_ladd S dX1_errorAt_84 ?_
  exact hret (((E ((8 * ((i * s) % (H x))) / (H x))) * (H x)) + (((E ((((8 * ((i * s) % (H x))) / (H x)) + 1) % 8)) - (E ((8 * ((i * s) % (H x))) / (H x)))) * ((8 * ((i * s) % (H x))) % (H x)))) 85 _ (er_eq (hH x (by omega) (by omega))) dX1_errorAt_85
abbrev rmX1_spoilt : Room := { frames := 2, cells := 0, slots := 0, locals := 55 }
theorem hdX1_spoilt : yX1_spoilt.cls ≠ "java/lang/invoke/MethodHandle" ∧ yX1_spoilt.cls ≠ "java/lang/invoke/VarHandle" ∧ (parseMethodDescriptor yX1_spoilt.desc).map (fun d => d.parameters.length) = some 4 := by decide +kernel
set_option maxHeartbeats 4000000 in
set_option maxRecDepth 100000 in
theorem c_X1_spoilt (l : Launch) (D : va_G) (h a0 a1 a2 a3 : Nat) (cA : ClassId) (H T E F : Int → Int) (cc gc w d v : Int) (hok : SOK H T E cc gc w d v) (x : Int) (s : Int) (i : Int) (what : Int) (hx : inI x) (hs : inI s) (hi : inI i) (hwhat : inI what) : MI l yX1_spoilt wsX1_spoilt rmX1_spoilt [.ref h, jI x, jI s, jI i, jI what] (WB D (MW h a0 a1 a2 a3 cA H T E F cc gc w d v) cA) (fun rR => rR = sp_spoilt cc H E x s i what) := by
  refine MI_of (cc := cX1_spoilt) (maxL := 5) (by decide) rfl (Nat.le_of_ble_eq_true rfl) ?_
  intro pP eE sS mM aA bL mT cC QQ ls S hret ⟨hP, hK⟩ hl
  obtain ⟨hcc, hgc, hw, hd, hv, hH, hT, hE⟩ := id hok
  have hin : ∀ w ∈ wsX10, w ∈ wsX1_spoilt := fun w hw => List.mem_cons_of_mem _ (List.mem_append_right _ hw)
  have hl : lv_has ls 5 [(0, .ref h), (1, jI x), (2, jI s), (3, jI i), (4, jI what)] := hl
  refine lv_aload_n S.1 S.2.1 dX1_spoilt_0 rfl (lv_at hl 0 rfl) ?_
  refine j_iload_n S dX1_spoilt_1 rfl (lv_at hl 1 rfl) ?_
  refine j_cvi (As := [jI x]) (ci := 1) S (c_X1_isCircle l D h a0 a1 a2 a3 cA H T E F cc gc w d v hok x (iv_w hx (by decide +kernel))) (cwV 1 S.2.2.2.2 gX1_spoilt_X1_isCircle rfl rfl rfl ⟨rfl, hdX1_isCircle⟩ ⟨Nat.le_of_ble_eq_true rfl, Nat.le_of_ble_eq_true rfl⟩) hK hP rfl rfl rfl [] rfl rfl hl.1 (Nat.le_of_ble_eq_true rfl) ⟨Nat.zero_le _, Nat.zero_le _⟩ dX1_spoilt_2 (fun i2 q2 => ?_)
  subst q2
  refine j_ifb_ne (tgt := 11) S dX1_spoilt_5 (by decide) (fun c5 => ?_) (fun c5 => ?_)
  · have r1_ : 0 ≤ x ∧ x ≤ 7 := by omega
    refine j_iload_n S dX1_spoilt_11 rfl (lv_at hl 2 rfl) ?_
    refine j_csi (As := [jI s]) S (c_X1_isSteps l s (iv_w hs (by decide +kernel))) (va_cwS 1 S.2.2.2.2 gX1_spoilt_X1_isSteps rfl rfl rfl hdX1_isSteps ⟨Nat.le_of_ble_eq_true rfl, Nat.le_of_ble_eq_true rfl⟩) [] rfl rfl hl.1 (Nat.le_of_ble_eq_true rfl) ⟨Nat.zero_le _, Nat.zero_le _⟩ dX1_spoilt_12 (fun i12 q12 => ?_)
    subst q12
    refine j_ifb_eq (tgt := 41) S dX1_spoilt_15 (by decide) (fun c15 => ?_) (fun c15 => ?_)
    · refine j_ldc (n := (-1000000002)) S (S.2.2.2.2 _ (List.mem_of_getElem? (i := 3) rfl)) (by decide) dX1_spoilt_41 ?_
      exact hret (-1000000002) 43 _ (by unfold sp_spoilt; (repeat' split) <;> first | omega | rfl) dX1_spoilt_43
    · have r2_ : 1 ≤ s ∧ s ≤ 100000 := by omega
      refine j_iload_n S dX1_spoilt_18 rfl (lv_at hl 3 rfl) ?_
      refine j_i2l S dX1_spoilt_19 (iv_i hi (by decide +kernel)) ?_
      refine j_lconst (a := 0) S dX1_spoilt_20 rfl ?_
      refine j_ldc2 (n := 10000) S (S.2.2.2.2 _ (List.mem_of_getElem? (i := 2) rfl)) (by decide) dX1_spoilt_21 ?_
      refine j_csi (As := [jL i, jL 0, jL 10000]) S (c_X1_in l i 0 10000 (iv_w hi (by decide +kernel)) (iv_w (iv_n 0) (by decide +kernel)) (iv_w (iv_n 10000) (by decide +kernel))) (va_cwS 3 S.2.2.2.2 gX1_spoilt_X1_in rfl rfl rfl hdX1_in ⟨Nat.le_of_ble_eq_true rfl, Nat.le_of_ble_eq_true rfl⟩) [] rfl rfl hl.1 (Nat.le_of_ble_eq_true rfl) ⟨Nat.zero_le _, Nat.zero_le _⟩ dX1_spoilt_24 (fun i24 q24 => ?_)
      subst q24
      refine j_ifb_eq (tgt := 41) S dX1_spoilt_27 (by decide) (fun c27 => ?_) (fun c27 => ?_)
      · refine j_ldc (n := (-1000000002)) S (S.2.2.2.2 _ (List.mem_of_getElem? (i := 3) rfl)) (by decide) dX1_spoilt_41 ?_
        exact hret (-1000000002) 43 _ (by unfold sp_spoilt; (repeat' split) <;> first | omega | rfl) dX1_spoilt_43
      · have r3_ : 0 ≤ i ∧ i ≤ 10000 := by omega
        refine j_iload S dX1_spoilt_30 (lv_at hl 4 rfl) ?_
        refine j_i2l S dX1_spoilt_32 (iv_i hwhat (by decide +kernel)) ?_
        refine j_lconst (a := 0) S dX1_spoilt_33 rfl ?_
        refine j_lconst (a := 1) S dX1_spoilt_34 rfl ?_
        refine j_csi (As := [jL what, jL 0, jL 1]) S (c_X1_in l what 0 1 (iv_w hwhat (by decide +kernel)) (iv_w (iv_n 0) (by decide +kernel)) (iv_w (iv_n 1) (by decide +kernel))) (va_cwS 3 S.2.2.2.2 gX1_spoilt_X1_in rfl rfl rfl hdX1_in ⟨Nat.le_of_ble_eq_true rfl, Nat.le_of_ble_eq_true rfl⟩) [] rfl rfl hl.1 (Nat.le_of_ble_eq_true rfl) ⟨Nat.zero_le _, Nat.zero_le _⟩ dX1_spoilt_35 (fun i35 q35 => ?_)
        subst q35
        refine j_ifb_ne (tgt := 44) S dX1_spoilt_38 (by decide) (fun c38 => ?_) (fun c38 => ?_)
        · have r4_ : 0 ≤ what ∧ what ≤ 1 := by omega
          refine lv_aload_n S.1 S.2.1 dX1_spoilt_44 rfl (lv_at hl 0 rfl) ?_
          refine j_iload_n S dX1_spoilt_45 rfl (lv_at hl 1 rfl) ?_
          refine j_iload_n S dX1_spoilt_46 rfl (lv_at hl 2 rfl) ?_
          refine j_iload_n S dX1_spoilt_47 rfl (lv_at hl 3 rfl) ?_
          refine j_cvl (As := [jI x, jI s, jI i]) (ci := 1) S (c_X1_errorAt l D h a0 a1 a2 a3 cA H T E F cc gc w d v hok x s i (iv_w r1_ (by decide +kernel)) (iv_w r2_ (by decide +kernel)) (iv_w r3_ (by decide +kernel)) (by omega)) (cwV 3 S.2.2.2.2 gX1_spoilt_X1_errorAt rfl rfl rfl ⟨rfl, hdX1_errorAt⟩ ⟨Nat.le_of_ble_eq_true rfl, Nat.le_of_ble_eq_true rfl⟩) hK hP rfl rfl rfl [] rfl rfl hl.1 (Nat.le_of_ble_eq_true rfl) ⟨Nat.zero_le _, Nat.zero_le _⟩ dX1_spoilt_48 (fun i48 q48 => ?_)
          subst q48
          have r5_ : (-24000) ≤ (sp_er E (H x) s i) ∧ (sp_er E (H x) s i) ≤ 24000 := sp_er_iv hE (hH x (by omega) (by omega))
          refine lv_aload_n S.1 S.2.1 dX1_spoilt_51 rfl (lv_at hl 0 rfl) ?_
          refine j_get (v := .ref a0) S hin hK hP rfl rfl 2 (by decide) (List.mem_of_getElem? (i := 4) rfl) rfl dX1_spoilt_52 ?_
          refine j_iload_n S dX1_spoilt_55 rfl (lv_at hl 1 rfl) ?_
          refine j_iald S hK hP 1 0 rfl rfl (iv_ix (n := 8) r1_ (by decide +kernel)) dX1_spoilt_56 ?_
          have r6_ := hH x (by omega) (by omega)
          refine j_i2l S dX1_spoilt_57 (iv_i r6_ (by decide +kernel)) ?_
          refine j_iload S dX1_spoilt_58 (lv_at hl 4 rfl) ?_
          refine j_csi (As := [jL (sp_er E (H x) s i), jL (H x), jI what]) S (c_X1_term l (sp_er E (H x) s i) (H x) what (iv_w r5_ (by decide +kernel)) (iv_w r6_ (by decide +kernel)) (iv_w r4_ (by decide +kernel))) (va_cwS 3 S.2.2.2.2 gX1_spoilt_X1_term rfl rfl rfl hdX1_term ⟨Nat.le_of_ble_eq_true rfl, Nat.le_of_ble_eq_true rfl⟩) [] rfl rfl hl.1 (Nat.le_of_ble_eq_true rfl) ⟨Nat.zero_le _, Nat.zero_le _⟩ dX1_spoilt_60 (fun i60 q60 => ?_)
          subst q60
          exact hret (sp_lt (sp_er E (H x) s i) (H x) what) 63 _ (by unfold sp_spoilt; (repeat' split) <;> first | omega | rfl) dX1_spoilt_63
        · refine j_ldc (n := (-1000000002)) S (S.2.2.2.2 _ (List.mem_of_getElem? (i := 3) rfl)) (by decide) dX1_spoilt_41 ?_
          exact hret (-1000000002) 43 _ (by unfold sp_spoilt; (repeat' split) <;> first | omega | rfl) dX1_spoilt_43
  · refine j_ldc (n := (-1000000001)) S (S.2.2.2.2 _ (List.mem_of_getElem? (i := 1) rfl)) (by decide) dX1_spoilt_8 ?_
    exact hret (-1000000001) 10 _ (by unfold sp_spoilt; (repeat' split) <;> first | omega | rfl) dX1_spoilt_10
abbrev rmX1_extreme : Room := { frames := 2, cells := 0, slots := 0, locals := 46 }
theorem hdX1_extreme : yX1_extreme.cls ≠ "java/lang/invoke/MethodHandle" ∧ yX1_extreme.cls ≠ "java/lang/invoke/VarHandle" ∧ (parseMethodDescriptor yX1_extreme.desc).map (fun d => d.parameters.length) = some 4 := by decide +kernel
set_option maxHeartbeats 4000000 in
set_option maxRecDepth 100000 in
theorem c_X1_extreme (l : Launch) (D : va_G) (h a0 a1 a2 a3 : Nat) (cA : ClassId) (H T E F : Int → Int) (cc gc w d v : Int) (hok : SOK H T E cc gc w d v) (x : Int) (s : Int) (n : Int) (what : Int) (hx : inI x) (hs : inI s) (hn : inI n) (hwhat : inI what) : MI l yX1_extreme wsX1_extreme rmX1_extreme [.ref h, jI x, jI s, jI n, jI what] (WB D (MW h a0 a1 a2 a3 cA H T E F cc gc w d v) cA) (fun rR => rR = sp_extreme cc H E x s n what) := by
  refine MI_of (cc := cX1_extreme) (maxL := 11) (by decide) rfl (Nat.le_of_ble_eq_true rfl) ?_
  intro pP eE sS mM aA bL mT cC QQ ls S hret ⟨hP, hK⟩ hl
  obtain ⟨hcc, hgc, hw, hd, hv, hH, hT, hE⟩ := id hok
  have hin : ∀ w ∈ wsX10, w ∈ wsX1_extreme := fun w hw => List.mem_cons_of_mem _ (List.mem_append_right _ hw)
  have hl : lv_has ls 11 [(0, .ref h), (1, jI x), (2, jI s), (3, jI n), (4, jI what)] := hl
  refine lv_aload_n S.1 S.2.1 dX1_extreme_0 rfl (lv_at hl 0 rfl) ?_
  refine j_iload_n S dX1_extreme_1 rfl (lv_at hl 1 rfl) ?_
  refine j_cvi (As := [jI x]) (ci := 1) S (c_X1_isCircle l D h a0 a1 a2 a3 cA H T E F cc gc w d v hok x (iv_w hx (by decide +kernel))) (cwV 1 S.2.2.2.2 gX1_extreme_X1_isCircle rfl rfl rfl ⟨rfl, hdX1_isCircle⟩ ⟨Nat.le_of_ble_eq_true rfl, Nat.le_of_ble_eq_true rfl⟩) hK hP rfl rfl rfl [] rfl rfl hl.1 (Nat.le_of_ble_eq_true rfl) ⟨Nat.zero_le _, Nat.zero_le _⟩ dX1_extreme_2 (fun i2 q2 => ?_)
  subst q2
  refine j_ifb_ne (tgt := 10) S dX1_extreme_5 (by decide) (fun c5 => ?_) (fun c5 => ?_)
  · have r1_ : 0 ≤ x ∧ x ≤ 7 := by omega
    refine j_iload_n S dX1_extreme_10 rfl (lv_at hl 2 rfl) ?_
    refine j_csi (As := [jI s]) S (c_X1_isSteps l s (iv_w hs (by decide +kernel))) (va_cwS 1 S.2.2.2.2 gX1_extreme_X1_isSteps rfl rfl rfl hdX1_isSteps ⟨Nat.le_of_ble_eq_true rfl, Nat.le_of_ble_eq_true rfl⟩) [] rfl rfl hl.1 (Nat.le_of_ble_eq_true rfl) ⟨Nat.zero_le _, Nat.zero_le _⟩ dX1_extreme_11 (fun i11 q11 => ?_)
    subst q11
    refine j_ifb_eq (tgt := 40) S dX1_extreme_14 (by decide) (fun c14 => ?_) (fun c14 => ?_)
    · refine j_bipush S dX1_extreme_40 (by decide) ?_
      exact hret (-2) 42 _ (by unfold sp_extreme; (repeat' split) <;> first | omega) dX1_extreme_42
    · have r2_ : 1 ≤ s ∧ s ≤ 100000 := by omega
      refine j_iload_n S dX1_extreme_17 rfl (lv_at hl 3 rfl) ?_
      refine j_i2l S dX1_extreme_18 (iv_i hn (by decide +kernel)) ?_
      refine j_lconst (a := 0) S dX1_extreme_19 rfl ?_
      refine j_ldc2 (n := 1000) S (S.2.2.2.2 _ (List.mem_of_getElem? (i := 1) rfl)) (by decide) dX1_extreme_20 ?_
      refine j_csi (As := [jL n, jL 0, jL 1000]) S (c_X1_in l n 0 1000 (iv_w hn (by decide +kernel)) (iv_w (iv_n 0) (by decide +kernel)) (iv_w (iv_n 1000) (by decide +kernel))) (va_cwS 3 S.2.2.2.2 gX1_extreme_X1_in rfl rfl rfl hdX1_in ⟨Nat.le_of_ble_eq_true rfl, Nat.le_of_ble_eq_true rfl⟩) [] rfl rfl hl.1 (Nat.le_of_ble_eq_true rfl) ⟨Nat.zero_le _, Nat.zero_le _⟩ dX1_extreme_23 (fun i23 q23 => ?_)
      subst q23
      refine j_ifb_eq (tgt := 40) S dX1_extreme_26 (by decide) (fun c26 => ?_) (fun c26 => ?_)
      · refine j_bipush S dX1_extreme_40 (by decide) ?_
        exact hret (-2) 42 _ (by unfold sp_extreme; (repeat' split) <;> first | omega) dX1_extreme_42
      · have r3_ : 0 ≤ n ∧ n ≤ 1000 := by omega
        refine j_iload S dX1_extreme_29 (lv_at hl 4 rfl) ?_
        refine j_i2l S dX1_extreme_31 (iv_i hwhat (by decide +kernel)) ?_
        refine j_lconst (a := 0) S dX1_extreme_32 rfl ?_
        refine j_lconst (a := 1) S dX1_extreme_33 rfl ?_
        refine j_csi (As := [jL what, jL 0, jL 1]) S (c_X1_in l what 0 1 (iv_w hwhat (by decide +kernel)) (iv_w (iv_n 0) (by decide +kernel)) (iv_w (iv_n 1) (by decide +kernel))) (va_cwS 3 S.2.2.2.2 gX1_extreme_X1_in rfl rfl rfl hdX1_in ⟨Nat.le_of_ble_eq_true rfl, Nat.le_of_ble_eq_true rfl⟩) [] rfl rfl hl.1 (Nat.le_of_ble_eq_true rfl) ⟨Nat.zero_le _, Nat.zero_le _⟩ dX1_extreme_34 (fun i34 q34 => ?_)
        subst q34
        refine j_ifb_ne (tgt := 43) S dX1_extreme_37 (by decide) (fun c37 => ?_) (fun c37 => ?_)
        · have r4_ : 0 ≤ what ∧ what ≤ 1 := by omega
          refine j_iconst S dX1_extreme_43 ?_
          refine j_istore (lv' := [(5, jI 0), (0, .ref h), (1, jI x), (2, jI s), (3, jI n), (4, jI what)]) S dX1_extreme_44 hl (by decide) rfl (fun ls hl => ?_)
          refine j_iconst S dX1_extreme_46 ?_
          refine j_istore (lv' := [(6, jI 1), (5, jI 0), (0, .ref h), (1, jI x), (2, jI s), (3, jI n), (4, jI what)]) S dX1_extreme_47 hl (by decide) rfl (fun ls hl => ?_)
          have loop49 : ∀ (N : Nat) (b k : Int) (ls : Array Slot), (1 ≤ k ∧ k ≤ 1001) → (k ≤ n + 1) → (b = sp_ex E (H x) s what k) → (0 ≤ b ∧ b ≤ 1000) → (b < k) → n + 1 - k < (N : Int) → lv_has ls 11 [(6, jI k), (5, jI b), (0, .ref h), (1, jI x), (2, jI s), (3, jI n), (4, jI what)] → W pP l eE rmX1_extreme sS mM aA bL mT cC sS.heap [] 0 0 QQ (F0 mM 49 ls []) := by
            intro N
            induction N with
            | zero =>
              intro b k ls hk hk2 hb hbi hbk hN
              exact absurd hN (by omega)
            | succ N ih49 =>
              intro b k ls hk hk2 hb hbi hbk hN hl
              refine j_iload S dX1_extreme_49 (lv_at hl 0 rfl) ?_
              refine j_iload_n S dX1_extreme_51 rfl (lv_at hl 5 rfl) ?_
              refine j_icmp_gt (tgt := 117) S dX1_extreme_52 (by decide) (iv_i hk (by decide +kernel)) (iv_i r3_ (by decide +kernel)) (fun c52 => ?_) (fun c52 => ?_)
              · refine j_iload S dX1_extreme_117 (lv_at hl 1 rfl) ?_
                exact hret b 119 _ (by unfold sp_extreme; (repeat' split) <;> first | omega | (rw [hb, show k = n + 1 from by omega])) dX1_extreme_119
              · have r5_ : 1 ≤ k ∧ k ≤ 1000 := by omega
                have r6_ : 1 ≤ n ∧ n ≤ 1000 := by omega
                refine lv_aload_n S.1 S.2.1 dX1_extreme_55 rfl (lv_at hl 2 rfl) ?_
                refine j_iload_n S dX1_extreme_56 rfl (lv_at hl 3 rfl) ?_
                refine j_iload_n S dX1_extreme_57 rfl (lv_at hl 4 rfl) ?_
                refine j_iload S dX1_extreme_58 (lv_at hl 0 rfl) ?_
                refine j_cvl (As := [jI x, jI s, jI k]) (ci := 1) S (c_X1_errorAt l D h a0 a1 a2 a3 cA H T E F cc gc w d v hok x s k (iv_w r1_ (by decide +kernel)) (iv_w r2_ (by decide +kernel)) (iv_w r5_ (by decide +kernel)) (by omega)) (cwV 3 S.2.2.2.2 gX1_extreme_X1_errorAt rfl rfl rfl ⟨rfl, hdX1_errorAt⟩ ⟨Nat.le_of_ble_eq_true rfl, Nat.le_of_ble_eq_true rfl⟩) hK hP rfl rfl rfl [] rfl rfl hl.1 (Nat.le_of_ble_eq_true rfl) ⟨Nat.zero_le _, Nat.zero_le _⟩ dX1_extreme_60 (fun i60 q60 => ?_)
                subst q60
                have r7_ : (-24000) ≤ (sp_er E (H x) s k) ∧ (sp_er E (H x) s k) ≤ 24000 := sp_er_iv hE (hH x (by omega) (by omega))
                refine j_lstore (lv' := [(7, jL (sp_er E (H x) s k)), (6, jI k), (5, jI b), (0, .ref h), (1, jI x), (2, jI s), (3, jI n), (4, jI what)]) S dX1_extreme_63 hl (by decide) rfl (fun ls hl => ?_)
                refine lv_aload_n S.1 S.2.1 dX1_extreme_65 rfl (lv_at hl 3 rfl) ?_
                refine j_iload_n S dX1_extreme_66 rfl (lv_at hl 4 rfl) ?_
                refine j_iload_n S dX1_extreme_67 rfl (lv_at hl 5 rfl) ?_
                refine j_iload S dX1_extreme_68 (lv_at hl 2 rfl) ?_
                refine j_cvl (As := [jI x, jI s, jI b]) (ci := 1) S (c_X1_errorAt l D h a0 a1 a2 a3 cA H T E F cc gc w d v hok x s b (iv_w r1_ (by decide +kernel)) (iv_w r2_ (by decide +kernel)) (iv_w hbi (by decide +kernel)) (by omega)) (cwV 3 S.2.2.2.2 gX1_extreme_X1_errorAt rfl rfl rfl ⟨rfl, hdX1_errorAt⟩ ⟨Nat.le_of_ble_eq_true rfl, Nat.le_of_ble_eq_true rfl⟩) hK hP rfl rfl rfl [] rfl rfl hl.1 (Nat.le_of_ble_eq_true rfl) ⟨Nat.zero_le _, Nat.zero_le _⟩ dX1_extreme_70 (fun i70 q70 => ?_)
                subst q70
                have r8_ : (-24000) ≤ (sp_er E (H x) s b) ∧ (sp_er E (H x) s b) ≤ 24000 := sp_er_iv hE (hH x (by omega) (by omega))
                refine j_lstore (lv' := [(9, jL (sp_er E (H x) s b)), (7, jL (sp_er E (H x) s k)), (6, jI k), (5, jI b), (0, .ref h), (1, jI x), (2, jI s), (3, jI n), (4, jI what)]) S dX1_extreme_73 hl (by decide) rfl (fun ls hl => ?_)
                refine j_iload S dX1_extreme_75 (lv_at hl 8 rfl) ?_
                refine j_if_ne (tgt := 88) S dX1_extreme_77 (by decide) (iv_i r4_ (by decide +kernel)) (fun c77 => ?_) (fun c77 => ?_)
                · have r9_ : 1 ≤ what ∧ what ≤ 1 := by omega
                  refine j_iload S dX1_extreme_88 (lv_at hl 8 rfl) ?_
                  refine j_iconst S dX1_extreme_90 ?_
                  refine j_icmp_ne (tgt := 107) S dX1_extreme_91 (by decide) (iv_i r9_ (by decide +kernel)) (iv_i (iv_n 1) (by decide +kernel)) (fun z9 => by have : 1 ≤ what ∧ what ≤ 1 := r9_; omega) (fun c91 => ?_)
                  refine j_lload S dX1_extreme_94 (lv_at hl 1 rfl) ?_
                  refine j_lload S dX1_extreme_96 (lv_at hl 0 rfl) ?_
                  refine j_lcmp_ge (pc1 := 99) (tgt := 107) S rfl dX1_extreme_98 dX1_extreme_99 (by decide) (iv_l r7_ (by decide +kernel)) (iv_l r8_ (by decide +kernel)) (fun c98 => ?_) (fun c98 => ?_)
                  · refine j_iload S dX1_extreme_107 (lv_at hl 3 rfl) ?_
                    refine j_istore (lv' := [(5, jI b), (9, jL (sp_er E (H x) s b)), (7, jL (sp_er E (H x) s k)), (6, jI k), (0, .ref h), (1, jI x), (2, jI s), (3, jI n), (4, jI what)]) S dX1_extreme_109 hl (by decide) rfl (fun ls hl => ?_)
                    refine j_iinc (k := 3) (y := (k + 1)) (lv' := [(6, jI (k + 1)), (5, jI b), (9, jL (sp_er E (H x) s b)), (7, jL (sp_er E (H x) s k)), (0, .ref h), (1, jI x), (2, jI s), (3, jI n), (4, jI what)]) S dX1_extreme_111 hl rfl rfl (by decide) rfl (fun ls hl => ?_)
                    refine j_goto (tgt := 49) S dX1_extreme_114 (by decide) ?_
                    exact ih49 b (k + 1) _ (by omega) (by omega) (by rw [sp_ex_s (by omega), ← hb]; split <;> omega) (by omega) (by omega) (by omega) (lv_sub hl [0, 1, 4, 5, 6, 7, 8] rfl)
                  · have r10_ : (-24000) ≤ (sp_er E (H x) s k) ∧ (sp_er E (H x) s k) ≤ 23999 := by omega
                    have r11_ : (-23999) ≤ (sp_er E (H x) s b) ∧ (sp_er E (H x) s b) ≤ 24000 := by omega
                    refine j_iload S dX1_extreme_102 (lv_at hl 2 rfl) ?_
                    refine j_goto (tgt := 109) S dX1_extreme_104 (by decide) ?_
                    refine j_istore (lv' := [(5, jI k), (9, jL (sp_er E (H x) s b)), (7, jL (sp_er E (H x) s k)), (6, jI k), (0, .ref h), (1, jI x), (2, jI s), (3, jI n), (4, jI what)]) S dX1_extreme_109 hl (by decide) rfl (fun ls hl => ?_)
                    refine j_iinc (k := 3) (y := (k + 1)) (lv' := [(6, jI (k + 1)), (5, jI k), (9, jL (sp_er E (H x) s b)), (7, jL (sp_er E (H x) s k)), (0, .ref h), (1, jI x), (2, jI s), (3, jI n), (4, jI what)]) S dX1_extreme_111 hl rfl rfl (by decide) rfl (fun ls hl => ?_)
                    refine j_goto (tgt := 49) S dX1_extreme_114 (by decide) ?_
                    exact ih49 k (k + 1) _ (by omega) (by omega) (by rw [sp_ex_s (by omega), ← hb]; split <;> omega) (by omega) (by omega) (by omega) (lv_sub hl [0, 1, 4, 5, 6, 7, 8] rfl)
                · have r12_ : 0 ≤ what ∧ what ≤ 0 := by omega
                  refine j_lload S dX1_extreme_80 (lv_at hl 1 rfl) ?_
                  refine j_lload S dX1_extreme_82 (lv_at hl 0 rfl) ?_
                  refine j_lcmp_gt (pc1 := 85) (tgt := 102) S rfl dX1_extreme_84 dX1_extreme_85 (by decide) (iv_l r7_ (by decide +kernel)) (iv_l r8_ (by decide +kernel)) (fun c84 => ?_) (fun c84 => ?_)
                  · have r13_ : (-24000) ≤ (sp_er E (H x) s b) ∧ (sp_er E (H x) s b) ≤ 23999 := by omega
                    have r14_ : (-23999) ≤ (sp_er E (H x) s k) ∧ (sp_er E (H x) s k) ≤ 24000 := by omega
                    refine j_iload S dX1_extreme_102 (lv_at hl 2 rfl) ?_
                    refine j_goto (tgt := 109) S dX1_extreme_104 (by decide) ?_
                    refine j_istore (lv' := [(5, jI k), (9, jL (sp_er E (H x) s b)), (7, jL (sp_er E (H x) s k)), (6, jI k), (0, .ref h), (1, jI x), (2, jI s), (3, jI n), (4, jI what)]) S dX1_extreme_109 hl (by decide) rfl (fun ls hl => ?_)
                    refine j_iinc (k := 3) (y := (k + 1)) (lv' := [(6, jI (k + 1)), (5, jI k), (9, jL (sp_er E (H x) s b)), (7, jL (sp_er E (H x) s k)), (0, .ref h), (1, jI x), (2, jI s), (3, jI n), (4, jI what)]) S dX1_extreme_111 hl rfl rfl (by decide) rfl (fun ls hl => ?_)
                    refine j_goto (tgt := 49) S dX1_extreme_114 (by decide) ?_
                    exact ih49 k (k + 1) _ (by omega) (by omega) (by rw [sp_ex_s (by omega), ← hb]; split <;> omega) (by omega) (by omega) (by omega) (lv_sub hl [0, 1, 4, 5, 6, 7, 8] rfl)
                  · refine j_iload S dX1_extreme_88 (lv_at hl 8 rfl) ?_
                    refine j_iconst S dX1_extreme_90 ?_
                    refine j_icmp_ne (tgt := 107) S dX1_extreme_91 (by decide) (iv_i r12_ (by decide +kernel)) (iv_i (iv_n 1) (by decide +kernel)) (fun c91 => ?_) (fun z9 => by have : 0 ≤ what ∧ what ≤ 0 := r12_; omega)
                    refine j_iload S dX1_extreme_107 (lv_at hl 3 rfl) ?_
                    refine j_istore (lv' := [(5, jI b), (9, jL (sp_er E (H x) s b)), (7, jL (sp_er E (H x) s k)), (6, jI k), (0, .ref h), (1, jI x), (2, jI s), (3, jI n), (4, jI what)]) S dX1_extreme_109 hl (by decide) rfl (fun ls hl => ?_)
                    refine j_iinc (k := 3) (y := (k + 1)) (lv' := [(6, jI (k + 1)), (5, jI b), (9, jL (sp_er E (H x) s b)), (7, jL (sp_er E (H x) s k)), (0, .ref h), (1, jI x), (2, jI s), (3, jI n), (4, jI what)]) S dX1_extreme_111 hl rfl rfl (by decide) rfl (fun ls hl => ?_)
                    refine j_goto (tgt := 49) S dX1_extreme_114 (by decide) ?_
                    exact ih49 b (k + 1) _ (by omega) (by omega) (by rw [sp_ex_s (by omega), ← hb]; split <;> omega) (by omega) (by omega) (by omega) (lv_sub hl [0, 1, 4, 5, 6, 7, 8] rfl)
          exact loop49 1002 0 1 _ (by omega) (by omega) rfl (by omega) (by omega) (by omega) (lv_sub hl [0, 1, 2, 3, 4, 5, 6] rfl)
        · refine j_bipush S dX1_extreme_40 (by decide) ?_
          exact hret (-2) 42 _ (by unfold sp_extreme; (repeat' split) <;> first | omega) dX1_extreme_42
  · refine j_iconst S dX1_extreme_8 ?_
    exact hret (-1) 9 _ (by unfold sp_extreme; (repeat' split) <;> first | omega) dX1_extreme_9
abbrev rmX1_near : Room := { frames := 1, cells := 0, slots := 0, locals := 25 }
theorem hdX1_near : yX1_near.cls ≠ "java/lang/invoke/MethodHandle" ∧ yX1_near.cls ≠ "java/lang/invoke/VarHandle" ∧ (parseMethodDescriptor yX1_near.desc).map (fun d => d.parameters.length) = some 4 := by decide +kernel
set_option maxHeartbeats 4000000 in
set_option maxRecDepth 100000 in
theorem c_X1_near (l : Launch) (D : va_G) (h a0 a1 a2 a3 : Nat) (cA : ClassId) (H T E F : Int → Int) (cc gc w d v : Int) (hok : SOK H T E cc gc w d v) (p : Int) (q : Int) (limit : Int) (what : Int) (hp : inI p) (hq : inI q) (hlimit : inI limit) (hwhat : inI what) : MI l yX1_near wsX1_near rmX1_near [.ref h, jI p, jI q, jI limit, jI what] (WB D (MW h a0 a1 a2 a3 cA H T E F cc gc w d v) cA) (fun rR => rR = sp_near p q limit what) := by
  refine MI_of (cc := cX1_near) (maxL := 17) (by decide) rfl (Nat.le_of_ble_eq_true rfl) ?_
  intro pP eE sS mM aA bL mT cC QQ ls S hret ⟨hP, hK⟩ hl
  obtain ⟨hcc, hgc, hw, hd, hv, hH, hT, hE⟩ := id hok
  have hl : lv_has ls 17 [(0, .ref h), (1, jI p), (2, jI q), (3, jI limit), (4, jI what)] := hl
  refine j_iload_n S dX1_near_0 rfl (lv_at hl 1 rfl) ?_
  refine j_i2l S dX1_near_1 (iv_i hp (by decide +kernel)) ?_
  refine j_lconst (a := 1) S dX1_near_2 rfl ?_
  refine j_ldc2 (n := 1000000) S (S.2.2.2.2 _ (List.mem_of_getElem? (i := 1) rfl)) (by decide) dX1_near_3 ?_
  refine j_csi (As := [jL p, jL 1, jL 1000000]) S (c_X1_in l p 1 1000000 (iv_w hp (by decide +kernel)) (iv_w (iv_n 1) (by decide +kernel)) (iv_w (iv_n 1000000) (by decide +kernel))) (va_cwS 3 S.2.2.2.2 gX1_near_X1_in rfl rfl rfl hdX1_in ⟨Nat.le_of_ble_eq_true rfl, Nat.le_of_ble_eq_true rfl⟩) [] rfl rfl hl.1 (Nat.le_of_ble_eq_true rfl) ⟨Nat.zero_le _, Nat.zero_le _⟩ dX1_near_6 (fun i6 q6 => ?_)
  subst q6
  refine j_ifb_eq (tgt := 47) S dX1_near_9 (by decide) (fun c9 => ?_) (fun c9 => ?_)
  · refine j_bipush S dX1_near_47 (by decide) ?_
    exact hret (-2) 49 _ (by unfold sp_near; (repeat' split) <;> first | omega) dX1_near_49
  · have r1_ : 1 ≤ p ∧ p ≤ 1000000 := by omega
    refine j_iload_n S dX1_near_12 rfl (lv_at hl 2 rfl) ?_
    refine j_i2l S dX1_near_13 (iv_i hq (by decide +kernel)) ?_
    refine j_lconst (a := 1) S dX1_near_14 rfl ?_
    refine j_ldc2 (n := 1000000) S (S.2.2.2.2 _ (List.mem_of_getElem? (i := 1) rfl)) (by decide) dX1_near_15 ?_
    refine j_csi (As := [jL q, jL 1, jL 1000000]) S (c_X1_in l q 1 1000000 (iv_w hq (by decide +kernel)) (iv_w (iv_n 1) (by decide +kernel)) (iv_w (iv_n 1000000) (by decide +kernel))) (va_cwS 3 S.2.2.2.2 gX1_near_X1_in rfl rfl rfl hdX1_in ⟨Nat.le_of_ble_eq_true rfl, Nat.le_of_ble_eq_true rfl⟩) [] rfl rfl hl.1 (Nat.le_of_ble_eq_true rfl) ⟨Nat.zero_le _, Nat.zero_le _⟩ dX1_near_18 (fun i18 q18 => ?_)
    subst q18
    refine j_ifb_eq (tgt := 47) S dX1_near_21 (by decide) (fun c21 => ?_) (fun c21 => ?_)
    · refine j_bipush S dX1_near_47 (by decide) ?_
      exact hret (-2) 49 _ (by unfold sp_near; (repeat' split) <;> first | omega) dX1_near_49
    · have r2_ : 1 ≤ q ∧ q ≤ 1000000 := by omega
      refine j_iload_n S dX1_near_24 rfl (lv_at hl 3 rfl) ?_
      refine j_i2l S dX1_near_25 (iv_i hlimit (by decide +kernel)) ?_
      refine j_lconst (a := 1) S dX1_near_26 rfl ?_
      refine j_ldc2 (n := 10000) S (S.2.2.2.2 _ (List.mem_of_getElem? (i := 2) rfl)) (by decide) dX1_near_27 ?_
      refine j_csi (As := [jL limit, jL 1, jL 10000]) S (c_X1_in l limit 1 10000 (iv_w hlimit (by decide +kernel)) (iv_w (iv_n 1) (by decide +kernel)) (iv_w (iv_n 10000) (by decide +kernel))) (va_cwS 3 S.2.2.2.2 gX1_near_X1_in rfl rfl rfl hdX1_in ⟨Nat.le_of_ble_eq_true rfl, Nat.le_of_ble_eq_true rfl⟩) [] rfl rfl hl.1 (Nat.le_of_ble_eq_true rfl) ⟨Nat.zero_le _, Nat.zero_le _⟩ dX1_near_30 (fun i30 q30 => ?_)
      subst q30
      refine j_ifb_eq (tgt := 47) S dX1_near_33 (by decide) (fun c33 => ?_) (fun c33 => ?_)
      · refine j_bipush S dX1_near_47 (by decide) ?_
        exact hret (-2) 49 _ (by unfold sp_near; (repeat' split) <;> first | omega) dX1_near_49
      · have r3_ : 1 ≤ limit ∧ limit ≤ 10000 := by omega
        refine j_iload S dX1_near_36 (lv_at hl 4 rfl) ?_
        refine j_i2l S dX1_near_38 (iv_i hwhat (by decide +kernel)) ?_
        refine j_lconst (a := 0) S dX1_near_39 rfl ?_
        refine j_lconst (a := 1) S dX1_near_40 rfl ?_
        refine j_csi (As := [jL what, jL 0, jL 1]) S (c_X1_in l what 0 1 (iv_w hwhat (by decide +kernel)) (iv_w (iv_n 0) (by decide +kernel)) (iv_w (iv_n 1) (by decide +kernel))) (va_cwS 3 S.2.2.2.2 gX1_near_X1_in rfl rfl rfl hdX1_in ⟨Nat.le_of_ble_eq_true rfl, Nat.le_of_ble_eq_true rfl⟩) [] rfl rfl hl.1 (Nat.le_of_ble_eq_true rfl) ⟨Nat.zero_le _, Nat.zero_le _⟩ dX1_near_41 (fun i41 q41 => ?_)
        subst q41
        refine j_ifb_ne (tgt := 50) S dX1_near_44 (by decide) (fun c44 => ?_) (fun c44 => ?_)
        · have r4_ : 0 ≤ what ∧ what ≤ 1 := by omega
          refine j_lconst (a := 0) S dX1_near_50 rfl ?_
          refine j_lstore (lv' := [(5, jL 0), (0, .ref h), (1, jI p), (2, jI q), (3, jI limit), (4, jI what)]) S dX1_near_51 hl (by decide) rfl (fun ls hl => ?_)
          refine j_lconst (a := 1) S dX1_near_53 rfl ?_
          refine j_lstore (lv' := [(7, jL 1), (5, jL 0), (0, .ref h), (1, jI p), (2, jI q), (3, jI limit), (4, jI what)]) S dX1_near_54 hl (by decide) rfl (fun ls hl => ?_)
          refine j_iload_n S dX1_near_56 rfl (lv_at hl 3 rfl) ?_
          refine j_i2l S dX1_near_57 (iv_i r1_ (by decide +kernel)) ?_
          refine j_lstore (lv' := [(9, jL p), (7, jL 1), (5, jL 0), (0, .ref h), (1, jI p), (2, jI q), (3, jI limit), (4, jI what)]) S dX1_near_58 hl (by decide) rfl (fun ls hl => ?_)
          refine j_lconst (a := 1) S dX1_near_60 rfl ?_
          refine j_lstore (lv' := [(11, jL 1), (9, jL p), (7, jL 1), (5, jL 0), (0, .ref h), (1, jI p), (2, jI q), (3, jI limit), (4, jI what)]) S dX1_near_61 hl (by decide) rfl (fun ls hl => ?_)
          have loop63 : ∀ (N : Nat) (U B O k : Int) (ls : Array Slot), (1 ≤ k ∧ k ≤ 10001) → (k ≤ limit + 1) → (1 ≤ B ∧ B ≤ 10000) → (0 ≤ O ∧ O ≤ 1000000) → (NearInv p q k U B O) → limit + 1 - k < (N : Int) → lv_has ls 17 [(11, jL k), (9, jL O), (7, jL B), (5, jL U), (0, .ref h), (1, jI p), (2, jI q), (3, jI limit), (4, jI what)] → W pP l eE rmX1_near sS mM aA bL mT cC sS.heap [] 0 0 QQ (F0 mM 63 ls []) := by
            intro N
            induction N with
            | zero =>
              intro U B O k ls hk hk2 hB hO hI hN
              exact absurd hN (by omega)
            | succ N ih63 =>
              intro U B O k ls hk hk2 hB hO hI hN hl
              refine j_lload S dX1_near_63 (lv_at hl 0 rfl) ?_
              refine j_iload_n S dX1_near_65 rfl (lv_at hl 7 rfl) ?_
              refine j_i2l S dX1_near_66 (iv_i r3_ (by decide +kernel)) ?_
              refine j_lcmp_gt (pc1 := 68) (tgt := 171) S rfl dX1_near_67 dX1_near_68 (by decide) (iv_l hk (by decide +kernel)) (iv_l r3_ (by decide +kernel)) (fun c67 => ?_) (fun c67 => ?_)
              · have r5_ : 2 ≤ k ∧ k ≤ 10001 := by omega
                refine j_iload S dX1_near_171 (lv_at hl 8 rfl) ?_
                refine j_if_ne (tgt := 181) S dX1_near_173 (by decide) (iv_i r4_ (by decide +kernel)) (fun c173 => ?_) (fun c173 => ?_)
                · have r6_ : 1 ≤ what ∧ what ≤ 1 := by omega
                  refine j_lload S dX1_near_181 (lv_at hl 2 rfl) ?_
                  refine j_l2i S dX1_near_183 ?_
                  exact hret B 184 _ (by unfold sp_near; (repeat' split) <;> first | omega | (rcases hI with hI | hI; omega; rw [show limit = k - 1 from by omega]; omega)) dX1_near_184
                · have r7_ : 0 ≤ what ∧ what ≤ 0 := by omega
                  refine j_lload S dX1_near_176 (lv_at hl 3 rfl) ?_
                  refine j_goto (tgt := 183) S dX1_near_178 (by decide) ?_
                  refine j_l2i S dX1_near_183 ?_
                  exact hret U 184 _ (by unfold sp_near; (repeat' split) <;> first | omega | (rcases hI with hI | hI; omega; rw [show limit = k - 1 from by omega, ← hI.2.1]; omega)) dX1_near_184
              · have r8_ : 1 ≤ k ∧ k ≤ 10000 := by omega
                refine j_iload_n S dX1_near_71 rfl (lv_at hl 5 rfl) ?_
                refine j_i2l S dX1_near_72 (iv_i r1_ (by decide +kernel)) ?_
                refine j_lload S dX1_near_73 (lv_at hl 0 rfl) ?_
                refine j_lmul S dX1_near_75 ?_
                refine j_iload_n S dX1_near_76 rfl (lv_at hl 6 rfl) ?_
                refine j_i2l S dX1_near_77 (iv_i r2_ (by decide +kernel)) ?_
                refine j_ldivp S dX1_near_78 (iv_l (iv_mulp (lo := 1) (hi := 10000000000) r1_ r8_ (by decide +kernel)) (by decide +kernel)) (iv_pl r2_ (by decide +kernel)) (iv_nn (iv_mulp (lo := 1) (hi := 10000000000) r1_ r8_ (by decide +kernel)) (by decide +kernel)) ?_
                obtain ⟨t, ht⟩ : ∃ t, t = p * k / q := ⟨_, rfl⟩
                have htv : 0 ≤ t ∧ t ≤ 10000000000 := by rw [ht]; exact (iv_div (lo := 0) (hi := 10000000000) (iv_mulp (lo := 1) (hi := 10000000000) r1_ r8_ (by decide +kernel)) (by have := r2_; omega) (by decide +kernel))
                have hd0 := @near_d (p * k) q (by omega)
                rw [← ht] at hd0
                have hd1 := @near_1 (p * k) t q (by omega)
                rw [← ht]
                refine j_lstore (lv' := [(13, jL t), (11, jL k), (9, jL O), (7, jL B), (5, jL U), (0, .ref h), (1, jI p), (2, jI q), (3, jI limit), (4, jI what)]) S dX1_near_79 hl (by decide) rfl (fun ls hl => ?_)
                refine j_lload S dX1_near_81 (lv_at hl 0 rfl) ?_
                refine j_iload_n S dX1_near_83 rfl (lv_at hl 6 rfl) ?_
                refine j_i2l S dX1_near_84 (iv_i r1_ (by decide +kernel)) ?_
                refine j_lload S dX1_near_85 (lv_at hl 1 rfl) ?_
                refine j_lmul S dX1_near_87 ?_
                refine j_iload_n S dX1_near_88 rfl (lv_at hl 7 rfl) ?_
                refine j_i2l S dX1_near_89 (iv_i r2_ (by decide +kernel)) ?_
                refine j_ldivp S dX1_near_90 (iv_l (iv_mulp (lo := 1) (hi := 10000000000) r1_ r8_ (by decide +kernel)) (by decide +kernel)) (iv_pl r2_ (by decide +kernel)) (iv_nn (iv_mulp (lo := 1) (hi := 10000000000) r1_ r8_ (by decide +kernel)) (by decide +kernel)) ?_
                rw [← ht]
                refine j_lconst (a := 1) S dX1_near_91 rfl ?_
                refine j_ladd S dX1_near_92 ?_
                refine j_lcmp_gt (pc1 := 94) (tgt := 162) S rfl dX1_near_93 dX1_near_94 (by decide) (iv_l htv (by decide +kernel)) (iv_l (iv_add (lo := 1) (hi := 10000000001) htv (iv_n 1) (by decide +kernel)) (by decide +kernel)) (fun z9 => by omega) (fun c93 => ?_)
                refine j_iload_n S dX1_near_97 rfl (lv_at hl 6 rfl) ?_
                refine j_i2l S dX1_near_98 (iv_i r1_ (by decide +kernel)) ?_
                refine j_lload S dX1_near_99 (lv_at hl 1 rfl) ?_
                refine j_lmul S dX1_near_101 ?_
                refine j_lload S dX1_near_102 (lv_at hl 0 rfl) ?_
                refine j_iload_n S dX1_near_104 rfl (lv_at hl 7 rfl) ?_
                refine j_i2l S dX1_near_105 (iv_i r2_ (by decide +kernel)) ?_
                refine j_lmul S dX1_near_106 ?_
                refine j_lsub S dX1_near_107 ?_
                have r9_ : 0 ≤ ((p * k) - (t * q)) ∧ ((p * k) - (t * q)) ≤ 999999 := by omega
                refine j_lstore (lv' := [(15, jL ((p * k) - (t * q))), (13, jL t), (11, jL k), (9, jL O), (7, jL B), (5, jL U), (0, .ref h), (1, jI p), (2, jI q), (3, jI limit), (4, jI what)]) S dX1_near_108 hl (by decide) rfl (fun ls hl => ?_)
                refine j_lload S dX1_near_110 (lv_at hl 0 rfl) ?_
                refine j_lconst (a := 0) S dX1_near_112 rfl ?_
                refine j_lcmp_ge (pc1 := 114) (tgt := 123) S rfl dX1_near_113 dX1_near_114 (by decide) (iv_l r9_ (by decide +kernel)) (iv_l (iv_n 0) (by decide +kernel)) (fun c113 => ?_) (fun z9 => by have : 0 ≤ ((p * k) - (t * q)) ∧ ((p * k) - (t * q)) ≤ 999999 := r9_; omega)
                refine j_lload S dX1_near_123 (lv_at hl 0 rfl) ?_
                refine j_lstore (lv' := [(15, jL ((p * k) - (t * q))), (13, jL t), (11, jL k), (9, jL O), (7, jL B), (5, jL U), (0, .ref h), (1, jI p), (2, jI q), (3, jI limit), (4, jI what)]) S dX1_near_125 hl (by decide) rfl (fun ls hl => ?_)
                refine j_lload S dX1_near_127 (lv_at hl 0 rfl) ?_
                refine j_lload S dX1_near_129 (lv_at hl 4 rfl) ?_
                refine j_lmul S dX1_near_131 ?_
                refine j_lload S dX1_near_132 (lv_at hl 3 rfl) ?_
                refine j_lload S dX1_near_134 (lv_at hl 2 rfl) ?_
                refine j_lmul S dX1_near_136 ?_
                refine j_lcmp_ge (pc1 := 138) (tgt := 153) S rfl dX1_near_137 dX1_near_138 (by decide) (iv_l (iv_mulp (lo := 0) (hi := 9999990000) r9_ hB (by decide +kernel)) (by decide +kernel)) (iv_l (iv_mulp (lo := 0) (hi := 10000000000) hO r8_ (by decide +kernel)) (by decide +kernel)) (fun c137 => ?_) (fun c137 => ?_)
                · refine j_lload S dX1_near_153 (lv_at hl 1 rfl) ?_
                  refine j_lconst (a := 1) S dX1_near_155 rfl ?_
                  refine j_ladd S dX1_near_156 ?_
                  refine j_lstore (lv' := [(13, jL (t + 1)), (15, jL ((p * k) - (t * q))), (11, jL k), (9, jL O), (7, jL B), (5, jL U), (0, .ref h), (1, jI p), (2, jI q), (3, jI limit), (4, jI what)]) S dX1_near_157 hl (by decide) rfl (fun ls hl => ?_)
                  refine j_goto (tgt := 81) S dX1_near_159 (by decide) ?_
                  refine j_lload S dX1_near_81 (lv_at hl 0 rfl) ?_
                  refine j_iload_n S dX1_near_83 rfl (lv_at hl 7 rfl) ?_
                  refine j_i2l S dX1_near_84 (iv_i r1_ (by decide +kernel)) ?_
                  refine j_lload S dX1_near_85 (lv_at hl 2 rfl) ?_
                  refine j_lmul S dX1_near_87 ?_
                  refine j_iload_n S dX1_near_88 rfl (lv_at hl 8 rfl) ?_
                  refine j_i2l S dX1_near_89 (iv_i r2_ (by decide +kernel)) ?_
                  refine j_ldivp S dX1_near_90 (iv_l (iv_mulp (lo := 1) (hi := 10000000000) r1_ r8_ (by decide +kernel)) (by decide +kernel)) (iv_pl r2_ (by decide +kernel)) (iv_nn (iv_mulp (lo := 1) (hi := 10000000000) r1_ r8_ (by decide +kernel)) (by decide +kernel)) ?_
                  rw [← ht]
                  refine j_lconst (a := 1) S dX1_near_91 rfl ?_
                  refine j_ladd S dX1_near_92 ?_
                  refine j_lcmp_gt (pc1 := 94) (tgt := 162) S rfl dX1_near_93 dX1_near_94 (by decide) (iv_l (iv_add (lo := 1) (hi := 10000000001) htv (iv_n 1) (by decide +kernel)) (by decide +kernel)) (iv_l (iv_add (lo := 1) (hi := 10000000001) htv (iv_n 1) (by decide +kernel)) (by decide +kernel)) (fun z9 => by have : 1 ≤ (t + 1) ∧ (t + 1) ≤ 10000000001 := (iv_add (lo := 1) (hi := 10000000001) htv (iv_n 1) (by decide +kernel)); have : 1 ≤ (t + 1) ∧ (t + 1) ≤ 10000000001 := (iv_add (lo := 1) (hi := 10000000001) htv (iv_n 1) (by decide +kernel)); omega) (fun c93_2 => ?_)
                  refine j_iload_n S dX1_near_97 rfl (lv_at hl 7 rfl) ?_
                  refine j_i2l S dX1_near_98 (iv_i r1_ (by decide +kernel)) ?_
                  refine j_lload S dX1_near_99 (lv_at hl 2 rfl) ?_
                  refine j_lmul S dX1_near_101 ?_
                  refine j_lload S dX1_near_102 (lv_at hl 0 rfl) ?_
                  refine j_iload_n S dX1_near_104 rfl (lv_at hl 8 rfl) ?_
                  refine j_i2l S dX1_near_105 (iv_i r2_ (by decide +kernel)) ?_
                  refine j_lmul S dX1_near_106 ?_
                  refine j_lsub S dX1_near_107 ?_
                  have r10_ : (-1000000) ≤ ((p * k) - ((t + 1) * q)) ∧ ((p * k) - ((t + 1) * q)) ≤ (-1) := by omega
                  refine j_lstore (lv' := [(15, jL ((p * k) - ((t + 1) * q))), (13, jL (t + 1)), (11, jL k), (9, jL O), (7, jL B), (5, jL U), (0, .ref h), (1, jI p), (2, jI q), (3, jI limit), (4, jI what)]) S dX1_near_108 hl (by decide) rfl (fun ls hl => ?_)
                  refine j_lload S dX1_near_110 (lv_at hl 0 rfl) ?_
                  refine j_lconst (a := 0) S dX1_near_112 rfl ?_
                  refine j_lcmp_ge (pc1 := 114) (tgt := 123) S rfl dX1_near_113 dX1_near_114 (by decide) (iv_l r10_ (by decide +kernel)) (iv_l (iv_n 0) (by decide +kernel)) (fun z9 => by have : (-1000000) ≤ ((p * k) - ((t + 1) * q)) ∧ ((p * k) - ((t + 1) * q)) ≤ (-1) := r10_; omega) (fun c113_2 => ?_)
                  refine j_lload S dX1_near_117 (lv_at hl 0 rfl) ?_
                  refine j_lneg S dX1_near_119 ?_
                  refine j_goto (tgt := 125) S dX1_near_120 (by decide) ?_
                  refine j_lstore (lv' := [(15, jL (-((p * k) - ((t + 1) * q)))), (13, jL (t + 1)), (11, jL k), (9, jL O), (7, jL B), (5, jL U), (0, .ref h), (1, jI p), (2, jI q), (3, jI limit), (4, jI what)]) S dX1_near_125 hl (by decide) rfl (fun ls hl => ?_)
                  refine j_lload S dX1_near_127 (lv_at hl 0 rfl) ?_
                  refine j_lload S dX1_near_129 (lv_at hl 4 rfl) ?_
                  refine j_lmul S dX1_near_131 ?_
                  refine j_lload S dX1_near_132 (lv_at hl 3 rfl) ?_
                  refine j_lload S dX1_near_134 (lv_at hl 2 rfl) ?_
                  refine j_lmul S dX1_near_136 ?_
                  refine j_lcmp_ge (pc1 := 138) (tgt := 153) S rfl dX1_near_137 dX1_near_138 (by decide) (iv_l (iv_mulp (lo := 1) (hi := 10000000000) (iv_neg (lo := 1) (hi := 1000000) r10_ (by decide +kernel)) hB (by decide +kernel)) (by decide +kernel)) (iv_l (iv_mulp (lo := 0) (hi := 10000000000) hO r8_ (by decide +kernel)) (by decide +kernel)) (fun c137_2 => ?_) (fun c137_2 => ?_)
                  · refine j_lload S dX1_near_153 (lv_at hl 1 rfl) ?_
                    refine j_lconst (a := 1) S dX1_near_155 rfl ?_
                    refine j_ladd S dX1_near_156 ?_
                    refine j_lstore (lv' := [(13, jL ((t + 1) + 1)), (15, jL (-((p * k) - ((t + 1) * q)))), (11, jL k), (9, jL O), (7, jL B), (5, jL U), (0, .ref h), (1, jI p), (2, jI q), (3, jI limit), (4, jI what)]) S dX1_near_157 hl (by decide) rfl (fun ls hl => ?_)
                    refine j_goto (tgt := 81) S dX1_near_159 (by decide) ?_
                    refine j_lload S dX1_near_81 (lv_at hl 0 rfl) ?_
                    refine j_iload_n S dX1_near_83 rfl (lv_at hl 7 rfl) ?_
                    refine j_i2l S dX1_near_84 (iv_i r1_ (by decide +kernel)) ?_
                    refine j_lload S dX1_near_85 (lv_at hl 2 rfl) ?_
                    refine j_lmul S dX1_near_87 ?_
                    refine j_iload_n S dX1_near_88 rfl (lv_at hl 8 rfl) ?_
                    refine j_i2l S dX1_near_89 (iv_i r2_ (by decide +kernel)) ?_
                    refine j_ldivp S dX1_near_90 (iv_l (iv_mulp (lo := 1) (hi := 10000000000) r1_ r8_ (by decide +kernel)) (by decide +kernel)) (iv_pl r2_ (by decide +kernel)) (iv_nn (iv_mulp (lo := 1) (hi := 10000000000) r1_ r8_ (by decide +kernel)) (by decide +kernel)) ?_
                    rw [← ht]
                    refine j_lconst (a := 1) S dX1_near_91 rfl ?_
                    refine j_ladd S dX1_near_92 ?_
                    refine j_lcmp_gt (pc1 := 94) (tgt := 162) S rfl dX1_near_93 dX1_near_94 (by decide) (iv_l (iv_add (lo := 2) (hi := 10000000002) (iv_add (lo := 1) (hi := 10000000001) htv (iv_n 1) (by decide +kernel)) (iv_n 1) (by decide +kernel)) (by decide +kernel)) (iv_l (iv_add (lo := 1) (hi := 10000000001) htv (iv_n 1) (by decide +kernel)) (by decide +kernel)) (fun c93_3 => ?_) (fun z9 => by omega)
                    refine j_lload S dX1_near_162 (lv_at hl 2 rfl) ?_
                    refine j_lconst (a := 1) S dX1_near_164 rfl ?_
                    refine j_ladd S dX1_near_165 ?_
                    refine j_lstore (lv' := [(11, jL (k + 1)), (13, jL ((t + 1) + 1)), (15, jL (-((p * k) - ((t + 1) * q)))), (9, jL O), (7, jL B), (5, jL U), (0, .ref h), (1, jI p), (2, jI q), (3, jI limit), (4, jI what)]) S dX1_near_166 hl (by decide) rfl (fun ls hl => ?_)
                    refine j_goto (tgt := 63) S dX1_near_168 (by decide) ?_
                    exact ih63 U B O (k + 1) _ (by omega) (by omega) (by omega) (by omega) (near_2b (o2 := (-((p * k) - ((t + 1) * q)))) (by omega) (by omega) (by omega) hI ht (by omega) c137 c137_2) (by omega) (lv_sub hl [0, 3, 4, 5, 6, 7, 8, 9, 10] rfl)
                  · refine j_lload S dX1_near_141 (lv_at hl 0 rfl) ?_
                    refine j_lstore (lv' := [(9, jL (-((p * k) - ((t + 1) * q)))), (15, jL (-((p * k) - ((t + 1) * q)))), (13, jL (t + 1)), (11, jL k), (7, jL B), (5, jL U), (0, .ref h), (1, jI p), (2, jI q), (3, jI limit), (4, jI what)]) S dX1_near_143 hl (by decide) rfl (fun ls hl => ?_)
                    refine j_lload S dX1_near_145 (lv_at hl 2 rfl) ?_
                    refine j_lstore (lv' := [(5, jL (t + 1)), (9, jL (-((p * k) - ((t + 1) * q)))), (15, jL (-((p * k) - ((t + 1) * q)))), (13, jL (t + 1)), (11, jL k), (7, jL B), (0, .ref h), (1, jI p), (2, jI q), (3, jI limit), (4, jI what)]) S dX1_near_147 hl (by decide) rfl (fun ls hl => ?_)
                    refine j_lload S dX1_near_149 (lv_at hl 4 rfl) ?_
                    refine j_lstore (lv' := [(7, jL k), (5, jL (t + 1)), (9, jL (-((p * k) - ((t + 1) * q)))), (15, jL (-((p * k) - ((t + 1) * q)))), (13, jL (t + 1)), (11, jL k), (0, .ref h), (1, jI p), (2, jI q), (3, jI limit), (4, jI what)]) S dX1_near_151 hl (by decide) rfl (fun ls hl => ?_)
                    refine j_lload S dX1_near_153 (lv_at hl 4 rfl) ?_
                    refine j_lconst (a := 1) S dX1_near_155 rfl ?_
                    refine j_ladd S dX1_near_156 ?_
                    refine j_lstore (lv' := [(13, jL ((t + 1) + 1)), (7, jL k), (5, jL (t + 1)), (9, jL (-((p * k) - ((t + 1) * q)))), (15, jL (-((p * k) - ((t + 1) * q)))), (11, jL k), (0, .ref h), (1, jI p), (2, jI q), (3, jI limit), (4, jI what)]) S dX1_near_157 hl (by decide) rfl (fun ls hl => ?_)
                    refine j_goto (tgt := 81) S dX1_near_159 (by decide) ?_
                    refine j_lload S dX1_near_81 (lv_at hl 0 rfl) ?_
                    refine j_iload_n S dX1_near_83 rfl (lv_at hl 7 rfl) ?_
                    refine j_i2l S dX1_near_84 (iv_i r1_ (by decide +kernel)) ?_
                    refine j_lload S dX1_near_85 (lv_at hl 5 rfl) ?_
                    refine j_lmul S dX1_near_87 ?_
                    refine j_iload_n S dX1_near_88 rfl (lv_at hl 8 rfl) ?_
                    refine j_i2l S dX1_near_89 (iv_i r2_ (by decide +kernel)) ?_
                    refine j_ldivp S dX1_near_90 (iv_l (iv_mulp (lo := 1) (hi := 10000000000) r1_ r8_ (by decide +kernel)) (by decide +kernel)) (iv_pl r2_ (by decide +kernel)) (iv_nn (iv_mulp (lo := 1) (hi := 10000000000) r1_ r8_ (by decide +kernel)) (by decide +kernel)) ?_
                    rw [← ht]
                    refine j_lconst (a := 1) S dX1_near_91 rfl ?_
                    refine j_ladd S dX1_near_92 ?_
                    refine j_lcmp_gt (pc1 := 94) (tgt := 162) S rfl dX1_near_93 dX1_near_94 (by decide) (iv_l (iv_add (lo := 2) (hi := 10000000002) (iv_add (lo := 1) (hi := 10000000001) htv (iv_n 1) (by decide +kernel)) (iv_n 1) (by decide +kernel)) (by decide +kernel)) (iv_l (iv_add (lo := 1) (hi := 10000000001) htv (iv_n 1) (by decide +kernel)) (by decide +kernel)) (fun c93_3 => ?_) (fun z9 => by omega)
                    refine j_lload S dX1_near_162 (lv_at hl 5 rfl) ?_
                    refine j_lconst (a := 1) S dX1_near_164 rfl ?_
                    refine j_ladd S dX1_near_165 ?_
                    refine j_lstore (lv' := [(11, jL (k + 1)), (13, jL ((t + 1) + 1)), (7, jL k), (5, jL (t + 1)), (9, jL (-((p * k) - ((t + 1) * q)))), (15, jL (-((p * k) - ((t + 1) * q)))), (0, .ref h), (1, jI p), (2, jI q), (3, jI limit), (4, jI what)]) S dX1_near_166 hl (by decide) rfl (fun ls hl => ?_)
                    refine j_goto (tgt := 63) S dX1_near_168 (by decide) ?_
                    exact ih63 (t + 1) k (-((p * k) - ((t + 1) * q))) (k + 1) _ (by omega) (by omega) (by omega) (by omega) (near_2a (o2 := (-((p * k) - ((t + 1) * q)))) (by omega) (by omega) (by omega) hI ht (by omega) c137 c137_2) (by omega) (lv_sub hl [0, 4, 2, 3, 6, 7, 8, 9, 10] rfl)
                · refine j_lload S dX1_near_141 (lv_at hl 0 rfl) ?_
                  refine j_lstore (lv' := [(9, jL ((p * k) - (t * q))), (15, jL ((p * k) - (t * q))), (13, jL t), (11, jL k), (7, jL B), (5, jL U), (0, .ref h), (1, jI p), (2, jI q), (3, jI limit), (4, jI what)]) S dX1_near_143 hl (by decide) rfl (fun ls hl => ?_)
                  refine j_lload S dX1_near_145 (lv_at hl 2 rfl) ?_
                  refine j_lstore (lv' := [(5, jL t), (9, jL ((p * k) - (t * q))), (15, jL ((p * k) - (t * q))), (13, jL t), (11, jL k), (7, jL B), (0, .ref h), (1, jI p), (2, jI q), (3, jI limit), (4, jI what)]) S dX1_near_147 hl (by decide) rfl (fun ls hl => ?_)
                  refine j_lload S dX1_near_149 (lv_at hl 4 rfl) ?_
                  refine j_lstore (lv' := [(7, jL k), (5, jL t), (9, jL ((p * k) - (t * q))), (15, jL ((p * k) - (t * q))), (13, jL t), (11, jL k), (0, .ref h), (1, jI p), (2, jI q), (3, jI limit), (4, jI what)]) S dX1_near_151 hl (by decide) rfl (fun ls hl => ?_)
                  refine j_lload S dX1_near_153 (lv_at hl 4 rfl) ?_
                  refine j_lconst (a := 1) S dX1_near_155 rfl ?_
                  refine j_ladd S dX1_near_156 ?_
                  refine j_lstore (lv' := [(13, jL (t + 1)), (7, jL k), (5, jL t), (9, jL ((p * k) - (t * q))), (15, jL ((p * k) - (t * q))), (11, jL k), (0, .ref h), (1, jI p), (2, jI q), (3, jI limit), (4, jI what)]) S dX1_near_157 hl (by decide) rfl (fun ls hl => ?_)
                  refine j_goto (tgt := 81) S dX1_near_159 (by decide) ?_
                  refine j_lload S dX1_near_81 (lv_at hl 0 rfl) ?_
                  refine j_iload_n S dX1_near_83 rfl (lv_at hl 7 rfl) ?_
                  refine j_i2l S dX1_near_84 (iv_i r1_ (by decide +kernel)) ?_
                  refine j_lload S dX1_near_85 (lv_at hl 5 rfl) ?_
                  refine j_lmul S dX1_near_87 ?_
                  refine j_iload_n S dX1_near_88 rfl (lv_at hl 8 rfl) ?_
                  refine j_i2l S dX1_near_89 (iv_i r2_ (by decide +kernel)) ?_
                  refine j_ldivp S dX1_near_90 (iv_l (iv_mulp (lo := 1) (hi := 10000000000) r1_ r8_ (by decide +kernel)) (by decide +kernel)) (iv_pl r2_ (by decide +kernel)) (iv_nn (iv_mulp (lo := 1) (hi := 10000000000) r1_ r8_ (by decide +kernel)) (by decide +kernel)) ?_
                  rw [← ht]
                  refine j_lconst (a := 1) S dX1_near_91 rfl ?_
                  refine j_ladd S dX1_near_92 ?_
                  refine j_lcmp_gt (pc1 := 94) (tgt := 162) S rfl dX1_near_93 dX1_near_94 (by decide) (iv_l (iv_add (lo := 1) (hi := 10000000001) htv (iv_n 1) (by decide +kernel)) (by decide +kernel)) (iv_l (iv_add (lo := 1) (hi := 10000000001) htv (iv_n 1) (by decide +kernel)) (by decide +kernel)) (fun z9 => by have : 1 ≤ (t + 1) ∧ (t + 1) ≤ 10000000001 := (iv_add (lo := 1) (hi := 10000000001) htv (iv_n 1) (by decide +kernel)); have : 1 ≤ (t + 1) ∧ (t + 1) ≤ 10000000001 := (iv_add (lo := 1) (hi := 10000000001) htv (iv_n 1) (by decide +kernel)); omega) (fun c93_2 => ?_)
                  refine j_iload_n S dX1_near_97 rfl (lv_at hl 7 rfl) ?_
                  refine j_i2l S dX1_near_98 (iv_i r1_ (by decide +kernel)) ?_
                  refine j_lload S dX1_near_99 (lv_at hl 5 rfl) ?_
                  refine j_lmul S dX1_near_101 ?_
                  refine j_lload S dX1_near_102 (lv_at hl 0 rfl) ?_
                  refine j_iload_n S dX1_near_104 rfl (lv_at hl 8 rfl) ?_
                  refine j_i2l S dX1_near_105 (iv_i r2_ (by decide +kernel)) ?_
                  refine j_lmul S dX1_near_106 ?_
                  refine j_lsub S dX1_near_107 ?_
                  have r11_ : (-1000000) ≤ ((p * k) - ((t + 1) * q)) ∧ ((p * k) - ((t + 1) * q)) ≤ (-1) := by omega
                  refine j_lstore (lv' := [(15, jL ((p * k) - ((t + 1) * q))), (13, jL (t + 1)), (7, jL k), (5, jL t), (9, jL ((p * k) - (t * q))), (11, jL k), (0, .ref h), (1, jI p), (2, jI q), (3, jI limit), (4, jI what)]) S dX1_near_108 hl (by decide) rfl (fun ls hl => ?_)
                  refine j_lload S dX1_near_110 (lv_at hl 0 rfl) ?_
                  refine j_lconst (a := 0) S dX1_near_112 rfl ?_
                  refine j_lcmp_ge (pc1 := 114) (tgt := 123) S rfl dX1_near_113 dX1_near_114 (by decide) (iv_l r11_ (by decide +kernel)) (iv_l (iv_n 0) (by decide +kernel)) (fun z9 => by have : (-1000000) ≤ ((p * k) - ((t + 1) * q)) ∧ ((p * k) - ((t + 1) * q)) ≤ (-1) := r11_; omega) (fun c113_2 => ?_)
                  refine j_lload S dX1_near_117 (lv_at hl 0 rfl) ?_
                  refine j_lneg S dX1_near_119 ?_
                  refine j_goto (tgt := 125) S dX1_near_120 (by decide) ?_
                  refine j_lstore (lv' := [(15, jL (-((p * k) - ((t + 1) * q)))), (13, jL (t + 1)), (7, jL k), (5, jL t), (9, jL ((p * k) - (t * q))), (11, jL k), (0, .ref h), (1, jI p), (2, jI q), (3, jI limit), (4, jI what)]) S dX1_near_125 hl (by decide) rfl (fun ls hl => ?_)
                  refine j_lload S dX1_near_127 (lv_at hl 0 rfl) ?_
                  refine j_lload S dX1_near_129 (lv_at hl 2 rfl) ?_
                  refine j_lmul S dX1_near_131 ?_
                  refine j_lload S dX1_near_132 (lv_at hl 4 rfl) ?_
                  refine j_lload S dX1_near_134 (lv_at hl 5 rfl) ?_
                  refine j_lmul S dX1_near_136 ?_
                  refine j_lcmp_ge (pc1 := 138) (tgt := 153) S rfl dX1_near_137 dX1_near_138 (by decide) (iv_l (iv_mulp (lo := 1) (hi := 10000000000) (iv_neg (lo := 1) (hi := 1000000) r11_ (by decide +kernel)) r8_ (by decide +kernel)) (by decide +kernel)) (iv_l (iv_mulp (lo := 0) (hi := 9999990000) r9_ r8_ (by decide +kernel)) (by decide +kernel)) (fun c137_2 => ?_) (fun c137_2 => ?_)
                  · refine j_lload S dX1_near_153 (lv_at hl 1 rfl) ?_
                    refine j_lconst (a := 1) S dX1_near_155 rfl ?_
                    refine j_ladd S dX1_near_156 ?_
                    refine j_lstore (lv' := [(13, jL ((t + 1) + 1)), (15, jL (-((p * k) - ((t + 1) * q)))), (7, jL k), (5, jL t), (9, jL ((p * k) - (t * q))), (11, jL k), (0, .ref h), (1, jI p), (2, jI q), (3, jI limit), (4, jI what)]) S dX1_near_157 hl (by decide) rfl (fun ls hl => ?_)
                    refine j_goto (tgt := 81) S dX1_near_159 (by decide) ?_
                    refine j_lload S dX1_near_81 (lv_at hl 0 rfl) ?_
                    refine j_iload_n S dX1_near_83 rfl (lv_at hl 7 rfl) ?_
                    refine j_i2l S dX1_near_84 (iv_i r1_ (by decide +kernel)) ?_
                    refine j_lload S dX1_near_85 (lv_at hl 5 rfl) ?_
                    refine j_lmul S dX1_near_87 ?_
                    refine j_iload_n S dX1_near_88 rfl (lv_at hl 8 rfl) ?_
                    refine j_i2l S dX1_near_89 (iv_i r2_ (by decide +kernel)) ?_
                    refine j_ldivp S dX1_near_90 (iv_l (iv_mulp (lo := 1) (hi := 10000000000) r1_ r8_ (by decide +kernel)) (by decide +kernel)) (iv_pl r2_ (by decide +kernel)) (iv_nn (iv_mulp (lo := 1) (hi := 10000000000) r1_ r8_ (by decide +kernel)) (by decide +kernel)) ?_
                    rw [← ht]
                    refine j_lconst (a := 1) S dX1_near_91 rfl ?_
                    refine j_ladd S dX1_near_92 ?_
                    refine j_lcmp_gt (pc1 := 94) (tgt := 162) S rfl dX1_near_93 dX1_near_94 (by decide) (iv_l (iv_add (lo := 2) (hi := 10000000002) (iv_add (lo := 1) (hi := 10000000001) htv (iv_n 1) (by decide +kernel)) (iv_n 1) (by decide +kernel)) (by decide +kernel)) (iv_l (iv_add (lo := 1) (hi := 10000000001) htv (iv_n 1) (by decide +kernel)) (by decide +kernel)) (fun c93_3 => ?_) (fun z9 => by omega)
                    refine j_lload S dX1_near_162 (lv_at hl 5 rfl) ?_
                    refine j_lconst (a := 1) S dX1_near_164 rfl ?_
                    refine j_ladd S dX1_near_165 ?_
                    refine j_lstore (lv' := [(11, jL (k + 1)), (13, jL ((t + 1) + 1)), (15, jL (-((p * k) - ((t + 1) * q)))), (7, jL k), (5, jL t), (9, jL ((p * k) - (t * q))), (0, .ref h), (1, jI p), (2, jI q), (3, jI limit), (4, jI what)]) S dX1_near_166 hl (by decide) rfl (fun ls hl => ?_)
                    refine j_goto (tgt := 63) S dX1_near_168 (by decide) ?_
                    exact ih63 t k ((p * k) - (t * q)) (k + 1) _ (by omega) (by omega) (by omega) (by omega) (near_1b (o2 := (-((p * k) - ((t + 1) * q)))) (by omega) (by omega) hI ht (by omega) c137 c137_2) (by omega) (lv_sub hl [0, 5, 3, 4, 6, 7, 8, 9, 10] rfl)
                  · refine j_lload S dX1_near_141 (lv_at hl 0 rfl) ?_
                    refine j_lstore (lv' := [(9, jL (-((p * k) - ((t + 1) * q)))), (15, jL (-((p * k) - ((t + 1) * q)))), (13, jL (t + 1)), (7, jL k), (5, jL t), (11, jL k), (0, .ref h), (1, jI p), (2, jI q), (3, jI limit), (4, jI what)]) S dX1_near_143 hl (by decide) rfl (fun ls hl => ?_)
                    refine j_lload S dX1_near_145 (lv_at hl 2 rfl) ?_
                    refine j_lstore (lv' := [(5, jL (t + 1)), (9, jL (-((p * k) - ((t + 1) * q)))), (15, jL (-((p * k) - ((t + 1) * q)))), (13, jL (t + 1)), (7, jL k), (11, jL k), (0, .ref h), (1, jI p), (2, jI q), (3, jI limit), (4, jI what)]) S dX1_near_147 hl (by decide) rfl (fun ls hl => ?_)
                    refine j_lload S dX1_near_149 (lv_at hl 5 rfl) ?_
                    refine j_lstore (lv' := [(7, jL k), (5, jL (t + 1)), (9, jL (-((p * k) - ((t + 1) * q)))), (15, jL (-((p * k) - ((t + 1) * q)))), (13, jL (t + 1)), (11, jL k), (0, .ref h), (1, jI p), (2, jI q), (3, jI limit), (4, jI what)]) S dX1_near_151 hl (by decide) rfl (fun ls hl => ?_)
                    refine j_lload S dX1_near_153 (lv_at hl 4 rfl) ?_
                    refine j_lconst (a := 1) S dX1_near_155 rfl ?_
                    refine j_ladd S dX1_near_156 ?_
                    refine j_lstore (lv' := [(13, jL ((t + 1) + 1)), (7, jL k), (5, jL (t + 1)), (9, jL (-((p * k) - ((t + 1) * q)))), (15, jL (-((p * k) - ((t + 1) * q)))), (11, jL k), (0, .ref h), (1, jI p), (2, jI q), (3, jI limit), (4, jI what)]) S dX1_near_157 hl (by decide) rfl (fun ls hl => ?_)
                    refine j_goto (tgt := 81) S dX1_near_159 (by decide) ?_
                    refine j_lload S dX1_near_81 (lv_at hl 0 rfl) ?_
                    refine j_iload_n S dX1_near_83 rfl (lv_at hl 7 rfl) ?_
                    refine j_i2l S dX1_near_84 (iv_i r1_ (by decide +kernel)) ?_
                    refine j_lload S dX1_near_85 (lv_at hl 5 rfl) ?_
                    refine j_lmul S dX1_near_87 ?_
                    refine j_iload_n S dX1_near_88 rfl (lv_at hl 8 rfl) ?_
                    refine j_i2l S dX1_near_89 (iv_i r2_ (by decide +kernel)) ?_
                    refine j_ldivp S dX1_near_90 (iv_l (iv_mulp (lo := 1) (hi := 10000000000) r1_ r8_ (by decide +kernel)) (by decide +kernel)) (iv_pl r2_ (by decide +kernel)) (iv_nn (iv_mulp (lo := 1) (hi := 10000000000) r1_ r8_ (by decide +kernel)) (by decide +kernel)) ?_
                    rw [← ht]
                    refine j_lconst (a := 1) S dX1_near_91 rfl ?_
                    refine j_ladd S dX1_near_92 ?_
                    refine j_lcmp_gt (pc1 := 94) (tgt := 162) S rfl dX1_near_93 dX1_near_94 (by decide) (iv_l (iv_add (lo := 2) (hi := 10000000002) (iv_add (lo := 1) (hi := 10000000001) htv (iv_n 1) (by decide +kernel)) (iv_n 1) (by decide +kernel)) (by decide +kernel)) (iv_l (iv_add (lo := 1) (hi := 10000000001) htv (iv_n 1) (by decide +kernel)) (by decide +kernel)) (fun c93_3 => ?_) (fun z9 => by omega)
                    refine j_lload S dX1_near_162 (lv_at hl 5 rfl) ?_
                    refine j_lconst (a := 1) S dX1_near_164 rfl ?_
                    refine j_ladd S dX1_near_165 ?_
                    refine j_lstore (lv' := [(11, jL (k + 1)), (13, jL ((t + 1) + 1)), (7, jL k), (5, jL (t + 1)), (9, jL (-((p * k) - ((t + 1) * q)))), (15, jL (-((p * k) - ((t + 1) * q)))), (0, .ref h), (1, jI p), (2, jI q), (3, jI limit), (4, jI what)]) S dX1_near_166 hl (by decide) rfl (fun ls hl => ?_)
                    refine j_goto (tgt := 63) S dX1_near_168 (by decide) ?_
                    exact ih63 (t + 1) k (-((p * k) - ((t + 1) * q))) (k + 1) _ (by omega) (by omega) (by omega) (by omega) (near_1a (o2 := (-((p * k) - ((t + 1) * q)))) (by omega) (by omega) (by omega) hI ht (by omega) c137 c137_2) (by omega) (lv_sub hl [0, 4, 2, 3, 6, 7, 8, 9, 10] rfl)
          exact loop63 10002 0 1 p 1 _ (by omega) (by omega) (by omega) (by omega) (Or.inl ⟨rfl, rfl, rfl, rfl⟩) (by omega) (lv_sub hl [0, 1, 2, 3, 4, 5, 6, 7, 8] rfl)
        · refine j_bipush S dX1_near_47 (by decide) ?_
          exact hret (-2) 49 _ (by unfold sp_near; (repeat' split) <;> first | omega) dX1_near_49
abbrev rmX1_mainOf : Room := { frames := 0, cells := 0, slots := 0, locals := 0 }
theorem hdX1_mainOf : yX1_mainOf.cls ≠ "java/lang/invoke/MethodHandle" ∧ yX1_mainOf.cls ≠ "java/lang/invoke/VarHandle" ∧ (parseMethodDescriptor yX1_mainOf.desc).map (fun d => d.parameters.length) = some 2 := by decide +kernel
set_option maxHeartbeats 4000000 in
set_option maxRecDepth 100000 in
theorem c_X1_mainOf (l : Launch) (D : va_G) (h a0 a1 a2 a3 : Nat) (cA : ClassId) (H T E F : Int → Int) (cc gc w d v : Int) (hok : SOK H T E cc gc w d v) (p : Int) (q : Int) (hp : 0 ≤ p ∧ p ≤ 2000000000000) (hq : 1 ≤ q ∧ q ≤ 2000000000000) (hpq : p < q) : ML l yX1_mainOf wsX1_mainOf rmX1_mainOf [.ref h, jL p, jL q] (WB D (MW h a0 a1 a2 a3 cA H T E F cc gc w d v) cA) (fun rR => rR = sp_mm d p q) := by
  refine ML_of (cc := cX1_mainOf) (maxL := 5) (by decide) rfl (Nat.le_of_ble_eq_true rfl) ?_
  intro pP eE sS mM aA bL mT cC QQ ls S hret ⟨hP, hK⟩ hl
  obtain ⟨hcc, hgc, hw, hd, hv, hH, hT, hE⟩ := id hok
  have hin : ∀ w ∈ wsX10, w ∈ wsX1_mainOf := fun w hw => List.mem_cons_of_mem _ (List.mem_append_right _ hw)
  have hl : lv_has ls 5 [(0, .ref h), (1, jL p), (3, jL q)] := hl
  refine j_lload_n S dX1_mainOf_0 rfl (lv_at hl 1 rfl) ?_
  refine lv_aload_n S.1 S.2.1 dX1_mainOf_1 rfl (lv_at hl 0 rfl) ?_
  refine j_get (v := jI d) S hin hK hP rfl rfl 6 (by decide) (List.mem_of_getElem? (i := 1) rfl) rfl dX1_mainOf_2 ?_
  refine j_i2l S dX1_mainOf_5 (iv_i hd (by decide +kernel)) ?_
  refine j_lmul S dX1_mainOf_6 ?_
  refine j_lload_n S dX1_mainOf_7 rfl (lv_at hl 2 rfl) ?_
  refine j_ldivp S dX1_mainOf_8 (iv_l (iv_mulp (lo := 0) (hi := 1440000000000000) hp hd (by decide +kernel)) (by decide +kernel)) (iv_pl hq (by decide +kernel)) (iv_nn (iv_mulp (lo := 0) (hi := 1440000000000000) hp hd (by decide +kernel)) (by decide +kernel)) ?_
  exact hret ((p * d) / q) 9 _ rfl dX1_mainOf_9
abbrev rmX1_lineOf : Room := { frames := 0, cells := 0, slots := 0, locals := 0 }
theorem hdX1_lineOf : yX1_lineOf.cls ≠ "java/lang/invoke/MethodHandle" ∧ yX1_lineOf.cls ≠ "java/lang/invoke/VarHandle" ∧ (parseMethodDescriptor yX1_lineOf.desc).map (fun d => d.parameters.length) = some 2 := by decide +kernel
set_option maxHeartbeats 4000000 in
set_option maxRecDepth 100000 in
theorem c_X1_lineOf (l : Launch) (D : va_G) (h a0 a1 a2 a3 : Nat) (cA : ClassId) (H T E F : Int → Int) (cc gc w d v : Int) (hok : SOK H T E cc gc w d v) (p : Int) (q : Int) (hp : 0 ≤ p ∧ p ≤ 2000000000000) (hq : 1 ≤ q ∧ q ≤ 2000000000000) (hpq : p < q) : ML l yX1_lineOf wsX1_lineOf rmX1_lineOf [.ref h, jL p, jL q] (WB D (MW h a0 a1 a2 a3 cA H T E F cc gc w d v) cA) (fun rR => rR = sp_ln d v p q) := by
  refine ML_of (cc := cX1_lineOf) (maxL := 7) (by decide) rfl (Nat.le_of_ble_eq_true rfl) ?_
  intro pP eE sS mM aA bL mT cC QQ ls S hret ⟨hP, hK⟩ hl
  obtain ⟨hcc, hgc, hw, hd, hv, hH, hT, hE⟩ := id hok
  have hin : ∀ w ∈ wsX10, w ∈ wsX1_lineOf := fun w hw => List.mem_cons_of_mem _ (List.mem_append_right _ hw)
  have hl : lv_has ls 7 [(0, .ref h), (1, jL p), (3, jL q)] := hl
  refine j_lload_n S dX1_lineOf_0 rfl (lv_at hl 1 rfl) ?_
  refine lv_aload_n S.1 S.2.1 dX1_lineOf_1 rfl (lv_at hl 0 rfl) ?_
  refine j_get (v := jI d) S hin hK hP rfl rfl 6 (by decide) (List.mem_of_getElem? (i := 1) rfl) rfl dX1_lineOf_2 ?_
  refine j_i2l S dX1_lineOf_5 (iv_i hd (by decide +kernel)) ?_
  refine j_lmul S dX1_lineOf_6 ?_
  refine j_lload_n S dX1_lineOf_7 rfl (lv_at hl 2 rfl) ?_
  refine j_lremp S dX1_lineOf_8 (iv_l (iv_mulp (lo := 0) (hi := 1440000000000000) hp hd (by decide +kernel)) (by decide +kernel)) (iv_pl hq (by decide +kernel)) (iv_nn (iv_mulp (lo := 0) (hi := 1440000000000000) hp hd (by decide +kernel)) (by decide +kernel)) ?_
  refine j_lstore (lv' := [(5, jL ((p * d) % q)), (0, .ref h), (1, jL p), (3, jL q)]) S dX1_lineOf_9 hl (by decide) rfl (fun ls hl => ?_)
  refine j_ldc2 (n := 2) S (S.2.2.2.2 _ (List.mem_of_getElem? (i := 2) rfl)) (by decide) dX1_lineOf_11 ?_
  refine j_lload S dX1_lineOf_14 (lv_at hl 0 rfl) ?_
  refine j_lmul S dX1_lineOf_16 ?_
  refine lv_aload_n S.1 S.2.1 dX1_lineOf_17 rfl (lv_at hl 1 rfl) ?_
  refine j_get (v := jI v) S hin hK hP rfl rfl 7 (by decide) (List.mem_of_getElem? (i := 3) rfl) rfl dX1_lineOf_18 ?_
  refine j_i2l S dX1_lineOf_21 (iv_i hv (by decide +kernel)) ?_
  refine j_lmul S dX1_lineOf_22 ?_
  refine j_lload_n S dX1_lineOf_23 rfl (lv_at hl 3 rfl) ?_
  refine j_ladd S dX1_lineOf_24 ?_
  refine j_lconst (a := 1) S dX1_lineOf_25 rfl ?_
  refine j_lsub S dX1_lineOf_26 ?_
  refine j_ldc2 (n := 2) S (S.2.2.2.2 _ (List.mem_of_getElem? (i := 2) rfl)) (by decide) dX1_lineOf_27 ?_
  refine j_lload_n S dX1_lineOf_30 rfl (lv_at hl 3 rfl) ?_
  refine j_lmul S dX1_lineOf_31 ?_
  refine j_ldivp S dX1_lineOf_32 (iv_l (iv_sub (lo := 0) (hi := 241999999999879) (iv_add (lo := 1) (hi := 241999999999880) (iv_mulp (lo := 0) (hi := 239999999999880) (iv_mulp (lo := 0) (hi := 3999999999998) (iv_n 2) (iv_mod (lo := 0) (hi := 1999999999999) hq (by decide +kernel)) (by decide +kernel)) hv (by decide +kernel)) hq (by decide +kernel)) (iv_n 1) (by decide +kernel)) (by decide +kernel)) (iv_pl (iv_mulp (lo := 2) (hi := 4000000000000) (iv_n 2) hq (by decide +kernel)) (by decide +kernel)) (iv_nn (iv_sub (lo := 0) (hi := 241999999999879) (iv_add (lo := 1) (hi := 241999999999880) (iv_mulp (lo := 0) (hi := 239999999999880) (iv_mulp (lo := 0) (hi := 3999999999998) (iv_n 2) (iv_mod (lo := 0) (hi := 1999999999999) hq (by decide +kernel)) (by decide +kernel)) hv (by decide +kernel)) hq (by decide +kernel)) (iv_n 1) (by decide +kernel)) (by decide +kernel)) ?_
  exact hret (((((2 * ((p * d) % q)) * v) + q) - 1) / (2 * q)) 33 _ ln_eq dX1_lineOf_33
abbrev rmX1_readOf : Room := { frames := 1, cells := 0, slots := 0, locals := 26 }
theorem hdX1_readOf : yX1_readOf.cls ≠ "java/lang/invoke/MethodHandle" ∧ yX1_readOf.cls ≠ "java/lang/invoke/VarHandle" ∧ (parseMethodDescriptor yX1_readOf.desc).map (fun d => d.parameters.length) = some 2 := by decide +kernel
set_option maxHeartbeats 4000000 in
set_option maxRecDepth 100000 in
theorem c_X1_readOf (l : Launch) (D : va_G) (h a0 a1 a2 a3 : Nat) (cA : ClassId) (H T E F : Int → Int) (cc gc w d v : Int) (hok : SOK H T E cc gc w d v) (p : Int) (q : Int) (hp : 0 ≤ p ∧ p ≤ 2000000000000) (hq : 1 ≤ q ∧ q ≤ 2000000000000) (hpq : p < q) : ML l yX1_readOf wsX1_readOf rmX1_readOf [.ref h, jL p, jL q] (WB D (MW h a0 a1 a2 a3 cA H T E F cc gc w d v) cA) (fun rR => rR = sp_rd d v p q) := by
  refine ML_of (cc := cX1_readOf) (maxL := 5) (by decide) rfl (Nat.le_of_ble_eq_true rfl) ?_
  intro pP eE sS mM aA bL mT cC QQ ls S hret ⟨hP, hK⟩ hl
  obtain ⟨hcc, hgc, hw, hd, hv, hH, hT, hE⟩ := id hok
  have hin : ∀ w ∈ wsX10, w ∈ wsX1_readOf := fun w hw => List.mem_cons_of_mem _ (List.mem_append_right _ hw)
  have hl : lv_has ls 5 [(0, .ref h), (1, jL p), (3, jL q)] := hl
  refine lv_aload_n S.1 S.2.1 dX1_readOf_0 rfl (lv_at hl 0 rfl) ?_
  refine j_lload_n S dX1_readOf_1 rfl (lv_at hl 1 rfl) ?_
  refine j_lload_n S dX1_readOf_2 rfl (lv_at hl 2 rfl) ?_
  refine j_cvl (As := [jL p, jL q]) (ci := 1) S (c_X1_mainOf l D h a0 a1 a2 a3 cA H T E F cc gc w d v hok p q (iv_w hp (by decide +kernel)) (iv_w hq (by decide +kernel)) (by omega)) (cwV 2 S.2.2.2.2 gX1_readOf_X1_mainOf rfl rfl rfl ⟨rfl, hdX1_mainOf⟩ ⟨Nat.le_of_ble_eq_true rfl, Nat.le_of_ble_eq_true rfl⟩) hK hP rfl rfl rfl [] rfl rfl hl.1 (Nat.le_of_ble_eq_true rfl) ⟨Nat.zero_le _, Nat.zero_le _⟩ dX1_readOf_3 (fun i3 q3 => ?_)
  subst q3
  have r1_ : 0 ≤ (sp_mm d p q) ∧ (sp_mm d p q) ≤ 720 := sp_mm_iv2 hd (by omega) (by omega) (by omega)
  refine lv_aload_n S.1 S.2.1 dX1_readOf_6 rfl (lv_at hl 0 rfl) ?_
  refine j_get (v := jI v) S hin hK hP rfl rfl 7 (by decide) (List.mem_of_getElem? (i := 1) rfl) rfl dX1_readOf_7 ?_
  refine j_i2l S dX1_readOf_10 (iv_i hv (by decide +kernel)) ?_
  refine j_lmul S dX1_readOf_11 ?_
  refine lv_aload_n S.1 S.2.1 dX1_readOf_12 rfl (lv_at hl 0 rfl) ?_
  refine j_lload_n S dX1_readOf_13 rfl (lv_at hl 1 rfl) ?_
  refine j_lload_n S dX1_readOf_14 rfl (lv_at hl 2 rfl) ?_
  refine j_cvl (As := [jL p, jL q]) (ci := 1) S (c_X1_lineOf l D h a0 a1 a2 a3 cA H T E F cc gc w d v hok p q (iv_w hp (by decide +kernel)) (iv_w hq (by decide +kernel)) (by omega)) (cwV 2 S.2.2.2.2 gX1_readOf_X1_lineOf rfl rfl rfl ⟨rfl, hdX1_lineOf⟩ ⟨Nat.le_of_ble_eq_true rfl, Nat.le_of_ble_eq_true rfl⟩) hK hP rfl rfl rfl [jL ((sp_mm d p q) * v)] rfl rfl hl.1 (Nat.le_of_ble_eq_true rfl) ⟨Nat.zero_le _, Nat.zero_le _⟩ dX1_readOf_15 (fun i15 q15 => ?_)
  subst q15
  have r2_ : 0 ≤ (sp_ln d v p q) ∧ (sp_ln d v p q) ≤ 60 := sp_ln_iv2 hv (by omega)
  refine j_ladd S dX1_readOf_18 ?_
  exact hret (((sp_mm d p q) * v) + (sp_ln d v p q)) 19 _ rfl dX1_readOf_19
abbrev rmX1_read : Room := { frames := 2, cells := 0, slots := 0, locals := 50 }
theorem hdX1_read : yX1_read.cls ≠ "java/lang/invoke/MethodHandle" ∧ yX1_read.cls ≠ "java/lang/invoke/VarHandle" ∧ (parseMethodDescriptor yX1_read.desc).map (fun d => d.parameters.length) = some 3 := by decide +kernel
set_option maxHeartbeats 4000000 in
set_option maxRecDepth 100000 in
theorem c_X1_read (l : Launch) (D : va_G) (h a0 a1 a2 a3 : Nat) (cA : ClassId) (H T E F : Int → Int) (cc gc w d v : Int) (hok : SOK H T E cc gc w d v) (p : Int) (q : Int) (what : Int) (hp : inI p) (hq : inI q) (hwhat : inI what) : MI l yX1_read wsX1_read rmX1_read [.ref h, jI p, jI q, jI what] (WB D (MW h a0 a1 a2 a3 cA H T E F cc gc w d v) cA) (fun rR => rR = sp_read d v p q what) := by
  refine MI_of (cc := cX1_read) (maxL := 4) (by decide) rfl (Nat.le_of_ble_eq_true rfl) ?_
  intro pP eE sS mM aA bL mT cC QQ ls S hret ⟨hP, hK⟩ hl
  obtain ⟨hcc, hgc, hw, hd, hv, hH, hT, hE⟩ := id hok
  have hin : ∀ w ∈ wsX10, w ∈ wsX1_read := fun w hw => List.mem_cons_of_mem _ (List.mem_append_right _ hw)
  have hl : lv_has ls 4 [(0, .ref h), (1, jI p), (2, jI q), (3, jI what)] := hl
  refine j_iload_n S dX1_read_0 rfl (lv_at hl 1 rfl) ?_
  refine j_iload_n S dX1_read_1 rfl (lv_at hl 2 rfl) ?_
  refine j_csi (As := [jI p, jI q]) S (c_X1_isPlace l p q (iv_w hp (by decide +kernel)) (iv_w hq (by decide +kernel))) (va_cwS 2 S.2.2.2.2 gX1_read_X1_isPlace rfl rfl rfl hdX1_isPlace ⟨Nat.le_of_ble_eq_true rfl, Nat.le_of_ble_eq_true rfl⟩) [] rfl rfl hl.1 (Nat.le_of_ble_eq_true rfl) ⟨Nat.zero_le _, Nat.zero_le _⟩ dX1_read_2 (fun i2 q2 => ?_)
  subst q2
  refine j_ifb_eq (tgt := 20) S dX1_read_5 (by decide) (fun c5 => ?_) (fun c5 => ?_)
  · refine j_bipush S dX1_read_20 (by decide) ?_
    exact hret (-2) 22 _ (by unfold sp_read; (repeat' split) <;> first | omega | rfl) dX1_read_22
  · have r1_ : 1 ≤ q ∧ q ≤ 1000000 := by omega
    have r2_ : 0 ≤ p ∧ p ≤ 999999 := by omega
    refine j_iload_n S dX1_read_8 rfl (lv_at hl 3 rfl) ?_
    refine j_i2l S dX1_read_9 (iv_i hwhat (by decide +kernel)) ?_
    refine j_lconst (a := 0) S dX1_read_10 rfl ?_
    refine j_ldc2 (n := 2) S (S.2.2.2.2 _ (List.mem_of_getElem? (i := 1) rfl)) (by decide) dX1_read_11 ?_
    refine j_csi (As := [jL what, jL 0, jL 2]) S (c_X1_in l what 0 2 (iv_w hwhat (by decide +kernel)) (iv_w (iv_n 0) (by decide +kernel)) (iv_w (iv_n 2) (by decide +kernel))) (va_cwS 3 S.2.2.2.2 gX1_read_X1_in rfl rfl rfl hdX1_in ⟨Nat.le_of_ble_eq_true rfl, Nat.le_of_ble_eq_true rfl⟩) [] rfl rfl hl.1 (Nat.le_of_ble_eq_true rfl) ⟨Nat.zero_le _, Nat.zero_le _⟩ dX1_read_14 (fun i14 q14 => ?_)
    subst q14
    refine j_ifb_ne (tgt := 23) S dX1_read_17 (by decide) (fun c17 => ?_) (fun c17 => ?_)
    · have r3_ : 0 ≤ what ∧ what ≤ 2 := by omega
      refine j_iload_n S dX1_read_23 rfl (lv_at hl 3 rfl) ?_
      refine j_if_ne (tgt := 38) S dX1_read_24 (by decide) (iv_i r3_ (by decide +kernel)) (fun c24 => ?_) (fun c24 => ?_)
      · have r4_ : 1 ≤ what ∧ what ≤ 2 := by omega
        refine j_iload_n S dX1_read_38 rfl (lv_at hl 3 rfl) ?_
        refine j_iconst S dX1_read_39 ?_
        refine j_icmp_ne (tgt := 54) S dX1_read_40 (by decide) (iv_i r4_ (by decide +kernel)) (iv_i (iv_n 1) (by decide +kernel)) (fun c40 => ?_) (fun c40 => ?_)
        · have r5_ : 2 ≤ what ∧ what ≤ 2 := by omega
          refine lv_aload_n S.1 S.2.1 dX1_read_54 rfl (lv_at hl 0 rfl) ?_
          refine j_iload_n S dX1_read_55 rfl (lv_at hl 1 rfl) ?_
          refine j_i2l S dX1_read_56 (iv_i r2_ (by decide +kernel)) ?_
          refine j_iload_n S dX1_read_57 rfl (lv_at hl 2 rfl) ?_
          refine j_i2l S dX1_read_58 (iv_i r1_ (by decide +kernel)) ?_
          refine j_cvl (As := [jL p, jL q]) (ci := 1) S (c_X1_readOf l D h a0 a1 a2 a3 cA H T E F cc gc w d v hok p q (iv_w r2_ (by decide +kernel)) (iv_w r1_ (by decide +kernel)) (by omega)) (cwV 2 S.2.2.2.2 gX1_read_X1_readOf rfl rfl rfl ⟨rfl, hdX1_readOf⟩ ⟨Nat.le_of_ble_eq_true rfl, Nat.le_of_ble_eq_true rfl⟩) hK hP rfl rfl rfl [] rfl rfl hl.1 (Nat.le_of_ble_eq_true rfl) ⟨Nat.zero_le _, Nat.zero_le _⟩ dX1_read_59 (fun i59 q59 => ?_)
          subst q59
          have r6_ : 0 ≤ (sp_rd d v p q) ∧ (sp_rd d v p q) ≤ 43260 := sp_rd_iv2 hd hv (by omega) (by omega) (by omega)
          refine j_l2i S dX1_read_62 ?_
          exact hret (sp_rd d v p q) 63 _ (by unfold sp_read; (repeat' split) <;> first | omega | rfl) dX1_read_63
        · have r7_ : 1 ≤ what ∧ what ≤ 1 := by omega
          refine lv_aload_n S.1 S.2.1 dX1_read_43 rfl (lv_at hl 0 rfl) ?_
          refine j_iload_n S dX1_read_44 rfl (lv_at hl 1 rfl) ?_
          refine j_i2l S dX1_read_45 (iv_i r2_ (by decide +kernel)) ?_
          refine j_iload_n S dX1_read_46 rfl (lv_at hl 2 rfl) ?_
          refine j_i2l S dX1_read_47 (iv_i r1_ (by decide +kernel)) ?_
          refine j_cvl (As := [jL p, jL q]) (ci := 1) S (c_X1_lineOf l D h a0 a1 a2 a3 cA H T E F cc gc w d v hok p q (iv_w r2_ (by decide +kernel)) (iv_w r1_ (by decide +kernel)) (by omega)) (cwV 2 S.2.2.2.2 gX1_read_X1_lineOf rfl rfl rfl ⟨rfl, hdX1_lineOf⟩ ⟨Nat.le_of_ble_eq_true rfl, Nat.le_of_ble_eq_true rfl⟩) hK hP rfl rfl rfl [] rfl rfl hl.1 (Nat.le_of_ble_eq_true rfl) ⟨Nat.zero_le _, Nat.zero_le _⟩ dX1_read_48 (fun i48 q48 => ?_)
          subst q48
          have r8_ : 0 ≤ (sp_ln d v p q) ∧ (sp_ln d v p q) ≤ 60 := sp_ln_iv2 hv (by omega)
          refine j_goto (tgt := 62) S dX1_read_51 (by decide) ?_
          refine j_l2i S dX1_read_62 ?_
          exact hret (sp_ln d v p q) 63 _ (by unfold sp_read; (repeat' split) <;> first | omega | rfl) dX1_read_63
      · have r9_ : 0 ≤ what ∧ what ≤ 0 := by omega
        refine lv_aload_n S.1 S.2.1 dX1_read_27 rfl (lv_at hl 0 rfl) ?_
        refine j_iload_n S dX1_read_28 rfl (lv_at hl 1 rfl) ?_
        refine j_i2l S dX1_read_29 (iv_i r2_ (by decide +kernel)) ?_
        refine j_iload_n S dX1_read_30 rfl (lv_at hl 2 rfl) ?_
        refine j_i2l S dX1_read_31 (iv_i r1_ (by decide +kernel)) ?_
        refine j_cvl (As := [jL p, jL q]) (ci := 1) S (c_X1_mainOf l D h a0 a1 a2 a3 cA H T E F cc gc w d v hok p q (iv_w r2_ (by decide +kernel)) (iv_w r1_ (by decide +kernel)) (by omega)) (cwV 2 S.2.2.2.2 gX1_read_X1_mainOf rfl rfl rfl ⟨rfl, hdX1_mainOf⟩ ⟨Nat.le_of_ble_eq_true rfl, Nat.le_of_ble_eq_true rfl⟩) hK hP rfl rfl rfl [] rfl rfl hl.1 (Nat.le_of_ble_eq_true rfl) ⟨Nat.zero_le _, Nat.zero_le _⟩ dX1_read_32 (fun i32 q32 => ?_)
        subst q32
        have r10_ : 0 ≤ (sp_mm d p q) ∧ (sp_mm d p q) ≤ 720 := sp_mm_iv2 hd (by omega) (by omega) (by omega)
        refine j_goto (tgt := 62) S dX1_read_35 (by decide) ?_
        refine j_l2i S dX1_read_62 ?_
        exact hret (sp_mm d p q) 63 _ (by unfold sp_read; (repeat' split) <;> first | omega | rfl) dX1_read_63
    · refine j_bipush S dX1_read_20 (by decide) ?_
      exact hret (-2) 22 _ (by unfold sp_read; (repeat' split) <;> first | omega | rfl) dX1_read_22
abbrev rmX1_two : Room := { frames := 2, cells := 0, slots := 0, locals := 55 }
theorem hdX1_two : yX1_two.cls ≠ "java/lang/invoke/MethodHandle" ∧ yX1_two.cls ≠ "java/lang/invoke/VarHandle" ∧ (parseMethodDescriptor yX1_two.desc).map (fun d => d.parameters.length) = some 4 := by decide +kernel
set_option maxHeartbeats 4000000 in
set_option maxRecDepth 100000 in
theorem c_X1_two (l : Launch) (D : va_G) (h a0 a1 a2 a3 : Nat) (cA : ClassId) (H T E F : Int → Int) (cc gc w d v : Int) (hok : SOK H T E cc gc w d v) (p : Int) (q : Int) (e : Int) (what : Int) (hp : inI p) (hq : inI q) (he : inI e) (hwhat : inI what) : MI l yX1_two wsX1_two rmX1_two [.ref h, jI p, jI q, jI e, jI what] (WB D (MW h a0 a1 a2 a3 cA H T E F cc gc w d v) cA) (fun rR => rR = sp_two d v p q e what) := by
  refine MI_of (cc := cX1_two) (maxL := 17) (by decide) rfl (Nat.le_of_ble_eq_true rfl) ?_
  intro pP eE sS mM aA bL mT cC QQ ls S hret ⟨hP, hK⟩ hl
  obtain ⟨hcc, hgc, hw, hd, hv, hH, hT, hE⟩ := id hok
  have hin : ∀ w ∈ wsX10, w ∈ wsX1_two := fun w hw => List.mem_cons_of_mem _ (List.mem_append_right _ hw)
  have hl : lv_has ls 17 [(0, .ref h), (1, jI p), (2, jI q), (3, jI e), (4, jI what)] := hl
  refine j_iload_n S dX1_two_0 rfl (lv_at hl 1 rfl) ?_
  refine j_iload_n S dX1_two_1 rfl (lv_at hl 2 rfl) ?_
  refine j_csi (As := [jI p, jI q]) S (c_X1_isPlace l p q (iv_w hp (by decide +kernel)) (iv_w hq (by decide +kernel))) (va_cwS 2 S.2.2.2.2 gX1_two_X1_isPlace rfl rfl rfl hdX1_isPlace ⟨Nat.le_of_ble_eq_true rfl, Nat.le_of_ble_eq_true rfl⟩) [] rfl rfl hl.1 (Nat.le_of_ble_eq_true rfl) ⟨Nat.zero_le _, Nat.zero_le _⟩ dX1_two_2 (fun i2 q2 => ?_)
  subst q2
  refine j_ifb_eq (tgt := 33) S dX1_two_5 (by decide) (fun c5 => ?_) (fun c5 => ?_)
  · refine j_ldc (n := (-1000000002)) S (S.2.2.2.2 _ (List.mem_of_getElem? (i := 3) rfl)) (by decide) dX1_two_33 ?_
    exact hret (-1000000002) 35 _ (by unfold sp_two; (repeat' split) <;> first | omega | rfl | (rw [Int.sub_eq_add_neg])) dX1_two_35
  · have r1_ : 1 ≤ q ∧ q ≤ 1000000 := by omega
    have r2_ : 0 ≤ p ∧ p ≤ 999999 := by omega
    refine j_iload_n S dX1_two_8 rfl (lv_at hl 3 rfl) ?_
    refine j_i2l S dX1_two_9 (iv_i he (by decide +kernel)) ?_
    refine j_ldc2 (n := (-1000)) S (S.2.2.2.2 _ (List.mem_of_getElem? (i := 1) rfl)) (by decide) dX1_two_10 ?_
    refine j_ldc2 (n := 1000) S (S.2.2.2.2 _ (List.mem_of_getElem? (i := 2) rfl)) (by decide) dX1_two_13 ?_
    refine j_csi (As := [jL e, jL (-1000), jL 1000]) S (c_X1_in l e (-1000) 1000 (iv_w he (by decide +kernel)) (iv_w (iv_n (-1000)) (by decide +kernel)) (iv_w (iv_n 1000) (by decide +kernel))) (va_cwS 3 S.2.2.2.2 gX1_two_X1_in rfl rfl rfl hdX1_in ⟨Nat.le_of_ble_eq_true rfl, Nat.le_of_ble_eq_true rfl⟩) [] rfl rfl hl.1 (Nat.le_of_ble_eq_true rfl) ⟨Nat.zero_le _, Nat.zero_le _⟩ dX1_two_16 (fun i16 q16 => ?_)
    subst q16
    refine j_ifb_eq (tgt := 33) S dX1_two_19 (by decide) (fun c19 => ?_) (fun c19 => ?_)
    · refine j_ldc (n := (-1000000002)) S (S.2.2.2.2 _ (List.mem_of_getElem? (i := 3) rfl)) (by decide) dX1_two_33 ?_
      exact hret (-1000000002) 35 _ (by unfold sp_two; (repeat' split) <;> first | omega | rfl | (rw [Int.sub_eq_add_neg])) dX1_two_35
    · have r3_ : (-1000) ≤ e ∧ e ≤ 1000 := by omega
      refine j_iload S dX1_two_22 (lv_at hl 4 rfl) ?_
      refine j_i2l S dX1_two_24 (iv_i hwhat (by decide +kernel)) ?_
      refine j_lconst (a := 0) S dX1_two_25 rfl ?_
      refine j_lconst (a := 1) S dX1_two_26 rfl ?_
      refine j_csi (As := [jL what, jL 0, jL 1]) S (c_X1_in l what 0 1 (iv_w hwhat (by decide +kernel)) (iv_w (iv_n 0) (by decide +kernel)) (iv_w (iv_n 1) (by decide +kernel))) (va_cwS 3 S.2.2.2.2 gX1_two_X1_in rfl rfl rfl hdX1_in ⟨Nat.le_of_ble_eq_true rfl, Nat.le_of_ble_eq_true rfl⟩) [] rfl rfl hl.1 (Nat.le_of_ble_eq_true rfl) ⟨Nat.zero_le _, Nat.zero_le _⟩ dX1_two_27 (fun i27 q27 => ?_)
      subst q27
      refine j_ifb_ne (tgt := 36) S dX1_two_30 (by decide) (fun c30 => ?_) (fun c30 => ?_)
      · have r4_ : 0 ≤ what ∧ what ≤ 1 := by omega
        refine j_ldc2 (n := 2000000) S (S.2.2.2.2 _ (List.mem_of_getElem? (i := 4) rfl)) (by decide) dX1_two_36 ?_
        refine j_iload_n S dX1_two_39 rfl (lv_at hl 2 rfl) ?_
        refine j_i2l S dX1_two_40 (iv_i r1_ (by decide +kernel)) ?_
        refine j_lmul S dX1_two_41 ?_
        refine j_lstore (lv' := [(5, jL (2000000 * q)), (0, .ref h), (1, jI p), (2, jI q), (3, jI e), (4, jI what)]) S dX1_two_42 hl (by decide) rfl (fun ls hl => ?_)
        refine j_ldc2 (n := 2000000) S (S.2.2.2.2 _ (List.mem_of_getElem? (i := 4) rfl)) (by decide) dX1_two_44 ?_
        refine j_iload_n S dX1_two_47 rfl (lv_at hl 2 rfl) ?_
        refine j_i2l S dX1_two_48 (iv_i r2_ (by decide +kernel)) ?_
        refine j_lmul S dX1_two_49 ?_
        refine j_ldc2 (n := 2) S (S.2.2.2.2 _ (List.mem_of_getElem? (i := 5) rfl)) (by decide) dX1_two_50 ?_
        refine j_iload_n S dX1_two_53 rfl (lv_at hl 4 rfl) ?_
        refine j_i2l S dX1_two_54 (iv_i r3_ (by decide +kernel)) ?_
        refine j_lmul S dX1_two_55 ?_
        refine j_iload_n S dX1_two_56 rfl (lv_at hl 3 rfl) ?_
        refine j_i2l S dX1_two_57 (iv_i r1_ (by decide +kernel)) ?_
        refine j_lmul S dX1_two_58 ?_
        refine j_ladd S dX1_two_59 ?_
        refine j_lload S dX1_two_60 (lv_at hl 0 rfl) ?_
        refine j_ladd S dX1_two_62 ?_
        refine j_lload S dX1_two_63 (lv_at hl 0 rfl) ?_
        have r5_ : 0 ≤ (((2000000 * p) + ((2 * e) * q)) + (2000000 * q)) ∧ (((2000000 * p) + ((2 * e) * q)) + (2000000 * q)) ≤ 6000000000000 := by have := @eq_bd p q e (by omega) (by omega); omega
        refine j_lremp S dX1_two_65 (iv_l r5_ (by decide +kernel)) (iv_pl (iv_mulp (lo := 2000000) (hi := 2000000000000) (iv_n 2000000) r1_ (by decide +kernel)) (by decide +kernel)) (iv_nn r5_ (by decide +kernel)) ?_
        refine j_lstore (lv' := [(7, jL ((((2000000 * p) + ((2 * e) * q)) + (2000000 * q)) % (2000000 * q))), (5, jL (2000000 * q)), (0, .ref h), (1, jI p), (2, jI q), (3, jI e), (4, jI what)]) S dX1_two_66 hl (by decide) rfl (fun ls hl => ?_)
        refine j_ldc2 (n := 2000000) S (S.2.2.2.2 _ (List.mem_of_getElem? (i := 4) rfl)) (by decide) dX1_two_68 ?_
        refine j_iload_n S dX1_two_71 rfl (lv_at hl 3 rfl) ?_
        refine j_i2l S dX1_two_72 (iv_i r2_ (by decide +kernel)) ?_
        refine j_lmul S dX1_two_73 ?_
        refine j_ldc2 (n := 1000000) S (S.2.2.2.2 _ (List.mem_of_getElem? (i := 6) rfl)) (by decide) dX1_two_74 ?_
        refine j_iload_n S dX1_two_77 rfl (lv_at hl 4 rfl) ?_
        refine j_i2l S dX1_two_78 (iv_i r1_ (by decide +kernel)) ?_
        refine j_lmul S dX1_two_79 ?_
        refine j_ladd S dX1_two_80 ?_
        refine j_ldc2 (n := 2) S (S.2.2.2.2 _ (List.mem_of_getElem? (i := 5) rfl)) (by decide) dX1_two_81 ?_
        refine j_iload_n S dX1_two_84 rfl (lv_at hl 5 rfl) ?_
        refine j_i2l S dX1_two_85 (iv_i r3_ (by decide +kernel)) ?_
        refine j_lmul S dX1_two_86 ?_
        refine j_iload_n S dX1_two_87 rfl (lv_at hl 4 rfl) ?_
        refine j_i2l S dX1_two_88 (iv_i r1_ (by decide +kernel)) ?_
        refine j_lmul S dX1_two_89 ?_
        refine j_lsub S dX1_two_90 ?_
        refine j_lload S dX1_two_91 (lv_at hl 1 rfl) ?_
        refine j_ladd S dX1_two_93 ?_
        refine j_lload S dX1_two_94 (lv_at hl 1 rfl) ?_
        have r6_ : 0 ≤ ((((2000000 * p) + (1000000 * q)) - ((2 * e) * q)) + (2000000 * q)) ∧ ((((2000000 * p) + (1000000 * q)) - ((2 * e) * q)) + (2000000 * q)) ≤ 6000000000000 := by have := @eq_bd p q e (by omega) (by omega); omega
        refine j_lremp S dX1_two_96 (iv_l r6_ (by decide +kernel)) (iv_pl (iv_mulp (lo := 2000000) (hi := 2000000000000) (iv_n 2000000) r1_ (by decide +kernel)) (by decide +kernel)) (iv_nn r6_ (by decide +kernel)) ?_
        refine j_lstore (lv' := [(9, jL (((((2000000 * p) + (1000000 * q)) - ((2 * e) * q)) + (2000000 * q)) % (2000000 * q))), (7, jL ((((2000000 * p) + ((2 * e) * q)) + (2000000 * q)) % (2000000 * q))), (5, jL (2000000 * q)), (0, .ref h), (1, jI p), (2, jI q), (3, jI e), (4, jI what)]) S dX1_two_97 hl (by decide) rfl (fun ls hl => ?_)
        refine lv_aload_n S.1 S.2.1 dX1_two_99 rfl (lv_at hl 3 rfl) ?_
        refine j_lload S dX1_two_100 (lv_at hl 1 rfl) ?_
        refine j_lload S dX1_two_102 (lv_at hl 2 rfl) ?_
        refine j_cvl (As := [jL ((((2000000 * p) + ((2 * e) * q)) + (2000000 * q)) % (2000000 * q)), jL (2000000 * q)]) (ci := 1) S (c_X1_readOf l D h a0 a1 a2 a3 cA H T E F cc gc w d v hok ((((2000000 * p) + ((2 * e) * q)) + (2000000 * q)) % (2000000 * q)) (2000000 * q) (iv_w (iv_mod (lo := 0) (hi := 1999999999999) (iv_mulp (lo := 2000000) (hi := 2000000000000) (iv_n 2000000) r1_ (by decide +kernel)) (by decide +kernel)) (by decide +kernel)) (iv_w (iv_mulp (lo := 2000000) (hi := 2000000000000) (iv_n 2000000) r1_ (by decide +kernel)) (by decide +kernel)) (Int.emod_lt_of_pos _ (by omega))) (cwV 2 S.2.2.2.2 gX1_two_X1_readOf rfl rfl rfl ⟨rfl, hdX1_readOf⟩ ⟨Nat.le_of_ble_eq_true rfl, Nat.le_of_ble_eq_true rfl⟩) hK hP rfl rfl rfl [] rfl rfl hl.1 (Nat.le_of_ble_eq_true rfl) ⟨Nat.zero_le _, Nat.zero_le _⟩ dX1_two_104 (fun i104 q104 => ?_)
        subst q104
        have r7_ : 0 ≤ (sp_rd d v ((((2000000 * p) + ((2 * e) * q)) + (2000000 * q)) % (2000000 * q)) (2000000 * q)) ∧ (sp_rd d v ((((2000000 * p) + ((2 * e) * q)) + (2000000 * q)) % (2000000 * q)) (2000000 * q)) ≤ 43260 := sp_rd_iv2 hd hv (Int.emod_nonneg _ (by omega)) (by omega) (Int.emod_lt_of_pos _ (by omega))
        refine j_asl (two_r1 (by omega)) ?_
        have r8_ : 0 ≤ (sp_r1 d v p q e) ∧ (sp_r1 d v p q e) ≤ 43260 := sp_r1_iv hd hv (by omega)
        refine j_lstore (lv' := [(11, jL (sp_r1 d v p q e)), (9, jL (((((2000000 * p) + (1000000 * q)) - ((2 * e) * q)) + (2000000 * q)) % (2000000 * q))), (7, jL ((((2000000 * p) + ((2 * e) * q)) + (2000000 * q)) % (2000000 * q))), (5, jL (2000000 * q)), (0, .ref h), (1, jI p), (2, jI q), (3, jI e), (4, jI what)]) S dX1_two_107 hl (by decide) rfl (fun ls hl => ?_)
        refine lv_aload_n S.1 S.2.1 dX1_two_109 rfl (lv_at hl 4 rfl) ?_
        refine j_lload S dX1_two_110 (lv_at hl 1 rfl) ?_
        refine j_lload S dX1_two_112 (lv_at hl 3 rfl) ?_
        refine j_cvl (As := [jL (((((2000000 * p) + (1000000 * q)) - ((2 * e) * q)) + (2000000 * q)) % (2000000 * q)), jL (2000000 * q)]) (ci := 1) S (c_X1_readOf l D h a0 a1 a2 a3 cA H T E F cc gc w d v hok (((((2000000 * p) + (1000000 * q)) - ((2 * e) * q)) + (2000000 * q)) % (2000000 * q)) (2000000 * q) (iv_w (iv_mod (lo := 0) (hi := 1999999999999) (iv_mulp (lo := 2000000) (hi := 2000000000000) (iv_n 2000000) r1_ (by decide +kernel)) (by decide +kernel)) (by decide +kernel)) (iv_w (iv_mulp (lo := 2000000) (hi := 2000000000000) (iv_n 2000000) r1_ (by decide +kernel)) (by decide +kernel)) (Int.emod_lt_of_pos _ (by omega))) (cwV 2 S.2.2.2.2 gX1_two_X1_readOf rfl rfl rfl ⟨rfl, hdX1_readOf⟩ ⟨Nat.le_of_ble_eq_true rfl, Nat.le_of_ble_eq_true rfl⟩) hK hP rfl rfl rfl [] rfl rfl hl.1 (Nat.le_of_ble_eq_true rfl) ⟨Nat.zero_le _, Nat.zero_le _⟩ dX1_two_114 (fun i114 q114 => ?_)
        subst q114
        have r9_ : 0 ≤ (sp_rd d v (((((2000000 * p) + (1000000 * q)) - ((2 * e) * q)) + (2000000 * q)) % (2000000 * q)) (2000000 * q)) ∧ (sp_rd d v (((((2000000 * p) + (1000000 * q)) - ((2 * e) * q)) + (2000000 * q)) % (2000000 * q)) (2000000 * q)) ≤ 43260 := sp_rd_iv2 hd hv (Int.emod_nonneg _ (by omega)) (by omega) (Int.emod_lt_of_pos _ (by omega))
        refine j_asl (two_r2 (by omega)) ?_
        have r10_ : 0 ≤ (sp_r2 d v p q e) ∧ (sp_r2 d v p q e) ≤ 43260 := sp_r2_iv hd hv (by omega)
        refine j_lstore (lv' := [(13, jL (sp_r2 d v p q e)), (11, jL (sp_r1 d v p q e)), (9, jL (((((2000000 * p) + (1000000 * q)) - ((2 * e) * q)) + (2000000 * q)) % (2000000 * q))), (7, jL ((((2000000 * p) + ((2 * e) * q)) + (2000000 * q)) % (2000000 * q))), (5, jL (2000000 * q)), (0, .ref h), (1, jI p), (2, jI q), (3, jI e), (4, jI what)]) S dX1_two_117 hl (by decide) rfl (fun ls hl => ?_)
        refine lv_aload_n S.1 S.2.1 dX1_two_119 rfl (lv_at hl 5 rfl) ?_
        refine j_get (v := jI d) S hin hK hP rfl rfl 6 (by decide) (List.mem_of_getElem? (i := 7) rfl) rfl dX1_two_120 ?_
        refine j_i2l S dX1_two_123 (iv_i hd (by decide +kernel)) ?_
        refine lv_aload_n S.1 S.2.1 dX1_two_124 rfl (lv_at hl 5 rfl) ?_
        refine j_get (v := jI v) S hin hK hP rfl rfl 7 (by decide) (List.mem_of_getElem? (i := 8) rfl) rfl dX1_two_125 ?_
        refine j_i2l S dX1_two_128 (iv_i hv (by decide +kernel)) ?_
        refine j_lmul S dX1_two_129 ?_
        refine j_lstore (lv' := [(15, jL (d * v)), (13, jL (sp_r2 d v p q e)), (11, jL (sp_r1 d v p q e)), (9, jL (((((2000000 * p) + (1000000 * q)) - ((2 * e) * q)) + (2000000 * q)) % (2000000 * q))), (7, jL ((((2000000 * p) + ((2 * e) * q)) + (2000000 * q)) % (2000000 * q))), (5, jL (2000000 * q)), (0, .ref h), (1, jI p), (2, jI q), (3, jI e), (4, jI what)]) S dX1_two_130 hl (by decide) rfl (fun ls hl => ?_)
        refine j_ldc2 (n := 2) S (S.2.2.2.2 _ (List.mem_of_getElem? (i := 5) rfl)) (by decide) dX1_two_132 ?_
        refine j_lload S dX1_two_135 (lv_at hl 2 rfl) ?_
        refine j_lload S dX1_two_137 (lv_at hl 1 rfl) ?_
        refine j_ladd S dX1_two_139 ?_
        refine j_lmul S dX1_two_140 ?_
        refine j_lload S dX1_two_141 (lv_at hl 2 rfl) ?_
        refine j_lload S dX1_two_143 (lv_at hl 1 rfl) ?_
        refine j_lcmp_le (pc1 := 146) (tgt := 154) S rfl dX1_two_145 dX1_two_146 (by decide) (iv_l r8_ (by decide +kernel)) (iv_l r10_ (by decide +kernel)) (fun c145 => ?_) (fun c145 => ?_)
        · refine j_lload S dX1_two_154 (lv_at hl 0 rfl) ?_
          refine j_lneg S dX1_two_156 ?_
          refine j_ladd S dX1_two_157 ?_
          refine j_ldc2 (n := 4) S (S.2.2.2.2 _ (List.mem_of_getElem? (i := 9) rfl)) (by decide) dX1_two_158 ?_
          refine j_iload S dX1_two_161 (lv_at hl 10 rfl) ?_
          refine j_csi (As := [jL ((2 * ((sp_r1 d v p q e) + (sp_r2 d v p q e))) + (-(d * v))), jL 4, jI what]) S (c_X1_term l ((2 * ((sp_r1 d v p q e) + (sp_r2 d v p q e))) + (-(d * v))) 4 what (iv_w (iv_add (lo := (-43200)) (hi := 173036) (iv_mulp (lo := 0) (hi := 173040) (iv_n 2) (iv_add (lo := 0) (hi := 86520) r8_ r10_ (by decide +kernel)) (by decide +kernel)) (iv_neg (lo := (-43200)) (hi := (-4)) (iv_mulp (lo := 4) (hi := 43200) hd hv (by decide +kernel)) (by decide +kernel)) (by decide +kernel)) (by decide +kernel)) (iv_w (iv_n 4) (by decide +kernel)) (iv_w r4_ (by decide +kernel))) (va_cwS 3 S.2.2.2.2 gX1_two_X1_term rfl rfl rfl hdX1_term ⟨Nat.le_of_ble_eq_true rfl, Nat.le_of_ble_eq_true rfl⟩) [] rfl rfl hl.1 (Nat.le_of_ble_eq_true rfl) ⟨Nat.zero_le _, Nat.zero_le _⟩ dX1_two_163 (fun i163 q163 => ?_)
          subst q163
          exact hret (sp_lt ((2 * ((sp_r1 d v p q e) + (sp_r2 d v p q e))) + (-(d * v))) 4 what) 166 _ (by unfold sp_two; (repeat' split) <;> first | omega | rfl | (rw [Int.sub_eq_add_neg])) dX1_two_166
        · have r11_ : 0 ≤ (sp_r2 d v p q e) ∧ (sp_r2 d v p q e) ≤ 43259 := by omega
          have r12_ : 1 ≤ (sp_r1 d v p q e) ∧ (sp_r1 d v p q e) ≤ 43260 := by omega
          refine j_lload S dX1_two_149 (lv_at hl 0 rfl) ?_
          refine j_goto (tgt := 157) S dX1_two_151 (by decide) ?_
          refine j_ladd S dX1_two_157 ?_
          refine j_ldc2 (n := 4) S (S.2.2.2.2 _ (List.mem_of_getElem? (i := 9) rfl)) (by decide) dX1_two_158 ?_
          refine j_iload S dX1_two_161 (lv_at hl 10 rfl) ?_
          refine j_csi (As := [jL ((2 * ((sp_r1 d v p q e) + (sp_r2 d v p q e))) + (d * v)), jL 4, jI what]) S (c_X1_term l ((2 * ((sp_r1 d v p q e) + (sp_r2 d v p q e))) + (d * v)) 4 what (iv_w (iv_add (lo := 6) (hi := 216238) (iv_mulp (lo := 2) (hi := 173038) (iv_n 2) (iv_add (lo := 1) (hi := 86519) r12_ r11_ (by decide +kernel)) (by decide +kernel)) (iv_mulp (lo := 4) (hi := 43200) hd hv (by decide +kernel)) (by decide +kernel)) (by decide +kernel)) (iv_w (iv_n 4) (by decide +kernel)) (iv_w r4_ (by decide +kernel))) (va_cwS 3 S.2.2.2.2 gX1_two_X1_term rfl rfl rfl hdX1_term ⟨Nat.le_of_ble_eq_true rfl, Nat.le_of_ble_eq_true rfl⟩) [] rfl rfl hl.1 (Nat.le_of_ble_eq_true rfl) ⟨Nat.zero_le _, Nat.zero_le _⟩ dX1_two_163 (fun i163 q163 => ?_)
          subst q163
          exact hret (sp_lt ((2 * ((sp_r1 d v p q e) + (sp_r2 d v p q e))) + (d * v)) 4 what) 166 _ (by unfold sp_two; (repeat' split) <;> first | omega | rfl | (rw [Int.sub_eq_add_neg])) dX1_two_166
      · refine j_ldc (n := (-1000000002)) S (S.2.2.2.2 _ (List.mem_of_getElem? (i := 3) rfl)) (by decide) dX1_two_33 ?_
        exact hret (-1000000002) 35 _ (by unfold sp_two; (repeat' split) <;> first | omega | rfl | (rw [Int.sub_eq_add_neg])) dX1_two_35
abbrev rmX1_told : Room := { frames := 0, cells := 0, slots := 0, locals := 0 }
theorem hdX1_told : yX1_told.cls ≠ "java/lang/invoke/MethodHandle" ∧ yX1_told.cls ≠ "java/lang/invoke/VarHandle" ∧ (parseMethodDescriptor yX1_told.desc).map (fun d => d.parameters.length) = some 1 := by decide +kernel
set_option maxHeartbeats 4000000 in
set_option maxRecDepth 100000 in
theorem c_X1_told (l : Launch) (D : va_G) (h a0 a1 a2 a3 : Nat) (cA : ClassId) (H T E F : Int → Int) (cc gc w d v : Int) (hok : SOK H T E cc gc w d v) (what : Int) (hwhat : inI what) : MI l yX1_told wsX1_told rmX1_told [.ref h, jI what] (WB D (MW h a0 a1 a2 a3 cA H T E F cc gc w d v) cA) (fun rR => rR = sp_told w cc gc d v what) := by
  refine MI_of (cc := cX1_told) (maxL := 2) (by decide) rfl (Nat.le_of_ble_eq_true rfl) ?_
  intro pP eE sS mM aA bL mT cC QQ ls S hret ⟨hP, hK⟩ hl
  obtain ⟨hcc, hgc, hw, hd, hv, hH, hT, hE⟩ := id hok
  have hin : ∀ w ∈ wsX10, w ∈ wsX1_told := fun w hw => List.mem_cons_of_mem _ (List.mem_append_right _ hw)
  have hl : lv_has ls 2 [(0, .ref h), (1, jI what)] := hl
  refine j_iload_n S dX1_told_0 rfl (lv_at hl 1 rfl) ?_
  by_cases k0 : what = 0
  · refine lv_tableIn (tgt := 36) S.1 S.2.1 dX1_told_1 (by rw [tI (iv_i hwhat (by decide +kernel))]; omega) (by rw [tI (iv_i hwhat (by decide +kernel))]; omega) (by rw [tI (iv_i hwhat (by decide +kernel)), k0]; rfl) (by decide) ?_
    refine lv_aload_n S.1 S.2.1 dX1_told_36 rfl (lv_at hl 0 rfl) ?_
    refine j_get (v := jI w) S hin hK hP rfl rfl 0 (by decide) (List.mem_of_getElem? (i := 1) rfl) rfl dX1_told_37 ?_
    exact hret w 40 _ (by unfold sp_told; (repeat' split) <;> omega) dX1_told_40
  by_cases k1 : what = 1
  · refine lv_tableIn (tgt := 41) S.1 S.2.1 dX1_told_1 (by rw [tI (iv_i hwhat (by decide +kernel))]; omega) (by rw [tI (iv_i hwhat (by decide +kernel))]; omega) (by rw [tI (iv_i hwhat (by decide +kernel)), k1]; rfl) (by decide) ?_
    refine lv_aload_n S.1 S.2.1 dX1_told_41 rfl (lv_at hl 0 rfl) ?_
    refine j_get (v := jI cc) S hin hK hP rfl rfl 1 (by decide) (List.mem_of_getElem? (i := 2) rfl) rfl dX1_told_42 ?_
    exact hret cc 45 _ (by unfold sp_told; (repeat' split) <;> omega) dX1_told_45
  by_cases k2 : what = 2
  · refine lv_tableIn (tgt := 46) S.1 S.2.1 dX1_told_1 (by rw [tI (iv_i hwhat (by decide +kernel))]; omega) (by rw [tI (iv_i hwhat (by decide +kernel))]; omega) (by rw [tI (iv_i hwhat (by decide +kernel)), k2]; rfl) (by decide) ?_
    refine lv_aload_n S.1 S.2.1 dX1_told_46 rfl (lv_at hl 0 rfl) ?_
    refine j_get (v := jI gc) S hin hK hP rfl rfl 3 (by decide) (List.mem_of_getElem? (i := 3) rfl) rfl dX1_told_47 ?_
    exact hret gc 50 _ (by unfold sp_told; (repeat' split) <;> omega) dX1_told_50
  by_cases k3 : what = 3
  · refine lv_tableIn (tgt := 51) S.1 S.2.1 dX1_told_1 (by rw [tI (iv_i hwhat (by decide +kernel))]; omega) (by rw [tI (iv_i hwhat (by decide +kernel))]; omega) (by rw [tI (iv_i hwhat (by decide +kernel)), k3]; rfl) (by decide) ?_
    refine lv_aload_n S.1 S.2.1 dX1_told_51 rfl (lv_at hl 0 rfl) ?_
    refine j_get (v := jI d) S hin hK hP rfl rfl 6 (by decide) (List.mem_of_getElem? (i := 4) rfl) rfl dX1_told_52 ?_
    exact hret d 55 _ (by unfold sp_told; (repeat' split) <;> omega) dX1_told_55
  by_cases k4 : what = 4
  · refine lv_tableIn (tgt := 56) S.1 S.2.1 dX1_told_1 (by rw [tI (iv_i hwhat (by decide +kernel))]; omega) (by rw [tI (iv_i hwhat (by decide +kernel))]; omega) (by rw [tI (iv_i hwhat (by decide +kernel)), k4]; rfl) (by decide) ?_
    refine lv_aload_n S.1 S.2.1 dX1_told_56 rfl (lv_at hl 0 rfl) ?_
    refine j_get (v := jI v) S hin hK hP rfl rfl 7 (by decide) (List.mem_of_getElem? (i := 5) rfl) rfl dX1_told_57 ?_
    exact hret v 60 _ (by unfold sp_told; (repeat' split) <;> omega) dX1_told_60
  refine lv_tableOut (tgt := 61) S.1 S.2.1 dX1_told_1 (by rw [tI (iv_i hwhat (by decide +kernel))]; omega) (by decide) ?_
  refine j_bipush S dX1_told_61 (by decide) ?_
  exact hret (-2) 63 _ (by unfold sp_told; (repeat' split) <;> omega) dX1_told_63
