abbrev rmX0_teeth : Room := { frames := 0, cells := 0, slots := 0, locals := 0 }
theorem hdX0_teeth : yX0_teeth.cls ≠ "java/lang/invoke/MethodHandle" ∧ yX0_teeth.cls ≠ "java/lang/invoke/VarHandle" ∧ (parseMethodDescriptor yX0_teeth.desc).map (fun d => d.parameters.length) = some 1 := by decide +kernel
set_option maxHeartbeats 4000000 in
set_option maxRecDepth 100000 in
theorem c_X0_teeth (l : Launch) (D : va_G) (h a0 a1 a2 a3 : Nat) (cA : ClassId) (H T E F : Int → Int) (cc gc w d v : Int) (hok : SOK H T E cc gc w d v) (x : Int) (hx : inI x) : MI l yX0_teeth wsX0_teeth rmX0_teeth [.ref h, jI x] (WB D (XW h a0 a1 a2 a3 cA H T E F cc gc w d v) cA) (fun rR => rR = sp_holes gc T x) := by
  refine MI_of (cc := cX0_teeth) (maxL := 2) (by decide) rfl (Nat.le_of_ble_eq_true rfl) ?_
  intro pP eE sS mM aA bL mT cC QQ ls S hret ⟨hP, hK⟩ hl
  obtain ⟨hcc, hgc, hw, hd, hv, hH, hT, hE⟩ := id hok
  have hin : ∀ w ∈ wsX00, w ∈ wsX0_teeth := fun w hw => List.mem_cons_of_mem _ (List.mem_append_right _ hw)
  have hl : lv_has ls 2 [(0, .ref h), (1, jI x)] := hl
  refine j_iload_n S dX0_teeth_0 rfl (lv_at hl 1 rfl) ?_
  refine j_if_lt (tgt := 12) S dX0_teeth_1 (by decide) (iv_i hx (by decide +kernel)) (fun c1 => ?_) (fun c1 => ?_)
  · have r1_ : (-2147483648) ≤ x ∧ x ≤ (-1) := by omega
    refine j_iconst S dX0_teeth_12 ?_
    refine j_goto (tgt := 22) S dX0_teeth_13 (by decide) ?_
    exact hret (-1) 22 _ (by unfold sp_holes; (repeat' split) <;> first | omega | rfl) dX0_teeth_22
  · have r2_ : 0 ≤ x ∧ x ≤ 2147483647 := by omega
    refine j_iload_n S dX0_teeth_4 rfl (lv_at hl 1 rfl) ?_
    refine lv_aload_n S.1 S.2.1 dX0_teeth_5 rfl (lv_at hl 0 rfl) ?_
    refine j_get (v := jI gc) S hin hK hP rfl rfl 5 (by decide) (List.mem_of_getElem? (i := 1) rfl) rfl dX0_teeth_6 ?_
    refine j_icmp_lt (tgt := 16) S dX0_teeth_9 (by decide) (iv_i r2_ (by decide +kernel)) (iv_i hgc (by decide +kernel)) (fun c9 => ?_) (fun c9 => ?_)
    · have r3_ : 0 ≤ x ∧ x ≤ 9 := by omega
      have r4_ : 1 ≤ gc ∧ gc ≤ 10 := by omega
      refine lv_aload_n S.1 S.2.1 dX0_teeth_16 rfl (lv_at hl 0 rfl) ?_
      refine j_get (v := .ref a1) S hin hK hP rfl rfl 1 (by decide) (List.mem_of_getElem? (i := 2) rfl) rfl dX0_teeth_17 ?_
      refine j_iload_n S dX0_teeth_20 rfl (lv_at hl 1 rfl) ?_
      refine j_iald S hK hP 2 0 rfl rfl (iv_ix (n := 10) r3_ (by decide +kernel)) dX0_teeth_21 ?_
      have r5_ := hT x (by omega) (by omega)
      exact hret (T x) 22 _ (by unfold sp_holes; (repeat' split) <;> first | omega | rfl) dX0_teeth_22
    · refine j_iconst S dX0_teeth_12 ?_
      refine j_goto (tgt := 22) S dX0_teeth_13 (by decide) ?_
      exact hret (-1) 22 _ (by unfold sp_holes; (repeat' split) <;> first | omega | rfl) dX0_teeth_22
abbrev rmX1_in : Room := { frames := 0, cells := 0, slots := 0, locals := 0 }
theorem hdX1_in : yX1_in.cls ≠ "java/lang/invoke/MethodHandle" ∧ yX1_in.cls ≠ "java/lang/invoke/VarHandle" ∧ (parseMethodDescriptor yX1_in.desc).map (fun d => d.parameters.length) = some 3 := by decide +kernel
set_option maxHeartbeats 4000000 in
set_option maxRecDepth 100000 in
theorem c_X1_in (l : Launch) (x : Int) (lo : Int) (hi : Int) (hx : inL x) (hlo : inL lo) (hhi : inL hi) : MI l yX1_in wsX1_in rmX1_in [jL x, jL lo, jL hi] W0 (fun rR => rR = bI (lo ≤ x ∧ x ≤ hi)) := by
  refine MZ_of (cc := cX1_in) (maxL := 6) (by decide) rfl (Nat.le_of_ble_eq_true rfl) ?_
  intro pP eE sS mM aA bL mT cC QQ ls S hret _ hl
  have hl : lv_has ls 6 [(0, jL x), (2, jL lo), (4, jL hi)] := hl
  refine j_lload_n S dX1_in_0 rfl (lv_at hl 0 rfl) ?_
  refine j_lload_n S dX1_in_1 rfl (lv_at hl 1 rfl) ?_
  refine j_lcmp_lt (pc1 := 3) (tgt := 17) S rfl dX1_in_2 dX1_in_3 (by decide) (iv_l hx (by decide +kernel)) (iv_l hlo (by decide +kernel)) (fun c2 => ?_) (fun c2 => ?_)
  · have r1_ : (-9223372036854775808) ≤ x ∧ x ≤ 9223372036854775806 := by omega
    have r2_ : (-9223372036854775807) ≤ lo ∧ lo ≤ 9223372036854775807 := by omega
    refine j_iconst S dX1_in_17 ?_
    exact hret 0 18 _ (Or.inl rfl) (bI_f (by omega)) dX1_in_18
  · refine j_lload_n S dX1_in_6 rfl (lv_at hl 0 rfl) ?_
    refine j_lload S dX1_in_7 (lv_at hl 2 rfl) ?_
    refine j_lcmp_gt (pc1 := 10) (tgt := 17) S rfl dX1_in_9 dX1_in_10 (by decide) (iv_l hx (by decide +kernel)) (iv_l hhi (by decide +kernel)) (fun c9 => ?_) (fun c9 => ?_)
    · have r3_ : (-9223372036854775808) ≤ hi ∧ hi ≤ 9223372036854775806 := by omega
      have r4_ : (-9223372036854775807) ≤ x ∧ x ≤ 9223372036854775807 := by omega
      refine j_iconst S dX1_in_17 ?_
      exact hret 0 18 _ (Or.inl rfl) (bI_f (by omega)) dX1_in_18
    · refine j_iconst S dX1_in_13 ?_
      refine j_goto (tgt := 18) S dX1_in_14 (by decide) ?_
      exact hret 1 18 _ (Or.inr rfl) (bI_t (by omega)) dX1_in_18
abbrev rmX1_isParts : Room := { frames := 1, cells := 0, slots := 0, locals := 25 }
theorem hdX1_isParts : yX1_isParts.cls ≠ "java/lang/invoke/MethodHandle" ∧ yX1_isParts.cls ≠ "java/lang/invoke/VarHandle" ∧ (parseMethodDescriptor yX1_isParts.desc).map (fun d => d.parameters.length) = some 1 := by decide +kernel
set_option maxHeartbeats 4000000 in
set_option maxRecDepth 100000 in
theorem c_X1_isParts (l : Launch) (n : Int) (hn : inI n) : MI l yX1_isParts wsX1_isParts rmX1_isParts [jI n] W0 (fun rR => rR = bI (2 ≤ n ∧ n ≤ 1000)) := by
  refine MZ_of (cc := cX1_isParts) (maxL := 1) (by decide) rfl (Nat.le_of_ble_eq_true rfl) ?_
  intro pP eE sS mM aA bL mT cC QQ ls S hret _ hl
  have hl : lv_has ls 1 [(0, jI n)] := hl
  refine j_iload_n S dX1_isParts_0 rfl (lv_at hl 0 rfl) ?_
  refine j_i2l S dX1_isParts_1 (iv_i hn (by decide +kernel)) ?_
  refine j_ldc2 (n := 2) S (S.2.2.2.2 _ (List.mem_of_getElem? (i := 1) rfl)) (by decide) dX1_isParts_2 ?_
  refine j_ldc2 (n := 1000) S (S.2.2.2.2 _ (List.mem_of_getElem? (i := 2) rfl)) (by decide) dX1_isParts_5 ?_
  refine j_csi (As := [jL n, jL 2, jL 1000]) S (c_X1_in l n 2 1000 (iv_w hn (by decide +kernel)) (iv_w (iv_n 2) (by decide +kernel)) (iv_w (iv_n 1000) (by decide +kernel))) (va_cwS 3 S.2.2.2.2 gX1_isParts_X1_in rfl rfl rfl hdX1_in ⟨Nat.le_of_ble_eq_true rfl, Nat.le_of_ble_eq_true rfl⟩) [] rfl rfl hl.1 (Nat.le_of_ble_eq_true rfl) ⟨Nat.zero_le _, Nat.zero_le _⟩ dX1_isParts_8 (fun i8 q8 => ?_)
  subst q8
  exact hret (bI (2 ≤ n ∧ n ≤ 1000)) 11 _ bI_01 rfl dX1_isParts_11
abbrev rmX1_isSteps : Room := { frames := 1, cells := 0, slots := 0, locals := 25 }
theorem hdX1_isSteps : yX1_isSteps.cls ≠ "java/lang/invoke/MethodHandle" ∧ yX1_isSteps.cls ≠ "java/lang/invoke/VarHandle" ∧ (parseMethodDescriptor yX1_isSteps.desc).map (fun d => d.parameters.length) = some 1 := by decide +kernel
set_option maxHeartbeats 4000000 in
set_option maxRecDepth 100000 in
theorem c_X1_isSteps (l : Launch) (x : Int) (hx : inI x) : MI l yX1_isSteps wsX1_isSteps rmX1_isSteps [jI x] W0 (fun rR => rR = bI (1 ≤ x ∧ x ≤ 100000)) := by
  refine MZ_of (cc := cX1_isSteps) (maxL := 1) (by decide) rfl (Nat.le_of_ble_eq_true rfl) ?_
  intro pP eE sS mM aA bL mT cC QQ ls S hret _ hl
  have hl : lv_has ls 1 [(0, jI x)] := hl
  refine j_iload_n S dX1_isSteps_0 rfl (lv_at hl 0 rfl) ?_
  refine j_i2l S dX1_isSteps_1 (iv_i hx (by decide +kernel)) ?_
  refine j_lconst (a := 1) S dX1_isSteps_2 rfl ?_
  refine j_ldc2 (n := 100000) S (S.2.2.2.2 _ (List.mem_of_getElem? (i := 1) rfl)) (by decide) dX1_isSteps_3 ?_
  refine j_csi (As := [jL x, jL 1, jL 100000]) S (c_X1_in l x 1 100000 (iv_w hx (by decide +kernel)) (iv_w (iv_n 1) (by decide +kernel)) (iv_w (iv_n 100000) (by decide +kernel))) (va_cwS 3 S.2.2.2.2 gX1_isSteps_X1_in rfl rfl rfl hdX1_in ⟨Nat.le_of_ble_eq_true rfl, Nat.le_of_ble_eq_true rfl⟩) [] rfl rfl hl.1 (Nat.le_of_ble_eq_true rfl) ⟨Nat.zero_le _, Nat.zero_le _⟩ dX1_isSteps_6 (fun i6 q6 => ?_)
  subst q6
  exact hret (bI (1 ≤ x ∧ x ≤ 100000)) 9 _ bI_01 rfl dX1_isSteps_9
abbrev rmX1_isCircle : Room := { frames := 1, cells := 0, slots := 0, locals := 25 }
theorem hdX1_isCircle : yX1_isCircle.cls ≠ "java/lang/invoke/MethodHandle" ∧ yX1_isCircle.cls ≠ "java/lang/invoke/VarHandle" ∧ (parseMethodDescriptor yX1_isCircle.desc).map (fun d => d.parameters.length) = some 1 := by decide +kernel
set_option maxHeartbeats 4000000 in
set_option maxRecDepth 100000 in
theorem c_X1_isCircle (l : Launch) (D : va_G) (h a0 a1 a2 a3 : Nat) (cA : ClassId) (H T E F : Int → Int) (cc gc w d v : Int) (hok : SOK H T E cc gc w d v) (x : Int) (hx : inI x) : MI l yX1_isCircle wsX1_isCircle rmX1_isCircle [.ref h, jI x] (WB D (MW h a0 a1 a2 a3 cA H T E F cc gc w d v) cA) (fun rR => rR = bI (0 ≤ x ∧ x ≤ (cc - 1))) := by
  refine MZ_of (cc := cX1_isCircle) (maxL := 2) (by decide) rfl (Nat.le_of_ble_eq_true rfl) ?_
  intro pP eE sS mM aA bL mT cC QQ ls S hret ⟨hP, hK⟩ hl
  obtain ⟨hcc, hgc, hw, hd, hv, hH, hT, hE⟩ := id hok
  have hin : ∀ w ∈ wsX10, w ∈ wsX1_isCircle := fun w hw => List.mem_cons_of_mem _ (List.mem_append_right _ hw)
  have hl : lv_has ls 2 [(0, .ref h), (1, jI x)] := hl
  refine j_iload_n S dX1_isCircle_0 rfl (lv_at hl 1 rfl) ?_
  refine j_i2l S dX1_isCircle_1 (iv_i hx (by decide +kernel)) ?_
  refine j_lconst (a := 0) S dX1_isCircle_2 rfl ?_
  refine lv_aload_n S.1 S.2.1 dX1_isCircle_3 rfl (lv_at hl 0 rfl) ?_
  refine j_get (v := jI cc) S hin hK hP rfl rfl 1 (by decide) (List.mem_of_getElem? (i := 1) rfl) rfl dX1_isCircle_4 ?_
  refine j_iconst S dX1_isCircle_7 ?_
  refine j_isub S dX1_isCircle_8 ?_
  refine j_i2l S dX1_isCircle_9 (iv_i (iv_sub (lo := (-1)) (hi := 7) hcc (iv_n 1) (by decide +kernel)) (by decide +kernel)) ?_
  refine j_csi (As := [jL x, jL 0, jL (cc - 1)]) S (c_X1_in l x 0 (cc - 1) (iv_w hx (by decide +kernel)) (iv_w (iv_n 0) (by decide +kernel)) (iv_w (iv_sub (lo := (-1)) (hi := 7) hcc (iv_n 1) (by decide +kernel)) (by decide +kernel))) (va_cwS 3 S.2.2.2.2 gX1_isCircle_X1_in rfl rfl rfl hdX1_in ⟨Nat.le_of_ble_eq_true rfl, Nat.le_of_ble_eq_true rfl⟩) [] rfl rfl hl.1 (Nat.le_of_ble_eq_true rfl) ⟨Nat.zero_le _, Nat.zero_le _⟩ dX1_isCircle_10 (fun i10 q10 => ?_)
  subst q10
  exact hret (bI (0 ≤ x ∧ x ≤ (cc - 1))) 13 _ bI_01 rfl dX1_isCircle_13
abbrev rmX1_isGear : Room := { frames := 1, cells := 0, slots := 0, locals := 25 }
theorem hdX1_isGear : yX1_isGear.cls ≠ "java/lang/invoke/MethodHandle" ∧ yX1_isGear.cls ≠ "java/lang/invoke/VarHandle" ∧ (parseMethodDescriptor yX1_isGear.desc).map (fun d => d.parameters.length) = some 1 := by decide +kernel
set_option maxHeartbeats 4000000 in
set_option maxRecDepth 100000 in
theorem c_X1_isGear (l : Launch) (D : va_G) (h a0 a1 a2 a3 : Nat) (cA : ClassId) (H T E F : Int → Int) (cc gc w d v : Int) (hok : SOK H T E cc gc w d v) (x : Int) (hx : inI x) : MI l yX1_isGear wsX1_isGear rmX1_isGear [.ref h, jI x] (WB D (MW h a0 a1 a2 a3 cA H T E F cc gc w d v) cA) (fun rR => rR = bI (0 ≤ x ∧ x ≤ (gc - 1))) := by
  refine MZ_of (cc := cX1_isGear) (maxL := 2) (by decide) rfl (Nat.le_of_ble_eq_true rfl) ?_
  intro pP eE sS mM aA bL mT cC QQ ls S hret ⟨hP, hK⟩ hl
  obtain ⟨hcc, hgc, hw, hd, hv, hH, hT, hE⟩ := id hok
  have hin : ∀ w ∈ wsX10, w ∈ wsX1_isGear := fun w hw => List.mem_cons_of_mem _ (List.mem_append_right _ hw)
  have hl : lv_has ls 2 [(0, .ref h), (1, jI x)] := hl
  refine j_iload_n S dX1_isGear_0 rfl (lv_at hl 1 rfl) ?_
  refine j_i2l S dX1_isGear_1 (iv_i hx (by decide +kernel)) ?_
  refine j_lconst (a := 0) S dX1_isGear_2 rfl ?_
  refine lv_aload_n S.1 S.2.1 dX1_isGear_3 rfl (lv_at hl 0 rfl) ?_
  refine j_get (v := jI gc) S hin hK hP rfl rfl 3 (by decide) (List.mem_of_getElem? (i := 1) rfl) rfl dX1_isGear_4 ?_
  refine j_iconst S dX1_isGear_7 ?_
  refine j_isub S dX1_isGear_8 ?_
  refine j_i2l S dX1_isGear_9 (iv_i (iv_sub (lo := (-1)) (hi := 9) hgc (iv_n 1) (by decide +kernel)) (by decide +kernel)) ?_
  refine j_csi (As := [jL x, jL 0, jL (gc - 1)]) S (c_X1_in l x 0 (gc - 1) (iv_w hx (by decide +kernel)) (iv_w (iv_n 0) (by decide +kernel)) (iv_w (iv_sub (lo := (-1)) (hi := 9) hgc (iv_n 1) (by decide +kernel)) (by decide +kernel))) (va_cwS 3 S.2.2.2.2 gX1_isGear_X1_in rfl rfl rfl hdX1_in ⟨Nat.le_of_ble_eq_true rfl, Nat.le_of_ble_eq_true rfl⟩) [] rfl rfl hl.1 (Nat.le_of_ble_eq_true rfl) ⟨Nat.zero_le _, Nat.zero_le _⟩ dX1_isGear_10 (fun i10 q10 => ?_)
  subst q10
  exact hret (bI (0 ≤ x ∧ x ≤ (gc - 1))) 13 _ bI_01 rfl dX1_isGear_13
abbrev rmX1_isCut : Room := { frames := 2, cells := 0, slots := 0, locals := 45 }
theorem hdX1_isCut : yX1_isCut.cls ≠ "java/lang/invoke/MethodHandle" ∧ yX1_isCut.cls ≠ "java/lang/invoke/VarHandle" ∧ (parseMethodDescriptor yX1_isCut.desc).map (fun d => d.parameters.length) = some 2 := by decide +kernel
set_option maxHeartbeats 4000000 in
set_option maxRecDepth 100000 in
theorem c_X1_isCut (l : Launch) (n : Int) (i : Int) (hn : inI n) (hi : inI i) : MI l yX1_isCut wsX1_isCut rmX1_isCut [jI n, jI i] W0 (fun rR => rR = bI ((2 ≤ n ∧ n ≤ 1000) ∧ (0 ≤ i ∧ i ≤ n))) := by
  refine MZ_of (cc := cX1_isCut) (maxL := 2) (by decide) rfl (Nat.le_of_ble_eq_true rfl) ?_
  intro pP eE sS mM aA bL mT cC QQ ls S hret _ hl
  have hl : lv_has ls 2 [(0, jI n), (1, jI i)] := hl
  refine j_iload_n S dX1_isCut_0 rfl (lv_at hl 0 rfl) ?_
  refine j_csi (As := [jI n]) S (c_X1_isParts l n (iv_w hn (by decide +kernel))) (va_cwS 1 S.2.2.2.2 gX1_isCut_X1_isParts rfl rfl rfl hdX1_isParts ⟨Nat.le_of_ble_eq_true rfl, Nat.le_of_ble_eq_true rfl⟩) [] rfl rfl hl.1 (Nat.le_of_ble_eq_true rfl) ⟨Nat.zero_le _, Nat.zero_le _⟩ dX1_isCut_1 (fun i1 q1 => ?_)
  subst q1
  refine j_ifb_eq (tgt := 22) S dX1_isCut_4 (by decide) (fun c4 => ?_) (fun c4 => ?_)
  · refine j_iconst S dX1_isCut_22 ?_
    exact hret 0 23 _ (Or.inl rfl) (bI_f (by omega)) dX1_isCut_23
  · have r1_ : 2 ≤ n ∧ n ≤ 1000 := by omega
    refine j_iload_n S dX1_isCut_7 rfl (lv_at hl 1 rfl) ?_
    refine j_i2l S dX1_isCut_8 (iv_i hi (by decide +kernel)) ?_
    refine j_lconst (a := 0) S dX1_isCut_9 rfl ?_
    refine j_iload_n S dX1_isCut_10 rfl (lv_at hl 0 rfl) ?_
    refine j_i2l S dX1_isCut_11 (iv_i r1_ (by decide +kernel)) ?_
    refine j_csi (As := [jL i, jL 0, jL n]) S (c_X1_in l i 0 n (iv_w hi (by decide +kernel)) (iv_w (iv_n 0) (by decide +kernel)) (iv_w r1_ (by decide +kernel))) (va_cwS 3 S.2.2.2.2 gX1_isCut_X1_in rfl rfl rfl hdX1_in ⟨Nat.le_of_ble_eq_true rfl, Nat.le_of_ble_eq_true rfl⟩) [] rfl rfl hl.1 (Nat.le_of_ble_eq_true rfl) ⟨Nat.zero_le _, Nat.zero_le _⟩ dX1_isCut_12 (fun i12 q12 => ?_)
    subst q12
    refine j_ifb_eq (tgt := 22) S dX1_isCut_15 (by decide) (fun c15 => ?_) (fun c15 => ?_)
    · refine j_iconst S dX1_isCut_22 ?_
      exact hret 0 23 _ (Or.inl rfl) (bI_f (by omega)) dX1_isCut_23
    · have r2_ : 0 ≤ i ∧ i ≤ 1000 := by omega
      refine j_iconst S dX1_isCut_18 ?_
      refine j_goto (tgt := 23) S dX1_isCut_19 (by decide) ?_
      exact hret 1 23 _ (Or.inr rfl) (bI_t (by omega)) dX1_isCut_23
abbrev rmX1_isPlace : Room := { frames := 1, cells := 0, slots := 0, locals := 25 }
theorem hdX1_isPlace : yX1_isPlace.cls ≠ "java/lang/invoke/MethodHandle" ∧ yX1_isPlace.cls ≠ "java/lang/invoke/VarHandle" ∧ (parseMethodDescriptor yX1_isPlace.desc).map (fun d => d.parameters.length) = some 2 := by decide +kernel
set_option maxHeartbeats 4000000 in
set_option maxRecDepth 100000 in
theorem c_X1_isPlace (l : Launch) (x : Int) (y : Int) (hx : inI x) (hy : inI y) : MI l yX1_isPlace wsX1_isPlace rmX1_isPlace [jI x, jI y] W0 (fun rR => rR = bI ((1 ≤ y ∧ y ≤ 1000000) ∧ (0 ≤ x ∧ x ≤ y - 1))) := by
  refine MZ_of (cc := cX1_isPlace) (maxL := 2) (by decide) rfl (Nat.le_of_ble_eq_true rfl) ?_
  intro pP eE sS mM aA bL mT cC QQ ls S hret _ hl
  have hl : lv_has ls 2 [(0, jI x), (1, jI y)] := hl
  refine j_iload_n S dX1_isPlace_0 rfl (lv_at hl 1 rfl) ?_
  refine j_i2l S dX1_isPlace_1 (iv_i hy (by decide +kernel)) ?_
  refine j_lconst (a := 1) S dX1_isPlace_2 rfl ?_
  refine j_ldc2 (n := 1000000) S (S.2.2.2.2 _ (List.mem_of_getElem? (i := 1) rfl)) (by decide) dX1_isPlace_3 ?_
  refine j_csi (As := [jL y, jL 1, jL 1000000]) S (c_X1_in l y 1 1000000 (iv_w hy (by decide +kernel)) (iv_w (iv_n 1) (by decide +kernel)) (iv_w (iv_n 1000000) (by decide +kernel))) (va_cwS 3 S.2.2.2.2 gX1_isPlace_X1_in rfl rfl rfl hdX1_in ⟨Nat.le_of_ble_eq_true rfl, Nat.le_of_ble_eq_true rfl⟩) [] rfl rfl hl.1 (Nat.le_of_ble_eq_true rfl) ⟨Nat.zero_le _, Nat.zero_le _⟩ dX1_isPlace_6 (fun i6 q6 => ?_)
  subst q6
  refine j_ifb_eq (tgt := 29) S dX1_isPlace_9 (by decide) (fun c9 => ?_) (fun c9 => ?_)
  · refine j_iconst S dX1_isPlace_29 ?_
    exact hret 0 30 _ (Or.inl rfl) (bI_f (by omega)) dX1_isPlace_30
  · have r1_ : 1 ≤ y ∧ y ≤ 1000000 := by omega
    refine j_iload_n S dX1_isPlace_12 rfl (lv_at hl 0 rfl) ?_
    refine j_i2l S dX1_isPlace_13 (iv_i hx (by decide +kernel)) ?_
    refine j_lconst (a := 0) S dX1_isPlace_14 rfl ?_
    refine j_iload_n S dX1_isPlace_15 rfl (lv_at hl 1 rfl) ?_
    refine j_i2l S dX1_isPlace_16 (iv_i r1_ (by decide +kernel)) ?_
    refine j_lconst (a := 1) S dX1_isPlace_17 rfl ?_
    refine j_lsub S dX1_isPlace_18 ?_
    refine j_csi (As := [jL x, jL 0, jL (y - 1)]) S (c_X1_in l x 0 (y - 1) (iv_w hx (by decide +kernel)) (iv_w (iv_n 0) (by decide +kernel)) (iv_w (iv_sub (lo := 0) (hi := 999999) r1_ (iv_n 1) (by decide +kernel)) (by decide +kernel))) (va_cwS 3 S.2.2.2.2 gX1_isPlace_X1_in rfl rfl rfl hdX1_in ⟨Nat.le_of_ble_eq_true rfl, Nat.le_of_ble_eq_true rfl⟩) [] rfl rfl hl.1 (Nat.le_of_ble_eq_true rfl) ⟨Nat.zero_le _, Nat.zero_le _⟩ dX1_isPlace_19 (fun i19 q19 => ?_)
    subst q19
    refine j_ifb_eq (tgt := 29) S dX1_isPlace_22 (by decide) (fun c22 => ?_) (fun c22 => ?_)
    · refine j_iconst S dX1_isPlace_29 ?_
      exact hret 0 30 _ (Or.inl rfl) (bI_f (by omega)) dX1_isPlace_30
    · have r2_ : 0 ≤ x ∧ x ≤ 999999 := by omega
      refine j_iconst S dX1_isPlace_25 ?_
      refine j_goto (tgt := 30) S dX1_isPlace_26 (by decide) ?_
      exact hret 1 30 _ (Or.inr rfl) (bI_t (by omega)) dX1_isPlace_30
abbrev rmX1_holes : Room := { frames := 2, cells := 0, slots := 0, locals := 46 }
theorem hdX1_holes : yX1_holes.cls ≠ "java/lang/invoke/MethodHandle" ∧ yX1_holes.cls ≠ "java/lang/invoke/VarHandle" ∧ (parseMethodDescriptor yX1_holes.desc).map (fun d => d.parameters.length) = some 1 := by decide +kernel
set_option maxHeartbeats 4000000 in
set_option maxRecDepth 100000 in
theorem c_X1_holes (l : Launch) (D : va_G) (h a0 a1 a2 a3 : Nat) (cA : ClassId) (H T E F : Int → Int) (cc gc w d v : Int) (hok : SOK H T E cc gc w d v) (x : Int) (hx : inI x) : MI l yX1_holes wsX1_holes rmX1_holes [.ref h, jI x] (WB D (MW h a0 a1 a2 a3 cA H T E F cc gc w d v) cA) (fun rR => rR = sp_holes cc H x) := by
  refine MI_of (cc := cX1_holes) (maxL := 2) (by decide) rfl (Nat.le_of_ble_eq_true rfl) ?_
  intro pP eE sS mM aA bL mT cC QQ ls S hret ⟨hP, hK⟩ hl
  obtain ⟨hcc, hgc, hw, hd, hv, hH, hT, hE⟩ := id hok
  have hin : ∀ w ∈ wsX10, w ∈ wsX1_holes := fun w hw => List.mem_cons_of_mem _ (List.mem_append_right _ hw)
  have hl : lv_has ls 2 [(0, .ref h), (1, jI x)] := hl
  refine lv_aload_n S.1 S.2.1 dX1_holes_0 rfl (lv_at hl 0 rfl) ?_
  refine j_iload_n S dX1_holes_1 rfl (lv_at hl 1 rfl) ?_
  refine j_cvi (As := [jI x]) (ci := 1) S (c_X1_isCircle l D h a0 a1 a2 a3 cA H T E F cc gc w d v hok x (iv_w hx (by decide +kernel))) (cwV 1 S.2.2.2.2 gX1_holes_X1_isCircle rfl rfl rfl ⟨rfl, hdX1_isCircle⟩ ⟨Nat.le_of_ble_eq_true rfl, Nat.le_of_ble_eq_true rfl⟩) hK hP rfl rfl rfl [] rfl rfl hl.1 (Nat.le_of_ble_eq_true rfl) ⟨Nat.zero_le _, Nat.zero_le _⟩ dX1_holes_2 (fun i2 q2 => ?_)
  subst q2
  refine j_ifb_eq (tgt := 17) S dX1_holes_5 (by decide) (fun c5 => ?_) (fun c5 => ?_)
  · refine j_iconst S dX1_holes_17 ?_
    exact hret (-1) 18 _ (by unfold sp_holes; (repeat' split) <;> first | omega | rfl) dX1_holes_18
  · have r1_ : 0 ≤ x ∧ x ≤ 7 := by omega
    refine lv_aload_n S.1 S.2.1 dX1_holes_8 rfl (lv_at hl 0 rfl) ?_
    refine j_get (v := .ref a0) S hin hK hP rfl rfl 2 (by decide) (List.mem_of_getElem? (i := 1) rfl) rfl dX1_holes_9 ?_
    refine j_iload_n S dX1_holes_12 rfl (lv_at hl 1 rfl) ?_
    refine j_iald S hK hP 1 0 rfl rfl (iv_ix (n := 8) r1_ (by decide +kernel)) dX1_holes_13 ?_
    have r2_ := hH x (by omega) (by omega)
    refine j_goto (tgt := 18) S dX1_holes_14 (by decide) ?_
    exact hret (H x) 18 _ (by unfold sp_holes; (repeat' split) <;> first | omega | rfl) dX1_holes_18
abbrev rmX1_teeth : Room := { frames := 2, cells := 0, slots := 0, locals := 46 }
theorem hdX1_teeth : yX1_teeth.cls ≠ "java/lang/invoke/MethodHandle" ∧ yX1_teeth.cls ≠ "java/lang/invoke/VarHandle" ∧ (parseMethodDescriptor yX1_teeth.desc).map (fun d => d.parameters.length) = some 1 := by decide +kernel
set_option maxHeartbeats 4000000 in
set_option maxRecDepth 100000 in
theorem c_X1_teeth (l : Launch) (D : va_G) (h a0 a1 a2 a3 : Nat) (cA : ClassId) (H T E F : Int → Int) (cc gc w d v : Int) (hok : SOK H T E cc gc w d v) (x : Int) (hx : inI x) : MI l yX1_teeth wsX1_teeth rmX1_teeth [.ref h, jI x] (WB D (MW h a0 a1 a2 a3 cA H T E F cc gc w d v) cA) (fun rR => rR = sp_holes gc T x) := by
  refine MI_of (cc := cX1_teeth) (maxL := 2) (by decide) rfl (Nat.le_of_ble_eq_true rfl) ?_
  intro pP eE sS mM aA bL mT cC QQ ls S hret ⟨hP, hK⟩ hl
  obtain ⟨hcc, hgc, hw, hd, hv, hH, hT, hE⟩ := id hok
  have hin : ∀ w ∈ wsX10, w ∈ wsX1_teeth := fun w hw => List.mem_cons_of_mem _ (List.mem_append_right _ hw)
  have hl : lv_has ls 2 [(0, .ref h), (1, jI x)] := hl
  refine lv_aload_n S.1 S.2.1 dX1_teeth_0 rfl (lv_at hl 0 rfl) ?_
  refine j_iload_n S dX1_teeth_1 rfl (lv_at hl 1 rfl) ?_
  refine j_cvi (As := [jI x]) (ci := 1) S (c_X1_isGear l D h a0 a1 a2 a3 cA H T E F cc gc w d v hok x (iv_w hx (by decide +kernel))) (cwV 1 S.2.2.2.2 gX1_teeth_X1_isGear rfl rfl rfl ⟨rfl, hdX1_isGear⟩ ⟨Nat.le_of_ble_eq_true rfl, Nat.le_of_ble_eq_true rfl⟩) hK hP rfl rfl rfl [] rfl rfl hl.1 (Nat.le_of_ble_eq_true rfl) ⟨Nat.zero_le _, Nat.zero_le _⟩ dX1_teeth_2 (fun i2 q2 => ?_)
  subst q2
  refine j_ifb_eq (tgt := 17) S dX1_teeth_5 (by decide) (fun c5 => ?_) (fun c5 => ?_)
  · refine j_iconst S dX1_teeth_17 ?_
    exact hret (-1) 18 _ (by unfold sp_holes; (repeat' split) <;> first | omega | rfl) dX1_teeth_18
  · have r1_ : 0 ≤ x ∧ x ≤ 9 := by omega
    refine lv_aload_n S.1 S.2.1 dX1_teeth_8 rfl (lv_at hl 0 rfl) ?_
    refine j_get (v := .ref a1) S hin hK hP rfl rfl 4 (by decide) (List.mem_of_getElem? (i := 1) rfl) rfl dX1_teeth_9 ?_
    refine j_iload_n S dX1_teeth_12 rfl (lv_at hl 1 rfl) ?_
    refine j_iald S hK hP 2 0 rfl rfl (iv_ix (n := 10) r1_ (by decide +kernel)) dX1_teeth_13 ?_
    have r2_ := hT x (by omega) (by omega)
    refine j_goto (tgt := 18) S dX1_teeth_14 (by decide) ?_
    exact hret (T x) 18 _ (by unfold sp_holes; (repeat' split) <;> first | omega | rfl) dX1_teeth_18
abbrev rmX1_plainOf : Room := { frames := 0, cells := 0, slots := 0, locals := 0 }
theorem hdX1_plainOf : yX1_plainOf.cls ≠ "java/lang/invoke/MethodHandle" ∧ yX1_plainOf.cls ≠ "java/lang/invoke/VarHandle" ∧ (parseMethodDescriptor yX1_plainOf.desc).map (fun d => d.parameters.length) = some 1 := by decide +kernel
set_option maxHeartbeats 4000000 in
set_option maxRecDepth 100000 in
theorem c_X1_plainOf (l : Launch) (D : va_G) (h a0 a1 a2 a3 : Nat) (cA : ClassId) (H T E F : Int → Int) (cc gc w d v : Int) (hok : SOK H T E cc gc w d v) (n : Int) (hn : 2 ≤ n ∧ n ≤ 1000) : MI l yX1_plainOf wsX1_plainOf rmX1_plainOf [.ref h, jI n] (WB D (MW h a0 a1 a2 a3 cA H T E F cc gc w d v) cA) (fun rR => rR = sp_pl w H n cc) := by
  refine MI_of (cc := cX1_plainOf) (maxL := 5) (by decide) rfl (Nat.le_of_ble_eq_true rfl) ?_
  intro pP eE sS mM aA bL mT cC QQ ls S hret ⟨hP, hK⟩ hl
  obtain ⟨hcc, hgc, hw, hd, hv, hH, hT, hE⟩ := id hok
  have hin : ∀ w ∈ wsX10, w ∈ wsX1_plainOf := fun w hw => List.mem_cons_of_mem _ (List.mem_append_right _ hw)
  have hl : lv_has ls 5 [(0, .ref h), (1, jI n)] := hl
  refine j_bipush S dX1_plainOf_0 (by decide) ?_
  refine j_istore_n (lv' := [(2, jI (-6)), (0, .ref h), (1, jI n)]) S dX1_plainOf_2 rfl hl (by decide) rfl (fun ls hl => ?_)
  refine j_iconst S dX1_plainOf_3 ?_
  refine j_istore_n (lv' := [(3, jI 0), (2, jI (-6)), (0, .ref h), (1, jI n)]) S dX1_plainOf_4 rfl hl (by decide) rfl (fun ls hl => ?_)
  have loop5 : ∀ (N : Nat) (b k : Int) (ls : Array Slot), (0 ≤ k ∧ k ≤ 8) → (k ≤ cc) → (b = sp_pl w H n k) → (-6 ≤ b ∧ b ≤ 7) → (b = -6 ∨ (0 ≤ b ∧ b < k)) → cc - k < (N : Int) → lv_has ls 5 [(3, jI k), (2, jI b), (0, .ref h), (1, jI n)] → W pP l eE rmX1_plainOf sS mM aA bL mT cC sS.heap [] 0 0 QQ (F0 mM 5 ls []) := by
    intro N
    induction N with
    | zero =>
      intro b k ls hk hk2 hb hbi hb2 hN
      exact absurd hN (by omega)
    | succ N ih5 =>
      intro b k ls hk hk2 hb hbi hb2 hN hl
      refine j_iload_n S dX1_plainOf_5 rfl (lv_at hl 0 rfl) ?_
      refine lv_aload_n S.1 S.2.1 dX1_plainOf_6 rfl (lv_at hl 2 rfl) ?_
      refine j_get (v := jI cc) S hin hK hP rfl rfl 1 (by decide) (List.mem_of_getElem? (i := 1) rfl) rfl dX1_plainOf_7 ?_
      refine j_icmp_ge (tgt := 72) S dX1_plainOf_10 (by decide) (iv_i hk (by decide +kernel)) (iv_i hcc (by decide +kernel)) (fun c10 => ?_) (fun c10 => ?_)
      · refine j_iload_n S dX1_plainOf_72 rfl (lv_at hl 1 rfl) ?_
        exact hret b 73 _ (by rw [hb, show k = cc from by omega]) dX1_plainOf_73
      · have r1_ : 0 ≤ k ∧ k ≤ 7 := by omega
        have r2_ : 1 ≤ cc ∧ cc ≤ 8 := by omega
        refine lv_aload_n S.1 S.2.1 dX1_plainOf_13 rfl (lv_at hl 2 rfl) ?_
        refine j_get (v := jI w) S hin hK hP rfl rfl 0 (by decide) (List.mem_of_getElem? (i := 2) rfl) rfl dX1_plainOf_14 ?_
        refine lv_aload_n S.1 S.2.1 dX1_plainOf_17 rfl (lv_at hl 2 rfl) ?_
        refine j_get (v := .ref a0) S hin hK hP rfl rfl 2 (by decide) (List.mem_of_getElem? (i := 3) rfl) rfl dX1_plainOf_18 ?_
        refine j_iload_n S dX1_plainOf_21 rfl (lv_at hl 0 rfl) ?_
        refine j_iald S hK hP 1 0 rfl rfl (iv_ix (n := 8) r1_ (by decide +kernel)) dX1_plainOf_22 ?_
        have r3_ := hH k (by omega) (by omega)
        refine j_imul S dX1_plainOf_23 ?_
        refine j_iload_n S dX1_plainOf_24 rfl (lv_at hl 3 rfl) ?_
        refine j_iremp S dX1_plainOf_25 (iv_i (iv_mulp (lo := 50) (hi := 24000) hw r3_ (by decide +kernel)) (by decide +kernel)) (iv_pi hn (by decide +kernel)) (iv_nn (iv_mulp (lo := 50) (hi := 24000) hw r3_ (by decide +kernel)) (by decide +kernel)) ?_
        refine j_if_ne (tgt := 33) S dX1_plainOf_26 (by decide) (iv_i (iv_mod (lo := 0) (hi := 999) hn (by decide +kernel)) (by decide +kernel)) (fun c26 => ?_) (fun c26 => ?_)
        · refine j_iconst S dX1_plainOf_33 ?_
          refine j_istore (lv' := [(4, jI 0), (3, jI k), (2, jI b), (0, .ref h), (1, jI n)]) S dX1_plainOf_34 hl (by decide) rfl (fun ls hl => ?_)
          refine j_iload S dX1_plainOf_36 (lv_at hl 0 rfl) ?_
          refine j_if_eq (tgt := 64) S dX1_plainOf_38 (by decide) (iv_i (iv_n 0) (by decide +kernel)) (fun c38 => ?_) (fun z9 => absurd z9 (by decide))
          refine j_iload_n S dX1_plainOf_64 rfl (lv_at hl 2 rfl) ?_
          refine j_istore_n (lv' := [(2, jI b), (4, jI 0), (3, jI k), (0, .ref h), (1, jI n)]) S dX1_plainOf_65 rfl hl (by decide) rfl (fun ls hl => ?_)
          refine j_iinc (k := 2) (y := (k + 1)) (lv' := [(3, jI (k + 1)), (2, jI b), (4, jI 0), (0, .ref h), (1, jI n)]) S dX1_plainOf_66 hl rfl rfl (by decide) rfl (fun ls hl => ?_)
          refine j_goto (tgt := 5) S dX1_plainOf_69 (by decide) ?_
          exact ih5 b (k + 1) _ (by omega) (by omega) (by have e9 : (w * H k).tmod n = w * H k % n := Int.tmod_eq_emod_of_nonneg (iv_nn (iv_mulp (lo := 50) (hi := 24000) hw r3_ (by decide +kernel)) (by decide +kernel)); rw [sp_pl_s (by omega), ← hb, e9]; split <;> omega) (by omega) (by omega) (by omega) (lv_sub hl [0, 1, 3, 4] rfl)
        · refine j_iconst S dX1_plainOf_29 ?_
          refine j_goto (tgt := 34) S dX1_plainOf_30 (by decide) ?_
          refine j_istore (lv' := [(4, jI 1), (3, jI k), (2, jI b), (0, .ref h), (1, jI n)]) S dX1_plainOf_34 hl (by decide) rfl (fun ls hl => ?_)
          refine j_iload S dX1_plainOf_36 (lv_at hl 0 rfl) ?_
          refine j_if_eq (tgt := 64) S dX1_plainOf_38 (by decide) (iv_i (iv_n 1) (by decide +kernel)) (fun z9 => absurd z9 (by decide)) (fun c38 => ?_)
          refine j_iload_n S dX1_plainOf_41 rfl (lv_at hl 2 rfl) ?_
          refine j_if_lt (tgt := 60) S dX1_plainOf_42 (by decide) (iv_i hbi (by decide +kernel)) (fun c42 => ?_) (fun c42 => ?_)
          · have r4_ : (-6) ≤ b ∧ b ≤ (-1) := by omega
            refine j_iload_n S dX1_plainOf_60 rfl (lv_at hl 1 rfl) ?_
            refine j_goto (tgt := 65) S dX1_plainOf_61 (by decide) ?_
            refine j_istore_n (lv' := [(2, jI k), (4, jI 1), (3, jI k), (0, .ref h), (1, jI n)]) S dX1_plainOf_65 rfl hl (by decide) rfl (fun ls hl => ?_)
            refine j_iinc (k := 2) (y := (k + 1)) (lv' := [(3, jI (k + 1)), (2, jI k), (4, jI 1), (0, .ref h), (1, jI n)]) S dX1_plainOf_66 hl rfl rfl (by decide) rfl (fun ls hl => ?_)
            refine j_goto (tgt := 5) S dX1_plainOf_69 (by decide) ?_
            exact ih5 k (k + 1) _ (by omega) (by omega) (by have e9 : (w * H k).tmod n = w * H k % n := Int.tmod_eq_emod_of_nonneg (iv_nn (iv_mulp (lo := 50) (hi := 24000) hw r3_ (by decide +kernel)) (by decide +kernel)); rw [sp_pl_s (by omega), ← hb, e9]; split <;> omega) (by omega) (by omega) (by omega) (lv_sub hl [0, 1, 3, 4] rfl)
          · have r5_ : 0 ≤ b ∧ b ≤ 7 := by omega
            refine lv_aload_n S.1 S.2.1 dX1_plainOf_45 rfl (lv_at hl 3 rfl) ?_
            refine j_get (v := .ref a0) S hin hK hP rfl rfl 2 (by decide) (List.mem_of_getElem? (i := 3) rfl) rfl dX1_plainOf_46 ?_
            refine j_iload_n S dX1_plainOf_49 rfl (lv_at hl 1 rfl) ?_
            refine j_iald S hK hP 1 0 rfl rfl (iv_ix (n := 8) r1_ (by decide +kernel)) dX1_plainOf_50 ?_
            refine lv_aload_n S.1 S.2.1 dX1_plainOf_51 rfl (lv_at hl 3 rfl) ?_
            refine j_get (v := .ref a0) S hin hK hP rfl rfl 2 (by decide) (List.mem_of_getElem? (i := 3) rfl) rfl dX1_plainOf_52 ?_
            refine j_iload_n S dX1_plainOf_55 rfl (lv_at hl 2 rfl) ?_
            refine j_iald S hK hP 1 0 rfl rfl (iv_ix (n := 8) r5_ (by decide +kernel)) dX1_plainOf_56 ?_
            have r6_ := hH b (by omega) (by omega)
            refine j_icmp_ge (tgt := 64) S dX1_plainOf_57 (by decide) (iv_i r3_ (by decide +kernel)) (iv_i r6_ (by decide +kernel)) (fun c57 => ?_) (fun c57 => ?_)
            · refine j_iload_n S dX1_plainOf_64 rfl (lv_at hl 2 rfl) ?_
              refine j_istore_n (lv' := [(2, jI b), (4, jI 1), (3, jI k), (0, .ref h), (1, jI n)]) S dX1_plainOf_65 rfl hl (by decide) rfl (fun ls hl => ?_)
              refine j_iinc (k := 2) (y := (k + 1)) (lv' := [(3, jI (k + 1)), (2, jI b), (4, jI 1), (0, .ref h), (1, jI n)]) S dX1_plainOf_66 hl rfl rfl (by decide) rfl (fun ls hl => ?_)
              refine j_goto (tgt := 5) S dX1_plainOf_69 (by decide) ?_
              exact ih5 b (k + 1) _ (by omega) (by omega) (by have e9 : (w * H k).tmod n = w * H k % n := Int.tmod_eq_emod_of_nonneg (iv_nn (iv_mulp (lo := 50) (hi := 24000) hw r3_ (by decide +kernel)) (by decide +kernel)); rw [sp_pl_s (by omega), ← hb, e9]; split <;> omega) (by omega) (by omega) (by omega) (lv_sub hl [0, 1, 3, 4] rfl)
            · have r7_ : 5 ≤ (H k) ∧ (H k) ≤ 119 := by omega
              have r8_ : 6 ≤ (H b) ∧ (H b) ≤ 120 := by omega
              refine j_iload_n S dX1_plainOf_60 rfl (lv_at hl 1 rfl) ?_
              refine j_goto (tgt := 65) S dX1_plainOf_61 (by decide) ?_
              refine j_istore_n (lv' := [(2, jI k), (4, jI 1), (3, jI k), (0, .ref h), (1, jI n)]) S dX1_plainOf_65 rfl hl (by decide) rfl (fun ls hl => ?_)
              refine j_iinc (k := 2) (y := (k + 1)) (lv' := [(3, jI (k + 1)), (2, jI k), (4, jI 1), (0, .ref h), (1, jI n)]) S dX1_plainOf_66 hl rfl rfl (by decide) rfl (fun ls hl => ?_)
              refine j_goto (tgt := 5) S dX1_plainOf_69 (by decide) ?_
              exact ih5 k (k + 1) _ (by omega) (by omega) (by have e9 : (w * H k).tmod n = w * H k % n := Int.tmod_eq_emod_of_nonneg (iv_nn (iv_mulp (lo := 50) (hi := 23800) hw r7_ (by decide +kernel)) (by decide +kernel)); rw [sp_pl_s (by omega), ← hb, e9]; split <;> omega) (by omega) (by omega) (by omega) (lv_sub hl [0, 1, 3, 4] rfl)
  exact loop5 9 (-6) 0 _ (by omega) (by omega) rfl (by omega) (by omega) (by omega) (lv_sub hl [0, 1, 2, 3] rfl)
abbrev rmX1_plain : Room := { frames := 2, cells := 0, slots := 0, locals := 45 }
theorem hdX1_plain : yX1_plain.cls ≠ "java/lang/invoke/MethodHandle" ∧ yX1_plain.cls ≠ "java/lang/invoke/VarHandle" ∧ (parseMethodDescriptor yX1_plain.desc).map (fun d => d.parameters.length) = some 2 := by decide +kernel
set_option maxHeartbeats 4000000 in
set_option maxRecDepth 100000 in
theorem c_X1_plain (l : Launch) (D : va_G) (h a0 a1 a2 a3 : Nat) (cA : ClassId) (H T E F : Int → Int) (cc gc w d v : Int) (hok : SOK H T E cc gc w d v) (n : Int) (what : Int) (hn : inI n) (hwhat : inI what) : MI l yX1_plain wsX1_plain rmX1_plain [.ref h, jI n, jI what] (WB D (MW h a0 a1 a2 a3 cA H T E F cc gc w d v) cA) (fun rR => rR = sp_plain w cc H n what) := by
  refine MI_of (cc := cX1_plain) (maxL := 4) (by decide) rfl (Nat.le_of_ble_eq_true rfl) ?_
  intro pP eE sS mM aA bL mT cC QQ ls S hret ⟨hP, hK⟩ hl
  obtain ⟨hcc, hgc, hw, hd, hv, hH, hT, hE⟩ := id hok
  have hin : ∀ w ∈ wsX10, w ∈ wsX1_plain := fun w hw => List.mem_cons_of_mem _ (List.mem_append_right _ hw)
  have hl : lv_has ls 4 [(0, .ref h), (1, jI n), (2, jI what)] := hl
  refine j_iload_n S dX1_plain_0 rfl (lv_at hl 1 rfl) ?_
  refine j_csi (As := [jI n]) S (c_X1_isParts l n (iv_w hn (by decide +kernel))) (va_cwS 1 S.2.2.2.2 gX1_plain_X1_isParts rfl rfl rfl hdX1_isParts ⟨Nat.le_of_ble_eq_true rfl, Nat.le_of_ble_eq_true rfl⟩) [] rfl rfl hl.1 (Nat.le_of_ble_eq_true rfl) ⟨Nat.zero_le _, Nat.zero_le _⟩ dX1_plain_1 (fun i1 q1 => ?_)
  subst q1
  refine j_ifb_eq (tgt := 19) S dX1_plain_4 (by decide) (fun c4 => ?_) (fun c4 => ?_)
  · refine j_bipush S dX1_plain_19 (by decide) ?_
    exact hret (-2) 21 _ (by unfold sp_plain; (repeat' split) <;> first | omega) dX1_plain_21
  · have r1_ : 2 ≤ n ∧ n ≤ 1000 := by omega
    refine j_iload_n S dX1_plain_7 rfl (lv_at hl 2 rfl) ?_
    refine j_i2l S dX1_plain_8 (iv_i hwhat (by decide +kernel)) ?_
    refine j_lconst (a := 0) S dX1_plain_9 rfl ?_
    refine j_ldc2 (n := 2) S (S.2.2.2.2 _ (List.mem_of_getElem? (i := 1) rfl)) (by decide) dX1_plain_10 ?_
    refine j_csi (As := [jL what, jL 0, jL 2]) S (c_X1_in l what 0 2 (iv_w hwhat (by decide +kernel)) (iv_w (iv_n 0) (by decide +kernel)) (iv_w (iv_n 2) (by decide +kernel))) (va_cwS 3 S.2.2.2.2 gX1_plain_X1_in rfl rfl rfl hdX1_in ⟨Nat.le_of_ble_eq_true rfl, Nat.le_of_ble_eq_true rfl⟩) [] rfl rfl hl.1 (Nat.le_of_ble_eq_true rfl) ⟨Nat.zero_le _, Nat.zero_le _⟩ dX1_plain_13 (fun i13 q13 => ?_)
    subst q13
    refine j_ifb_ne (tgt := 22) S dX1_plain_16 (by decide) (fun c16 => ?_) (fun c16 => ?_)
    · have r2_ : 0 ≤ what ∧ what ≤ 2 := by omega
      refine lv_aload_n S.1 S.2.1 dX1_plain_22 rfl (lv_at hl 0 rfl) ?_
      refine j_iload_n S dX1_plain_23 rfl (lv_at hl 1 rfl) ?_
      refine j_cvi (As := [jI n]) (ci := 1) S (c_X1_plainOf l D h a0 a1 a2 a3 cA H T E F cc gc w d v hok n (iv_w r1_ (by decide +kernel))) (cwV 1 S.2.2.2.2 gX1_plain_X1_plainOf rfl rfl rfl ⟨rfl, hdX1_plainOf⟩ ⟨Nat.le_of_ble_eq_true rfl, Nat.le_of_ble_eq_true rfl⟩) hK hP rfl rfl rfl [] rfl rfl hl.1 (Nat.le_of_ble_eq_true rfl) ⟨Nat.zero_le _, Nat.zero_le _⟩ dX1_plain_24 (fun i24 q24 => ?_)
      subst q24
      have r3_ : (-6) ≤ (sp_pl w H n cc) ∧ (sp_pl w H n cc) ≤ 7 := sp_pl_iv hcc
      have e21 := @sp_pl_rng w n cc H hcc.1
      refine j_istore_n (lv' := [(3, jI (sp_pl w H n cc)), (0, .ref h), (1, jI n), (2, jI what)]) S dX1_plain_27 rfl hl (by decide) rfl (fun ls hl => ?_)
      refine j_iload_n S dX1_plain_28 rfl (lv_at hl 0 rfl) ?_
      refine j_if_ge (tgt := 37) S dX1_plain_29 (by decide) (iv_i r3_ (by decide +kernel)) (fun c29 => ?_) (fun c29 => ?_)
      · have r4_ : 0 ≤ (sp_pl w H n cc) ∧ (sp_pl w H n cc) ≤ 7 := by omega
        refine j_iload_n S dX1_plain_37 rfl (lv_at hl 3 rfl) ?_
        refine j_if_ne (tgt := 45) S dX1_plain_38 (by decide) (iv_i r2_ (by decide +kernel)) (fun c38 => ?_) (fun c38 => ?_)
        · have r5_ : 1 ≤ what ∧ what ≤ 2 := by omega
          refine j_iload_n S dX1_plain_45 rfl (lv_at hl 3 rfl) ?_
          refine j_iconst S dX1_plain_46 ?_
          refine j_icmp_ne (tgt := 59) S dX1_plain_47 (by decide) (iv_i r5_ (by decide +kernel)) (iv_i (iv_n 1) (by decide +kernel)) (fun c47 => ?_) (fun c47 => ?_)
          · have r6_ : 2 ≤ what ∧ what ≤ 2 := by omega
            refine lv_aload_n S.1 S.2.1 dX1_plain_59 rfl (lv_at hl 1 rfl) ?_
            refine j_get (v := jI w) S hin hK hP rfl rfl 0 (by decide) (List.mem_of_getElem? (i := 2) rfl) rfl dX1_plain_60 ?_
            refine lv_aload_n S.1 S.2.1 dX1_plain_63 rfl (lv_at hl 1 rfl) ?_
            refine j_get (v := .ref a0) S hin hK hP rfl rfl 2 (by decide) (List.mem_of_getElem? (i := 3) rfl) rfl dX1_plain_64 ?_
            refine j_iload_n S dX1_plain_67 rfl (lv_at hl 0 rfl) ?_
            refine j_iald S hK hP 1 0 rfl rfl (iv_ix (n := 8) r4_ (by decide +kernel)) dX1_plain_68 ?_
            have r7_ := hH (sp_pl w H n cc) (by omega) (by omega)
            refine j_imul S dX1_plain_69 ?_
            refine j_iload_n S dX1_plain_70 rfl (lv_at hl 2 rfl) ?_
            refine j_idivp S dX1_plain_71 (iv_i (iv_mulp (lo := 50) (hi := 24000) hw r7_ (by decide +kernel)) (by decide +kernel)) (iv_pi r1_ (by decide +kernel)) (iv_nn (iv_mulp (lo := 50) (hi := 24000) hw r7_ (by decide +kernel)) (by decide +kernel)) ?_
            refine lv_aload_n S.1 S.2.1 dX1_plain_72 rfl (lv_at hl 1 rfl) ?_
            refine j_get (v := .ref a0) S hin hK hP rfl rfl 2 (by decide) (List.mem_of_getElem? (i := 3) rfl) rfl dX1_plain_73 ?_
            refine j_iload_n S dX1_plain_76 rfl (lv_at hl 0 rfl) ?_
            refine j_iald S hK hP 1 0 rfl rfl (iv_ix (n := 8) r4_ (by decide +kernel)) dX1_plain_77 ?_
            refine j_iremp S dX1_plain_78 (iv_i (iv_div (lo := 0) (hi := 24000) (iv_mulp (lo := 50) (hi := 24000) hw r7_ (by decide +kernel)) (by have := r1_; omega) (by decide +kernel)) (by decide +kernel)) (iv_pi r7_ (by decide +kernel)) (iv_nn (iv_div (lo := 0) (hi := 24000) (iv_mulp (lo := 50) (hi := 24000) hw r7_ (by decide +kernel)) (by have := r1_; omega) (by decide +kernel)) (by decide +kernel)) ?_
            exact hret (((w * (H (sp_pl w H n cc))) / n) % (H (sp_pl w H n cc))) 79 _ (by unfold sp_plain; (repeat' split) <;> first | omega | (exact plain_eq (by omega) (by omega) (by omega))) dX1_plain_79
          · have r8_ : 1 ≤ what ∧ what ≤ 1 := by omega
            refine lv_aload_n S.1 S.2.1 dX1_plain_50 rfl (lv_at hl 1 rfl) ?_
            refine j_get (v := jI w) S hin hK hP rfl rfl 0 (by decide) (List.mem_of_getElem? (i := 2) rfl) rfl dX1_plain_51 ?_
            refine j_iload_n S dX1_plain_54 rfl (lv_at hl 2 rfl) ?_
            refine j_idivp S dX1_plain_55 (iv_i hw (by decide +kernel)) (iv_pi r1_ (by decide +kernel)) (iv_nn hw (by decide +kernel)) ?_
            refine j_goto (tgt := 79) S dX1_plain_56 (by decide) ?_
            exact hret (w / n) 79 _ (by unfold sp_plain; (repeat' split) <;> first | omega) dX1_plain_79
        · have r9_ : 0 ≤ what ∧ what ≤ 0 := by omega
          refine j_iload_n S dX1_plain_41 rfl (lv_at hl 0 rfl) ?_
          refine j_goto (tgt := 79) S dX1_plain_42 (by decide) ?_
          exact hret (sp_pl w H n cc) 79 _ (by unfold sp_plain; (repeat' split) <;> first | omega) dX1_plain_79
      · have r10_ : (-6) ≤ (sp_pl w H n cc) ∧ (sp_pl w H n cc) ≤ (-1) := by omega
        refine j_bipush S dX1_plain_32 (by decide) ?_
        refine j_goto (tgt := 79) S dX1_plain_34 (by decide) ?_
        exact hret (-6) 79 _ (by unfold sp_plain; (repeat' split) <;> first | omega) dX1_plain_79
    · refine j_bipush S dX1_plain_19 (by decide) ?_
      exact hret (-2) 21 _ (by unfold sp_plain; (repeat' split) <;> first | omega) dX1_plain_21
abbrev rmX1_stepBeside : Room := { frames := 0, cells := 0, slots := 0, locals := 0 }
theorem hdX1_stepBeside : yX1_stepBeside.cls ≠ "java/lang/invoke/MethodHandle" ∧ yX1_stepBeside.cls ≠ "java/lang/invoke/VarHandle" ∧ (parseMethodDescriptor yX1_stepBeside.desc).map (fun d => d.parameters.length) = some 4 := by decide +kernel
set_option maxHeartbeats 4000000 in
set_option maxRecDepth 100000 in
theorem c_X1_stepBeside (l : Launch) (D : va_G) (h a0 a1 a2 a3 : Nat) (cA : ClassId) (H T E F : Int → Int) (cc gc w d v : Int) (hok : SOK H T E cc gc w d v) (n : Int) (x1 : Int) (x2 : Int) (b : Int) (hn : 2 ≤ n ∧ n ≤ 1000) (hx1 : 0 ≤ x1 ∧ x1 ≤ 7) (hx2 : 0 ≤ x2 ∧ x2 ≤ 7) (hb : (-120) ≤ b ∧ b ≤ 120) (hx1c : x1 < cc) (hx2c : x2 < cc) : MI l yX1_stepBeside wsX1_stepBeside rmX1_stepBeside [.ref h, jI n, jI x1, jI x2, jI b] (WB D (MW h a0 a1 a2 a3 cA H T E F cc gc w d v) cA) (fun rR => rR = sp_fs w (H x1) (H x2) n b) := by
  refine MI_of (cc := cX1_stepBeside) (maxL := 9) (by decide) rfl (Nat.le_of_ble_eq_true rfl) ?_
  intro pP eE sS mM aA bL mT cC QQ ls S hret ⟨hP, hK⟩ hl
  obtain ⟨hcc, hgc, hw, hd, hv, hH, hT, hE⟩ := id hok
  have hin : ∀ w ∈ wsX10, w ∈ wsX1_stepBeside := fun w hw => List.mem_cons_of_mem _ (List.mem_append_right _ hw)
  have hl : lv_has ls 9 [(0, .ref h), (1, jI n), (2, jI x1), (3, jI x2), (4, jI b)] := hl
  refine lv_aload_n S.1 S.2.1 dX1_stepBeside_0 rfl (lv_at hl 0 rfl) ?_
  refine j_get (v := .ref a0) S hin hK hP rfl rfl 2 (by decide) (List.mem_of_getElem? (i := 1) rfl) rfl dX1_stepBeside_1 ?_
  refine j_iload_n S dX1_stepBeside_4 rfl (lv_at hl 2 rfl) ?_
  refine j_iald S hK hP 1 0 rfl rfl (iv_ix (n := 8) hx1 (by decide +kernel)) dX1_stepBeside_5 ?_
  have r1_ := hH x1 (by omega) (by omega)
  refine j_i2l S dX1_stepBeside_6 (iv_i r1_ (by decide +kernel)) ?_
  refine lv_aload_n S.1 S.2.1 dX1_stepBeside_7 rfl (lv_at hl 0 rfl) ?_
  refine j_get (v := jI w) S hin hK hP rfl rfl 0 (by decide) (List.mem_of_getElem? (i := 2) rfl) rfl dX1_stepBeside_8 ?_
  refine j_i2l S dX1_stepBeside_11 (iv_i hw (by decide +kernel)) ?_
  refine lv_aload_n S.1 S.2.1 dX1_stepBeside_12 rfl (lv_at hl 0 rfl) ?_
  refine j_get (v := .ref a0) S hin hK hP rfl rfl 2 (by decide) (List.mem_of_getElem? (i := 1) rfl) rfl dX1_stepBeside_13 ?_
  refine j_iload_n S dX1_stepBeside_16 rfl (lv_at hl 3 rfl) ?_
  refine j_iald S hK hP 1 0 rfl rfl (iv_ix (n := 8) hx2 (by decide +kernel)) dX1_stepBeside_17 ?_
  have r2_ := hH x2 (by omega) (by omega)
  refine j_i2l S dX1_stepBeside_18 (iv_i r2_ (by decide +kernel)) ?_
  refine j_lmul S dX1_stepBeside_19 ?_
  refine j_iload S dX1_stepBeside_20 (lv_at hl 4 rfl) ?_
  refine j_i2l S dX1_stepBeside_22 (iv_i hb (by decide +kernel)) ?_
  refine j_iload_n S dX1_stepBeside_23 rfl (lv_at hl 1 rfl) ?_
  refine j_i2l S dX1_stepBeside_24 (iv_i hn (by decide +kernel)) ?_
  refine j_lmul S dX1_stepBeside_25 ?_
  refine j_lsub S dX1_stepBeside_26 ?_
  refine j_lmul S dX1_stepBeside_27 ?_
  refine j_lstore (lv' := [(5, jL ((H x1) * ((w * (H x2)) - (b * n)))), (0, .ref h), (1, jI n), (2, jI x1), (3, jI x2), (4, jI b)]) S dX1_stepBeside_28 hl (by decide) rfl (fun ls hl => ?_)
  refine j_iload_n S dX1_stepBeside_30 rfl (lv_at hl 2 rfl) ?_
  refine j_i2l S dX1_stepBeside_31 (iv_i hn (by decide +kernel)) ?_
  refine lv_aload_n S.1 S.2.1 dX1_stepBeside_32 rfl (lv_at hl 1 rfl) ?_
  refine j_get (v := .ref a0) S hin hK hP rfl rfl 2 (by decide) (List.mem_of_getElem? (i := 1) rfl) rfl dX1_stepBeside_33 ?_
  refine j_iload_n S dX1_stepBeside_36 rfl (lv_at hl 4 rfl) ?_
  refine j_iald S hK hP 1 0 rfl rfl (iv_ix (n := 8) hx2 (by decide +kernel)) dX1_stepBeside_37 ?_
  refine j_i2l S dX1_stepBeside_38 (iv_i r2_ (by decide +kernel)) ?_
  refine j_lmul S dX1_stepBeside_39 ?_
  refine j_lstore (lv' := [(7, jL (n * (H x2))), (5, jL ((H x1) * ((w * (H x2)) - (b * n)))), (0, .ref h), (1, jI n), (2, jI x1), (3, jI x2), (4, jI b)]) S dX1_stepBeside_40 hl (by decide) rfl (fun ls hl => ?_)
  refine j_lload S dX1_stepBeside_42 (lv_at hl 1 rfl) ?_
  refine j_lload S dX1_stepBeside_44 (lv_at hl 0 rfl) ?_
  refine j_lrem S dX1_stepBeside_46 (iv_l (iv_mul (lo := (-17280000)) (hi := 17280000) 120 144000 r1_ (iv_sub (lo := (-119950)) (hi := 144000) (iv_mulp (lo := 50) (hi := 24000) hw r2_ (by decide +kernel)) (iv_mul (lo := (-120000)) (hi := 120000) 120 1000 hb hn (by decide +kernel)) (by decide +kernel)) (by decide +kernel)) (by decide +kernel)) (iv_pl (iv_mulp (lo := 10) (hi := 120000) hn r2_ (by decide +kernel)) (by decide +kernel)) (iv_gt (iv_mul (lo := (-17280000)) (hi := 17280000) 120 144000 r1_ (iv_sub (lo := (-119950)) (hi := 144000) (iv_mulp (lo := 50) (hi := 24000) hw r2_ (by decide +kernel)) (iv_mul (lo := (-120000)) (hi := 120000) 120 1000 hb hn (by decide +kernel)) (by decide +kernel)) (by decide +kernel)) (by decide +kernel)) ?_
  refine j_lconst (a := 0) S dX1_stepBeside_47 rfl ?_
  refine j_lcmp_ne (pc1 := 49) (tgt := 61) S rfl dX1_stepBeside_48 dX1_stepBeside_49 (by decide) (iv_l (iv_tmod (lo := (-119999)) (hi := 119999) (iv_mulp (lo := 10) (hi := 120000) hn r2_ (by decide +kernel)) (by decide +kernel)) (by decide +kernel)) (iv_l (iv_n 0) (by decide +kernel)) (fun c48 => ?_) (fun c48 => ?_)
  · refine j_iconst S dX1_stepBeside_61 ?_
    exact hret 0 62 _ (sp_eq_0 (Or.inr c48)).symm dX1_stepBeside_62
  · refine j_lload S dX1_stepBeside_52 (lv_at hl 1 rfl) ?_
    refine j_lload S dX1_stepBeside_54 (lv_at hl 0 rfl) ?_
    refine j_ldiv S dX1_stepBeside_56 (iv_l (iv_mul (lo := (-17280000)) (hi := 17280000) 120 144000 r1_ (iv_sub (lo := (-119950)) (hi := 144000) (iv_mulp (lo := 50) (hi := 24000) hw r2_ (by decide +kernel)) (iv_mul (lo := (-120000)) (hi := 120000) 120 1000 hb hn (by decide +kernel)) (by decide +kernel)) (by decide +kernel)) (by decide +kernel)) (iv_pl (iv_mulp (lo := 10) (hi := 120000) hn r2_ (by decide +kernel)) (by decide +kernel)) (iv_gt (iv_mul (lo := (-17280000)) (hi := 17280000) 120 144000 r1_ (iv_sub (lo := (-119950)) (hi := 144000) (iv_mulp (lo := 50) (hi := 24000) hw r2_ (by decide +kernel)) (iv_mul (lo := (-120000)) (hi := 120000) 120 1000 hb hn (by decide +kernel)) (by decide +kernel)) (by decide +kernel)) (by decide +kernel)) ?_
    refine j_l2i S dX1_stepBeside_57 ?_
    refine j_goto (tgt := 62) S dX1_stepBeside_58 (by decide) ?_
    exact hret (Int.tdiv ((H x1) * ((w * (H x2)) - (b * n))) (n * (H x2))) 62 _ (sp_eq_1 (by have : 10 ≤ n * H x2 ∧ n * H x2 ≤ 120000 := (iv_mulp (lo := 10) (hi := 120000) hn r2_ (by decide +kernel)); omega) c48).symm dX1_stepBeside_62
abbrev rmX1_compound : Room := { frames := 2, cells := 0, slots := 0, locals := 45 }
theorem hdX1_compound : yX1_compound.cls ≠ "java/lang/invoke/MethodHandle" ∧ yX1_compound.cls ≠ "java/lang/invoke/VarHandle" ∧ (parseMethodDescriptor yX1_compound.desc).map (fun d => d.parameters.length) = some 2 := by decide +kernel
set_option maxHeartbeats 4000000 in
set_option maxRecDepth 100000 in
theorem c_X1_compound (l : Launch) (D : va_G) (h a0 a1 a2 a3 : Nat) (cA : ClassId) (H T E F : Int → Int) (cc gc w d v : Int) (hok : SOK H T E cc gc w d v) (n : Int) (what : Int) (hn : inI n) (hwhat : inI what) : MI l yX1_compound wsX1_compound rmX1_compound [.ref h, jI n, jI what] (WB D (MW h a0 a1 a2 a3 cA H T E F cc gc w d v) cA) (fun rR => P_compound w cc H n what rR) := by
  refine MI_of (cc := cX1_compound) (maxL := 8) (by decide) rfl (Nat.le_of_ble_eq_true rfl) ?_
  intro pP eE sS mM aA bL mT cC QQ ls S hret ⟨hP, hK⟩ hl
  obtain ⟨hcc, hgc, hw, hd, hv, hH, hT, hE⟩ := id hok
  have hin : ∀ w ∈ wsX10, w ∈ wsX1_compound := fun w hw => List.mem_cons_of_mem _ (List.mem_append_right _ hw)
  have hl : lv_has ls 8 [(0, .ref h), (1, jI n), (2, jI what)] := hl
  refine j_iload_n S dX1_compound_0 rfl (lv_at hl 1 rfl) ?_
  refine j_csi (As := [jI n]) S (c_X1_isParts l n (iv_w hn (by decide +kernel))) (va_cwS 1 S.2.2.2.2 gX1_compound_X1_isParts rfl rfl rfl hdX1_isParts ⟨Nat.le_of_ble_eq_true rfl, Nat.le_of_ble_eq_true rfl⟩) [] rfl rfl hl.1 (Nat.le_of_ble_eq_true rfl) ⟨Nat.zero_le _, Nat.zero_le _⟩ dX1_compound_1 (fun i1 q1 => ?_)
  subst q1
  refine j_ifb_eq (tgt := 19) S dX1_compound_4 (by decide) (fun c4 => ?_) (fun c4 => ?_)
  · refine j_ldc (n := (-1000000002)) S (S.2.2.2.2 _ (List.mem_of_getElem? (i := 2) rfl)) (by decide) dX1_compound_19 ?_
    exact hret (-1000000002) 21 _ (Or.inl ⟨by omega, rfl⟩) dX1_compound_21
  · have r1_ : 2 ≤ n ∧ n ≤ 1000 := by omega
    refine j_iload_n S dX1_compound_7 rfl (lv_at hl 2 rfl) ?_
    refine j_i2l S dX1_compound_8 (iv_i hwhat (by decide +kernel)) ?_
    refine j_lconst (a := 0) S dX1_compound_9 rfl ?_
    refine j_ldc2 (n := 3) S (S.2.2.2.2 _ (List.mem_of_getElem? (i := 1) rfl)) (by decide) dX1_compound_10 ?_
    refine j_csi (As := [jL what, jL 0, jL 3]) S (c_X1_in l what 0 3 (iv_w hwhat (by decide +kernel)) (iv_w (iv_n 0) (by decide +kernel)) (iv_w (iv_n 3) (by decide +kernel))) (va_cwS 3 S.2.2.2.2 gX1_compound_X1_in rfl rfl rfl hdX1_in ⟨Nat.le_of_ble_eq_true rfl, Nat.le_of_ble_eq_true rfl⟩) [] rfl rfl hl.1 (Nat.le_of_ble_eq_true rfl) ⟨Nat.zero_le _, Nat.zero_le _⟩ dX1_compound_13 (fun i13 q13 => ?_)
    subst q13
    refine j_ifb_ne (tgt := 22) S dX1_compound_16 (by decide) (fun c16 => ?_) (fun c16 => ?_)
    · have r2_ : 0 ≤ what ∧ what ≤ 3 := by omega
      refine j_iconst S dX1_compound_22 ?_
      refine j_istore_n (lv' := [(3, jI 0), (0, .ref h), (1, jI n), (2, jI what)]) S dX1_compound_23 rfl hl (by decide) rfl (fun ls hl => ?_)
      have loop24 : ∀ (N : Nat) (x1 : Int) (ls : Array Slot), (0 ≤ x1 ∧ x1 ≤ 8) → (x1 ≤ cc) → (∀ h' k', 0 ≤ h' → h' < x1 → h' < k' → k' < cc → sp_sec w H n h' k' = 0) → cc - x1 < (N : Int) → lv_has ls 8 [(3, jI x1), (0, .ref h), (1, jI n), (2, jI what)] → W pP l eE rmX1_compound sS mM aA bL mT cC sS.heap [] 0 0 QQ (F0 mM 24 ls []) := by
        intro N
        induction N with
        | zero =>
          intro x1 ls hx1 hx1c hz hN
          exact absurd hN (by omega)
        | succ N ih24 =>
          intro x1 ls hx1 hx1c hz hN hl
          refine j_iload_n S dX1_compound_24 rfl (lv_at hl 0 rfl) ?_
          refine lv_aload_n S.1 S.2.1 dX1_compound_25 rfl (lv_at hl 1 rfl) ?_
          refine j_get (v := jI cc) S hin hK hP rfl rfl 1 (by decide) (List.mem_of_getElem? (i := 3) rfl) rfl dX1_compound_26 ?_
          refine j_icmp_ge (tgt := 151) S dX1_compound_29 (by decide) (iv_i hx1 (by decide +kernel)) (iv_i hcc (by decide +kernel)) (fun c29 => ?_) (fun c29 => ?_)
          · refine j_ldc (n := (-1000000005)) S (S.2.2.2.2 _ (List.mem_of_getElem? (i := 5) rfl)) (by decide) dX1_compound_151 ?_
            exact hret (-1000000005) 153 _ (Or.inr (Or.inl ⟨by omega, (fun h' k' a1 a2 a3 => hz h' k' a1 (by omega) a2 a3), rfl⟩)) dX1_compound_153
          · have r3_ : 0 ≤ x1 ∧ x1 ≤ 7 := by omega
            have r4_ : 1 ≤ cc ∧ cc ≤ 8 := by omega
            refine j_iload_n S dX1_compound_32 rfl (lv_at hl 0 rfl) ?_
            refine j_iconst S dX1_compound_33 ?_
            refine j_iadd S dX1_compound_34 ?_
            refine j_istore (lv' := [(4, jI (x1 + 1)), (3, jI x1), (0, .ref h), (1, jI n), (2, jI what)]) S dX1_compound_35 hl (by decide) rfl (fun ls hl => ?_)
            have loop37 : ∀ (N : Nat) (x2 : Int) (ls : Array Slot), (0 ≤ x2 ∧ x2 ≤ 8) → (x1 < x2 ∧ x2 ≤ cc) → (∀ k', x1 < k' → k' < x2 → sp_sec w H n x1 k' = 0) → cc - x2 < (N : Int) → lv_has ls 8 [(4, jI x2), (3, jI x1), (0, .ref h), (1, jI n), (2, jI what)] → W pP l eE rmX1_compound sS mM aA bL mT cC sS.heap [] 0 0 QQ (F0 mM 37 ls []) := by
              intro N
              induction N with
              | zero =>
                intro x2 ls hx2 hx2b hz2 hN
                exact absurd hN (by omega)
              | succ N ih37 =>
                intro x2 ls hx2 hx2b hz2 hN hl
                refine j_iload S dX1_compound_37 (lv_at hl 0 rfl) ?_
                refine lv_aload_n S.1 S.2.1 dX1_compound_39 rfl (lv_at hl 2 rfl) ?_
                refine j_get (v := jI cc) S hin hK hP rfl rfl 1 (by decide) (List.mem_of_getElem? (i := 3) rfl) rfl dX1_compound_40 ?_
                refine j_icmp_ge (tgt := 145) S dX1_compound_43 (by decide) (iv_i hx2 (by decide +kernel)) (iv_i r4_ (by decide +kernel)) (fun c43 => ?_) (fun c43 => ?_)
                · have r5_ : 1 ≤ x2 ∧ x2 ≤ 8 := by omega
                  refine j_iinc (k := 1) (y := (x1 + 1)) (lv' := [(3, jI (x1 + 1)), (4, jI x2), (0, .ref h), (1, jI n), (2, jI what)]) S dX1_compound_145 hl rfl rfl (by decide) rfl (fun ls hl => ?_)
                  refine j_goto (tgt := 24) S dX1_compound_148 (by decide) ?_
                  exact ih24 (x1 + 1) _ (by omega) (by omega) (fun h' k' a1 a2 a3 a4 => by by_cases e : h' = x1; rw [e]; exact hz2 k' (by omega) (by omega); exact hz h' k' a1 (by omega) a3 a4) (by omega) (lv_sub hl [0, 2, 3, 4] rfl)
                · have r6_ : 0 ≤ x2 ∧ x2 ≤ 7 := by omega
                  refine j_iconst S dX1_compound_46 ?_
                  refine j_istore (lv' := [(5, jI 1), (4, jI x2), (3, jI x1), (0, .ref h), (1, jI n), (2, jI what)]) S dX1_compound_47 hl (by decide) rfl (fun ls hl => ?_)
                  have loop49 : ∀ (N : Nat) (k : Int) (ls : Array Slot), (1 ≤ k ∧ k ≤ 121) → (k ≤ H x2 + 1) → (sp_ss w (H x1) (H x2) n k = sp_ss w (H x1) (H x2) n 1) → H x2 + 1 - k < (N : Int) → lv_has ls 8 [(5, jI k), (4, jI x2), (3, jI x1), (0, .ref h), (1, jI n), (2, jI what)] → W pP l eE rmX1_compound sS mM aA bL mT cC sS.heap [] 0 0 QQ (F0 mM 49 ls []) := by
                    intro N
                    induction N with
                    | zero =>
                      intro k ls hk hk2 hs hN
                      exact absurd hN (by omega)
                    | succ N ih49 =>
                      intro k ls hk hk2 hs hN hl
                      refine j_iload S dX1_compound_49 (lv_at hl 0 rfl) ?_
                      refine lv_aload_n S.1 S.2.1 dX1_compound_51 rfl (lv_at hl 3 rfl) ?_
                      refine j_get (v := .ref a0) S hin hK hP rfl rfl 2 (by decide) (List.mem_of_getElem? (i := 4) rfl) rfl dX1_compound_52 ?_
                      refine j_iload S dX1_compound_55 (lv_at hl 1 rfl) ?_
                      refine j_iald S hK hP 1 0 rfl rfl (iv_ix (n := 8) r6_ (by decide +kernel)) dX1_compound_57 ?_
                      have r7_ := hH x2 (by omega) (by omega)
                      refine j_icmp_gt (tgt := 139) S dX1_compound_58 (by decide) (iv_i hk (by decide +kernel)) (iv_i r7_ (by decide +kernel)) (fun c58 => ?_) (fun c58 => ?_)
                      · have r8_ : 6 ≤ k ∧ k ≤ 121 := by omega
                        refine j_iinc (k := 1) (y := (x2 + 1)) (lv' := [(4, jI (x2 + 1)), (5, jI k), (3, jI x1), (0, .ref h), (1, jI n), (2, jI what)]) S dX1_compound_139 hl rfl rfl (by decide) rfl (fun ls hl => ?_)
                        refine j_goto (tgt := 37) S dX1_compound_142 (by decide) ?_
                        exact ih37 (x2 + 1) _ (by omega) (by omega) (fun k' a1 a2 => by by_cases e : k' = x2; rw [e]; unfold sp_sec; rw [← hs, sp_ss_end (by omega)]; exact hz2 k' a1 (by omega)) (by omega) (lv_sub hl [0, 2, 3, 4, 5] rfl)
                      · have r9_ : 1 ≤ k ∧ k ≤ 120 := by omega
                        refine j_iload S dX1_compound_61 (lv_at hl 0 rfl) ?_
                        refine j_istore (lv' := [(6, jI k), (5, jI k), (4, jI x2), (3, jI x1), (0, .ref h), (1, jI n), (2, jI what)]) S dX1_compound_63 hl (by decide) rfl (fun ls hl => ?_)
                        refine j_iload S dX1_compound_65 (lv_at hl 0 rfl) ?_
                        refine j_iload S dX1_compound_67 (lv_at hl 1 rfl) ?_
                        refine j_ineg S dX1_compound_69 ?_
                        refine j_icmp_lt (tgt := 133) S dX1_compound_70 (by decide) (iv_i r9_ (by decide +kernel)) (iv_i (iv_neg (lo := (-120)) (hi := (-1)) r9_ (by decide +kernel)) (by decide +kernel)) (fun z9 => by have : 1 ≤ k ∧ k ≤ 120 := r9_; have : (-120) ≤ (-k) ∧ (-k) ≤ (-1) := (iv_neg (lo := (-120)) (hi := (-1)) r9_ (by decide +kernel)); omega) (fun c70 => ?_)
                        refine lv_aload_n S.1 S.2.1 dX1_compound_73 rfl (lv_at hl 4 rfl) ?_
                        refine j_iload_n S dX1_compound_74 rfl (lv_at hl 5 rfl) ?_
                        refine j_iload_n S dX1_compound_75 rfl (lv_at hl 3 rfl) ?_
                        refine j_iload S dX1_compound_76 (lv_at hl 2 rfl) ?_
                        refine j_iload S dX1_compound_78 (lv_at hl 0 rfl) ?_
                        refine j_cvi (As := [jI n, jI x1, jI x2, jI k]) (ci := 1) S (c_X1_stepBeside l D h a0 a1 a2 a3 cA H T E F cc gc w d v hok n x1 x2 k (iv_w r1_ (by decide +kernel)) (iv_w r3_ (by decide +kernel)) (iv_w r6_ (by decide +kernel)) (iv_w r9_ (by decide +kernel)) (by omega) (by omega)) (cwV 4 S.2.2.2.2 gX1_compound_X1_stepBeside rfl rfl rfl ⟨rfl, hdX1_stepBeside⟩ ⟨Nat.le_of_ble_eq_true rfl, Nat.le_of_ble_eq_true rfl⟩) hK hP rfl rfl rfl [] rfl rfl hl.1 (Nat.le_of_ble_eq_true rfl) ⟨Nat.zero_le _, Nat.zero_le _⟩ dX1_compound_80 (fun i80 q80 => ?_)
                        subst q80
                        have r10_ : (-17280000) ≤ (sp_fs w (H x1) (H x2) n k) ∧ (sp_fs w (H x1) (H x2) n k) ≤ 17280000 := sp_fs_iv hw (hH x1 (by omega) (by omega)) (hH x2 (by omega) (by omega)) (iv_w (lo := 2) (hi := 1000) r1_ (by decide +kernel)) (iv_w (lo := (-120)) (hi := 120) r9_ (by decide +kernel))
                        refine j_istore (lv' := [(7, jI (sp_fs w (H x1) (H x2) n k)), (6, jI k), (5, jI k), (4, jI x2), (3, jI x1), (0, .ref h), (1, jI n), (2, jI what)]) S dX1_compound_83 hl (by decide) rfl (fun ls hl => ?_)
                        refine j_iload S dX1_compound_85 (lv_at hl 0 rfl) ?_
                        refine j_if_eq (tgt := 121) S dX1_compound_87 (by decide) (iv_i r10_ (by decide +kernel)) (fun c87 => ?_) (fun c87 => ?_)
                        · have r11_ : 0 ≤ (sp_fs w (H x1) (H x2) n k) ∧ (sp_fs w (H x1) (H x2) n k) ≤ 0 := by omega
                          refine j_iload S dX1_compound_121 (lv_at hl 1 rfl) ?_
                          refine j_iconst S dX1_compound_123 ?_
                          refine j_iload S dX1_compound_124 (lv_at hl 2 rfl) ?_
                          refine j_imul S dX1_compound_126 ?_
                          refine j_isub S dX1_compound_127 ?_
                          refine j_as (b := (-k)) (by omega) ?_
                          refine j_istore (lv' := [(6, jI (-k)), (7, jI (sp_fs w (H x1) (H x2) n k)), (5, jI k), (4, jI x2), (3, jI x1), (0, .ref h), (1, jI n), (2, jI what)]) S dX1_compound_128 hl (by decide) rfl (fun ls hl => ?_)
                          refine j_goto (tgt := 65) S dX1_compound_130 (by decide) ?_
                          refine j_iload S dX1_compound_65 (lv_at hl 0 rfl) ?_
                          refine j_iload S dX1_compound_67 (lv_at hl 2 rfl) ?_
                          refine j_ineg S dX1_compound_69 ?_
                          refine j_icmp_lt (tgt := 133) S dX1_compound_70 (by decide) (iv_i (iv_neg (lo := (-120)) (hi := (-1)) r9_ (by decide +kernel)) (by decide +kernel)) (iv_i (iv_neg (lo := (-120)) (hi := (-1)) r9_ (by decide +kernel)) (by decide +kernel)) (fun z9 => by have : (-120) ≤ (-k) ∧ (-k) ≤ (-1) := (iv_neg (lo := (-120)) (hi := (-1)) r9_ (by decide +kernel)); have : (-120) ≤ (-k) ∧ (-k) ≤ (-1) := (iv_neg (lo := (-120)) (hi := (-1)) r9_ (by decide +kernel)); omega) (fun c70_2 => ?_)
                          refine lv_aload_n S.1 S.2.1 dX1_compound_73 rfl (lv_at hl 5 rfl) ?_
                          refine j_iload_n S dX1_compound_74 rfl (lv_at hl 6 rfl) ?_
                          refine j_iload_n S dX1_compound_75 rfl (lv_at hl 4 rfl) ?_
                          refine j_iload S dX1_compound_76 (lv_at hl 3 rfl) ?_
                          refine j_iload S dX1_compound_78 (lv_at hl 0 rfl) ?_
                          refine j_cvi (As := [jI n, jI x1, jI x2, jI (-k)]) (ci := 1) S (c_X1_stepBeside l D h a0 a1 a2 a3 cA H T E F cc gc w d v hok n x1 x2 (-k) (iv_w r1_ (by decide +kernel)) (iv_w r3_ (by decide +kernel)) (iv_w r6_ (by decide +kernel)) (iv_w (iv_neg (lo := (-120)) (hi := (-1)) r9_ (by decide +kernel)) (by decide +kernel)) (by omega) (by omega)) (cwV 4 S.2.2.2.2 gX1_compound_X1_stepBeside rfl rfl rfl ⟨rfl, hdX1_stepBeside⟩ ⟨Nat.le_of_ble_eq_true rfl, Nat.le_of_ble_eq_true rfl⟩) hK hP rfl rfl rfl [] rfl rfl hl.1 (Nat.le_of_ble_eq_true rfl) ⟨Nat.zero_le _, Nat.zero_le _⟩ dX1_compound_80 (fun i80_2 q80_2 => ?_)
                          subst q80_2
                          have r12_ : (-17280000) ≤ (sp_fs w (H x1) (H x2) n (-k)) ∧ (sp_fs w (H x1) (H x2) n (-k)) ≤ 17280000 := sp_fs_iv hw (hH x1 (by omega) (by omega)) (hH x2 (by omega) (by omega)) (iv_w (lo := 2) (hi := 1000) r1_ (by decide +kernel)) (iv_w (lo := (-120)) (hi := 120) (iv_neg (lo := (-120)) (hi := (-1)) r9_ (by decide +kernel)) (by decide +kernel))
                          refine j_istore (lv' := [(7, jI (sp_fs w (H x1) (H x2) n (-k))), (6, jI (-k)), (5, jI k), (4, jI x2), (3, jI x1), (0, .ref h), (1, jI n), (2, jI what)]) S dX1_compound_83 hl (by decide) rfl (fun ls hl => ?_)
                          refine j_iload S dX1_compound_85 (lv_at hl 0 rfl) ?_
                          refine j_if_eq (tgt := 121) S dX1_compound_87 (by decide) (iv_i r12_ (by decide +kernel)) (fun c87_2 => ?_) (fun c87_2 => ?_)
                          · have r13_ : 0 ≤ (sp_fs w (H x1) (H x2) n (-k)) ∧ (sp_fs w (H x1) (H x2) n (-k)) ≤ 0 := by omega
                            refine j_iload S dX1_compound_121 (lv_at hl 1 rfl) ?_
                            refine j_iconst S dX1_compound_123 ?_
                            refine j_iload S dX1_compound_124 (lv_at hl 2 rfl) ?_
                            refine j_imul S dX1_compound_126 ?_
                            refine j_isub S dX1_compound_127 ?_
                            refine j_istore (lv' := [(6, jI ((-k) - (2 * k))), (7, jI (sp_fs w (H x1) (H x2) n (-k))), (5, jI k), (4, jI x2), (3, jI x1), (0, .ref h), (1, jI n), (2, jI what)]) S dX1_compound_128 hl (by decide) rfl (fun ls hl => ?_)
                            refine j_goto (tgt := 65) S dX1_compound_130 (by decide) ?_
                            refine j_iload S dX1_compound_65 (lv_at hl 0 rfl) ?_
                            refine j_iload S dX1_compound_67 (lv_at hl 2 rfl) ?_
                            refine j_ineg S dX1_compound_69 ?_
                            refine j_icmp_lt (tgt := 133) S dX1_compound_70 (by decide) (iv_i (iv_sub (lo := (-360)) (hi := (-3)) (iv_neg (lo := (-120)) (hi := (-1)) r9_ (by decide +kernel)) (iv_mulp (lo := 2) (hi := 240) (iv_n 2) r9_ (by decide +kernel)) (by decide +kernel)) (by decide +kernel)) (iv_i (iv_neg (lo := (-120)) (hi := (-1)) r9_ (by decide +kernel)) (by decide +kernel)) (fun c70_3 => ?_) (fun z9 => by omega)
                            refine j_iinc (k := 2) (y := (k + 1)) (lv' := [(5, jI (k + 1)), (6, jI ((-k) - (2 * k))), (7, jI (sp_fs w (H x1) (H x2) n (-k))), (4, jI x2), (3, jI x1), (0, .ref h), (1, jI n), (2, jI what)]) S dX1_compound_133 hl rfl rfl (by decide) rfl (fun ls hl => ?_)
                            refine j_goto (tgt := 49) S dX1_compound_136 (by decide) ?_
                            exact ih49 (k + 1) _ (by omega) (by omega) (by rw [← hs, sp_ss_s (s := k) (by omega), if_neg (fun q => q c87), if_neg (fun q => q c87_2)]) (by omega) (lv_sub hl [0, 3, 4, 5, 6, 7] rfl)
                          · refine j_iload_n S dX1_compound_90 rfl (lv_at hl 7 rfl) ?_
                            refine j_if_ne (tgt := 98) S dX1_compound_91 (by decide) (iv_i r2_ (by decide +kernel)) (fun c91 => ?_) (fun c91 => ?_)
                            · have r14_ : 1 ≤ what ∧ what ≤ 3 := by omega
                              refine j_iload_n S dX1_compound_98 rfl (lv_at hl 7 rfl) ?_
                              refine j_iconst S dX1_compound_99 ?_
                              refine j_icmp_ne (tgt := 108) S dX1_compound_100 (by decide) (iv_i r14_ (by decide +kernel)) (iv_i (iv_n 1) (by decide +kernel)) (fun c100 => ?_) (fun c100 => ?_)
                              · have r15_ : 2 ≤ what ∧ what ≤ 3 := by omega
                                refine j_iload_n S dX1_compound_108 rfl (lv_at hl 7 rfl) ?_
                                refine j_iconst S dX1_compound_109 ?_
                                refine j_icmp_ne (tgt := 118) S dX1_compound_110 (by decide) (iv_i r15_ (by decide +kernel)) (iv_i (iv_n 2) (by decide +kernel)) (fun c110 => ?_) (fun c110 => ?_)
                                · have r16_ : 3 ≤ what ∧ what ≤ 3 := by omega
                                  refine j_iload S dX1_compound_118 (lv_at hl 1 rfl) ?_
                                  exact hret (-k) 120 _ (by have e : sp_sec w H n x1 x2 = (-k) := (by unfold sp_sec; rw [← hs, sp_ss_s (by omega), if_neg (fun q => q c87), if_pos c87_2]); exact Or.inr (Or.inr ⟨by omega, x1, x2, ⟨by omega, by omega, by omega⟩, by omega, (fun h' k' a1 a2 a3 a4 => by rcases a4 with a4 | ⟨a4, a5⟩; exact hz h' k' a1 a4 a2 a3; rw [a4]; exact hz2 k' (by omega) a5), by rw [e]; unfold sp_ct; (repeat' split) <;> omega⟩)) dX1_compound_120
                                · have r17_ : 2 ≤ what ∧ what ≤ 2 := by omega
                                  refine j_iload S dX1_compound_113 (lv_at hl 3 rfl) ?_
                                  refine j_goto (tgt := 120) S dX1_compound_115 (by decide) ?_
                                  exact hret x2 120 _ (by have e : sp_sec w H n x1 x2 = (-k) := (by unfold sp_sec; rw [← hs, sp_ss_s (by omega), if_neg (fun q => q c87), if_pos c87_2]); exact Or.inr (Or.inr ⟨by omega, x1, x2, ⟨by omega, by omega, by omega⟩, by omega, (fun h' k' a1 a2 a3 a4 => by rcases a4 with a4 | ⟨a4, a5⟩; exact hz h' k' a1 a4 a2 a3; rw [a4]; exact hz2 k' (by omega) a5), by rw [e]; unfold sp_ct; (repeat' split) <;> omega⟩)) dX1_compound_120
                              · have r18_ : 1 ≤ what ∧ what ≤ 1 := by omega
                                refine j_iload S dX1_compound_103 (lv_at hl 0 rfl) ?_
                                refine j_goto (tgt := 120) S dX1_compound_105 (by decide) ?_
                                exact hret (sp_fs w (H x1) (H x2) n (-k)) 120 _ (by have e : sp_sec w H n x1 x2 = (-k) := (by unfold sp_sec; rw [← hs, sp_ss_s (by omega), if_neg (fun q => q c87), if_pos c87_2]); exact Or.inr (Or.inr ⟨by omega, x1, x2, ⟨by omega, by omega, by omega⟩, by omega, (fun h' k' a1 a2 a3 a4 => by rcases a4 with a4 | ⟨a4, a5⟩; exact hz h' k' a1 a4 a2 a3; rw [a4]; exact hz2 k' (by omega) a5), by rw [e]; unfold sp_ct; (repeat' split) <;> omega⟩)) dX1_compound_120
                            · have r19_ : 0 ≤ what ∧ what ≤ 0 := by omega
                              refine j_iload_n S dX1_compound_94 rfl (lv_at hl 4 rfl) ?_
                              refine j_goto (tgt := 120) S dX1_compound_95 (by decide) ?_
                              exact hret x1 120 _ (by have e : sp_sec w H n x1 x2 = (-k) := (by unfold sp_sec; rw [← hs, sp_ss_s (by omega), if_neg (fun q => q c87), if_pos c87_2]); exact Or.inr (Or.inr ⟨by omega, x1, x2, ⟨by omega, by omega, by omega⟩, by omega, (fun h' k' a1 a2 a3 a4 => by rcases a4 with a4 | ⟨a4, a5⟩; exact hz h' k' a1 a4 a2 a3; rw [a4]; exact hz2 k' (by omega) a5), by rw [e]; unfold sp_ct; (repeat' split) <;> omega⟩)) dX1_compound_120
                        · refine j_iload_n S dX1_compound_90 rfl (lv_at hl 7 rfl) ?_
                          refine j_if_ne (tgt := 98) S dX1_compound_91 (by decide) (iv_i r2_ (by decide +kernel)) (fun c91 => ?_) (fun c91 => ?_)
                          · have r20_ : 1 ≤ what ∧ what ≤ 3 := by omega
                            refine j_iload_n S dX1_compound_98 rfl (lv_at hl 7 rfl) ?_
                            refine j_iconst S dX1_compound_99 ?_
                            refine j_icmp_ne (tgt := 108) S dX1_compound_100 (by decide) (iv_i r20_ (by decide +kernel)) (iv_i (iv_n 1) (by decide +kernel)) (fun c100 => ?_) (fun c100 => ?_)
                            · have r21_ : 2 ≤ what ∧ what ≤ 3 := by omega
                              refine j_iload_n S dX1_compound_108 rfl (lv_at hl 7 rfl) ?_
                              refine j_iconst S dX1_compound_109 ?_
                              refine j_icmp_ne (tgt := 118) S dX1_compound_110 (by decide) (iv_i r21_ (by decide +kernel)) (iv_i (iv_n 2) (by decide +kernel)) (fun c110 => ?_) (fun c110 => ?_)
                              · have r22_ : 3 ≤ what ∧ what ≤ 3 := by omega
                                refine j_iload S dX1_compound_118 (lv_at hl 1 rfl) ?_
                                exact hret k 120 _ (by have e : sp_sec w H n x1 x2 = k := (by unfold sp_sec; rw [← hs, sp_ss_s (by omega), if_pos c87]); exact Or.inr (Or.inr ⟨by omega, x1, x2, ⟨by omega, by omega, by omega⟩, by omega, (fun h' k' a1 a2 a3 a4 => by rcases a4 with a4 | ⟨a4, a5⟩; exact hz h' k' a1 a4 a2 a3; rw [a4]; exact hz2 k' (by omega) a5), by rw [e]; unfold sp_ct; (repeat' split) <;> omega⟩)) dX1_compound_120
                              · have r23_ : 2 ≤ what ∧ what ≤ 2 := by omega
                                refine j_iload S dX1_compound_113 (lv_at hl 3 rfl) ?_
                                refine j_goto (tgt := 120) S dX1_compound_115 (by decide) ?_
                                exact hret x2 120 _ (by have e : sp_sec w H n x1 x2 = k := (by unfold sp_sec; rw [← hs, sp_ss_s (by omega), if_pos c87]); exact Or.inr (Or.inr ⟨by omega, x1, x2, ⟨by omega, by omega, by omega⟩, by omega, (fun h' k' a1 a2 a3 a4 => by rcases a4 with a4 | ⟨a4, a5⟩; exact hz h' k' a1 a4 a2 a3; rw [a4]; exact hz2 k' (by omega) a5), by rw [e]; unfold sp_ct; (repeat' split) <;> omega⟩)) dX1_compound_120
                            · have r24_ : 1 ≤ what ∧ what ≤ 1 := by omega
                              refine j_iload S dX1_compound_103 (lv_at hl 0 rfl) ?_
                              refine j_goto (tgt := 120) S dX1_compound_105 (by decide) ?_
                              exact hret (sp_fs w (H x1) (H x2) n k) 120 _ (by have e : sp_sec w H n x1 x2 = k := (by unfold sp_sec; rw [← hs, sp_ss_s (by omega), if_pos c87]); exact Or.inr (Or.inr ⟨by omega, x1, x2, ⟨by omega, by omega, by omega⟩, by omega, (fun h' k' a1 a2 a3 a4 => by rcases a4 with a4 | ⟨a4, a5⟩; exact hz h' k' a1 a4 a2 a3; rw [a4]; exact hz2 k' (by omega) a5), by rw [e]; unfold sp_ct; (repeat' split) <;> omega⟩)) dX1_compound_120
                          · have r25_ : 0 ≤ what ∧ what ≤ 0 := by omega
                            refine j_iload_n S dX1_compound_94 rfl (lv_at hl 4 rfl) ?_
                            refine j_goto (tgt := 120) S dX1_compound_95 (by decide) ?_
                            exact hret x1 120 _ (by have e : sp_sec w H n x1 x2 = k := (by unfold sp_sec; rw [← hs, sp_ss_s (by omega), if_pos c87]); exact Or.inr (Or.inr ⟨by omega, x1, x2, ⟨by omega, by omega, by omega⟩, by omega, (fun h' k' a1 a2 a3 a4 => by rcases a4 with a4 | ⟨a4, a5⟩; exact hz h' k' a1 a4 a2 a3; rw [a4]; exact hz2 k' (by omega) a5), by rw [e]; unfold sp_ct; (repeat' split) <;> omega⟩)) dX1_compound_120
                  exact loop49 122 1 _ (by omega) (by have := hH x2 (by omega) (by omega); omega) rfl (by have := hH x2 (by omega) (by omega); omega) (lv_sub hl [0, 1, 2, 3, 4, 5] rfl)
            exact loop37 9 (x1 + 1) _ (by omega) (by omega) (fun k' a1 a2 => absurd a2 (by omega)) (by omega) (lv_sub hl [0, 1, 2, 3, 4] rfl)
      exact loop24 9 0 _ (by omega) (by omega) (fun h' k' a1 a2 => absurd a2 (by omega)) (by omega) (lv_sub hl [0, 1, 2, 3] rfl)
    · refine j_ldc (n := (-1000000002)) S (S.2.2.2.2 _ (List.mem_of_getElem? (i := 2) rfl)) (by decide) dX1_compound_19 ?_
      exact hret (-1000000002) 21 _ (Or.inl ⟨by omega, rfl⟩) dX1_compound_21
abbrev rmX1_holeOf : Room := { frames := 0, cells := 0, slots := 0, locals := 0 }
theorem hdX1_holeOf : yX1_holeOf.cls ≠ "java/lang/invoke/MethodHandle" ∧ yX1_holeOf.cls ≠ "java/lang/invoke/VarHandle" ∧ (parseMethodDescriptor yX1_holeOf.desc).map (fun d => d.parameters.length) = some 3 := by decide +kernel
set_option maxHeartbeats 4000000 in
set_option maxRecDepth 100000 in
theorem c_X1_holeOf (l : Launch) (D : va_G) (h a0 a1 a2 a3 : Nat) (cA : ClassId) (H T E F : Int → Int) (cc gc w d v : Int) (hok : SOK H T E cc gc w d v) (x : Int) (n : Int) (i : Int) (hx : 0 ≤ x ∧ x ≤ 7) (hn : 2 ≤ n ∧ n ≤ 1000) (hi : 0 ≤ i ∧ i ≤ 1000) (hxc : x < cc) : ML l yX1_holeOf wsX1_holeOf rmX1_holeOf [.ref h, jI x, jI n, jI i] (WB D (MW h a0 a1 a2 a3 cA H T E F cc gc w d v) cA) (fun rR => rR = sp_hn w (H x) n i) := by
  refine ML_of (cc := cX1_holeOf) (maxL := 4) (by decide) rfl (Nat.le_of_ble_eq_true rfl) ?_
  intro pP eE sS mM aA bL mT cC QQ ls S hret ⟨hP, hK⟩ hl
  obtain ⟨hcc, hgc, hw, hd, hv, hH, hT, hE⟩ := id hok
  have hin : ∀ w ∈ wsX10, w ∈ wsX1_holeOf := fun w hw => List.mem_cons_of_mem _ (List.mem_append_right _ hw)
  have hl : lv_has ls 4 [(0, .ref h), (1, jI x), (2, jI n), (3, jI i)] := hl
  refine j_ldc2 (n := 2) S (S.2.2.2.2 _ (List.mem_of_getElem? (i := 1) rfl)) (by decide) dX1_holeOf_0 ?_
  refine j_iload_n S dX1_holeOf_3 rfl (lv_at hl 3 rfl) ?_
  refine j_i2l S dX1_holeOf_4 (iv_i hi (by decide +kernel)) ?_
  refine j_lmul S dX1_holeOf_5 ?_
  refine lv_aload_n S.1 S.2.1 dX1_holeOf_6 rfl (lv_at hl 0 rfl) ?_
  refine j_get (v := jI w) S hin hK hP rfl rfl 0 (by decide) (List.mem_of_getElem? (i := 2) rfl) rfl dX1_holeOf_7 ?_
  refine j_i2l S dX1_holeOf_10 (iv_i hw (by decide +kernel)) ?_
  refine j_lmul S dX1_holeOf_11 ?_
  refine lv_aload_n S.1 S.2.1 dX1_holeOf_12 rfl (lv_at hl 0 rfl) ?_
  refine j_get (v := .ref a0) S hin hK hP rfl rfl 2 (by decide) (List.mem_of_getElem? (i := 3) rfl) rfl dX1_holeOf_13 ?_
  refine j_iload_n S dX1_holeOf_16 rfl (lv_at hl 1 rfl) ?_
  refine j_iald S hK hP 1 0 rfl rfl (iv_ix (n := 8) hx (by decide +kernel)) dX1_holeOf_17 ?_
  have r1_ := hH x (by omega) (by omega)
  refine j_i2l S dX1_holeOf_18 (iv_i r1_ (by decide +kernel)) ?_
  refine j_lmul S dX1_holeOf_19 ?_
  refine j_iload_n S dX1_holeOf_20 rfl (lv_at hl 2 rfl) ?_
  refine j_i2l S dX1_holeOf_21 (iv_i hn (by decide +kernel)) ?_
  refine j_ladd S dX1_holeOf_22 ?_
  refine j_ldc2 (n := 2) S (S.2.2.2.2 _ (List.mem_of_getElem? (i := 1) rfl)) (by decide) dX1_holeOf_23 ?_
  refine j_iload_n S dX1_holeOf_26 rfl (lv_at hl 2 rfl) ?_
  refine j_i2l S dX1_holeOf_27 (iv_i hn (by decide +kernel)) ?_
  refine j_lmul S dX1_holeOf_28 ?_
  refine j_ldivp S dX1_holeOf_29 (iv_l (iv_add (lo := 2) (hi := 48001000) (iv_mulp (lo := 0) (hi := 48000000) (iv_mulp (lo := 0) (hi := 400000) (iv_mulp (lo := 0) (hi := 2000) (iv_n 2) hi (by decide +kernel)) hw (by decide +kernel)) r1_ (by decide +kernel)) hn (by decide +kernel)) (by decide +kernel)) (iv_pl (iv_mulp (lo := 4) (hi := 2000) (iv_n 2) hn (by decide +kernel)) (by decide +kernel)) (iv_nn (iv_add (lo := 2) (hi := 48001000) (iv_mulp (lo := 0) (hi := 48000000) (iv_mulp (lo := 0) (hi := 400000) (iv_mulp (lo := 0) (hi := 2000) (iv_n 2) hi (by decide +kernel)) hw (by decide +kernel)) r1_ (by decide +kernel)) hn (by decide +kernel)) (by decide +kernel)) ?_
  exact hret (((((2 * i) * w) * (H x)) + n) / (2 * n)) 30 _ hn_eq dX1_holeOf_30
abbrev rmX1_missOf : Room := { frames := 1, cells := 0, slots := 0, locals := 23 }
theorem hdX1_missOf : yX1_missOf.cls ≠ "java/lang/invoke/MethodHandle" ∧ yX1_missOf.cls ≠ "java/lang/invoke/VarHandle" ∧ (parseMethodDescriptor yX1_missOf.desc).map (fun d => d.parameters.length) = some 3 := by decide +kernel
set_option maxHeartbeats 4000000 in
set_option maxRecDepth 100000 in
theorem c_X1_missOf (l : Launch) (D : va_G) (h a0 a1 a2 a3 : Nat) (cA : ClassId) (H T E F : Int → Int) (cc gc w d v : Int) (hok : SOK H T E cc gc w d v) (x : Int) (n : Int) (i : Int) (hx : 0 ≤ x ∧ x ≤ 7) (hn : 2 ≤ n ∧ n ≤ 1000) (hi : 0 ≤ i ∧ i ≤ 1000) (hxc : x < cc) : ML l yX1_missOf wsX1_missOf rmX1_missOf [.ref h, jI x, jI n, jI i] (WB D (MW h a0 a1 a2 a3 cA H T E F cc gc w d v) cA) (fun rR => rR = sp_ms w (H x) n i) := by
  refine ML_of (cc := cX1_missOf) (maxL := 4) (by decide) rfl (Nat.le_of_ble_eq_true rfl) ?_
  intro pP eE sS mM aA bL mT cC QQ ls S hret ⟨hP, hK⟩ hl
  obtain ⟨hcc, hgc, hw, hd, hv, hH, hT, hE⟩ := id hok
  have hin : ∀ w ∈ wsX10, w ∈ wsX1_missOf := fun w hw => List.mem_cons_of_mem _ (List.mem_append_right _ hw)
  have hl : lv_has ls 4 [(0, .ref h), (1, jI x), (2, jI n), (3, jI i)] := hl
  refine lv_aload_n S.1 S.2.1 dX1_missOf_0 rfl (lv_at hl 0 rfl) ?_
  refine j_iload_n S dX1_missOf_1 rfl (lv_at hl 1 rfl) ?_
  refine j_iload_n S dX1_missOf_2 rfl (lv_at hl 2 rfl) ?_
  refine j_iload_n S dX1_missOf_3 rfl (lv_at hl 3 rfl) ?_
  refine j_cvl (As := [jI x, jI n, jI i]) (ci := 1) S (c_X1_holeOf l D h a0 a1 a2 a3 cA H T E F cc gc w d v hok x n i (iv_w hx (by decide +kernel)) (iv_w hn (by decide +kernel)) (iv_w hi (by decide +kernel)) (by omega)) (cwV 3 S.2.2.2.2 gX1_missOf_X1_holeOf rfl rfl rfl ⟨rfl, hdX1_holeOf⟩ ⟨Nat.le_of_ble_eq_true rfl, Nat.le_of_ble_eq_true rfl⟩) hK hP rfl rfl rfl [] rfl rfl hl.1 (Nat.le_of_ble_eq_true rfl) ⟨Nat.zero_le _, Nat.zero_le _⟩ dX1_missOf_4 (fun i4 q4 => ?_)
  subst q4
  have r1_ : 0 ≤ (sp_hn w (H x) n i) ∧ (sp_hn w (H x) n i) ≤ 48001000 := sp_hn_iv hw (hH x (by omega) (by omega)) (iv_w (lo := 0) (hi := 1000) hi (by decide +kernel)) (iv_w (lo := 2) (hi := 1000) hn (by decide +kernel))
  refine j_iload_n S dX1_missOf_7 rfl (lv_at hl 2 rfl) ?_
  refine j_i2l S dX1_missOf_8 (iv_i hn (by decide +kernel)) ?_
  refine j_lmul S dX1_missOf_9 ?_
  refine j_iload_n S dX1_missOf_10 rfl (lv_at hl 3 rfl) ?_
  refine j_i2l S dX1_missOf_11 (iv_i hi (by decide +kernel)) ?_
  refine lv_aload_n S.1 S.2.1 dX1_missOf_12 rfl (lv_at hl 0 rfl) ?_
  refine j_get (v := jI w) S hin hK hP rfl rfl 0 (by decide) (List.mem_of_getElem? (i := 1) rfl) rfl dX1_missOf_13 ?_
  refine j_i2l S dX1_missOf_16 (iv_i hw (by decide +kernel)) ?_
  refine j_lmul S dX1_missOf_17 ?_
  refine lv_aload_n S.1 S.2.1 dX1_missOf_18 rfl (lv_at hl 0 rfl) ?_
  refine j_get (v := .ref a0) S hin hK hP rfl rfl 2 (by decide) (List.mem_of_getElem? (i := 2) rfl) rfl dX1_missOf_19 ?_
  refine j_iload_n S dX1_missOf_22 rfl (lv_at hl 1 rfl) ?_
  refine j_iald S hK hP 1 0 rfl rfl (iv_ix (n := 8) hx (by decide +kernel)) dX1_missOf_23 ?_
  have r2_ := hH x (by omega) (by omega)
  refine j_i2l S dX1_missOf_24 (iv_i r2_ (by decide +kernel)) ?_
  refine j_lmul S dX1_missOf_25 ?_
  refine j_lsub S dX1_missOf_26 ?_
  exact hret (((sp_hn w (H x) n i) * n) - ((i * w) * (H x))) 27 _ rfl dX1_missOf_27
abbrev rmX1_worstOf : Room := { frames := 2, cells := 0, slots := 0, locals := 46 }
theorem hdX1_worstOf : yX1_worstOf.cls ≠ "java/lang/invoke/MethodHandle" ∧ yX1_worstOf.cls ≠ "java/lang/invoke/VarHandle" ∧ (parseMethodDescriptor yX1_worstOf.desc).map (fun d => d.parameters.length) = some 2 := by decide +kernel
set_option maxHeartbeats 4000000 in
set_option maxRecDepth 100000 in
theorem c_X1_worstOf (l : Launch) (D : va_G) (h a0 a1 a2 a3 : Nat) (cA : ClassId) (H T E F : Int → Int) (cc gc w d v : Int) (hok : SOK H T E cc gc w d v) (x : Int) (n : Int) (hx : 0 ≤ x ∧ x ≤ 7) (hn : 2 ≤ n ∧ n ≤ 1000) (hxc : x < cc) : ML l yX1_worstOf wsX1_worstOf rmX1_worstOf [.ref h, jI x, jI n] (WB D (MW h a0 a1 a2 a3 cA H T E F cc gc w d v) cA) (fun rR => rR = sp_wu w (H x) n) := by
  refine ML_of (cc := cX1_worstOf) (maxL := 8) (by decide) rfl (Nat.le_of_ble_eq_true rfl) ?_
  intro pP eE sS mM aA bL mT cC QQ ls S hret ⟨hP, hK⟩ hl
  obtain ⟨hcc, hgc, hw, hd, hv, hH, hT, hE⟩ := id hok
  have hin : ∀ w ∈ wsX10, w ∈ wsX1_worstOf := fun w hw => List.mem_cons_of_mem _ (List.mem_append_right _ hw)
  have hl : lv_has ls 8 [(0, .ref h), (1, jI x), (2, jI n)] := hl
  refine j_lconst (a := 0) S dX1_worstOf_0 rfl ?_
  refine j_lstore_n (lv' := [(3, jL 0), (0, .ref h), (1, jI x), (2, jI n)]) S dX1_worstOf_1 rfl hl (by decide) rfl (fun ls hl => ?_)
  refine j_iconst S dX1_worstOf_2 ?_
  refine j_istore (lv' := [(5, jI 0), (3, jL 0), (0, .ref h), (1, jI x), (2, jI n)]) S dX1_worstOf_3 hl (by decide) rfl (fun ls hl => ?_)
  have loop5 : ∀ (N : Nat) (b k : Int) (ls : Array Slot), (0 ≤ k ∧ k ≤ 1001) → (k ≤ n + 1) → (b = sp_wf w (H x) n k) → (0 ≤ b ∧ b ≤ 500) → n + 1 - k < (N : Int) → lv_has ls 8 [(5, jI k), (3, jL b), (0, .ref h), (1, jI x), (2, jI n)] → W pP l eE rmX1_worstOf sS mM aA bL mT cC sS.heap [] 0 0 QQ (F0 mM 5 ls []) := by
    intro N
    induction N with
    | zero =>
      intro b k ls hk hk2 hb hbi hN
      exact absurd hN (by omega)
    | succ N ih5 =>
      intro b k ls hk hk2 hb hbi hN hl
      refine j_iload S dX1_worstOf_5 (lv_at hl 0 rfl) ?_
      refine j_iload_n S dX1_worstOf_7 rfl (lv_at hl 4 rfl) ?_
      refine j_icmp_gt (tgt := 58) S dX1_worstOf_8 (by decide) (iv_i hk (by decide +kernel)) (iv_i hn (by decide +kernel)) (fun c8 => ?_) (fun c8 => ?_)
      · have r1_ : 3 ≤ k ∧ k ≤ 1001 := by omega
        refine j_lload_n S dX1_worstOf_58 rfl (lv_at hl 1 rfl) ?_
        exact hret b 59 _ (by rw [hb, show k = n + 1 from by omega]; rfl) dX1_worstOf_59
      · have r2_ : 0 ≤ k ∧ k ≤ 1000 := by omega
        refine lv_aload_n S.1 S.2.1 dX1_worstOf_11 rfl (lv_at hl 2 rfl) ?_
        refine j_iload_n S dX1_worstOf_12 rfl (lv_at hl 3 rfl) ?_
        refine j_iload_n S dX1_worstOf_13 rfl (lv_at hl 4 rfl) ?_
        refine j_iload S dX1_worstOf_14 (lv_at hl 0 rfl) ?_
        refine j_cvl (As := [jI x, jI n, jI k]) (ci := 1) S (c_X1_missOf l D h a0 a1 a2 a3 cA H T E F cc gc w d v hok x n k (iv_w hx (by decide +kernel)) (iv_w hn (by decide +kernel)) (iv_w r2_ (by decide +kernel)) (by omega)) (cwV 3 S.2.2.2.2 gX1_worstOf_X1_missOf rfl rfl rfl ⟨rfl, hdX1_missOf⟩ ⟨Nat.le_of_ble_eq_true rfl, Nat.le_of_ble_eq_true rfl⟩) hK hP rfl rfl rfl [] rfl rfl hl.1 (Nat.le_of_ble_eq_true rfl) ⟨Nat.zero_le _, Nat.zero_le _⟩ dX1_worstOf_16 (fun i16 q16 => ?_)
        subst q16
        have r3_ : (-500) ≤ (sp_ms w (H x) n k) ∧ (sp_ms w (H x) n k) ≤ 500 := sp_ms_iv (iv_w (lo := 2) (hi := 1000) hn (by decide +kernel))
        refine j_lstore (lv' := [(6, jL (sp_ms w (H x) n k)), (5, jI k), (3, jL b), (0, .ref h), (1, jI x), (2, jI n)]) S dX1_worstOf_19 hl (by decide) rfl (fun ls hl => ?_)
        refine j_lload S dX1_worstOf_21 (lv_at hl 0 rfl) ?_
        refine j_lconst (a := 0) S dX1_worstOf_23 rfl ?_
        refine j_lcmp_ge (pc1 := 25) (tgt := 34) S rfl dX1_worstOf_24 dX1_worstOf_25 (by decide) (iv_l r3_ (by decide +kernel)) (iv_l (iv_n 0) (by decide +kernel)) (fun c24 => ?_) (fun c24 => ?_)
        · have r4_ : 0 ≤ (sp_ms w (H x) n k) ∧ (sp_ms w (H x) n k) ≤ 500 := by omega
          refine j_lload S dX1_worstOf_34 (lv_at hl 0 rfl) ?_
          refine j_lstore (lv' := [(6, jL (sp_ms w (H x) n k)), (5, jI k), (3, jL b), (0, .ref h), (1, jI x), (2, jI n)]) S dX1_worstOf_36 hl (by decide) rfl (fun ls hl => ?_)
          refine j_lload S dX1_worstOf_38 (lv_at hl 0 rfl) ?_
          refine j_lload_n S dX1_worstOf_40 rfl (lv_at hl 2 rfl) ?_
          refine j_lcmp_le (pc1 := 42) (tgt := 50) S rfl dX1_worstOf_41 dX1_worstOf_42 (by decide) (iv_l r4_ (by decide +kernel)) (iv_l hbi (by decide +kernel)) (fun c41 => ?_) (fun c41 => ?_)
          · refine j_lload_n S dX1_worstOf_50 rfl (lv_at hl 2 rfl) ?_
            refine j_lstore_n (lv' := [(3, jL b), (6, jL (sp_ms w (H x) n k)), (5, jI k), (0, .ref h), (1, jI x), (2, jI n)]) S dX1_worstOf_51 rfl hl (by decide) rfl (fun ls hl => ?_)
            refine j_iinc (k := 2) (y := (k + 1)) (lv' := [(5, jI (k + 1)), (3, jL b), (6, jL (sp_ms w (H x) n k)), (0, .ref h), (1, jI x), (2, jI n)]) S dX1_worstOf_52 hl rfl rfl (by decide) rfl (fun ls hl => ?_)
            refine j_goto (tgt := 5) S dX1_worstOf_55 (by decide) ?_
            exact ih5 b (k + 1) _ (by omega) (by omega) (by rw [sp_wf_s (by omega), ← hb]; omega) (by omega) (by omega) (lv_sub hl [0, 1, 3, 4, 5] rfl)
          · have r5_ : 0 ≤ b ∧ b ≤ 499 := by omega
            have r6_ : 1 ≤ (sp_ms w (H x) n k) ∧ (sp_ms w (H x) n k) ≤ 500 := by omega
            refine j_lload S dX1_worstOf_45 (lv_at hl 0 rfl) ?_
            refine j_goto (tgt := 51) S dX1_worstOf_47 (by decide) ?_
            refine j_lstore_n (lv' := [(3, jL (sp_ms w (H x) n k)), (6, jL (sp_ms w (H x) n k)), (5, jI k), (0, .ref h), (1, jI x), (2, jI n)]) S dX1_worstOf_51 rfl hl (by decide) rfl (fun ls hl => ?_)
            refine j_iinc (k := 2) (y := (k + 1)) (lv' := [(5, jI (k + 1)), (3, jL (sp_ms w (H x) n k)), (6, jL (sp_ms w (H x) n k)), (0, .ref h), (1, jI x), (2, jI n)]) S dX1_worstOf_52 hl rfl rfl (by decide) rfl (fun ls hl => ?_)
            refine j_goto (tgt := 5) S dX1_worstOf_55 (by decide) ?_
            exact ih5 (sp_ms w (H x) n k) (k + 1) _ (by omega) (by omega) (by rw [sp_wf_s (by omega), ← hb]; omega) (by omega) (by omega) (lv_sub hl [0, 1, 3, 4, 5] rfl)
        · have r7_ : (-500) ≤ (sp_ms w (H x) n k) ∧ (sp_ms w (H x) n k) ≤ (-1) := by omega
          refine j_lload S dX1_worstOf_28 (lv_at hl 0 rfl) ?_
          refine j_lneg S dX1_worstOf_30 ?_
          refine j_goto (tgt := 36) S dX1_worstOf_31 (by decide) ?_
          refine j_lstore (lv' := [(6, jL (-(sp_ms w (H x) n k))), (5, jI k), (3, jL b), (0, .ref h), (1, jI x), (2, jI n)]) S dX1_worstOf_36 hl (by decide) rfl (fun ls hl => ?_)
          refine j_lload S dX1_worstOf_38 (lv_at hl 0 rfl) ?_
          refine j_lload_n S dX1_worstOf_40 rfl (lv_at hl 2 rfl) ?_
          refine j_lcmp_le (pc1 := 42) (tgt := 50) S rfl dX1_worstOf_41 dX1_worstOf_42 (by decide) (iv_l (iv_neg (lo := 1) (hi := 500) r7_ (by decide +kernel)) (by decide +kernel)) (iv_l hbi (by decide +kernel)) (fun c41 => ?_) (fun c41 => ?_)
          · have t8_ : 1 ≤ (-(sp_ms w (H x) n k)) ∧ (-(sp_ms w (H x) n k)) ≤ 500 := (iv_neg (lo := 1) (hi := 500) r7_ (by decide +kernel))
            have r9_ : 1 ≤ b ∧ b ≤ 500 := by omega
            refine j_lload_n S dX1_worstOf_50 rfl (lv_at hl 2 rfl) ?_
            refine j_lstore_n (lv' := [(3, jL b), (6, jL (-(sp_ms w (H x) n k))), (5, jI k), (0, .ref h), (1, jI x), (2, jI n)]) S dX1_worstOf_51 rfl hl (by decide) rfl (fun ls hl => ?_)
            refine j_iinc (k := 2) (y := (k + 1)) (lv' := [(5, jI (k + 1)), (3, jL b), (6, jL (-(sp_ms w (H x) n k))), (0, .ref h), (1, jI x), (2, jI n)]) S dX1_worstOf_52 hl rfl rfl (by decide) rfl (fun ls hl => ?_)
            refine j_goto (tgt := 5) S dX1_worstOf_55 (by decide) ?_
            exact ih5 b (k + 1) _ (by omega) (by omega) (by rw [sp_wf_s (by omega), ← hb]; omega) (by omega) (by omega) (lv_sub hl [0, 1, 3, 4, 5] rfl)
          · have t10_ : 1 ≤ (-(sp_ms w (H x) n k)) ∧ (-(sp_ms w (H x) n k)) ≤ 500 := (iv_neg (lo := 1) (hi := 500) r7_ (by decide +kernel))
            have r11_ : 0 ≤ b ∧ b ≤ 499 := by omega
            refine j_lload S dX1_worstOf_45 (lv_at hl 0 rfl) ?_
            refine j_goto (tgt := 51) S dX1_worstOf_47 (by decide) ?_
            refine j_lstore_n (lv' := [(3, jL (-(sp_ms w (H x) n k))), (6, jL (-(sp_ms w (H x) n k))), (5, jI k), (0, .ref h), (1, jI x), (2, jI n)]) S dX1_worstOf_51 rfl hl (by decide) rfl (fun ls hl => ?_)
            refine j_iinc (k := 2) (y := (k + 1)) (lv' := [(5, jI (k + 1)), (3, jL (-(sp_ms w (H x) n k))), (6, jL (-(sp_ms w (H x) n k))), (0, .ref h), (1, jI x), (2, jI n)]) S dX1_worstOf_52 hl rfl rfl (by decide) rfl (fun ls hl => ?_)
            refine j_goto (tgt := 5) S dX1_worstOf_55 (by decide) ?_
            exact ih5 (-(sp_ms w (H x) n k)) (k + 1) _ (by omega) (by omega) (by rw [sp_wf_s (by omega), ← hb]; omega) (by omega) (by omega) (lv_sub hl [0, 1, 3, 4, 5] rfl)
  exact loop5 1002 0 0 _ (by omega) (by omega) rfl (by omega) (by omega) (lv_sub hl [0, 1, 2, 3, 4] rfl)
abbrev rmX1_exact : Room := { frames := 2, cells := 0, slots := 0, locals := 46 }
theorem hdX1_exact : yX1_exact.cls ≠ "java/lang/invoke/MethodHandle" ∧ yX1_exact.cls ≠ "java/lang/invoke/VarHandle" ∧ (parseMethodDescriptor yX1_exact.desc).map (fun d => d.parameters.length) = some 2 := by decide +kernel
set_option maxHeartbeats 4000000 in
set_option maxRecDepth 100000 in
theorem c_X1_exact (l : Launch) (D : va_G) (h a0 a1 a2 a3 : Nat) (cA : ClassId) (H T E F : Int → Int) (cc gc w d v : Int) (hok : SOK H T E cc gc w d v) (x : Int) (n : Int) (hx : 0 ≤ x ∧ x ≤ 7) (hn : 2 ≤ n ∧ n ≤ 1000) (hxc : x < cc) : MI l yX1_exact wsX1_exact rmX1_exact [.ref h, jI x, jI n] (WB D (MW h a0 a1 a2 a3 cA H T E F cc gc w d v) cA) (fun rR => rR = sp_xf w (H x) n n) := by
  refine MI_of (cc := cX1_exact) (maxL := 5) (by decide) rfl (Nat.le_of_ble_eq_true rfl) ?_
  intro pP eE sS mM aA bL mT cC QQ ls S hret ⟨hP, hK⟩ hl
  obtain ⟨hcc, hgc, hw, hd, hv, hH, hT, hE⟩ := id hok
  have hin : ∀ w ∈ wsX10, w ∈ wsX1_exact := fun w hw => List.mem_cons_of_mem _ (List.mem_append_right _ hw)
  have hl : lv_has ls 5 [(0, .ref h), (1, jI x), (2, jI n)] := hl
  refine j_iconst S dX1_exact_0 ?_
  refine j_istore_n (lv' := [(3, jI 0), (0, .ref h), (1, jI x), (2, jI n)]) S dX1_exact_1 rfl hl (by decide) rfl (fun ls hl => ?_)
  refine j_iconst S dX1_exact_2 ?_
  refine j_istore (lv' := [(4, jI 0), (3, jI 0), (0, .ref h), (1, jI x), (2, jI n)]) S dX1_exact_3 hl (by decide) rfl (fun ls hl => ?_)
  have loop5 : ∀ (N : Nat) (b k : Int) (ls : Array Slot), (0 ≤ k ∧ k ≤ 1000) → (k ≤ n) → (b = sp_xf w (H x) n k) → n - k < (N : Int) → lv_has ls 5 [(4, jI k), (3, jI b), (0, .ref h), (1, jI x), (2, jI n)] → W pP l eE rmX1_exact sS mM aA bL mT cC sS.heap [] 0 0 QQ (F0 mM 5 ls []) := by
    intro N
    induction N with
    | zero =>
      intro b k ls hk hk2 hb hN
      exact absurd hN (by omega)
    | succ N ih5 =>
      intro b k ls hk hk2 hb hN hl
      refine j_iload S dX1_exact_5 (lv_at hl 0 rfl) ?_
      refine j_iload_n S dX1_exact_7 rfl (lv_at hl 4 rfl) ?_
      refine j_icmp_ge (tgt := 38) S dX1_exact_8 (by decide) (iv_i hk (by decide +kernel)) (iv_i hn (by decide +kernel)) (fun c8 => ?_) (fun c8 => ?_)
      · have r1_ : 2 ≤ k ∧ k ≤ 1000 := by omega
        refine j_iload_n S dX1_exact_38 rfl (lv_at hl 1 rfl) ?_
        exact hret b 39 _ (by rw [hb, show k = n from by omega]) dX1_exact_39
      · have r2_ : 0 ≤ k ∧ k ≤ 999 := by omega
        refine j_iload_n S dX1_exact_11 rfl (lv_at hl 1 rfl) ?_
        refine lv_aload_n S.1 S.2.1 dX1_exact_12 rfl (lv_at hl 2 rfl) ?_
        refine j_iload_n S dX1_exact_13 rfl (lv_at hl 3 rfl) ?_
        refine j_iload_n S dX1_exact_14 rfl (lv_at hl 4 rfl) ?_
        refine j_iload S dX1_exact_15 (lv_at hl 0 rfl) ?_
        refine j_cvl (As := [jI x, jI n, jI k]) (ci := 1) S (c_X1_missOf l D h a0 a1 a2 a3 cA H T E F cc gc w d v hok x n k (iv_w hx (by decide +kernel)) (iv_w hn (by decide +kernel)) (iv_w r2_ (by decide +kernel)) (by omega)) (cwV 3 S.2.2.2.2 gX1_exact_X1_missOf rfl rfl rfl ⟨rfl, hdX1_missOf⟩ ⟨Nat.le_of_ble_eq_true rfl, Nat.le_of_ble_eq_true rfl⟩) hK hP rfl rfl rfl [jI b] rfl rfl hl.1 (Nat.le_of_ble_eq_true rfl) ⟨Nat.zero_le _, Nat.zero_le _⟩ dX1_exact_17 (fun i17 q17 => ?_)
        subst q17
        have r3_ : (-500) ≤ (sp_ms w (H x) n k) ∧ (sp_ms w (H x) n k) ≤ 500 := sp_ms_iv (iv_w (lo := 2) (hi := 1000) hn (by decide +kernel))
        refine j_lconst (a := 0) S dX1_exact_20 rfl ?_
        refine j_lcmp_ne (pc1 := 22) (tgt := 29) S rfl dX1_exact_21 dX1_exact_22 (by decide) (iv_l r3_ (by decide +kernel)) (iv_l (iv_n 0) (by decide +kernel)) (fun c21 => ?_) (fun c21 => ?_)
        · refine j_iconst S dX1_exact_29 ?_
          refine j_iadd S dX1_exact_30 ?_
          refine j_istore_n (lv' := [(3, jI (b + 0)), (4, jI k), (0, .ref h), (1, jI x), (2, jI n)]) S dX1_exact_31 rfl hl (by decide) rfl (fun ls hl => ?_)
          refine j_iinc (k := 1) (y := (k + 1)) (lv' := [(4, jI (k + 1)), (3, jI (b + 0)), (0, .ref h), (1, jI x), (2, jI n)]) S dX1_exact_32 hl rfl rfl (by decide) rfl (fun ls hl => ?_)
          refine j_goto (tgt := 5) S dX1_exact_35 (by decide) ?_
          exact ih5 (b + 0) (k + 1) _ (by omega) (by omega) (by rw [sp_xf_s (by omega), ← hb]; split <;> omega) (by omega) (lv_sub hl [0, 1, 2, 3, 4] rfl)
        · have r4_ : 0 ≤ (sp_ms w (H x) n k) ∧ (sp_ms w (H x) n k) ≤ 0 := by omega
          refine j_iconst S dX1_exact_25 ?_
          refine j_goto (tgt := 30) S dX1_exact_26 (by decide) ?_
          refine j_iadd S dX1_exact_30 ?_
          refine j_istore_n (lv' := [(3, jI (b + 1)), (4, jI k), (0, .ref h), (1, jI x), (2, jI n)]) S dX1_exact_31 rfl hl (by decide) rfl (fun ls hl => ?_)
          refine j_iinc (k := 1) (y := (k + 1)) (lv' := [(4, jI (k + 1)), (3, jI (b + 1)), (0, .ref h), (1, jI x), (2, jI n)]) S dX1_exact_32 hl rfl rfl (by decide) rfl (fun ls hl => ?_)
          refine j_goto (tgt := 5) S dX1_exact_35 (by decide) ?_
          exact ih5 (b + 1) (k + 1) _ (by omega) (by omega) (by rw [sp_xf_s (by omega), ← hb]; split <;> omega) (by omega) (lv_sub hl [0, 1, 2, 3, 4] rfl)
  exact loop5 1001 0 0 _ (by omega) (by omega) rfl (by omega) (lv_sub hl [0, 1, 2, 3, 4] rfl)
abbrev rmX1_common : Room := { frames := 0, cells := 0, slots := 0, locals := 0 }
theorem hdX1_common : yX1_common.cls ≠ "java/lang/invoke/MethodHandle" ∧ yX1_common.cls ≠ "java/lang/invoke/VarHandle" ∧ (parseMethodDescriptor yX1_common.desc).map (fun d => d.parameters.length) = some 2 := by decide +kernel
set_option maxHeartbeats 4000000 in
set_option maxRecDepth 100000 in
theorem c_X1_common (l : Launch) (a : Int) (b : Int) (ha : (-1000000000) ≤ a ∧ a ≤ 1000000000) (hb : 1 ≤ b ∧ b ≤ 1000) : ML l yX1_common wsX1_common rmX1_common [jL a, jL b] W0 (fun rR => rR = ((Int.gcd a b : Nat) : Int)) := by
  refine ML_of (cc := cX1_common) (maxL := 10) (by decide) rfl (Nat.le_of_ble_eq_true rfl) ?_
  intro pP eE sS mM aA bL mT cC QQ ls S hret _ hl
  have hl : lv_has ls 10 [(0, jL a), (2, jL b)] := hl
  refine j_lload_n S dX1_common_0 rfl (lv_at hl 0 rfl) ?_
  refine j_lconst (a := 0) S dX1_common_1 rfl ?_
  refine j_lcmp_ge (pc1 := 3) (tgt := 11) S rfl dX1_common_2 dX1_common_3 (by decide) (iv_l ha (by decide +kernel)) (iv_l (iv_n 0) (by decide +kernel)) (fun c2 => ?_) (fun c2 => ?_)
  · have r1_ : 0 ≤ a ∧ a ≤ 1000000000 := by omega
    refine j_lload_n S dX1_common_11 rfl (lv_at hl 0 rfl) ?_
    refine j_lstore (lv' := [(4, jL a), (0, jL a), (2, jL b)]) S dX1_common_12 hl (by decide) rfl (fun ls hl => ?_)
    refine j_lload_n S dX1_common_14 rfl (lv_at hl 2 rfl) ?_
    refine j_lstore (lv' := [(6, jL b), (4, jL a), (0, jL a), (2, jL b)]) S dX1_common_15 hl (by decide) rfl (fun ls hl => ?_)
    have loop17 : ∀ (N : Nat) (x y : Int) (ls : Array Slot), (0 ≤ x ∧ x ≤ 1000000000) → (0 ≤ y ∧ y ≤ 1000) → (Int.gcd x y = Int.gcd a b) → y < (N : Int) → lv_has ls 10 [(6, jL y), (4, jL x), (0, jL a), (2, jL b)] → W pP l eE rmX1_common sS mM aA bL mT cC sS.heap [] 0 0 QQ (F0 mM 17 ls []) := by
      intro N
      induction N with
      | zero =>
        intro x y ls hx hy hg hN
        exact absurd hN (by omega)
      | succ N ih17 =>
        intro x y ls hx hy hg hN hl
        refine j_lload S dX1_common_17 (lv_at hl 0 rfl) ?_
        refine j_lconst (a := 0) S dX1_common_19 rfl ?_
        refine j_lcmp_eq (pc1 := 21) (tgt := 42) S rfl dX1_common_20 dX1_common_21 (by decide) (iv_l hy (by decide +kernel)) (iv_l (iv_n 0) (by decide +kernel)) (fun c20 => ?_) (fun c20 => ?_)
        · have r2_ : 0 ≤ y ∧ y ≤ 0 := by omega
          refine j_lload S dX1_common_42 (lv_at hl 1 rfl) ?_
          exact hret x 44 _ (by rw [← hg, c20]; exact (gcd_0 hx.1).symm) dX1_common_44
        · have r3_ : 1 ≤ y ∧ y ≤ 1000 := by omega
          refine j_lload S dX1_common_24 (lv_at hl 1 rfl) ?_
          refine j_lload S dX1_common_26 (lv_at hl 0 rfl) ?_
          refine j_lremp S dX1_common_28 (iv_l hx (by decide +kernel)) (iv_pl r3_ (by decide +kernel)) (iv_nn hx (by decide +kernel)) ?_
          refine j_lstore (lv' := [(8, jL (x % y)), (6, jL y), (4, jL x), (0, jL a), (2, jL b)]) S dX1_common_29 hl (by decide) rfl (fun ls hl => ?_)
          refine j_lload S dX1_common_31 (lv_at hl 1 rfl) ?_
          refine j_lstore (lv' := [(4, jL y), (8, jL (x % y)), (6, jL y), (0, jL a), (2, jL b)]) S dX1_common_33 hl (by decide) rfl (fun ls hl => ?_)
          refine j_lload S dX1_common_35 (lv_at hl 1 rfl) ?_
          refine j_lstore (lv' := [(6, jL (x % y)), (4, jL y), (8, jL (x % y)), (0, jL a), (2, jL b)]) S dX1_common_37 hl (by decide) rfl (fun ls hl => ?_)
          refine j_goto (tgt := 17) S dX1_common_39 (by decide) ?_
          exact ih17 y (x % y) _ (by omega) (by have := Int.emod_nonneg x (b := y) (by omega); have := Int.emod_lt_of_pos x (b := y) (by omega); omega) (by rw [gcd_step (by omega) (by omega), hg]) (by have := Int.emod_lt_of_pos x (b := y) (by omega); omega) (lv_sub hl [0, 1, 3, 4] rfl)
    exact loop17 1001 a b _ (by omega) (by omega) rfl (by omega) (lv_sub hl [0, 1, 2, 3] rfl)
  · have r4_ : (-1000000000) ≤ a ∧ a ≤ (-1) := by omega
    refine j_lload_n S dX1_common_6 rfl (lv_at hl 0 rfl) ?_
    refine j_lneg S dX1_common_7 ?_
    refine j_goto (tgt := 12) S dX1_common_8 (by decide) ?_
    refine j_lstore (lv' := [(4, jL (-a)), (0, jL a), (2, jL b)]) S dX1_common_12 hl (by decide) rfl (fun ls hl => ?_)
    refine j_lload_n S dX1_common_14 rfl (lv_at hl 2 rfl) ?_
    refine j_lstore (lv' := [(6, jL b), (4, jL (-a)), (0, jL a), (2, jL b)]) S dX1_common_15 hl (by decide) rfl (fun ls hl => ?_)
    have loop17 : ∀ (N : Nat) (x y : Int) (ls : Array Slot), (0 ≤ x ∧ x ≤ 1000000000) → (0 ≤ y ∧ y ≤ 1000) → (Int.gcd x y = Int.gcd a b) → y < (N : Int) → lv_has ls 10 [(6, jL y), (4, jL x), (0, jL a), (2, jL b)] → W pP l eE rmX1_common sS mM aA bL mT cC sS.heap [] 0 0 QQ (F0 mM 17 ls []) := by
      intro N
      induction N with
      | zero =>
        intro x y ls hx hy hg hN
        exact absurd hN (by omega)
      | succ N ih17 =>
        intro x y ls hx hy hg hN hl
        refine j_lload S dX1_common_17 (lv_at hl 0 rfl) ?_
        refine j_lconst (a := 0) S dX1_common_19 rfl ?_
        refine j_lcmp_eq (pc1 := 21) (tgt := 42) S rfl dX1_common_20 dX1_common_21 (by decide) (iv_l hy (by decide +kernel)) (iv_l (iv_n 0) (by decide +kernel)) (fun c20 => ?_) (fun c20 => ?_)
        · have r5_ : 0 ≤ y ∧ y ≤ 0 := by omega
          refine j_lload S dX1_common_42 (lv_at hl 1 rfl) ?_
          exact hret x 44 _ (by rw [← hg, c20]; exact (gcd_0 hx.1).symm) dX1_common_44
        · have r6_ : 1 ≤ y ∧ y ≤ 1000 := by omega
          refine j_lload S dX1_common_24 (lv_at hl 1 rfl) ?_
          refine j_lload S dX1_common_26 (lv_at hl 0 rfl) ?_
          refine j_lremp S dX1_common_28 (iv_l hx (by decide +kernel)) (iv_pl r6_ (by decide +kernel)) (iv_nn hx (by decide +kernel)) ?_
          refine j_lstore (lv' := [(8, jL (x % y)), (6, jL y), (4, jL x), (0, jL a), (2, jL b)]) S dX1_common_29 hl (by decide) rfl (fun ls hl => ?_)
          refine j_lload S dX1_common_31 (lv_at hl 1 rfl) ?_
          refine j_lstore (lv' := [(4, jL y), (8, jL (x % y)), (6, jL y), (0, jL a), (2, jL b)]) S dX1_common_33 hl (by decide) rfl (fun ls hl => ?_)
          refine j_lload S dX1_common_35 (lv_at hl 1 rfl) ?_
          refine j_lstore (lv' := [(6, jL (x % y)), (4, jL y), (8, jL (x % y)), (0, jL a), (2, jL b)]) S dX1_common_37 hl (by decide) rfl (fun ls hl => ?_)
          refine j_goto (tgt := 17) S dX1_common_39 (by decide) ?_
          exact ih17 y (x % y) _ (by omega) (by have := Int.emod_nonneg x (b := y) (by omega); have := Int.emod_lt_of_pos x (b := y) (by omega); omega) (by rw [gcd_step (by omega) (by omega), hg]) (by have := Int.emod_lt_of_pos x (b := y) (by omega); omega) (lv_sub hl [0, 1, 3, 4] rfl)
    exact loop17 1001 (-a) b _ (by omega) (by omega) Int.neg_gcd (by omega) (lv_sub hl [0, 1, 2, 3] rfl)
abbrev rmX1_term : Room := { frames := 1, cells := 0, slots := 0, locals := 29 }
theorem hdX1_term : yX1_term.cls ≠ "java/lang/invoke/MethodHandle" ∧ yX1_term.cls ≠ "java/lang/invoke/VarHandle" ∧ (parseMethodDescriptor yX1_term.desc).map (fun d => d.parameters.length) = some 3 := by decide +kernel
set_option maxHeartbeats 4000000 in
set_option maxRecDepth 100000 in
theorem c_X1_term (l : Launch) (up : Int) (low : Int) (what : Int) (hup : (-1000000000) ≤ up ∧ up ≤ 1000000000) (hlow : 1 ≤ low ∧ low ≤ 1000) (hwhat : inI what) : MI l yX1_term wsX1_term rmX1_term [jL up, jL low, jI what] W0 (fun rR => rR = sp_lt up low what) := by
  refine MI_of (cc := cX1_term) (maxL := 7) (by decide) rfl (Nat.le_of_ble_eq_true rfl) ?_
  intro pP eE sS mM aA bL mT cC QQ ls S hret _ hl
  have hl : lv_has ls 7 [(0, jL up), (2, jL low), (4, jI what)] := hl
  refine j_lload_n S dX1_term_0 rfl (lv_at hl 0 rfl) ?_
  refine j_lload_n S dX1_term_1 rfl (lv_at hl 1 rfl) ?_
  refine j_csl (As := [jL up, jL low]) S (c_X1_common l up low (iv_w hup (by decide +kernel)) (iv_w hlow (by decide +kernel))) (va_cwS 2 S.2.2.2.2 gX1_term_X1_common rfl rfl rfl hdX1_common ⟨Nat.le_of_ble_eq_true rfl, Nat.le_of_ble_eq_true rfl⟩) [] rfl rfl hl.1 (Nat.le_of_ble_eq_true rfl) ⟨Nat.zero_le _, Nat.zero_le _⟩ dX1_term_2 (fun i2 q2 => ?_)
  subst q2
  have r1_ : 1 ≤ ((Int.gcd up low : Nat) : Int) ∧ ((Int.gcd up low : Nat) : Int) ≤ 1000 := gcd_iv (iv_w (lo := 1) (hi := 1000) hlow (by decide +kernel))
  refine j_lstore (lv' := [(5, jL ((Int.gcd up low : Nat) : Int)), (0, jL up), (2, jL low), (4, jI what)]) S dX1_term_5 hl (by decide) rfl (fun ls hl => ?_)
  refine j_iload S dX1_term_7 (lv_at hl 3 rfl) ?_
  refine j_if_ne (tgt := 19) S dX1_term_9 (by decide) (iv_i hwhat (by decide +kernel)) (fun c9 => ?_) (fun c9 => ?_)
  · refine j_lload_n S dX1_term_19 rfl (lv_at hl 2 rfl) ?_
    refine j_lload S dX1_term_20 (lv_at hl 0 rfl) ?_
    refine j_ldivp S dX1_term_22 (iv_l hlow (by decide +kernel)) (iv_pl r1_ (by decide +kernel)) (iv_nn hlow (by decide +kernel)) ?_
    refine j_l2i S dX1_term_23 ?_
    exact hret (low / ((Int.gcd up low : Nat) : Int)) 24 _ (by unfold sp_lt; rw [if_neg c9, Int.tdiv_eq_ediv_of_nonneg (by omega)]) dX1_term_24
  · have r2_ : 0 ≤ what ∧ what ≤ 0 := by omega
    refine j_lload_n S dX1_term_12 rfl (lv_at hl 1 rfl) ?_
    refine j_lload S dX1_term_13 (lv_at hl 0 rfl) ?_
    refine j_ldiv S dX1_term_15 (iv_l hup (by decide +kernel)) (iv_pl r1_ (by decide +kernel)) (iv_gt hup (by decide +kernel)) ?_
    refine j_goto (tgt := 23) S dX1_term_16 (by decide) ?_
    refine j_l2i S dX1_term_23 ?_
    exact hret (Int.tdiv up ((Int.gcd up low : Nat) : Int)) 24 _ (by unfold sp_lt; rw [if_pos c9]) dX1_term_24
abbrev rmX1_hole : Room := { frames := 3, cells := 0, slots := 0, locals := 66 }
theorem hdX1_hole : yX1_hole.cls ≠ "java/lang/invoke/MethodHandle" ∧ yX1_hole.cls ≠ "java/lang/invoke/VarHandle" ∧ (parseMethodDescriptor yX1_hole.desc).map (fun d => d.parameters.length) = some 3 := by decide +kernel
set_option maxHeartbeats 4000000 in
set_option maxRecDepth 100000 in
theorem c_X1_hole (l : Launch) (D : va_G) (h a0 a1 a2 a3 : Nat) (cA : ClassId) (H T E F : Int → Int) (cc gc w d v : Int) (hok : SOK H T E cc gc w d v) (x : Int) (n : Int) (i : Int) (hx : inI x) (hn : inI n) (hi : inI i) : MI l yX1_hole wsX1_hole rmX1_hole [.ref h, jI x, jI n, jI i] (WB D (MW h a0 a1 a2 a3 cA H T E F cc gc w d v) cA) (fun rR => rR = sp_hole w cc H x n i) := by
  refine MI_of (cc := cX1_hole) (maxL := 4) (by decide) rfl (Nat.le_of_ble_eq_true rfl) ?_
  intro pP eE sS mM aA bL mT cC QQ ls S hret ⟨hP, hK⟩ hl
  obtain ⟨hcc, hgc, hw, hd, hv, hH, hT, hE⟩ := id hok
  have hin : ∀ w ∈ wsX10, w ∈ wsX1_hole := fun w hw => List.mem_cons_of_mem _ (List.mem_append_right _ hw)
  have hl : lv_has ls 4 [(0, .ref h), (1, jI x), (2, jI n), (3, jI i)] := hl
  refine lv_aload_n S.1 S.2.1 dX1_hole_0 rfl (lv_at hl 0 rfl) ?_
  refine j_iload_n S dX1_hole_1 rfl (lv_at hl 1 rfl) ?_
  refine j_cvi (As := [jI x]) (ci := 1) S (c_X1_isCircle l D h a0 a1 a2 a3 cA H T E F cc gc w d v hok x (iv_w hx (by decide +kernel))) (cwV 1 S.2.2.2.2 gX1_hole_X1_isCircle rfl rfl rfl ⟨rfl, hdX1_isCircle⟩ ⟨Nat.le_of_ble_eq_true rfl, Nat.le_of_ble_eq_true rfl⟩) hK hP rfl rfl rfl [] rfl rfl hl.1 (Nat.le_of_ble_eq_true rfl) ⟨Nat.zero_le _, Nat.zero_le _⟩ dX1_hole_2 (fun i2 q2 => ?_)
  subst q2
  refine j_ifb_ne (tgt := 10) S dX1_hole_5 (by decide) (fun c5 => ?_) (fun c5 => ?_)
  · have r1_ : 0 ≤ x ∧ x ≤ 7 := by omega
    refine j_iload_n S dX1_hole_10 rfl (lv_at hl 2 rfl) ?_
    refine j_iload_n S dX1_hole_11 rfl (lv_at hl 3 rfl) ?_
    refine j_csi (As := [jI n, jI i]) S (c_X1_isCut l n i (iv_w hn (by decide +kernel)) (iv_w hi (by decide +kernel))) (va_cwS 2 S.2.2.2.2 gX1_hole_X1_isCut rfl rfl rfl hdX1_isCut ⟨Nat.le_of_ble_eq_true rfl, Nat.le_of_ble_eq_true rfl⟩) [] rfl rfl hl.1 (Nat.le_of_ble_eq_true rfl) ⟨Nat.zero_le _, Nat.zero_le _⟩ dX1_hole_12 (fun i12 q12 => ?_)
    subst q12
    refine j_ifb_eq (tgt := 29) S dX1_hole_15 (by decide) (fun c15 => ?_) (fun c15 => ?_)
    · refine j_bipush S dX1_hole_29 (by decide) ?_
      exact hret (-2) 31 _ (by unfold sp_hole; (repeat' split) <;> first | omega | rfl) dX1_hole_31
    · have r2_ : 2 ≤ n ∧ n ≤ 1000 := by omega
      have r3_ : 0 ≤ i ∧ i ≤ 1000 := by omega
      refine lv_aload_n S.1 S.2.1 dX1_hole_18 rfl (lv_at hl 0 rfl) ?_
      refine j_iload_n S dX1_hole_19 rfl (lv_at hl 1 rfl) ?_
      refine j_iload_n S dX1_hole_20 rfl (lv_at hl 2 rfl) ?_
      refine j_iload_n S dX1_hole_21 rfl (lv_at hl 3 rfl) ?_
      refine j_cvl (As := [jI x, jI n, jI i]) (ci := 1) S (c_X1_holeOf l D h a0 a1 a2 a3 cA H T E F cc gc w d v hok x n i (iv_w r1_ (by decide +kernel)) (iv_w r2_ (by decide +kernel)) (iv_w r3_ (by decide +kernel)) (by omega)) (cwV 3 S.2.2.2.2 gX1_hole_X1_holeOf rfl rfl rfl ⟨rfl, hdX1_holeOf⟩ ⟨Nat.le_of_ble_eq_true rfl, Nat.le_of_ble_eq_true rfl⟩) hK hP rfl rfl rfl [] rfl rfl hl.1 (Nat.le_of_ble_eq_true rfl) ⟨Nat.zero_le _, Nat.zero_le _⟩ dX1_hole_22 (fun i22 q22 => ?_)
      subst q22
      have r4_ : 0 ≤ (sp_hn w (H x) n i) ∧ (sp_hn w (H x) n i) ≤ 48001000 := sp_hn_iv hw (hH x (by omega) (by omega)) (iv_w (lo := 0) (hi := 1000) r3_ (by decide +kernel)) (iv_w (lo := 2) (hi := 1000) r2_ (by decide +kernel))
      refine j_l2i S dX1_hole_25 ?_
      refine j_goto (tgt := 31) S dX1_hole_26 (by decide) ?_
      exact hret (sp_hn w (H x) n i) 31 _ (by unfold sp_hole; (repeat' split) <;> first | omega | rfl) dX1_hole_31
  · refine j_iconst S dX1_hole_8 ?_
    exact hret (-1) 9 _ (by unfold sp_hole; (repeat' split) <;> first | omega | rfl) dX1_hole_9
abbrev rmX1_miss : Room := { frames := 3, cells := 0, slots := 0, locals := 66 }
theorem hdX1_miss : yX1_miss.cls ≠ "java/lang/invoke/MethodHandle" ∧ yX1_miss.cls ≠ "java/lang/invoke/VarHandle" ∧ (parseMethodDescriptor yX1_miss.desc).map (fun d => d.parameters.length) = some 4 := by decide +kernel
set_option maxHeartbeats 4000000 in
set_option maxRecDepth 100000 in
theorem c_X1_miss (l : Launch) (D : va_G) (h a0 a1 a2 a3 : Nat) (cA : ClassId) (H T E F : Int → Int) (cc gc w d v : Int) (hok : SOK H T E cc gc w d v) (x : Int) (n : Int) (i : Int) (what : Int) (hx : inI x) (hn : inI n) (hi : inI i) (hwhat : inI what) : MI l yX1_miss wsX1_miss rmX1_miss [.ref h, jI x, jI n, jI i, jI what] (WB D (MW h a0 a1 a2 a3 cA H T E F cc gc w d v) cA) (fun rR => rR = sp_miss w cc H x n i what) := by
  refine MI_of (cc := cX1_miss) (maxL := 5) (by decide) rfl (Nat.le_of_ble_eq_true rfl) ?_
  intro pP eE sS mM aA bL mT cC QQ ls S hret ⟨hP, hK⟩ hl
  obtain ⟨hcc, hgc, hw, hd, hv, hH, hT, hE⟩ := id hok
  have hin : ∀ w ∈ wsX10, w ∈ wsX1_miss := fun w hw => List.mem_cons_of_mem _ (List.mem_append_right _ hw)
  have hl : lv_has ls 5 [(0, .ref h), (1, jI x), (2, jI n), (3, jI i), (4, jI what)] := hl
  refine lv_aload_n S.1 S.2.1 dX1_miss_0 rfl (lv_at hl 0 rfl) ?_
  refine j_iload_n S dX1_miss_1 rfl (lv_at hl 1 rfl) ?_
  refine j_cvi (As := [jI x]) (ci := 1) S (c_X1_isCircle l D h a0 a1 a2 a3 cA H T E F cc gc w d v hok x (iv_w hx (by decide +kernel))) (cwV 1 S.2.2.2.2 gX1_miss_X1_isCircle rfl rfl rfl ⟨rfl, hdX1_isCircle⟩ ⟨Nat.le_of_ble_eq_true rfl, Nat.le_of_ble_eq_true rfl⟩) hK hP rfl rfl rfl [] rfl rfl hl.1 (Nat.le_of_ble_eq_true rfl) ⟨Nat.zero_le _, Nat.zero_le _⟩ dX1_miss_2 (fun i2 q2 => ?_)
  subst q2
  refine j_ifb_ne (tgt := 11) S dX1_miss_5 (by decide) (fun c5 => ?_) (fun c5 => ?_)
  · have r1_ : 0 ≤ x ∧ x ≤ 7 := by omega
    refine j_iload_n S dX1_miss_11 rfl (lv_at hl 2 rfl) ?_
    refine j_iload_n S dX1_miss_12 rfl (lv_at hl 3 rfl) ?_
    refine j_csi (As := [jI n, jI i]) S (c_X1_isCut l n i (iv_w hn (by decide +kernel)) (iv_w hi (by decide +kernel))) (va_cwS 2 S.2.2.2.2 gX1_miss_X1_isCut rfl rfl rfl hdX1_isCut ⟨Nat.le_of_ble_eq_true rfl, Nat.le_of_ble_eq_true rfl⟩) [] rfl rfl hl.1 (Nat.le_of_ble_eq_true rfl) ⟨Nat.zero_le _, Nat.zero_le _⟩ dX1_miss_13 (fun i13 q13 => ?_)
    subst q13
    refine j_ifb_eq (tgt := 47) S dX1_miss_16 (by decide) (fun c16 => ?_) (fun c16 => ?_)
    · refine j_ldc (n := (-1000000002)) S (S.2.2.2.2 _ (List.mem_of_getElem? (i := 2) rfl)) (by decide) dX1_miss_47 ?_
      exact hret (-1000000002) 49 _ (by unfold sp_miss; (repeat' split) <;> first | omega | rfl) dX1_miss_49
    · have r2_ : 2 ≤ n ∧ n ≤ 1000 := by omega
      have r3_ : 0 ≤ i ∧ i ≤ 1000 := by omega
      refine j_iload S dX1_miss_19 (lv_at hl 4 rfl) ?_
      refine j_i2l S dX1_miss_21 (iv_i hwhat (by decide +kernel)) ?_
      refine j_lconst (a := 0) S dX1_miss_22 rfl ?_
      refine j_lconst (a := 1) S dX1_miss_23 rfl ?_
      refine j_csi (As := [jL what, jL 0, jL 1]) S (c_X1_in l what 0 1 (iv_w hwhat (by decide +kernel)) (iv_w (iv_n 0) (by decide +kernel)) (iv_w (iv_n 1) (by decide +kernel))) (va_cwS 3 S.2.2.2.2 gX1_miss_X1_in rfl rfl rfl hdX1_in ⟨Nat.le_of_ble_eq_true rfl, Nat.le_of_ble_eq_true rfl⟩) [] rfl rfl hl.1 (Nat.le_of_ble_eq_true rfl) ⟨Nat.zero_le _, Nat.zero_le _⟩ dX1_miss_24 (fun i24 q24 => ?_)
      subst q24
      refine j_ifb_eq (tgt := 47) S dX1_miss_27 (by decide) (fun c27 => ?_) (fun c27 => ?_)
      · refine j_ldc (n := (-1000000002)) S (S.2.2.2.2 _ (List.mem_of_getElem? (i := 2) rfl)) (by decide) dX1_miss_47 ?_
        exact hret (-1000000002) 49 _ (by unfold sp_miss; (repeat' split) <;> first | omega | rfl) dX1_miss_49
      · have r4_ : 0 ≤ what ∧ what ≤ 1 := by omega
        refine lv_aload_n S.1 S.2.1 dX1_miss_30 rfl (lv_at hl 0 rfl) ?_
        refine j_iload_n S dX1_miss_31 rfl (lv_at hl 1 rfl) ?_
        refine j_iload_n S dX1_miss_32 rfl (lv_at hl 2 rfl) ?_
        refine j_iload_n S dX1_miss_33 rfl (lv_at hl 3 rfl) ?_
        refine j_cvl (As := [jI x, jI n, jI i]) (ci := 1) S (c_X1_missOf l D h a0 a1 a2 a3 cA H T E F cc gc w d v hok x n i (iv_w r1_ (by decide +kernel)) (iv_w r2_ (by decide +kernel)) (iv_w r3_ (by decide +kernel)) (by omega)) (cwV 3 S.2.2.2.2 gX1_miss_X1_missOf rfl rfl rfl ⟨rfl, hdX1_missOf⟩ ⟨Nat.le_of_ble_eq_true rfl, Nat.le_of_ble_eq_true rfl⟩) hK hP rfl rfl rfl [] rfl rfl hl.1 (Nat.le_of_ble_eq_true rfl) ⟨Nat.zero_le _, Nat.zero_le _⟩ dX1_miss_34 (fun i34 q34 => ?_)
        subst q34
        have r5_ : (-500) ≤ (sp_ms w (H x) n i) ∧ (sp_ms w (H x) n i) ≤ 500 := sp_ms_iv (iv_w (lo := 2) (hi := 1000) r2_ (by decide +kernel))
        refine j_iload_n S dX1_miss_37 rfl (lv_at hl 2 rfl) ?_
        refine j_i2l S dX1_miss_38 (iv_i r2_ (by decide +kernel)) ?_
        refine j_iload S dX1_miss_39 (lv_at hl 4 rfl) ?_
        refine j_csi (As := [jL (sp_ms w (H x) n i), jL n, jI what]) S (c_X1_term l (sp_ms w (H x) n i) n what (iv_w r5_ (by decide +kernel)) (iv_w r2_ (by decide +kernel)) (iv_w r4_ (by decide +kernel))) (va_cwS 3 S.2.2.2.2 gX1_miss_X1_term rfl rfl rfl hdX1_term ⟨Nat.le_of_ble_eq_true rfl, Nat.le_of_ble_eq_true rfl⟩) [] rfl rfl hl.1 (Nat.le_of_ble_eq_true rfl) ⟨Nat.zero_le _, Nat.zero_le _⟩ dX1_miss_41 (fun i41 q41 => ?_)
        subst q41
        refine j_goto (tgt := 49) S dX1_miss_44 (by decide) ?_
        exact hret (sp_lt (sp_ms w (H x) n i) n what) 49 _ (by unfold sp_miss; (repeat' split) <;> first | omega | rfl) dX1_miss_49
  · refine j_ldc (n := (-1000000001)) S (S.2.2.2.2 _ (List.mem_of_getElem? (i := 1) rfl)) (by decide) dX1_miss_8 ?_
    exact hret (-1000000001) 10 _ (by unfold sp_miss; (repeat' split) <;> first | omega | rfl) dX1_miss_10
abbrev rmX1_worst : Room := { frames := 3, cells := 0, slots := 0, locals := 73 }
theorem hdX1_worst : yX1_worst.cls ≠ "java/lang/invoke/MethodHandle" ∧ yX1_worst.cls ≠ "java/lang/invoke/VarHandle" ∧ (parseMethodDescriptor yX1_worst.desc).map (fun d => d.parameters.length) = some 3 := by decide +kernel
set_option maxHeartbeats 4000000 in
set_option maxRecDepth 100000 in
theorem c_X1_worst (l : Launch) (D : va_G) (h a0 a1 a2 a3 : Nat) (cA : ClassId) (H T E F : Int → Int) (cc gc w d v : Int) (hok : SOK H T E cc gc w d v) (x : Int) (n : Int) (what : Int) (hx : inI x) (hn : inI n) (hwhat : inI what) : MI l yX1_worst wsX1_worst rmX1_worst [.ref h, jI x, jI n, jI what] (WB D (MW h a0 a1 a2 a3 cA H T E F cc gc w d v) cA) (fun rR => rR = sp_worst w cc H x n what) := by
  refine MI_of (cc := cX1_worst) (maxL := 4) (by decide) rfl (Nat.le_of_ble_eq_true rfl) ?_
  intro pP eE sS mM aA bL mT cC QQ ls S hret ⟨hP, hK⟩ hl
  obtain ⟨hcc, hgc, hw, hd, hv, hH, hT, hE⟩ := id hok
  have hin : ∀ w ∈ wsX10, w ∈ wsX1_worst := fun w hw => List.mem_cons_of_mem _ (List.mem_append_right _ hw)
  have hl : lv_has ls 4 [(0, .ref h), (1, jI x), (2, jI n), (3, jI what)] := hl
  refine lv_aload_n S.1 S.2.1 dX1_worst_0 rfl (lv_at hl 0 rfl) ?_
  refine j_iload_n S dX1_worst_1 rfl (lv_at hl 1 rfl) ?_
  refine j_cvi (As := [jI x]) (ci := 1) S (c_X1_isCircle l D h a0 a1 a2 a3 cA H T E F cc gc w d v hok x (iv_w hx (by decide +kernel))) (cwV 1 S.2.2.2.2 gX1_worst_X1_isCircle rfl rfl rfl ⟨rfl, hdX1_isCircle⟩ ⟨Nat.le_of_ble_eq_true rfl, Nat.le_of_ble_eq_true rfl⟩) hK hP rfl rfl rfl [] rfl rfl hl.1 (Nat.le_of_ble_eq_true rfl) ⟨Nat.zero_le _, Nat.zero_le _⟩ dX1_worst_2 (fun i2 q2 => ?_)
  subst q2
  refine j_ifb_ne (tgt := 10) S dX1_worst_5 (by decide) (fun c5 => ?_) (fun c5 => ?_)
  · have r1_ : 0 ≤ x ∧ x ≤ 7 := by omega
    refine j_iload_n S dX1_worst_10 rfl (lv_at hl 2 rfl) ?_
    refine j_csi (As := [jI n]) S (c_X1_isParts l n (iv_w hn (by decide +kernel))) (va_cwS 1 S.2.2.2.2 gX1_worst_X1_isParts rfl rfl rfl hdX1_isParts ⟨Nat.le_of_ble_eq_true rfl, Nat.le_of_ble_eq_true rfl⟩) [] rfl rfl hl.1 (Nat.le_of_ble_eq_true rfl) ⟨Nat.zero_le _, Nat.zero_le _⟩ dX1_worst_11 (fun i11 q11 => ?_)
    subst q11
    refine j_ifb_eq (tgt := 29) S dX1_worst_14 (by decide) (fun c14 => ?_) (fun c14 => ?_)
    · refine j_bipush S dX1_worst_29 (by decide) ?_
      exact hret (-2) 31 _ (by unfold sp_worst; (repeat' split) <;> first | omega | rfl) dX1_worst_31
    · have r2_ : 2 ≤ n ∧ n ≤ 1000 := by omega
      refine j_iload_n S dX1_worst_17 rfl (lv_at hl 3 rfl) ?_
      refine j_i2l S dX1_worst_18 (iv_i hwhat (by decide +kernel)) ?_
      refine j_lconst (a := 0) S dX1_worst_19 rfl ?_
      refine j_ldc2 (n := 2) S (S.2.2.2.2 _ (List.mem_of_getElem? (i := 1) rfl)) (by decide) dX1_worst_20 ?_
      refine j_csi (As := [jL what, jL 0, jL 2]) S (c_X1_in l what 0 2 (iv_w hwhat (by decide +kernel)) (iv_w (iv_n 0) (by decide +kernel)) (iv_w (iv_n 2) (by decide +kernel))) (va_cwS 3 S.2.2.2.2 gX1_worst_X1_in rfl rfl rfl hdX1_in ⟨Nat.le_of_ble_eq_true rfl, Nat.le_of_ble_eq_true rfl⟩) [] rfl rfl hl.1 (Nat.le_of_ble_eq_true rfl) ⟨Nat.zero_le _, Nat.zero_le _⟩ dX1_worst_23 (fun i23 q23 => ?_)
      subst q23
      refine j_ifb_ne (tgt := 32) S dX1_worst_26 (by decide) (fun c26 => ?_) (fun c26 => ?_)
      · have r3_ : 0 ≤ what ∧ what ≤ 2 := by omega
        refine j_iload_n S dX1_worst_32 rfl (lv_at hl 3 rfl) ?_
        refine j_iconst S dX1_worst_33 ?_
        refine j_icmp_ne (tgt := 46) S dX1_worst_34 (by decide) (iv_i r3_ (by decide +kernel)) (iv_i (iv_n 2) (by decide +kernel)) (fun c34 => ?_) (fun c34 => ?_)
        · have r4_ : 0 ≤ what ∧ what ≤ 1 := by omega
          refine lv_aload_n S.1 S.2.1 dX1_worst_46 rfl (lv_at hl 0 rfl) ?_
          refine j_iload_n S dX1_worst_47 rfl (lv_at hl 1 rfl) ?_
          refine j_iload_n S dX1_worst_48 rfl (lv_at hl 2 rfl) ?_
          refine j_cvl (As := [jI x, jI n]) (ci := 1) S (c_X1_worstOf l D h a0 a1 a2 a3 cA H T E F cc gc w d v hok x n (iv_w r1_ (by decide +kernel)) (iv_w r2_ (by decide +kernel)) (by omega)) (cwV 2 S.2.2.2.2 gX1_worst_X1_worstOf rfl rfl rfl ⟨rfl, hdX1_worstOf⟩ ⟨Nat.le_of_ble_eq_true rfl, Nat.le_of_ble_eq_true rfl⟩) hK hP rfl rfl rfl [] rfl rfl hl.1 (Nat.le_of_ble_eq_true rfl) ⟨Nat.zero_le _, Nat.zero_le _⟩ dX1_worst_49 (fun i49 q49 => ?_)
          subst q49
          have r5_ : 0 ≤ (sp_wu w (H x) n) ∧ (sp_wu w (H x) n) ≤ 500 := sp_wu_iv (iv_w (lo := 2) (hi := 1000) r2_ (by decide +kernel))
          refine j_iload_n S dX1_worst_52 rfl (lv_at hl 2 rfl) ?_
          refine j_i2l S dX1_worst_53 (iv_i r2_ (by decide +kernel)) ?_
          refine j_iload_n S dX1_worst_54 rfl (lv_at hl 3 rfl) ?_
          refine j_csi (As := [jL (sp_wu w (H x) n), jL n, jI what]) S (c_X1_term l (sp_wu w (H x) n) n what (iv_w r5_ (by decide +kernel)) (iv_w r2_ (by decide +kernel)) (iv_w r4_ (by decide +kernel))) (va_cwS 3 S.2.2.2.2 gX1_worst_X1_term rfl rfl rfl hdX1_term ⟨Nat.le_of_ble_eq_true rfl, Nat.le_of_ble_eq_true rfl⟩) [] rfl rfl hl.1 (Nat.le_of_ble_eq_true rfl) ⟨Nat.zero_le _, Nat.zero_le _⟩ dX1_worst_55 (fun i55 q55 => ?_)
          subst q55
          exact hret (sp_lt (sp_wu w (H x) n) n what) 58 _ (by unfold sp_worst; (repeat' split) <;> first | omega | rfl) dX1_worst_58
        · have r6_ : 2 ≤ what ∧ what ≤ 2 := by omega
          refine lv_aload_n S.1 S.2.1 dX1_worst_37 rfl (lv_at hl 0 rfl) ?_
          refine j_iload_n S dX1_worst_38 rfl (lv_at hl 1 rfl) ?_
          refine j_iload_n S dX1_worst_39 rfl (lv_at hl 2 rfl) ?_
          refine j_cvi (As := [jI x, jI n]) (ci := 1) S (c_X1_exact l D h a0 a1 a2 a3 cA H T E F cc gc w d v hok x n (iv_w r1_ (by decide +kernel)) (iv_w r2_ (by decide +kernel)) (by omega)) (cwV 2 S.2.2.2.2 gX1_worst_X1_exact rfl rfl rfl ⟨rfl, hdX1_exact⟩ ⟨Nat.le_of_ble_eq_true rfl, Nat.le_of_ble_eq_true rfl⟩) hK hP rfl rfl rfl [] rfl rfl hl.1 (Nat.le_of_ble_eq_true rfl) ⟨Nat.zero_le _, Nat.zero_le _⟩ dX1_worst_40 (fun i40 q40 => ?_)
          subst q40
          refine j_goto (tgt := 58) S dX1_worst_43 (by decide) ?_
          exact hret (sp_xf w (H x) n n) 58 _ (by unfold sp_worst; (repeat' split) <;> first | omega | rfl) dX1_worst_58
      · refine j_bipush S dX1_worst_29 (by decide) ?_
        exact hret (-2) 31 _ (by unfold sp_worst; (repeat' split) <;> first | omega | rfl) dX1_worst_31
  · refine j_iconst S dX1_worst_8 ?_
    exact hret (-1) 9 _ (by unfold sp_worst; (repeat' split) <;> first | omega | rfl) dX1_worst_9
abbrev rmX1_best : Room := { frames := 3, cells := 0, slots := 0, locals := 73 }
theorem hdX1_best : yX1_best.cls ≠ "java/lang/invoke/MethodHandle" ∧ yX1_best.cls ≠ "java/lang/invoke/VarHandle" ∧ (parseMethodDescriptor yX1_best.desc).map (fun d => d.parameters.length) = some 1 := by decide +kernel
set_option maxHeartbeats 4000000 in
set_option maxRecDepth 100000 in
theorem c_X1_best (l : Launch) (D : va_G) (h a0 a1 a2 a3 : Nat) (cA : ClassId) (H T E F : Int → Int) (cc gc w d v : Int) (hok : SOK H T E cc gc w d v) (n : Int) (hn : inI n) : MI l yX1_best wsX1_best rmX1_best [.ref h, jI n] (WB D (MW h a0 a1 a2 a3 cA H T E F cc gc w d v) cA) (fun rR => rR = sp_best w cc H n) := by
  refine MI_of (cc := cX1_best) (maxL := 4) (by decide) rfl (Nat.le_of_ble_eq_true rfl) ?_
  intro pP eE sS mM aA bL mT cC QQ ls S hret ⟨hP, hK⟩ hl
  obtain ⟨hcc, hgc, hw, hd, hv, hH, hT, hE⟩ := id hok
  have hin : ∀ w ∈ wsX10, w ∈ wsX1_best := fun w hw => List.mem_cons_of_mem _ (List.mem_append_right _ hw)
  have hl : lv_has ls 4 [(0, .ref h), (1, jI n)] := hl
  refine j_iload_n S dX1_best_0 rfl (lv_at hl 1 rfl) ?_
  refine j_csi (As := [jI n]) S (c_X1_isParts l n (iv_w hn (by decide +kernel))) (va_cwS 1 S.2.2.2.2 gX1_best_X1_isParts rfl rfl rfl hdX1_isParts ⟨Nat.le_of_ble_eq_true rfl, Nat.le_of_ble_eq_true rfl⟩) [] rfl rfl hl.1 (Nat.le_of_ble_eq_true rfl) ⟨Nat.zero_le _, Nat.zero_le _⟩ dX1_best_1 (fun i1 q1 => ?_)
  subst q1
  refine j_ifb_ne (tgt := 10) S dX1_best_4 (by decide) (fun c4 => ?_) (fun c4 => ?_)
  · have r1_ : 2 ≤ n ∧ n ≤ 1000 := by omega
    refine lv_aload_n S.1 S.2.1 dX1_best_10 rfl (lv_at hl 0 rfl) ?_
    refine j_get (v := jI cc) S hin hK hP rfl rfl 1 (by decide) (List.mem_of_getElem? (i := 1) rfl) rfl dX1_best_11 ?_
    refine j_if_ne (tgt := 20) S dX1_best_14 (by decide) (iv_i hcc (by decide +kernel)) (fun c14 => ?_) (fun c14 => ?_)
    · have r2_ : 1 ≤ cc ∧ cc ≤ 8 := by omega
      refine j_iconst S dX1_best_20 ?_
      refine j_istore_n (lv' := [(2, jI 0), (0, .ref h), (1, jI n)]) S dX1_best_21 rfl hl (by decide) rfl (fun ls hl => ?_)
      refine j_iconst S dX1_best_22 ?_
      refine j_istore_n (lv' := [(3, jI 1), (2, jI 0), (0, .ref h), (1, jI n)]) S dX1_best_23 rfl hl (by decide) rfl (fun ls hl => ?_)
      have loop24 : ∀ (N : Nat) (b k : Int) (ls : Array Slot), (1 ≤ k ∧ k ≤ 8) → (k ≤ cc) → (b = sp_bs w H n k) → (0 ≤ b ∧ b ≤ 7) → (b < k) → cc - k < (N : Int) → lv_has ls 4 [(3, jI k), (2, jI b), (0, .ref h), (1, jI n)] → W pP l eE rmX1_best sS mM aA bL mT cC sS.heap [] 0 0 QQ (F0 mM 24 ls []) := by
        intro N
        induction N with
        | zero =>
          intro b k ls hk hk2 hb hbi hbk hN
          exact absurd hN (by omega)
        | succ N ih24 =>
          intro b k ls hk hk2 hb hbi hbk hN hl
          refine j_iload_n S dX1_best_24 rfl (lv_at hl 0 rfl) ?_
          refine lv_aload_n S.1 S.2.1 dX1_best_25 rfl (lv_at hl 2 rfl) ?_
          refine j_get (v := jI cc) S hin hK hP rfl rfl 1 (by decide) (List.mem_of_getElem? (i := 1) rfl) rfl dX1_best_26 ?_
          refine j_icmp_ge (tgt := 76) S dX1_best_29 (by decide) (iv_i hk (by decide +kernel)) (iv_i r2_ (by decide +kernel)) (fun c29 => ?_) (fun c29 => ?_)
          · refine j_iload_n S dX1_best_76 rfl (lv_at hl 1 rfl) ?_
            exact hret b 77 _ (by unfold sp_best; (repeat' split) <;> first | omega | (rw [hb, show k = cc from by omega])) dX1_best_77
          · have r3_ : 1 ≤ k ∧ k ≤ 7 := by omega
            have r4_ : 2 ≤ cc ∧ cc ≤ 8 := by omega
            refine lv_aload_n S.1 S.2.1 dX1_best_32 rfl (lv_at hl 2 rfl) ?_
            refine j_iload_n S dX1_best_33 rfl (lv_at hl 0 rfl) ?_
            refine j_iload_n S dX1_best_34 rfl (lv_at hl 3 rfl) ?_
            refine j_cvl (As := [jI k, jI n]) (ci := 1) S (c_X1_worstOf l D h a0 a1 a2 a3 cA H T E F cc gc w d v hok k n (iv_w r3_ (by decide +kernel)) (iv_w r1_ (by decide +kernel)) (by omega)) (cwV 2 S.2.2.2.2 gX1_best_X1_worstOf rfl rfl rfl ⟨rfl, hdX1_worstOf⟩ ⟨Nat.le_of_ble_eq_true rfl, Nat.le_of_ble_eq_true rfl⟩) hK hP rfl rfl rfl [] rfl rfl hl.1 (Nat.le_of_ble_eq_true rfl) ⟨Nat.zero_le _, Nat.zero_le _⟩ dX1_best_35 (fun i35 q35 => ?_)
            subst q35
            have r5_ : 0 ≤ (sp_wu w (H k) n) ∧ (sp_wu w (H k) n) ≤ 500 := sp_wu_iv (iv_w (lo := 2) (hi := 1000) r1_ (by decide +kernel))
            refine lv_aload_n S.1 S.2.1 dX1_best_38 rfl (lv_at hl 2 rfl) ?_
            refine j_get (v := .ref a0) S hin hK hP rfl rfl 2 (by decide) (List.mem_of_getElem? (i := 2) rfl) rfl dX1_best_39 ?_
            refine j_iload_n S dX1_best_42 rfl (lv_at hl 1 rfl) ?_
            refine j_iald S hK hP 1 0 rfl rfl (iv_ix (n := 8) hbi (by decide +kernel)) dX1_best_43 ?_
            have r6_ := hH b (by omega) (by omega)
            refine j_i2l S dX1_best_44 (iv_i r6_ (by decide +kernel)) ?_
            refine j_lmul S dX1_best_45 ?_
            refine lv_aload_n S.1 S.2.1 dX1_best_46 rfl (lv_at hl 2 rfl) ?_
            refine j_iload_n S dX1_best_47 rfl (lv_at hl 1 rfl) ?_
            refine j_iload_n S dX1_best_48 rfl (lv_at hl 3 rfl) ?_
            refine j_cvl (As := [jI b, jI n]) (ci := 1) S (c_X1_worstOf l D h a0 a1 a2 a3 cA H T E F cc gc w d v hok b n (iv_w hbi (by decide +kernel)) (iv_w r1_ (by decide +kernel)) (by omega)) (cwV 2 S.2.2.2.2 gX1_best_X1_worstOf rfl rfl rfl ⟨rfl, hdX1_worstOf⟩ ⟨Nat.le_of_ble_eq_true rfl, Nat.le_of_ble_eq_true rfl⟩) hK hP rfl rfl rfl [jL ((sp_wu w (H k) n) * (H b))] rfl rfl hl.1 (Nat.le_of_ble_eq_true rfl) ⟨Nat.zero_le _, Nat.zero_le _⟩ dX1_best_49 (fun i49 q49 => ?_)
            subst q49
            have r7_ : 0 ≤ (sp_wu w (H b) n) ∧ (sp_wu w (H b) n) ≤ 500 := sp_wu_iv (iv_w (lo := 2) (hi := 1000) r1_ (by decide +kernel))
            refine lv_aload_n S.1 S.2.1 dX1_best_52 rfl (lv_at hl 2 rfl) ?_
            refine j_get (v := .ref a0) S hin hK hP rfl rfl 2 (by decide) (List.mem_of_getElem? (i := 2) rfl) rfl dX1_best_53 ?_
            refine j_iload_n S dX1_best_56 rfl (lv_at hl 0 rfl) ?_
            refine j_iald S hK hP 1 0 rfl rfl (iv_ix (n := 8) r3_ (by decide +kernel)) dX1_best_57 ?_
            have r8_ := hH k (by omega) (by omega)
            refine j_i2l S dX1_best_58 (iv_i r8_ (by decide +kernel)) ?_
            refine j_lmul S dX1_best_59 ?_
            refine j_lcmp_ge (pc1 := 61) (tgt := 68) S rfl dX1_best_60 dX1_best_61 (by decide) (iv_l (iv_mulp (lo := 0) (hi := 60000) r5_ r6_ (by decide +kernel)) (by decide +kernel)) (iv_l (iv_mulp (lo := 0) (hi := 60000) r7_ r8_ (by decide +kernel)) (by decide +kernel)) (fun c60 => ?_) (fun c60 => ?_)
            · refine j_iload_n S dX1_best_68 rfl (lv_at hl 1 rfl) ?_
              refine j_istore_n (lv' := [(2, jI b), (3, jI k), (0, .ref h), (1, jI n)]) S dX1_best_69 rfl hl (by decide) rfl (fun ls hl => ?_)
              refine j_iinc (k := 1) (y := (k + 1)) (lv' := [(3, jI (k + 1)), (2, jI b), (0, .ref h), (1, jI n)]) S dX1_best_70 hl rfl rfl (by decide) rfl (fun ls hl => ?_)
              refine j_goto (tgt := 24) S dX1_best_73 (by decide) ?_
              exact ih24 b (k + 1) _ (by omega) (by omega) (by rw [sp_bs_s (by omega), ← hb]; split <;> omega) (by omega) (by omega) (by omega) (lv_sub hl [0, 1, 2, 3] rfl)
            · refine j_iload_n S dX1_best_64 rfl (lv_at hl 0 rfl) ?_
              refine j_goto (tgt := 69) S dX1_best_65 (by decide) ?_
              refine j_istore_n (lv' := [(2, jI k), (3, jI k), (0, .ref h), (1, jI n)]) S dX1_best_69 rfl hl (by decide) rfl (fun ls hl => ?_)
              refine j_iinc (k := 1) (y := (k + 1)) (lv' := [(3, jI (k + 1)), (2, jI k), (0, .ref h), (1, jI n)]) S dX1_best_70 hl rfl rfl (by decide) rfl (fun ls hl => ?_)
              refine j_goto (tgt := 24) S dX1_best_73 (by decide) ?_
              exact ih24 k (k + 1) _ (by omega) (by omega) (by rw [sp_bs_s (by omega), ← hb]; split <;> omega) (by omega) (by omega) (by omega) (lv_sub hl [0, 1, 2, 3] rfl)
      exact loop24 9 0 1 _ (by omega) (by omega) rfl (by omega) (by omega) (by omega) (lv_sub hl [0, 1, 2, 3] rfl)
    · have r9_ : 0 ≤ cc ∧ cc ≤ 0 := by omega
      refine j_bipush S dX1_best_17 (by decide) ?_
      exact hret (-3) 19 _ (by unfold sp_best; (repeat' split) <;> first | omega) dX1_best_19
  · refine j_bipush S dX1_best_7 (by decide) ?_
    exact hret (-2) 9 _ (by unfold sp_best; (repeat' split) <;> first | omega) dX1_best_9
