abbrev rmX0_wheel : Room := { frames := 1, cells := 0, slots := 0, locals := 22 }
theorem hdX0_wheel : yX0_wheel.cls ≠ "java/lang/invoke/MethodHandle" ∧ yX0_wheel.cls ≠ "java/lang/invoke/VarHandle" ∧ (parseMethodDescriptor yX0_wheel.desc).map (fun d => d.parameters.length) = some 1 := by decide +kernel
set_option maxHeartbeats 4000000 in
set_option maxRecDepth 100000 in
theorem c_X0_wheel (l : Launch) (D : va_G) (h a0 a1 a2 a3 : Nat) (cA : ClassId) (H T E F : Int → Int) (cc gc w d v : Int) (sz : Nat) (hok : SOK H T E cc gc w d v) (x : Int) (hx : inI x) : MMI l yX0_wheel wsX0_wheel rmX0_wheel [.ref h, jI x] D cA (XW h a0 a1 a2 a3 cA H T E F cc gc w d v) (fun u : Int => XW h a0 a1 a2 a3 cA H T E F cc gc u d v) sz (fun rR u => R_wheel w x rR u) := by
  refine MMI_of (cc := cX0_wheel) (maxL := 3) (Or.inl rfl) (by decide) rfl (Nat.le_of_ble_eq_true rfl) ?_
  intro pP eE sS mM aA bL mT cC QQ ls A S hret hP hK hD hS hA hl
  obtain ⟨hcc, hgc, hw, hd, hv, hH, hT, hE⟩ := id hok
  have hin : ∀ w ∈ wsX00, w ∈ wsX0_wheel := fun w hw => List.mem_cons_of_mem _ (List.mem_append_right _ hw)
  have hl : lv_has ls 3 [(0, .ref h), (1, jI x)] := hl
  refine j_iload_n S dX0_wheel_0 rfl (lv_at hl 1 rfl) ?_
  refine j_bipush S dX0_wheel_1 (by decide) ?_
  refine j_sipush S dX0_wheel_3 (by decide) ?_
  refine j_csi (As := [jI x, jI 10, jI 200]) S (c_X0_isOutside l x 10 200 (iv_w hx (by decide +kernel)) (iv_w (iv_n 10) (by decide +kernel)) (iv_w (iv_n 200) (by decide +kernel))) (va_cwS 3 S.2.2.2.2 gX0_wheel_X0_isOutside rfl rfl rfl hdX0_isOutside ⟨Nat.le_of_ble_eq_true rfl, Nat.le_of_ble_eq_true rfl⟩) [] rfl rfl hl.1 (Nat.le_of_ble_eq_true rfl) ⟨Nat.zero_le _, Nat.zero_le _⟩ dX0_wheel_6 (fun i6 q6 => ?_)
  subst q6
  refine j_ifb_eq (tgt := 15) S dX0_wheel_9 (by decide) (fun c9 => ?_) (fun c9 => ?_)
  · have r1_ : 10 ≤ x ∧ x ≤ 200 := by omega
    refine lv_aload_n S.1 S.2.1 dX0_wheel_15 rfl (lv_at hl 0 rfl) ?_
    refine j_get (v := jI w) S hin hK hP rfl rfl 6 (by decide) (List.mem_of_getElem? (i := 1) rfl) rfl dX0_wheel_16 ?_
    refine j_istore_n (lv' := [(2, jI w), (0, .ref h), (1, jI x)]) S dX0_wheel_19 rfl hl (by decide) rfl (fun ls hl => ?_)
    refine lv_aload_n S.1 S.2.1 dX0_wheel_20 rfl (lv_at hl 1 rfl) ?_
    refine j_iload_n S dX0_wheel_21 rfl (lv_at hl 2 rfl) ?_
    refine j_put (wx1 := (XW h a0 a1 a2 a3 cA H T E F cc gc x d v)) S hin tyX0 tyX0_ok nmX0 hK hP hD hS rfl rfl 6 (by decide) (List.mem_of_getElem? (i := 1) rfl) rfl (by decide +kernel) (Nat.le_of_ble_eq_true rfl) rfl dX0_wheel_22 (fun Hp lc hP hD hS => ?_)
    refine j_iload_n S dX0_wheel_25 rfl (lv_at hl 0 rfl) ?_
    exact hret w x _ _ 26 _ (fun q => by cases q) (by unfold R_wheel; omega) hP hD hS dX0_wheel_26
  · refine j_bipush S dX0_wheel_12 (by decide) ?_
    exact hret (-2) w _ _ 14 _ (fun q => by cases q) (by unfold R_wheel; omega) hP hD hS dX0_wheel_14
abbrev rmX0_gear : Room := { frames := 1, cells := 0, slots := 0, locals := 22 }
theorem hdX0_gear : yX0_gear.cls ≠ "java/lang/invoke/MethodHandle" ∧ yX0_gear.cls ≠ "java/lang/invoke/VarHandle" ∧ (parseMethodDescriptor yX0_gear.desc).map (fun d => d.parameters.length) = some 1 := by decide +kernel
set_option maxHeartbeats 4000000 in
set_option maxRecDepth 100000 in
theorem c_X0_gear (l : Launch) (D : va_G) (h a0 a1 a2 a3 : Nat) (cA : ClassId) (H T E F : Int → Int) (cc gc w d v : Int) (sz : Nat) (hok : SOK H T E cc gc w d v) (x : Int) (hx : inI x) : MMI l yX0_gear wsX0_gear rmX0_gear [.ref h, jI x] D cA (XW h a0 a1 a2 a3 cA H T E F cc gc w d v) (fun u : Int × (Int → Int) => XW h a0 a1 a2 a3 cA H u.2 E F cc u.1 w d v) sz (fun rR u => R_gear T gc x rR u.1 u.2) := by
  refine MMI_of (cc := cX0_gear) (maxL := 2) (Or.inl rfl) (by decide) rfl (Nat.le_of_ble_eq_true rfl) ?_
  intro pP eE sS mM aA bL mT cC QQ ls A S hret hP hK hD hS hA hl
  obtain ⟨hcc, hgc, hw, hd, hv, hH, hT, hE⟩ := id hok
  have hin : ∀ w ∈ wsX00, w ∈ wsX0_gear := fun w hw => List.mem_cons_of_mem _ (List.mem_append_right _ hw)
  have hl : lv_has ls 2 [(0, .ref h), (1, jI x)] := hl
  refine j_iload_n S dX0_gear_0 rfl (lv_at hl 1 rfl) ?_
  refine j_bipush S dX0_gear_1 (by decide) ?_
  refine j_bipush S dX0_gear_3 (by decide) ?_
  refine j_csi (As := [jI x, jI 12, jI 120]) S (c_X0_isOutside l x 12 120 (iv_w hx (by decide +kernel)) (iv_w (iv_n 12) (by decide +kernel)) (iv_w (iv_n 120) (by decide +kernel))) (va_cwS 3 S.2.2.2.2 gX0_gear_X0_isOutside rfl rfl rfl hdX0_isOutside ⟨Nat.le_of_ble_eq_true rfl, Nat.le_of_ble_eq_true rfl⟩) [] rfl rfl hl.1 (Nat.le_of_ble_eq_true rfl) ⟨Nat.zero_le _, Nat.zero_le _⟩ dX0_gear_5 (fun i5 q5 => ?_)
  subst q5
  refine j_ifb_eq (tgt := 14) S dX0_gear_8 (by decide) (fun c8 => ?_) (fun c8 => ?_)
  · have r1_ : 12 ≤ x ∧ x ≤ 120 := by omega
    refine lv_aload_n S.1 S.2.1 dX0_gear_14 rfl (lv_at hl 0 rfl) ?_
    refine j_get (v := jI gc) S hin hK hP rfl rfl 5 (by decide) (List.mem_of_getElem? (i := 1) rfl) rfl dX0_gear_15 ?_
    refine j_bipush S dX0_gear_18 (by decide) ?_
    refine j_icmp_lt (tgt := 26) S dX0_gear_20 (by decide) (iv_i hgc (by decide +kernel)) (iv_i (iv_n 10) (by decide +kernel)) (fun c20 => ?_) (fun c20 => ?_)
    · have r2_ : 0 ≤ gc ∧ gc ≤ 9 := by omega
      refine lv_aload_n S.1 S.2.1 dX0_gear_26 rfl (lv_at hl 0 rfl) ?_
      refine j_get (v := .ref a1) S hin hK hP rfl rfl 1 (by decide) (List.mem_of_getElem? (i := 2) rfl) rfl dX0_gear_27 ?_
      refine lv_aload_n S.1 S.2.1 dX0_gear_30 rfl (lv_at hl 0 rfl) ?_
      refine j_get (v := jI gc) S hin hK hP rfl rfl 5 (by decide) (List.mem_of_getElem? (i := 1) rfl) rfl dX0_gear_31 ?_
      refine j_iload_n S dX0_gear_34 rfl (lv_at hl 1 rfl) ?_
      refine j_iast (ws1 := (XW h a0 a1 a2 a3 cA H (jU T gc x) E F cc gc w d v)) S hK hP hD hS 2 0 rfl rfl (iv_ix (n := 10) r2_ (by decide +kernel)) rfl dX0_gear_35 (fun Hp lc hP hD hS => ?_)
      refine lv_aload_n S.1 S.2.1 dX0_gear_36 rfl (lv_at hl 0 rfl) ?_
      refine lv_dup S.1 S.2.1 dX0_gear_37 rfl ?_
      refine j_get (v := jI gc) S hin hK hP rfl rfl 5 (by decide) (List.mem_of_getElem? (i := 1) rfl) rfl dX0_gear_38 ?_
      refine j_iconst S dX0_gear_41 ?_
      refine j_iadd S dX0_gear_42 ?_
      refine j_put (wx1 := (XW h a0 a1 a2 a3 cA H (jU T gc x) E F cc (gc + 1) w d v)) S hin tyX0 tyX0_ok nmX0 hK hP hD hS rfl rfl 5 (by decide) (List.mem_of_getElem? (i := 1) rfl) rfl (by decide +kernel) (Nat.le_of_ble_eq_true rfl) rfl dX0_gear_43 (fun Hp lc hP hD hS => ?_)
      refine lv_aload_n S.1 S.2.1 dX0_gear_46 rfl (lv_at hl 0 rfl) ?_
      refine j_get (v := jI (gc + 1)) S hin hK hP rfl rfl 5 (by decide) (List.mem_of_getElem? (i := 1) rfl) rfl dX0_gear_47 ?_
      refine j_iconst S dX0_gear_50 ?_
      refine j_isub S dX0_gear_51 ?_
      exact hret ((gc + 1) - 1) ((gc + 1), (jU T gc x)) _ _ 52 _ (fun q => by cases q) (Or.inr (Or.inr ⟨by omega, by omega, by omega, rfl, rfl⟩)) hP hD hS dX0_gear_52
    · have r3_ : 10 ≤ gc ∧ gc ≤ 10 := by omega
      refine j_bipush S dX0_gear_23 (by decide) ?_
      exact hret (-4) (gc, T) _ _ 25 _ (fun q => by cases q) (Or.inr (Or.inl ⟨by omega, by omega, rfl, rfl, rfl⟩)) hP hD hS dX0_gear_25
  · refine j_bipush S dX0_gear_11 (by decide) ?_
    exact hret (-2) (gc, T) _ _ 13 _ (fun q => by cases q) (Or.inl ⟨by omega, rfl, rfl, rfl⟩) hP hD hS dX0_gear_13
abbrev rmX0_error : Room := { frames := 1, cells := 0, slots := 0, locals := 22 }
theorem hdX0_error : yX0_error.cls ≠ "java/lang/invoke/MethodHandle" ∧ yX0_error.cls ≠ "java/lang/invoke/VarHandle" ∧ (parseMethodDescriptor yX0_error.desc).map (fun d => d.parameters.length) = some 2 := by decide +kernel
set_option maxHeartbeats 4000000 in
set_option maxRecDepth 100000 in
theorem c_X0_error (l : Launch) (D : va_G) (h a0 a1 a2 a3 : Nat) (cA : ClassId) (H T E F : Int → Int) (cc gc w d v : Int) (sz : Nat) (hok : SOK H T E cc gc w d v) (k : Int) (x : Int) (hk : inI k) (hx : inI x) : MMI l yX0_error wsX0_error rmX0_error [.ref h, jI k, jI x] D cA (XW h a0 a1 a2 a3 cA H T E F cc gc w d v) (fun u : Int → Int => XW h a0 a1 a2 a3 cA H T u F cc gc w d v) sz (fun rR u => R_error E k x rR u) := by
  refine MMI_of (cc := cX0_error) (maxL := 4) (Or.inl rfl) (by decide) rfl (Nat.le_of_ble_eq_true rfl) ?_
  intro pP eE sS mM aA bL mT cC QQ ls A S hret hP hK hD hS hA hl
  obtain ⟨hcc, hgc, hw, hd, hv, hH, hT, hE⟩ := id hok
  have hin : ∀ w ∈ wsX00, w ∈ wsX0_error := fun w hw => List.mem_cons_of_mem _ (List.mem_append_right _ hw)
  have hl : lv_has ls 4 [(0, .ref h), (1, jI k), (2, jI x)] := hl
  refine j_iload_n S dX0_error_0 rfl (lv_at hl 1 rfl) ?_
  refine j_iconst S dX0_error_1 ?_
  refine j_bipush S dX0_error_2 (by decide) ?_
  refine j_csi (As := [jI k, jI 0, jI 7]) S (c_X0_isOutside l k 0 7 (iv_w hk (by decide +kernel)) (iv_w (iv_n 0) (by decide +kernel)) (iv_w (iv_n 7) (by decide +kernel))) (va_cwS 3 S.2.2.2.2 gX0_error_X0_isOutside rfl rfl rfl hdX0_isOutside ⟨Nat.le_of_ble_eq_true rfl, Nat.le_of_ble_eq_true rfl⟩) [] rfl rfl hl.1 (Nat.le_of_ble_eq_true rfl) ⟨Nat.zero_le _, Nat.zero_le _⟩ dX0_error_4 (fun i4 q4 => ?_)
  subst q4
  refine j_ifb_eq (tgt := 14) S dX0_error_7 (by decide) (fun c7 => ?_) (fun c7 => ?_)
  · have r1_ : 0 ≤ k ∧ k ≤ 7 := by omega
    refine j_iload_n S dX0_error_14 rfl (lv_at hl 2 rfl) ?_
    refine j_bipush S dX0_error_15 (by decide) ?_
    refine j_bipush S dX0_error_17 (by decide) ?_
    refine j_csi (As := [jI x, jI (-100), jI 100]) S (c_X0_isOutside l x (-100) 100 (iv_w hx (by decide +kernel)) (iv_w (iv_n (-100)) (by decide +kernel)) (iv_w (iv_n 100) (by decide +kernel))) (va_cwS 3 S.2.2.2.2 gX0_error_X0_isOutside rfl rfl rfl hdX0_isOutside ⟨Nat.le_of_ble_eq_true rfl, Nat.le_of_ble_eq_true rfl⟩) [] rfl rfl hl.1 (Nat.le_of_ble_eq_true rfl) ⟨Nat.zero_le _, Nat.zero_le _⟩ dX0_error_19 (fun i19 q19 => ?_)
    subst q19
    refine j_ifb_eq (tgt := 29) S dX0_error_22 (by decide) (fun c22 => ?_) (fun c22 => ?_)
    · have r2_ : (-100) ≤ x ∧ x ≤ 100 := by omega
      refine lv_aload_n S.1 S.2.1 dX0_error_29 rfl (lv_at hl 0 rfl) ?_
      refine j_get (v := .ref a2) S hin hK hP rfl rfl 2 (by decide) (List.mem_of_getElem? (i := 1) rfl) rfl dX0_error_30 ?_
      refine j_iload_n S dX0_error_33 rfl (lv_at hl 1 rfl) ?_
      refine j_iald S hK hP 3 0 rfl rfl (iv_ix (n := 8) r1_ (by decide +kernel)) dX0_error_34 ?_
      have r3_ := hE k (by omega) (by omega)
      refine j_istore_n (lv' := [(3, jI (E k)), (0, .ref h), (1, jI k), (2, jI x)]) S dX0_error_35 rfl hl (by decide) rfl (fun ls hl => ?_)
      refine lv_aload_n S.1 S.2.1 dX0_error_36 rfl (lv_at hl 1 rfl) ?_
      refine j_get (v := .ref a2) S hin hK hP rfl rfl 2 (by decide) (List.mem_of_getElem? (i := 1) rfl) rfl dX0_error_37 ?_
      refine j_iload_n S dX0_error_40 rfl (lv_at hl 2 rfl) ?_
      refine j_iload_n S dX0_error_41 rfl (lv_at hl 3 rfl) ?_
      refine j_iast (ws1 := (XW h a0 a1 a2 a3 cA H T (jU E k x) F cc gc w d v)) S hK hP hD hS 3 0 rfl rfl (iv_ix (n := 8) r1_ (by decide +kernel)) rfl dX0_error_42 (fun Hp lc hP hD hS => ?_)
      refine j_iload_n S dX0_error_43 rfl (lv_at hl 0 rfl) ?_
      exact hret (E k) (jU E k x) _ _ 44 _ (fun q => by cases q) (Or.inr (Or.inr ⟨by omega, by omega, rfl, rfl⟩)) hP hD hS dX0_error_44
    · refine j_sipush S dX0_error_25 (by decide) ?_
      exact hret (-1002) E _ _ 28 _ (fun q => by cases q) (Or.inr (Or.inl ⟨by omega, by omega, rfl, rfl⟩)) hP hD hS dX0_error_28
  · refine j_sipush S dX0_error_10 (by decide) ?_
    exact hret (-1001) E _ _ 13 _ (fun q => by cases q) (Or.inl ⟨by omega, rfl, rfl⟩) hP hD hS dX0_error_13
abbrev rmX0_vernier : Room := { frames := 1, cells := 0, slots := 0, locals := 22 }
theorem hdX0_vernier : yX0_vernier.cls ≠ "java/lang/invoke/MethodHandle" ∧ yX0_vernier.cls ≠ "java/lang/invoke/VarHandle" ∧ (parseMethodDescriptor yX0_vernier.desc).map (fun d => d.parameters.length) = some 2 := by decide +kernel
set_option maxHeartbeats 4000000 in
set_option maxRecDepth 100000 in
theorem c_X0_vernier (l : Launch) (D : va_G) (h a0 a1 a2 a3 : Nat) (cA : ClassId) (H T E F : Int → Int) (cc gc w d v : Int) (sz : Nat) (hok : SOK H T E cc gc w d v) (x : Int) (y : Int) (hx : inI x) (hy : inI y) : MMI l yX0_vernier wsX0_vernier rmX0_vernier [.ref h, jI x, jI y] D cA (XW h a0 a1 a2 a3 cA H T E F cc gc w d v) (fun u : Int × Int => XW h a0 a1 a2 a3 cA H T E F cc gc w u.1 u.2) sz (fun rR u => R_vernier d v x y rR u.1 u.2) := by
  refine MMI_of (cc := cX0_vernier) (maxL := 3) (Or.inl rfl) (by decide) rfl (Nat.le_of_ble_eq_true rfl) ?_
  intro pP eE sS mM aA bL mT cC QQ ls A S hret hP hK hD hS hA hl
  obtain ⟨hcc, hgc, hw, hd, hv, hH, hT, hE⟩ := id hok
  have hin : ∀ w ∈ wsX00, w ∈ wsX0_vernier := fun w hw => List.mem_cons_of_mem _ (List.mem_append_right _ hw)
  have hl : lv_has ls 3 [(0, .ref h), (1, jI x), (2, jI y)] := hl
  refine j_iload_n S dX0_vernier_0 rfl (lv_at hl 1 rfl) ?_
  refine j_iconst S dX0_vernier_1 ?_
  refine j_sipush S dX0_vernier_2 (by decide) ?_
  refine j_csi (As := [jI x, jI 2, jI 720]) S (c_X0_isOutside l x 2 720 (iv_w hx (by decide +kernel)) (iv_w (iv_n 2) (by decide +kernel)) (iv_w (iv_n 720) (by decide +kernel))) (va_cwS 3 S.2.2.2.2 gX0_vernier_X0_isOutside rfl rfl rfl hdX0_isOutside ⟨Nat.le_of_ble_eq_true rfl, Nat.le_of_ble_eq_true rfl⟩) [] rfl rfl hl.1 (Nat.le_of_ble_eq_true rfl) ⟨Nat.zero_le _, Nat.zero_le _⟩ dX0_vernier_5 (fun i5 q5 => ?_)
  subst q5
  refine j_ifb_ne (tgt := 21) S dX0_vernier_8 (by decide) (fun c8 => ?_) (fun c8 => ?_)
  · refine j_bipush S dX0_vernier_21 (by decide) ?_
    exact hret (-2) (d, v) _ _ 23 _ (fun q => by cases q) (Or.inr ⟨by omega, rfl, rfl, rfl⟩) hP hD hS dX0_vernier_23
  · have r1_ : 2 ≤ x ∧ x ≤ 720 := by omega
    refine j_iload_n S dX0_vernier_11 rfl (lv_at hl 2 rfl) ?_
    refine j_iconst S dX0_vernier_12 ?_
    refine j_bipush S dX0_vernier_13 (by decide) ?_
    refine j_csi (As := [jI y, jI 2, jI 60]) S (c_X0_isOutside l y 2 60 (iv_w hy (by decide +kernel)) (iv_w (iv_n 2) (by decide +kernel)) (iv_w (iv_n 60) (by decide +kernel))) (va_cwS 3 S.2.2.2.2 gX0_vernier_X0_isOutside rfl rfl rfl hdX0_isOutside ⟨Nat.le_of_ble_eq_true rfl, Nat.le_of_ble_eq_true rfl⟩) [] rfl rfl hl.1 (Nat.le_of_ble_eq_true rfl) ⟨Nat.zero_le _, Nat.zero_le _⟩ dX0_vernier_15 (fun i15 q15 => ?_)
    subst q15
    refine j_ifb_eq (tgt := 24) S dX0_vernier_18 (by decide) (fun c18 => ?_) (fun c18 => ?_)
    · have r2_ : 2 ≤ y ∧ y ≤ 60 := by omega
      refine lv_aload_n S.1 S.2.1 dX0_vernier_24 rfl (lv_at hl 0 rfl) ?_
      refine j_iload_n S dX0_vernier_25 rfl (lv_at hl 1 rfl) ?_
      refine j_put (wx1 := (XW h a0 a1 a2 a3 cA H T E F cc gc w x v)) S hin tyX0 tyX0_ok nmX0 hK hP hD hS rfl rfl 7 (by decide) (List.mem_of_getElem? (i := 1) rfl) rfl (by decide +kernel) (Nat.le_of_ble_eq_true rfl) rfl dX0_vernier_26 (fun Hp lc hP hD hS => ?_)
      refine lv_aload_n S.1 S.2.1 dX0_vernier_29 rfl (lv_at hl 0 rfl) ?_
      refine j_iload_n S dX0_vernier_30 rfl (lv_at hl 2 rfl) ?_
      refine j_put (wx1 := (XW h a0 a1 a2 a3 cA H T E F cc gc w x y)) S hin tyX0 tyX0_ok nmX0 hK hP hD hS rfl rfl 8 (by decide) (List.mem_of_getElem? (i := 2) rfl) rfl (by decide +kernel) (Nat.le_of_ble_eq_true rfl) rfl dX0_vernier_31 (fun Hp lc hP hD hS => ?_)
      refine j_iconst S dX0_vernier_34 ?_
      exact hret 1 (x, y) _ _ 35 _ (fun q => by cases q) (Or.inl ⟨by omega, rfl, rfl, rfl⟩) hP hD hS dX0_vernier_35
    · refine j_bipush S dX0_vernier_21 (by decide) ?_
      exact hret (-2) (d, v) _ _ 23 _ (fun q => by cases q) (Or.inr ⟨by omega, rfl, rfl, rfl⟩) hP hD hS dX0_vernier_23
abbrev rmX0_circle : Room := { frames := 1, cells := 0, slots := 0, locals := 22 }
theorem hdX0_circle : yX0_circle.cls ≠ "java/lang/invoke/MethodHandle" ∧ yX0_circle.cls ≠ "java/lang/invoke/VarHandle" ∧ (parseMethodDescriptor yX0_circle.desc).map (fun d => d.parameters.length) = some 1 := by decide +kernel
set_option maxHeartbeats 4000000 in
set_option maxRecDepth 100000 in
theorem c_X0_circle (l : Launch) (D : va_G) (h a0 a1 a2 a3 : Nat) (cA : ClassId) (H T E F : Int → Int) (cc gc w d v : Int) (sz : Nat) (hok : SOK H T E cc gc w d v) (x : Int) (hx : inI x) : MMI l yX0_circle wsX0_circle rmX0_circle [.ref h, jI x] D cA (XW h a0 a1 a2 a3 cA H T E F cc gc w d v) (fun u : Int × (Int → Int) => XW h a0 a1 a2 a3 cA u.2 T E F u.1 gc w d v) sz (fun rR u => R_circle H cc x rR u.1 u.2) := by
  refine MMI_of (cc := cX0_circle) (maxL := 2) (Or.inl rfl) (by decide) rfl (Nat.le_of_ble_eq_true rfl) ?_
  intro pP eE sS mM aA bL mT cC QQ ls A S hret hP hK hD hS hA hl
  obtain ⟨hcc, hgc, hw, hd, hv, hH, hT, hE⟩ := id hok
  have hin : ∀ w ∈ wsX00, w ∈ wsX0_circle := fun w hw => List.mem_cons_of_mem _ (List.mem_append_right _ hw)
  have hl : lv_has ls 2 [(0, .ref h), (1, jI x)] := hl
  refine j_iload_n S dX0_circle_0 rfl (lv_at hl 1 rfl) ?_
  refine j_iconst S dX0_circle_1 ?_
  refine j_bipush S dX0_circle_2 (by decide) ?_
  refine j_csi (As := [jI x, jI 5, jI 120]) S (c_X0_isOutside l x 5 120 (iv_w hx (by decide +kernel)) (iv_w (iv_n 5) (by decide +kernel)) (iv_w (iv_n 120) (by decide +kernel))) (va_cwS 3 S.2.2.2.2 gX0_circle_X0_isOutside rfl rfl rfl hdX0_isOutside ⟨Nat.le_of_ble_eq_true rfl, Nat.le_of_ble_eq_true rfl⟩) [] rfl rfl hl.1 (Nat.le_of_ble_eq_true rfl) ⟨Nat.zero_le _, Nat.zero_le _⟩ dX0_circle_4 (fun i4 q4 => ?_)
  subst q4
  refine j_ifb_eq (tgt := 13) S dX0_circle_7 (by decide) (fun c7 => ?_) (fun c7 => ?_)
  · have r1_ : 5 ≤ x ∧ x ≤ 120 := by omega
    refine lv_aload_n S.1 S.2.1 dX0_circle_13 rfl (lv_at hl 0 rfl) ?_
    refine j_get (v := jI cc) S hin hK hP rfl rfl 4 (by decide) (List.mem_of_getElem? (i := 1) rfl) rfl dX0_circle_14 ?_
    refine j_bipush S dX0_circle_17 (by decide) ?_
    refine j_icmp_lt (tgt := 25) S dX0_circle_19 (by decide) (iv_i hcc (by decide +kernel)) (iv_i (iv_n 8) (by decide +kernel)) (fun c19 => ?_) (fun c19 => ?_)
    · have r2_ : 0 ≤ cc ∧ cc ≤ 7 := by omega
      refine lv_aload_n S.1 S.2.1 dX0_circle_25 rfl (lv_at hl 0 rfl) ?_
      refine j_iload_n S dX0_circle_26 rfl (lv_at hl 1 rfl) ?_
      refine j_cvi (As := [jI x]) (ci := 0) S (c_X0_hasCircleOf l D h a0 a1 a2 a3 cA H T E F cc gc w d v hok x (iv_w r1_ (by decide +kernel))) (cwV 1 S.2.2.2.2 gX0_circle_X0_hasCircleOf rfl rfl rfl ⟨rfl, hdX0_hasCircleOf⟩ ⟨Nat.le_of_ble_eq_true rfl, Nat.le_of_ble_eq_true rfl⟩) hK hP rfl rfl rfl [] rfl rfl hl.1 (Nat.le_of_ble_eq_true rfl) ⟨Nat.zero_le _, Nat.zero_le _⟩ dX0_circle_27 (fun i27 q27 => ?_)
      subst q27
      refine j_ifb_eq (tgt := 36) S dX0_circle_30 (by decide) (fun c30 => ?_) (fun c30 => ?_)
      · refine lv_aload_n S.1 S.2.1 dX0_circle_36 rfl (lv_at hl 0 rfl) ?_
        refine j_get (v := .ref a0) S hin hK hP rfl rfl 0 (by decide) (List.mem_of_getElem? (i := 2) rfl) rfl dX0_circle_37 ?_
        refine lv_aload_n S.1 S.2.1 dX0_circle_40 rfl (lv_at hl 0 rfl) ?_
        refine j_get (v := jI cc) S hin hK hP rfl rfl 4 (by decide) (List.mem_of_getElem? (i := 1) rfl) rfl dX0_circle_41 ?_
        refine j_iload_n S dX0_circle_44 rfl (lv_at hl 1 rfl) ?_
        refine j_iast (ws1 := (XW h a0 a1 a2 a3 cA (jU H cc x) T E F cc gc w d v)) S hK hP hD hS 1 0 rfl rfl (iv_ix (n := 8) r2_ (by decide +kernel)) rfl dX0_circle_45 (fun Hp lc hP hD hS => ?_)
        refine lv_aload_n S.1 S.2.1 dX0_circle_46 rfl (lv_at hl 0 rfl) ?_
        refine lv_dup S.1 S.2.1 dX0_circle_47 rfl ?_
        refine j_get (v := jI cc) S hin hK hP rfl rfl 4 (by decide) (List.mem_of_getElem? (i := 1) rfl) rfl dX0_circle_48 ?_
        refine j_iconst S dX0_circle_51 ?_
        refine j_iadd S dX0_circle_52 ?_
        refine j_put (wx1 := (XW h a0 a1 a2 a3 cA (jU H cc x) T E F (cc + 1) gc w d v)) S hin tyX0 tyX0_ok nmX0 hK hP hD hS rfl rfl 4 (by decide) (List.mem_of_getElem? (i := 1) rfl) rfl (by decide +kernel) (Nat.le_of_ble_eq_true rfl) rfl dX0_circle_53 (fun Hp lc hP hD hS => ?_)
        refine lv_aload_n S.1 S.2.1 dX0_circle_56 rfl (lv_at hl 0 rfl) ?_
        refine j_get (v := jI (cc + 1)) S hin hK hP rfl rfl 4 (by decide) (List.mem_of_getElem? (i := 1) rfl) rfl dX0_circle_57 ?_
        refine j_iconst S dX0_circle_60 ?_
        refine j_isub S dX0_circle_61 ?_
        exact hret ((cc + 1) - 1) ((cc + 1), (jU H cc x)) _ _ 62 _ (fun q => by cases q) (Or.inr (Or.inr (Or.inr ⟨by omega, by omega, c30, by omega, rfl, rfl⟩))) hP hD hS dX0_circle_62
      · refine j_bipush S dX0_circle_33 (by decide) ?_
        exact hret (-5) (cc, H) _ _ 35 _ (fun q => by cases q) (Or.inr (Or.inr (Or.inl ⟨by omega, by omega, c30, rfl, rfl, rfl⟩))) hP hD hS dX0_circle_35
    · have r3_ : 8 ≤ cc ∧ cc ≤ 8 := by omega
      refine j_bipush S dX0_circle_22 (by decide) ?_
      exact hret (-4) (cc, H) _ _ 24 _ (fun q => by cases q) (Or.inr (Or.inl ⟨by omega, by omega, rfl, rfl, rfl⟩)) hP hD hS dX0_circle_24
  · refine j_bipush S dX0_circle_10 (by decide) ?_
    exact hret (-2) (cc, H) _ _ 12 _ (fun q => by cases q) (Or.inl ⟨by omega, rfl, rfl, rfl⟩) hP hD hS dX0_circle_12
abbrev rmX1_wheel : Room := { frames := 1, cells := 0, slots := 0, locals := 25 }
theorem hdX1_wheel : yX1_wheel.cls ≠ "java/lang/invoke/MethodHandle" ∧ yX1_wheel.cls ≠ "java/lang/invoke/VarHandle" ∧ (parseMethodDescriptor yX1_wheel.desc).map (fun d => d.parameters.length) = some 1 := by decide +kernel
set_option maxHeartbeats 4000000 in
set_option maxRecDepth 100000 in
theorem c_X1_wheel (l : Launch) (D : va_G) (h a0 a1 a2 a3 : Nat) (cA : ClassId) (H T E F : Int → Int) (cc gc w d v : Int) (sz : Nat) (hok : SOK H T E cc gc w d v) (x : Int) (hx : inI x) : MMI l yX1_wheel wsX1_wheel rmX1_wheel [.ref h, jI x] D cA (MW h a0 a1 a2 a3 cA H T E F cc gc w d v) (fun u : Int => MW h a0 a1 a2 a3 cA H T E F cc gc u d v) sz (fun rR u => R_wheel w x rR u) := by
  refine MMI_of (cc := cX1_wheel) (maxL := 3) (Or.inl rfl) (by decide) rfl (Nat.le_of_ble_eq_true rfl) ?_
  intro pP eE sS mM aA bL mT cC QQ ls A S hret hP hK hD hS hA hl
  obtain ⟨hcc, hgc, hw, hd, hv, hH, hT, hE⟩ := id hok
  have hin : ∀ w ∈ wsX10, w ∈ wsX1_wheel := fun w hw => List.mem_cons_of_mem _ (List.mem_append_right _ hw)
  have hl : lv_has ls 3 [(0, .ref h), (1, jI x)] := hl
  refine j_iload_n S dX1_wheel_0 rfl (lv_at hl 1 rfl) ?_
  refine j_i2l S dX1_wheel_1 (iv_i hx (by decide +kernel)) ?_
  refine j_ldc2 (n := 10) S (S.2.2.2.2 _ (List.mem_of_getElem? (i := 1) rfl)) (by decide) dX1_wheel_2 ?_
  refine j_ldc2 (n := 200) S (S.2.2.2.2 _ (List.mem_of_getElem? (i := 2) rfl)) (by decide) dX1_wheel_5 ?_
  refine j_csi (As := [jL x, jL 10, jL 200]) S (c_X1_in l x 10 200 (iv_w hx (by decide +kernel)) (iv_w (iv_n 10) (by decide +kernel)) (iv_w (iv_n 200) (by decide +kernel))) (va_cwS 3 S.2.2.2.2 gX1_wheel_X1_in rfl rfl rfl hdX1_in ⟨Nat.le_of_ble_eq_true rfl, Nat.le_of_ble_eq_true rfl⟩) [] rfl rfl hl.1 (Nat.le_of_ble_eq_true rfl) ⟨Nat.zero_le _, Nat.zero_le _⟩ dX1_wheel_8 (fun i8 q8 => ?_)
  subst q8
  refine j_ifb_ne (tgt := 17) S dX1_wheel_11 (by decide) (fun c11 => ?_) (fun c11 => ?_)
  · have r1_ : 10 ≤ x ∧ x ≤ 200 := by omega
    refine lv_aload_n S.1 S.2.1 dX1_wheel_17 rfl (lv_at hl 0 rfl) ?_
    refine j_get (v := jI w) S hin hK hP rfl rfl 0 (by decide) (List.mem_of_getElem? (i := 3) rfl) rfl dX1_wheel_18 ?_
    refine j_istore_n (lv' := [(2, jI w), (0, .ref h), (1, jI x)]) S dX1_wheel_21 rfl hl (by decide) rfl (fun ls hl => ?_)
    refine lv_aload_n S.1 S.2.1 dX1_wheel_22 rfl (lv_at hl 1 rfl) ?_
    refine j_iload_n S dX1_wheel_23 rfl (lv_at hl 2 rfl) ?_
    refine j_put (wx1 := (MW h a0 a1 a2 a3 cA H T E F cc gc x d v)) S hin tyX1 tyX1_ok nmX1 hK hP hD hS rfl rfl 0 (by decide) (List.mem_of_getElem? (i := 3) rfl) rfl (by decide +kernel) (Nat.le_of_ble_eq_true rfl) rfl dX1_wheel_24 (fun Hp lc hP hD hS => ?_)
    refine j_iload_n S dX1_wheel_27 rfl (lv_at hl 0 rfl) ?_
    exact hret w x _ _ 28 _ (fun q => by cases q) (by unfold R_wheel; omega) hP hD hS dX1_wheel_28
  · refine j_bipush S dX1_wheel_14 (by decide) ?_
    exact hret (-2) w _ _ 16 _ (fun q => by cases q) (by unfold R_wheel; omega) hP hD hS dX1_wheel_16
abbrev rmX1_gear : Room := { frames := 1, cells := 0, slots := 0, locals := 25 }
theorem hdX1_gear : yX1_gear.cls ≠ "java/lang/invoke/MethodHandle" ∧ yX1_gear.cls ≠ "java/lang/invoke/VarHandle" ∧ (parseMethodDescriptor yX1_gear.desc).map (fun d => d.parameters.length) = some 1 := by decide +kernel
set_option maxHeartbeats 4000000 in
set_option maxRecDepth 100000 in
theorem c_X1_gear (l : Launch) (D : va_G) (h a0 a1 a2 a3 : Nat) (cA : ClassId) (H T E F : Int → Int) (cc gc w d v : Int) (sz : Nat) (hok : SOK H T E cc gc w d v) (x : Int) (hx : inI x) : MMI l yX1_gear wsX1_gear rmX1_gear [.ref h, jI x] D cA (MW h a0 a1 a2 a3 cA H T E F cc gc w d v) (fun u : Int × (Int → Int) => MW h a0 a1 a2 a3 cA H u.2 E F cc u.1 w d v) sz (fun rR u => R_gear T gc x rR u.1 u.2) := by
  refine MMI_of (cc := cX1_gear) (maxL := 2) (Or.inl rfl) (by decide) rfl (Nat.le_of_ble_eq_true rfl) ?_
  intro pP eE sS mM aA bL mT cC QQ ls A S hret hP hK hD hS hA hl
  obtain ⟨hcc, hgc, hw, hd, hv, hH, hT, hE⟩ := id hok
  have hin : ∀ w ∈ wsX10, w ∈ wsX1_gear := fun w hw => List.mem_cons_of_mem _ (List.mem_append_right _ hw)
  have hl : lv_has ls 2 [(0, .ref h), (1, jI x)] := hl
  refine j_iload_n S dX1_gear_0 rfl (lv_at hl 1 rfl) ?_
  refine j_i2l S dX1_gear_1 (iv_i hx (by decide +kernel)) ?_
  refine j_ldc2 (n := 12) S (S.2.2.2.2 _ (List.mem_of_getElem? (i := 1) rfl)) (by decide) dX1_gear_2 ?_
  refine j_ldc2 (n := 120) S (S.2.2.2.2 _ (List.mem_of_getElem? (i := 2) rfl)) (by decide) dX1_gear_5 ?_
  refine j_csi (As := [jL x, jL 12, jL 120]) S (c_X1_in l x 12 120 (iv_w hx (by decide +kernel)) (iv_w (iv_n 12) (by decide +kernel)) (iv_w (iv_n 120) (by decide +kernel))) (va_cwS 3 S.2.2.2.2 gX1_gear_X1_in rfl rfl rfl hdX1_in ⟨Nat.le_of_ble_eq_true rfl, Nat.le_of_ble_eq_true rfl⟩) [] rfl rfl hl.1 (Nat.le_of_ble_eq_true rfl) ⟨Nat.zero_le _, Nat.zero_le _⟩ dX1_gear_8 (fun i8 q8 => ?_)
  subst q8
  refine j_ifb_ne (tgt := 17) S dX1_gear_11 (by decide) (fun c11 => ?_) (fun c11 => ?_)
  · have r1_ : 12 ≤ x ∧ x ≤ 120 := by omega
    refine lv_aload_n S.1 S.2.1 dX1_gear_17 rfl (lv_at hl 0 rfl) ?_
    refine j_get (v := jI gc) S hin hK hP rfl rfl 3 (by decide) (List.mem_of_getElem? (i := 3) rfl) rfl dX1_gear_18 ?_
    refine j_bipush S dX1_gear_21 (by decide) ?_
    refine j_icmp_ne (tgt := 29) S dX1_gear_23 (by decide) (iv_i hgc (by decide +kernel)) (iv_i (iv_n 10) (by decide +kernel)) (fun c23 => ?_) (fun c23 => ?_)
    · have r2_ : 0 ≤ gc ∧ gc ≤ 9 := by omega
      refine lv_aload_n S.1 S.2.1 dX1_gear_29 rfl (lv_at hl 0 rfl) ?_
      refine j_get (v := .ref a1) S hin hK hP rfl rfl 4 (by decide) (List.mem_of_getElem? (i := 4) rfl) rfl dX1_gear_30 ?_
      refine lv_aload_n S.1 S.2.1 dX1_gear_33 rfl (lv_at hl 0 rfl) ?_
      refine j_get (v := jI gc) S hin hK hP rfl rfl 3 (by decide) (List.mem_of_getElem? (i := 3) rfl) rfl dX1_gear_34 ?_
      refine j_iload_n S dX1_gear_37 rfl (lv_at hl 1 rfl) ?_
      refine j_iast (ws1 := (MW h a0 a1 a2 a3 cA H (jU T gc x) E F cc gc w d v)) S hK hP hD hS 2 0 rfl rfl (iv_ix (n := 10) r2_ (by decide +kernel)) rfl dX1_gear_38 (fun Hp lc hP hD hS => ?_)
      refine lv_aload_n S.1 S.2.1 dX1_gear_39 rfl (lv_at hl 0 rfl) ?_
      refine lv_dup S.1 S.2.1 dX1_gear_40 rfl ?_
      refine j_get (v := jI gc) S hin hK hP rfl rfl 3 (by decide) (List.mem_of_getElem? (i := 3) rfl) rfl dX1_gear_41 ?_
      refine j_iconst S dX1_gear_44 ?_
      refine j_iadd S dX1_gear_45 ?_
      refine j_put (wx1 := (MW h a0 a1 a2 a3 cA H (jU T gc x) E F cc (gc + 1) w d v)) S hin tyX1 tyX1_ok nmX1 hK hP hD hS rfl rfl 3 (by decide) (List.mem_of_getElem? (i := 3) rfl) rfl (by decide +kernel) (Nat.le_of_ble_eq_true rfl) rfl dX1_gear_46 (fun Hp lc hP hD hS => ?_)
      refine lv_aload_n S.1 S.2.1 dX1_gear_49 rfl (lv_at hl 0 rfl) ?_
      refine j_get (v := jI (gc + 1)) S hin hK hP rfl rfl 3 (by decide) (List.mem_of_getElem? (i := 3) rfl) rfl dX1_gear_50 ?_
      refine j_iconst S dX1_gear_53 ?_
      refine j_isub S dX1_gear_54 ?_
      exact hret ((gc + 1) - 1) ((gc + 1), (jU T gc x)) _ _ 55 _ (fun q => by cases q) (Or.inr (Or.inr ⟨by omega, by omega, by omega, rfl, rfl⟩)) hP hD hS dX1_gear_55
    · have r3_ : 10 ≤ gc ∧ gc ≤ 10 := by omega
      refine j_bipush S dX1_gear_26 (by decide) ?_
      exact hret (-4) (gc, T) _ _ 28 _ (fun q => by cases q) (Or.inr (Or.inl ⟨by omega, by omega, rfl, rfl, rfl⟩)) hP hD hS dX1_gear_28
  · refine j_bipush S dX1_gear_14 (by decide) ?_
    exact hret (-2) (gc, T) _ _ 16 _ (fun q => by cases q) (Or.inl ⟨by omega, rfl, rfl, rfl⟩) hP hD hS dX1_gear_16
abbrev rmX1_error : Room := { frames := 1, cells := 0, slots := 0, locals := 25 }
theorem hdX1_error : yX1_error.cls ≠ "java/lang/invoke/MethodHandle" ∧ yX1_error.cls ≠ "java/lang/invoke/VarHandle" ∧ (parseMethodDescriptor yX1_error.desc).map (fun d => d.parameters.length) = some 2 := by decide +kernel
set_option maxHeartbeats 4000000 in
set_option maxRecDepth 100000 in
theorem c_X1_error (l : Launch) (D : va_G) (h a0 a1 a2 a3 : Nat) (cA : ClassId) (H T E F : Int → Int) (cc gc w d v : Int) (sz : Nat) (hok : SOK H T E cc gc w d v) (k : Int) (x : Int) (hk : inI k) (hx : inI x) : MMI l yX1_error wsX1_error rmX1_error [.ref h, jI k, jI x] D cA (MW h a0 a1 a2 a3 cA H T E F cc gc w d v) (fun u : Int → Int => MW h a0 a1 a2 a3 cA H T u F cc gc w d v) sz (fun rR u => R_error E k x rR u) := by
  refine MMI_of (cc := cX1_error) (maxL := 4) (Or.inl rfl) (by decide) rfl (Nat.le_of_ble_eq_true rfl) ?_
  intro pP eE sS mM aA bL mT cC QQ ls A S hret hP hK hD hS hA hl
  obtain ⟨hcc, hgc, hw, hd, hv, hH, hT, hE⟩ := id hok
  have hin : ∀ w ∈ wsX10, w ∈ wsX1_error := fun w hw => List.mem_cons_of_mem _ (List.mem_append_right _ hw)
  have hl : lv_has ls 4 [(0, .ref h), (1, jI k), (2, jI x)] := hl
  refine j_iload_n S dX1_error_0 rfl (lv_at hl 1 rfl) ?_
  refine j_i2l S dX1_error_1 (iv_i hk (by decide +kernel)) ?_
  refine j_lconst (a := 0) S dX1_error_2 rfl ?_
  refine j_ldc2 (n := 7) S (S.2.2.2.2 _ (List.mem_of_getElem? (i := 1) rfl)) (by decide) dX1_error_3 ?_
  refine j_csi (As := [jL k, jL 0, jL 7]) S (c_X1_in l k 0 7 (iv_w hk (by decide +kernel)) (iv_w (iv_n 0) (by decide +kernel)) (iv_w (iv_n 7) (by decide +kernel))) (va_cwS 3 S.2.2.2.2 gX1_error_X1_in rfl rfl rfl hdX1_in ⟨Nat.le_of_ble_eq_true rfl, Nat.le_of_ble_eq_true rfl⟩) [] rfl rfl hl.1 (Nat.le_of_ble_eq_true rfl) ⟨Nat.zero_le _, Nat.zero_le _⟩ dX1_error_6 (fun i6 q6 => ?_)
  subst q6
  refine j_ifb_ne (tgt := 16) S dX1_error_9 (by decide) (fun c9 => ?_) (fun c9 => ?_)
  · have r1_ : 0 ≤ k ∧ k ≤ 7 := by omega
    refine j_iload_n S dX1_error_16 rfl (lv_at hl 2 rfl) ?_
    refine j_i2l S dX1_error_17 (iv_i hx (by decide +kernel)) ?_
    refine j_ldc2 (n := (-100)) S (S.2.2.2.2 _ (List.mem_of_getElem? (i := 2) rfl)) (by decide) dX1_error_18 ?_
    refine j_ldc2 (n := 100) S (S.2.2.2.2 _ (List.mem_of_getElem? (i := 3) rfl)) (by decide) dX1_error_21 ?_
    refine j_csi (As := [jL x, jL (-100), jL 100]) S (c_X1_in l x (-100) 100 (iv_w hx (by decide +kernel)) (iv_w (iv_n (-100)) (by decide +kernel)) (iv_w (iv_n 100) (by decide +kernel))) (va_cwS 3 S.2.2.2.2 gX1_error_X1_in rfl rfl rfl hdX1_in ⟨Nat.le_of_ble_eq_true rfl, Nat.le_of_ble_eq_true rfl⟩) [] rfl rfl hl.1 (Nat.le_of_ble_eq_true rfl) ⟨Nat.zero_le _, Nat.zero_le _⟩ dX1_error_24 (fun i24 q24 => ?_)
    subst q24
    refine j_ifb_ne (tgt := 34) S dX1_error_27 (by decide) (fun c27 => ?_) (fun c27 => ?_)
    · have r2_ : (-100) ≤ x ∧ x ≤ 100 := by omega
      refine lv_aload_n S.1 S.2.1 dX1_error_34 rfl (lv_at hl 0 rfl) ?_
      refine j_get (v := .ref a2) S hin hK hP rfl rfl 5 (by decide) (List.mem_of_getElem? (i := 4) rfl) rfl dX1_error_35 ?_
      refine j_iload_n S dX1_error_38 rfl (lv_at hl 1 rfl) ?_
      refine j_iald S hK hP 3 0 rfl rfl (iv_ix (n := 8) r1_ (by decide +kernel)) dX1_error_39 ?_
      have r3_ := hE k (by omega) (by omega)
      refine j_istore_n (lv' := [(3, jI (E k)), (0, .ref h), (1, jI k), (2, jI x)]) S dX1_error_40 rfl hl (by decide) rfl (fun ls hl => ?_)
      refine lv_aload_n S.1 S.2.1 dX1_error_41 rfl (lv_at hl 1 rfl) ?_
      refine j_get (v := .ref a2) S hin hK hP rfl rfl 5 (by decide) (List.mem_of_getElem? (i := 4) rfl) rfl dX1_error_42 ?_
      refine j_iload_n S dX1_error_45 rfl (lv_at hl 2 rfl) ?_
      refine j_iload_n S dX1_error_46 rfl (lv_at hl 3 rfl) ?_
      refine j_iast (ws1 := (MW h a0 a1 a2 a3 cA H T (jU E k x) F cc gc w d v)) S hK hP hD hS 3 0 rfl rfl (iv_ix (n := 8) r1_ (by decide +kernel)) rfl dX1_error_47 (fun Hp lc hP hD hS => ?_)
      refine j_iload_n S dX1_error_48 rfl (lv_at hl 0 rfl) ?_
      exact hret (E k) (jU E k x) _ _ 49 _ (fun q => by cases q) (Or.inr (Or.inr ⟨by omega, by omega, rfl, rfl⟩)) hP hD hS dX1_error_49
    · refine j_sipush S dX1_error_30 (by decide) ?_
      exact hret (-1002) E _ _ 33 _ (fun q => by cases q) (Or.inr (Or.inl ⟨by omega, by omega, rfl, rfl⟩)) hP hD hS dX1_error_33
  · refine j_sipush S dX1_error_12 (by decide) ?_
    exact hret (-1001) E _ _ 15 _ (fun q => by cases q) (Or.inl ⟨by omega, rfl, rfl⟩) hP hD hS dX1_error_15
abbrev rmX1_vernier : Room := { frames := 1, cells := 0, slots := 0, locals := 25 }
theorem hdX1_vernier : yX1_vernier.cls ≠ "java/lang/invoke/MethodHandle" ∧ yX1_vernier.cls ≠ "java/lang/invoke/VarHandle" ∧ (parseMethodDescriptor yX1_vernier.desc).map (fun d => d.parameters.length) = some 2 := by decide +kernel
set_option maxHeartbeats 4000000 in
set_option maxRecDepth 100000 in
theorem c_X1_vernier (l : Launch) (D : va_G) (h a0 a1 a2 a3 : Nat) (cA : ClassId) (H T E F : Int → Int) (cc gc w d v : Int) (sz : Nat) (hok : SOK H T E cc gc w d v) (x : Int) (y : Int) (hx : inI x) (hy : inI y) : MMI l yX1_vernier wsX1_vernier rmX1_vernier [.ref h, jI x, jI y] D cA (MW h a0 a1 a2 a3 cA H T E F cc gc w d v) (fun u : Int × Int => MW h a0 a1 a2 a3 cA H T E F cc gc w u.1 u.2) sz (fun rR u => R_vernier d v x y rR u.1 u.2) := by
  refine MMI_of (cc := cX1_vernier) (maxL := 3) (Or.inl rfl) (by decide) rfl (Nat.le_of_ble_eq_true rfl) ?_
  intro pP eE sS mM aA bL mT cC QQ ls A S hret hP hK hD hS hA hl
  obtain ⟨hcc, hgc, hw, hd, hv, hH, hT, hE⟩ := id hok
  have hin : ∀ w ∈ wsX10, w ∈ wsX1_vernier := fun w hw => List.mem_cons_of_mem _ (List.mem_append_right _ hw)
  have hl : lv_has ls 3 [(0, .ref h), (1, jI x), (2, jI y)] := hl
  refine j_iload_n S dX1_vernier_0 rfl (lv_at hl 1 rfl) ?_
  refine j_i2l S dX1_vernier_1 (iv_i hx (by decide +kernel)) ?_
  refine j_ldc2 (n := 2) S (S.2.2.2.2 _ (List.mem_of_getElem? (i := 1) rfl)) (by decide) dX1_vernier_2 ?_
  refine j_ldc2 (n := 720) S (S.2.2.2.2 _ (List.mem_of_getElem? (i := 2) rfl)) (by decide) dX1_vernier_5 ?_
  refine j_csi (As := [jL x, jL 2, jL 720]) S (c_X1_in l x 2 720 (iv_w hx (by decide +kernel)) (iv_w (iv_n 2) (by decide +kernel)) (iv_w (iv_n 720) (by decide +kernel))) (va_cwS 3 S.2.2.2.2 gX1_vernier_X1_in rfl rfl rfl hdX1_in ⟨Nat.le_of_ble_eq_true rfl, Nat.le_of_ble_eq_true rfl⟩) [] rfl rfl hl.1 (Nat.le_of_ble_eq_true rfl) ⟨Nat.zero_le _, Nat.zero_le _⟩ dX1_vernier_8 (fun i8 q8 => ?_)
  subst q8
  refine j_ifb_eq (tgt := 28) S dX1_vernier_11 (by decide) (fun c11 => ?_) (fun c11 => ?_)
  · refine j_bipush S dX1_vernier_28 (by decide) ?_
    exact hret (-2) (d, v) _ _ 30 _ (fun q => by cases q) (Or.inr ⟨by omega, rfl, rfl, rfl⟩) hP hD hS dX1_vernier_30
  · have r1_ : 2 ≤ x ∧ x ≤ 720 := by omega
    refine j_iload_n S dX1_vernier_14 rfl (lv_at hl 2 rfl) ?_
    refine j_i2l S dX1_vernier_15 (iv_i hy (by decide +kernel)) ?_
    refine j_ldc2 (n := 2) S (S.2.2.2.2 _ (List.mem_of_getElem? (i := 1) rfl)) (by decide) dX1_vernier_16 ?_
    refine j_ldc2 (n := 60) S (S.2.2.2.2 _ (List.mem_of_getElem? (i := 3) rfl)) (by decide) dX1_vernier_19 ?_
    refine j_csi (As := [jL y, jL 2, jL 60]) S (c_X1_in l y 2 60 (iv_w hy (by decide +kernel)) (iv_w (iv_n 2) (by decide +kernel)) (iv_w (iv_n 60) (by decide +kernel))) (va_cwS 3 S.2.2.2.2 gX1_vernier_X1_in rfl rfl rfl hdX1_in ⟨Nat.le_of_ble_eq_true rfl, Nat.le_of_ble_eq_true rfl⟩) [] rfl rfl hl.1 (Nat.le_of_ble_eq_true rfl) ⟨Nat.zero_le _, Nat.zero_le _⟩ dX1_vernier_22 (fun i22 q22 => ?_)
    subst q22
    refine j_ifb_ne (tgt := 31) S dX1_vernier_25 (by decide) (fun c25 => ?_) (fun c25 => ?_)
    · have r2_ : 2 ≤ y ∧ y ≤ 60 := by omega
      refine lv_aload_n S.1 S.2.1 dX1_vernier_31 rfl (lv_at hl 0 rfl) ?_
      refine j_iload_n S dX1_vernier_32 rfl (lv_at hl 1 rfl) ?_
      refine j_put (wx1 := (MW h a0 a1 a2 a3 cA H T E F cc gc w x v)) S hin tyX1 tyX1_ok nmX1 hK hP hD hS rfl rfl 6 (by decide) (List.mem_of_getElem? (i := 4) rfl) rfl (by decide +kernel) (Nat.le_of_ble_eq_true rfl) rfl dX1_vernier_33 (fun Hp lc hP hD hS => ?_)
      refine lv_aload_n S.1 S.2.1 dX1_vernier_36 rfl (lv_at hl 0 rfl) ?_
      refine j_iload_n S dX1_vernier_37 rfl (lv_at hl 2 rfl) ?_
      refine j_put (wx1 := (MW h a0 a1 a2 a3 cA H T E F cc gc w x y)) S hin tyX1 tyX1_ok nmX1 hK hP hD hS rfl rfl 7 (by decide) (List.mem_of_getElem? (i := 5) rfl) rfl (by decide +kernel) (Nat.le_of_ble_eq_true rfl) rfl dX1_vernier_38 (fun Hp lc hP hD hS => ?_)
      refine j_iconst S dX1_vernier_41 ?_
      exact hret 1 (x, y) _ _ 42 _ (fun q => by cases q) (Or.inl ⟨by omega, rfl, rfl, rfl⟩) hP hD hS dX1_vernier_42
    · refine j_bipush S dX1_vernier_28 (by decide) ?_
      exact hret (-2) (d, v) _ _ 30 _ (fun q => by cases q) (Or.inr ⟨by omega, rfl, rfl, rfl⟩) hP hD hS dX1_vernier_30
abbrev rmX1_circle : Room := { frames := 1, cells := 0, slots := 0, locals := 25 }
theorem hdX1_circle : yX1_circle.cls ≠ "java/lang/invoke/MethodHandle" ∧ yX1_circle.cls ≠ "java/lang/invoke/VarHandle" ∧ (parseMethodDescriptor yX1_circle.desc).map (fun d => d.parameters.length) = some 1 := by decide +kernel
set_option maxHeartbeats 4000000 in
set_option maxRecDepth 100000 in
theorem c_X1_circle (l : Launch) (D : va_G) (h a0 a1 a2 a3 : Nat) (cA : ClassId) (H T E F : Int → Int) (cc gc w d v : Int) (sz : Nat) (hok : SOK H T E cc gc w d v) (x : Int) (hx : inI x) : MMI l yX1_circle wsX1_circle rmX1_circle [.ref h, jI x] D cA (MW h a0 a1 a2 a3 cA H T E F cc gc w d v) (fun u : Int × (Int → Int) => MW h a0 a1 a2 a3 cA u.2 T E F u.1 gc w d v) sz (fun rR u => R_circle H cc x rR u.1 u.2) := by
  refine MMI_of (cc := cX1_circle) (maxL := 3) (Or.inl rfl) (by decide) rfl (Nat.le_of_ble_eq_true rfl) ?_
  intro pP eE sS mM aA bL mT cC QQ ls A S hret hP hK hD hS hA hl
  obtain ⟨hcc, hgc, hw, hd, hv, hH, hT, hE⟩ := id hok
  have hin : ∀ w ∈ wsX10, w ∈ wsX1_circle := fun w hw => List.mem_cons_of_mem _ (List.mem_append_right _ hw)
  have hl : lv_has ls 3 [(0, .ref h), (1, jI x)] := hl
  refine j_iload_n S dX1_circle_0 rfl (lv_at hl 1 rfl) ?_
  refine j_i2l S dX1_circle_1 (iv_i hx (by decide +kernel)) ?_
  refine j_ldc2 (n := 5) S (S.2.2.2.2 _ (List.mem_of_getElem? (i := 1) rfl)) (by decide) dX1_circle_2 ?_
  refine j_ldc2 (n := 120) S (S.2.2.2.2 _ (List.mem_of_getElem? (i := 2) rfl)) (by decide) dX1_circle_5 ?_
  refine j_csi (As := [jL x, jL 5, jL 120]) S (c_X1_in l x 5 120 (iv_w hx (by decide +kernel)) (iv_w (iv_n 5) (by decide +kernel)) (iv_w (iv_n 120) (by decide +kernel))) (va_cwS 3 S.2.2.2.2 gX1_circle_X1_in rfl rfl rfl hdX1_in ⟨Nat.le_of_ble_eq_true rfl, Nat.le_of_ble_eq_true rfl⟩) [] rfl rfl hl.1 (Nat.le_of_ble_eq_true rfl) ⟨Nat.zero_le _, Nat.zero_le _⟩ dX1_circle_8 (fun i8 q8 => ?_)
  subst q8
  refine j_ifb_ne (tgt := 17) S dX1_circle_11 (by decide) (fun c11 => ?_) (fun c11 => ?_)
  · have r1_ : 5 ≤ x ∧ x ≤ 120 := by omega
    refine lv_aload_n S.1 S.2.1 dX1_circle_17 rfl (lv_at hl 0 rfl) ?_
    refine j_get (v := jI cc) S hin hK hP rfl rfl 1 (by decide) (List.mem_of_getElem? (i := 3) rfl) rfl dX1_circle_18 ?_
    refine j_bipush S dX1_circle_21 (by decide) ?_
    refine j_icmp_ne (tgt := 29) S dX1_circle_23 (by decide) (iv_i hcc (by decide +kernel)) (iv_i (iv_n 8) (by decide +kernel)) (fun c23 => ?_) (fun c23 => ?_)
    · have r2_ : 0 ≤ cc ∧ cc ≤ 7 := by omega
      refine j_iconst S dX1_circle_29 ?_
      refine j_istore_n (lv' := [(2, jI 0), (0, .ref h), (1, jI x)]) S dX1_circle_30 rfl hl (by decide) rfl (fun ls hl => ?_)
      have loop31 : ∀ (N : Nat) (k : Int) (ls : Array Slot), (0 ≤ k ∧ k ≤ 7) → (k ≤ cc) → (∀ j, 0 ≤ j → j < k → H j ≠ x) → cc - k < (N : Int) → lv_has ls 3 [(2, jI k), (0, .ref h), (1, jI x)] → W pP l eE rmX1_circle sS mM aA bL mT cC sS.heap [] 0 0 QQ (F0 mM 31 ls []) := by
        intro N
        induction N with
        | zero =>
          intro k ls hk hk2 hz hN
          exact absurd hN (by omega)
        | succ N ih31 =>
          intro k ls hk hk2 hz hN hl
          refine j_iload_n S dX1_circle_31 rfl (lv_at hl 0 rfl) ?_
          refine lv_aload_n S.1 S.2.1 dX1_circle_32 rfl (lv_at hl 1 rfl) ?_
          refine j_get (v := jI cc) S hin hK hP rfl rfl 1 (by decide) (List.mem_of_getElem? (i := 3) rfl) rfl dX1_circle_33 ?_
          refine j_icmp_ge (tgt := 58) S dX1_circle_36 (by decide) (iv_i hk (by decide +kernel)) (iv_i r2_ (by decide +kernel)) (fun c36 => ?_) (fun c36 => ?_)
          · refine lv_aload_n S.1 S.2.1 dX1_circle_58 rfl (lv_at hl 1 rfl) ?_
            refine j_get (v := .ref a0) S hin hK hP rfl rfl 2 (by decide) (List.mem_of_getElem? (i := 4) rfl) rfl dX1_circle_59 ?_
            refine lv_aload_n S.1 S.2.1 dX1_circle_62 rfl (lv_at hl 1 rfl) ?_
            refine j_get (v := jI cc) S hin hK hP rfl rfl 1 (by decide) (List.mem_of_getElem? (i := 3) rfl) rfl dX1_circle_63 ?_
            refine j_iload_n S dX1_circle_66 rfl (lv_at hl 2 rfl) ?_
            refine j_iast (ws1 := (MW h a0 a1 a2 a3 cA (jU H cc x) T E F cc gc w d v)) S hK hP hD hS 1 0 rfl rfl (iv_ix (n := 8) r2_ (by decide +kernel)) rfl dX1_circle_67 (fun Hp lc hP hD hS => ?_)
            refine lv_aload_n S.1 S.2.1 dX1_circle_68 rfl (lv_at hl 1 rfl) ?_
            refine lv_dup S.1 S.2.1 dX1_circle_69 rfl ?_
            refine j_get (v := jI cc) S hin hK hP rfl rfl 1 (by decide) (List.mem_of_getElem? (i := 3) rfl) rfl dX1_circle_70 ?_
            refine j_iconst S dX1_circle_73 ?_
            refine j_iadd S dX1_circle_74 ?_
            refine j_put (wx1 := (MW h a0 a1 a2 a3 cA (jU H cc x) T E F (cc + 1) gc w d v)) S hin tyX1 tyX1_ok nmX1 hK hP hD hS rfl rfl 1 (by decide) (List.mem_of_getElem? (i := 3) rfl) rfl (by decide +kernel) (Nat.le_of_ble_eq_true rfl) rfl dX1_circle_75 (fun Hp lc hP hD hS => ?_)
            refine lv_aload_n S.1 S.2.1 dX1_circle_78 rfl (lv_at hl 1 rfl) ?_
            refine j_get (v := jI (cc + 1)) S hin hK hP rfl rfl 1 (by decide) (List.mem_of_getElem? (i := 3) rfl) rfl dX1_circle_79 ?_
            refine j_iconst S dX1_circle_82 ?_
            refine j_isub S dX1_circle_83 ?_
            exact hret ((cc + 1) - 1) ((cc + 1), (jU H cc x)) _ _ 84 _ (fun q => by cases q) (Or.inr (Or.inr (Or.inr ⟨by omega, by omega, (fun ⟨j, h1, h2, e⟩ => hz j h1 (by omega) e), by omega, rfl, rfl⟩))) hP hD hS dX1_circle_84
          · have r3_ : 0 ≤ k ∧ k ≤ 6 := by omega
            have r4_ : 1 ≤ cc ∧ cc ≤ 7 := by omega
            refine lv_aload_n S.1 S.2.1 dX1_circle_39 rfl (lv_at hl 1 rfl) ?_
            refine j_get (v := .ref a0) S hin hK hP rfl rfl 2 (by decide) (List.mem_of_getElem? (i := 4) rfl) rfl dX1_circle_40 ?_
            refine j_iload_n S dX1_circle_43 rfl (lv_at hl 0 rfl) ?_
            refine j_iald S hK hP 1 0 rfl rfl (iv_ix (n := 8) r3_ (by decide +kernel)) dX1_circle_44 ?_
            have r5_ := hH k (by omega) (by omega)
            refine j_iload_n S dX1_circle_45 rfl (lv_at hl 2 rfl) ?_
            refine j_icmp_ne (tgt := 52) S dX1_circle_46 (by decide) (iv_i r5_ (by decide +kernel)) (iv_i r1_ (by decide +kernel)) (fun c46 => ?_) (fun c46 => ?_)
            · refine j_iinc (k := 0) (y := (k + 1)) (lv' := [(2, jI (k + 1)), (0, .ref h), (1, jI x)]) S dX1_circle_52 hl rfl rfl (by decide) rfl (fun ls hl => ?_)
              refine j_goto (tgt := 31) S dX1_circle_55 (by decide) ?_
              exact ih31 (k + 1) _ (by omega) (by omega) (fun j h1 h2 => by by_cases e : j = k; rw [e]; exact c46; exact hz j h1 (by omega)) (by omega) (lv_sub hl [0, 1, 2] rfl)
            · refine j_bipush S dX1_circle_49 (by decide) ?_
              exact hret (-5) (cc, H) _ _ 51 _ (fun q => by cases q) (Or.inr (Or.inr (Or.inl ⟨by omega, by omega, ⟨k, by omega, by omega, c46⟩, rfl, rfl, rfl⟩))) hP hD hS dX1_circle_51
      exact loop31 9 0 _ (by omega) (by omega) (fun j h1 h2 => absurd h2 (by omega)) (by omega) (lv_sub hl [0, 1, 2] rfl)
    · have r6_ : 8 ≤ cc ∧ cc ≤ 8 := by omega
      refine j_bipush S dX1_circle_26 (by decide) ?_
      exact hret (-4) (cc, H) _ _ 28 _ (fun q => by cases q) (Or.inr (Or.inl ⟨by omega, by omega, rfl, rfl, rfl⟩)) hP hD hS dX1_circle_28
  · refine j_bipush S dX1_circle_14 (by decide) ?_
    exact hret (-2) (cc, H) _ _ 16 _ (fun q => by cases q) (Or.inl ⟨by omega, rfl, rfl, rfl⟩) hP hD hS dX1_circle_16
