abbrev rmX0_isOutside : Room := { frames := 0, cells := 0, slots := 0, locals := 0 }
theorem hdX0_isOutside : yX0_isOutside.cls ≠ "java/lang/invoke/MethodHandle" ∧ yX0_isOutside.cls ≠ "java/lang/invoke/VarHandle" ∧ (parseMethodDescriptor yX0_isOutside.desc).map (fun d => d.parameters.length) = some 3 := by decide +kernel
set_option maxHeartbeats 4000000 in
set_option maxRecDepth 100000 in
theorem c_X0_isOutside (l : Launch) (x : Int) (lo : Int) (hi : Int) (hx : inI x) (hlo : inI lo) (hhi : inI hi) : MI l yX0_isOutside wsX0_isOutside rmX0_isOutside [jI x, jI lo, jI hi] W0 (fun rR => rR = bI (x < lo ∨ hi < x)) := by
  refine MZ_of (cc := cX0_isOutside) (maxL := 3) (by decide) rfl (Nat.le_of_ble_eq_true rfl) ?_
  intro pP eE sS mM aA bL mT cC QQ ls S hret _ hl
  have hl : lv_has ls 3 [(0, jI x), (1, jI lo), (2, jI hi)] := hl
  refine j_iload_n S dX0_isOutside_0 rfl (lv_at hl 0 rfl) ?_
  refine j_iload_n S dX0_isOutside_1 rfl (lv_at hl 1 rfl) ?_
  refine j_icmp_lt (tgt := 10) S dX0_isOutside_2 (by decide) (iv_i hx (by decide +kernel)) (iv_i hlo (by decide +kernel)) (fun c2 => ?_) (fun c2 => ?_)
  · have r1_ : (-2147483648) ≤ x ∧ x ≤ 2147483646 := by omega
    have r2_ : (-2147483647) ≤ lo ∧ lo ≤ 2147483647 := by omega
    refine j_iconst S dX0_isOutside_10 ?_
    refine j_goto (tgt := 15) S dX0_isOutside_11 (by decide) ?_
    exact hret 1 15 _ (Or.inr rfl) (bI_t (by omega)) dX0_isOutside_15
  · refine j_iload_n S dX0_isOutside_5 rfl (lv_at hl 0 rfl) ?_
    refine j_iload_n S dX0_isOutside_6 rfl (lv_at hl 2 rfl) ?_
    refine j_icmp_le (tgt := 14) S dX0_isOutside_7 (by decide) (iv_i hx (by decide +kernel)) (iv_i hhi (by decide +kernel)) (fun c7 => ?_) (fun c7 => ?_)
    · refine j_iconst S dX0_isOutside_14 ?_
      exact hret 0 15 _ (Or.inl rfl) (bI_f (by omega)) dX0_isOutside_15
    · have r3_ : (-2147483648) ≤ hi ∧ hi ≤ 2147483646 := by omega
      have r4_ : (-2147483647) ≤ x ∧ x ≤ 2147483647 := by omega
      refine j_iconst S dX0_isOutside_10 ?_
      refine j_goto (tgt := 15) S dX0_isOutside_11 (by decide) ?_
      exact hret 1 15 _ (Or.inr rfl) (bI_t (by omega)) dX0_isOutside_15
abbrev rmX0_isNoNumberOfParts : Room := { frames := 1, cells := 0, slots := 0, locals := 22 }
theorem hdX0_isNoNumberOfParts : yX0_isNoNumberOfParts.cls ≠ "java/lang/invoke/MethodHandle" ∧ yX0_isNoNumberOfParts.cls ≠ "java/lang/invoke/VarHandle" ∧ (parseMethodDescriptor yX0_isNoNumberOfParts.desc).map (fun d => d.parameters.length) = some 1 := by decide +kernel
set_option maxHeartbeats 4000000 in
set_option maxRecDepth 100000 in
theorem c_X0_isNoNumberOfParts (l : Launch) (n : Int) (hn : inI n) : MI l yX0_isNoNumberOfParts wsX0_isNoNumberOfParts rmX0_isNoNumberOfParts [jI n] W0 (fun rR => rR = bI (n < 2 ∨ 1000 < n)) := by
  refine MZ_of (cc := cX0_isNoNumberOfParts) (maxL := 1) (by decide) rfl (Nat.le_of_ble_eq_true rfl) ?_
  intro pP eE sS mM aA bL mT cC QQ ls S hret _ hl
  have hl : lv_has ls 1 [(0, jI n)] := hl
  refine j_iload_n S dX0_isNoNumberOfParts_0 rfl (lv_at hl 0 rfl) ?_
  refine j_iconst S dX0_isNoNumberOfParts_1 ?_
  refine j_sipush S dX0_isNoNumberOfParts_2 (by decide) ?_
  refine j_csi (As := [jI n, jI 2, jI 1000]) S (c_X0_isOutside l n 2 1000 (iv_w hn (by decide +kernel)) (iv_w (iv_n 2) (by decide +kernel)) (iv_w (iv_n 1000) (by decide +kernel))) (va_cwS 3 S.2.2.2.2 gX0_isNoNumberOfParts_X0_isOutside rfl rfl rfl hdX0_isOutside ⟨Nat.le_of_ble_eq_true rfl, Nat.le_of_ble_eq_true rfl⟩) [] rfl rfl hl.1 (Nat.le_of_ble_eq_true rfl) ⟨Nat.zero_le _, Nat.zero_le _⟩ dX0_isNoNumberOfParts_5 (fun i5 q5 => ?_)
  subst q5
  exact hret (bI (n < 2 ∨ 1000 < n)) 8 _ bI_01 rfl dX0_isNoNumberOfParts_8
abbrev rmX0_isNoStep : Room := { frames := 1, cells := 0, slots := 0, locals := 22 }
theorem hdX0_isNoStep : yX0_isNoStep.cls ≠ "java/lang/invoke/MethodHandle" ∧ yX0_isNoStep.cls ≠ "java/lang/invoke/VarHandle" ∧ (parseMethodDescriptor yX0_isNoStep.desc).map (fun d => d.parameters.length) = some 1 := by decide +kernel
set_option maxHeartbeats 4000000 in
set_option maxRecDepth 100000 in
theorem c_X0_isNoStep (l : Launch) (x : Int) (hx : inI x) : MI l yX0_isNoStep wsX0_isNoStep rmX0_isNoStep [jI x] W0 (fun rR => rR = bI (x < 1 ∨ 100000 < x)) := by
  refine MZ_of (cc := cX0_isNoStep) (maxL := 1) (by decide) rfl (Nat.le_of_ble_eq_true rfl) ?_
  intro pP eE sS mM aA bL mT cC QQ ls S hret _ hl
  have hl : lv_has ls 1 [(0, jI x)] := hl
  refine j_iload_n S dX0_isNoStep_0 rfl (lv_at hl 0 rfl) ?_
  refine j_iconst S dX0_isNoStep_1 ?_
  refine j_ldc (n := 100000) S (S.2.2.2.2 _ (List.mem_of_getElem? (i := 1) rfl)) (by decide) dX0_isNoStep_2 ?_
  refine j_csi (As := [jI x, jI 1, jI 100000]) S (c_X0_isOutside l x 1 100000 (iv_w hx (by decide +kernel)) (iv_w (iv_n 1) (by decide +kernel)) (iv_w (iv_n 100000) (by decide +kernel))) (va_cwS 3 S.2.2.2.2 gX0_isNoStep_X0_isOutside rfl rfl rfl hdX0_isOutside ⟨Nat.le_of_ble_eq_true rfl, Nat.le_of_ble_eq_true rfl⟩) [] rfl rfl hl.1 (Nat.le_of_ble_eq_true rfl) ⟨Nat.zero_le _, Nat.zero_le _⟩ dX0_isNoStep_4 (fun i4 q4 => ?_)
  subst q4
  exact hret (bI (x < 1 ∨ 100000 < x)) 7 _ bI_01 rfl dX0_isNoStep_7
abbrev rmX0_isNoShare : Room := { frames := 1, cells := 0, slots := 0, locals := 22 }
theorem hdX0_isNoShare : yX0_isNoShare.cls ≠ "java/lang/invoke/MethodHandle" ∧ yX0_isNoShare.cls ≠ "java/lang/invoke/VarHandle" ∧ (parseMethodDescriptor yX0_isNoShare.desc).map (fun d => d.parameters.length) = some 2 := by decide +kernel
set_option maxHeartbeats 4000000 in
set_option maxRecDepth 100000 in
theorem c_X0_isNoShare (l : Launch) (x : Int) (y : Int) (hx : inI x) (hy : inI y) : MI l yX0_isNoShare wsX0_isNoShare rmX0_isNoShare [jI x, jI y] W0 (fun rR => rR = bI ((x < 1 ∨ 1000000 < x) ∨ (y < 1 ∨ 1000000 < y))) := by
  refine MZ_of (cc := cX0_isNoShare) (maxL := 2) (by decide) rfl (Nat.le_of_ble_eq_true rfl) ?_
  intro pP eE sS mM aA bL mT cC QQ ls S hret _ hl
  have hl : lv_has ls 2 [(0, jI x), (1, jI y)] := hl
  refine j_iload_n S dX0_isNoShare_0 rfl (lv_at hl 0 rfl) ?_
  refine j_iconst S dX0_isNoShare_1 ?_
  refine j_ldc (n := 1000000) S (S.2.2.2.2 _ (List.mem_of_getElem? (i := 1) rfl)) (by decide) dX0_isNoShare_2 ?_
  refine j_csi (As := [jI x, jI 1, jI 1000000]) S (c_X0_isOutside l x 1 1000000 (iv_w hx (by decide +kernel)) (iv_w (iv_n 1) (by decide +kernel)) (iv_w (iv_n 1000000) (by decide +kernel))) (va_cwS 3 S.2.2.2.2 gX0_isNoShare_X0_isOutside rfl rfl rfl hdX0_isOutside ⟨Nat.le_of_ble_eq_true rfl, Nat.le_of_ble_eq_true rfl⟩) [] rfl rfl hl.1 (Nat.le_of_ble_eq_true rfl) ⟨Nat.zero_le _, Nat.zero_le _⟩ dX0_isNoShare_4 (fun i4 q4 => ?_)
  subst q4
  refine j_ifb_ne (tgt := 20) S dX0_isNoShare_7 (by decide) (fun c7 => ?_) (fun c7 => ?_)
  · refine j_iconst S dX0_isNoShare_20 ?_
    refine j_goto (tgt := 25) S dX0_isNoShare_21 (by decide) ?_
    exact hret 1 25 _ (Or.inr rfl) (bI_t (by omega)) dX0_isNoShare_25
  · have r1_ : 1 ≤ x ∧ x ≤ 1000000 := by omega
    refine j_iload_n S dX0_isNoShare_10 rfl (lv_at hl 1 rfl) ?_
    refine j_iconst S dX0_isNoShare_11 ?_
    refine j_ldc (n := 1000000) S (S.2.2.2.2 _ (List.mem_of_getElem? (i := 1) rfl)) (by decide) dX0_isNoShare_12 ?_
    refine j_csi (As := [jI y, jI 1, jI 1000000]) S (c_X0_isOutside l y 1 1000000 (iv_w hy (by decide +kernel)) (iv_w (iv_n 1) (by decide +kernel)) (iv_w (iv_n 1000000) (by decide +kernel))) (va_cwS 3 S.2.2.2.2 gX0_isNoShare_X0_isOutside rfl rfl rfl hdX0_isOutside ⟨Nat.le_of_ble_eq_true rfl, Nat.le_of_ble_eq_true rfl⟩) [] rfl rfl hl.1 (Nat.le_of_ble_eq_true rfl) ⟨Nat.zero_le _, Nat.zero_le _⟩ dX0_isNoShare_14 (fun i14 q14 => ?_)
    subst q14
    refine j_ifb_eq (tgt := 24) S dX0_isNoShare_17 (by decide) (fun c17 => ?_) (fun c17 => ?_)
    · have r2_ : 1 ≤ y ∧ y ≤ 1000000 := by omega
      refine j_iconst S dX0_isNoShare_24 ?_
      exact hret 0 25 _ (Or.inl rfl) (bI_f (by omega)) dX0_isNoShare_25
    · refine j_iconst S dX0_isNoShare_20 ?_
      refine j_goto (tgt := 25) S dX0_isNoShare_21 (by decide) ?_
      exact hret 1 25 _ (Or.inr rfl) (bI_t (by omega)) dX0_isNoShare_25
abbrev rmX0_isNoPlace : Room := { frames := 1, cells := 0, slots := 0, locals := 22 }
theorem hdX0_isNoPlace : yX0_isNoPlace.cls ≠ "java/lang/invoke/MethodHandle" ∧ yX0_isNoPlace.cls ≠ "java/lang/invoke/VarHandle" ∧ (parseMethodDescriptor yX0_isNoPlace.desc).map (fun d => d.parameters.length) = some 2 := by decide +kernel
set_option maxHeartbeats 4000000 in
set_option maxRecDepth 100000 in
theorem c_X0_isNoPlace (l : Launch) (x : Int) (y : Int) (hx : inI x) (hy : inI y) : MI l yX0_isNoPlace wsX0_isNoPlace rmX0_isNoPlace [jI x, jI y] W0 (fun rR => rR = bI ((y < 1 ∨ 1000000 < y) ∨ (x < 0 ∨ y - 1 < x))) := by
  refine MZ_of (cc := cX0_isNoPlace) (maxL := 2) (by decide) rfl (Nat.le_of_ble_eq_true rfl) ?_
  intro pP eE sS mM aA bL mT cC QQ ls S hret _ hl
  have hl : lv_has ls 2 [(0, jI x), (1, jI y)] := hl
  refine j_iload_n S dX0_isNoPlace_0 rfl (lv_at hl 1 rfl) ?_
  refine j_iconst S dX0_isNoPlace_1 ?_
  refine j_ldc (n := 1000000) S (S.2.2.2.2 _ (List.mem_of_getElem? (i := 1) rfl)) (by decide) dX0_isNoPlace_2 ?_
  refine j_csi (As := [jI y, jI 1, jI 1000000]) S (c_X0_isOutside l y 1 1000000 (iv_w hy (by decide +kernel)) (iv_w (iv_n 1) (by decide +kernel)) (iv_w (iv_n 1000000) (by decide +kernel))) (va_cwS 3 S.2.2.2.2 gX0_isNoPlace_X0_isOutside rfl rfl rfl hdX0_isOutside ⟨Nat.le_of_ble_eq_true rfl, Nat.le_of_ble_eq_true rfl⟩) [] rfl rfl hl.1 (Nat.le_of_ble_eq_true rfl) ⟨Nat.zero_le _, Nat.zero_le _⟩ dX0_isNoPlace_4 (fun i4 q4 => ?_)
  subst q4
  refine j_ifb_ne (tgt := 21) S dX0_isNoPlace_7 (by decide) (fun c7 => ?_) (fun c7 => ?_)
  · refine j_iconst S dX0_isNoPlace_21 ?_
    refine j_goto (tgt := 26) S dX0_isNoPlace_22 (by decide) ?_
    exact hret 1 26 _ (Or.inr rfl) (bI_t (by omega)) dX0_isNoPlace_26
  · have r1_ : 1 ≤ y ∧ y ≤ 1000000 := by omega
    refine j_iload_n S dX0_isNoPlace_10 rfl (lv_at hl 0 rfl) ?_
    refine j_iconst S dX0_isNoPlace_11 ?_
    refine j_iload_n S dX0_isNoPlace_12 rfl (lv_at hl 1 rfl) ?_
    refine j_iconst S dX0_isNoPlace_13 ?_
    refine j_isub S dX0_isNoPlace_14 ?_
    refine j_csi (As := [jI x, jI 0, jI (y - 1)]) S (c_X0_isOutside l x 0 (y - 1) (iv_w hx (by decide +kernel)) (iv_w (iv_n 0) (by decide +kernel)) (iv_w (iv_sub (lo := 0) (hi := 999999) r1_ (iv_n 1) (by decide +kernel)) (by decide +kernel))) (va_cwS 3 S.2.2.2.2 gX0_isNoPlace_X0_isOutside rfl rfl rfl hdX0_isOutside ⟨Nat.le_of_ble_eq_true rfl, Nat.le_of_ble_eq_true rfl⟩) [] rfl rfl hl.1 (Nat.le_of_ble_eq_true rfl) ⟨Nat.zero_le _, Nat.zero_le _⟩ dX0_isNoPlace_15 (fun i15 q15 => ?_)
    subst q15
    refine j_ifb_eq (tgt := 25) S dX0_isNoPlace_18 (by decide) (fun c18 => ?_) (fun c18 => ?_)
    · have r2_ : 0 ≤ x ∧ x ≤ 999999 := by omega
      refine j_iconst S dX0_isNoPlace_25 ?_
      exact hret 0 26 _ (Or.inl rfl) (bI_f (by omega)) dX0_isNoPlace_26
    · refine j_iconst S dX0_isNoPlace_21 ?_
      refine j_goto (tgt := 26) S dX0_isNoPlace_22 (by decide) ?_
      exact hret 1 26 _ (Or.inr rfl) (bI_t (by omega)) dX0_isNoPlace_26
abbrev rmX0_holesAt : Room := { frames := 0, cells := 0, slots := 0, locals := 0 }
theorem hdX0_holesAt : yX0_holesAt.cls ≠ "java/lang/invoke/MethodHandle" ∧ yX0_holesAt.cls ≠ "java/lang/invoke/VarHandle" ∧ (parseMethodDescriptor yX0_holesAt.desc).map (fun d => d.parameters.length) = some 1 := by decide +kernel
set_option maxHeartbeats 4000000 in
set_option maxRecDepth 100000 in
theorem c_X0_holesAt (l : Launch) (D : va_G) (h a0 a1 a2 a3 : Nat) (cA : ClassId) (H T E F : Int → Int) (cc gc w d v : Int) (hok : SOK H T E cc gc w d v) (x : Int) (hx : inI x) : MI l yX0_holesAt wsX0_holesAt rmX0_holesAt [.ref h, jI x] (WB D (XW h a0 a1 a2 a3 cA H T E F cc gc w d v) cA) (fun rR => (¬ (0 ≤ x ∧ x < cc) ∧ rR = 0) ∨ ((0 ≤ x ∧ x < cc) ∧ rR = H x ∧ 5 ≤ rR ∧ rR ≤ 120)) := by
  refine MI_of (cc := cX0_holesAt) (maxL := 2) (by decide) rfl (Nat.le_of_ble_eq_true rfl) ?_
  intro pP eE sS mM aA bL mT cC QQ ls S hret ⟨hP, hK⟩ hl
  obtain ⟨hcc, hgc, hw, hd, hv, hH, hT, hE⟩ := id hok
  have hin : ∀ w ∈ wsX00, w ∈ wsX0_holesAt := fun w hw => List.mem_cons_of_mem _ (List.mem_append_right _ hw)
  have hl : lv_has ls 2 [(0, .ref h), (1, jI x)] := hl
  refine j_iload_n S dX0_holesAt_0 rfl (lv_at hl 1 rfl) ?_
  refine j_if_lt (tgt := 12) S dX0_holesAt_1 (by decide) (iv_i hx (by decide +kernel)) (fun c1 => ?_) (fun c1 => ?_)
  · have r1_ : (-2147483648) ≤ x ∧ x ≤ (-1) := by omega
    refine j_iconst S dX0_holesAt_12 ?_
    refine j_goto (tgt := 22) S dX0_holesAt_13 (by decide) ?_
    exact hret 0 22 _ (by omega) dX0_holesAt_22
  · have r2_ : 0 ≤ x ∧ x ≤ 2147483647 := by omega
    refine j_iload_n S dX0_holesAt_4 rfl (lv_at hl 1 rfl) ?_
    refine lv_aload_n S.1 S.2.1 dX0_holesAt_5 rfl (lv_at hl 0 rfl) ?_
    refine j_get (v := jI cc) S hin hK hP rfl rfl 4 (by decide) (List.mem_of_getElem? (i := 1) rfl) rfl dX0_holesAt_6 ?_
    refine j_icmp_lt (tgt := 16) S dX0_holesAt_9 (by decide) (iv_i r2_ (by decide +kernel)) (iv_i hcc (by decide +kernel)) (fun c9 => ?_) (fun c9 => ?_)
    · have r3_ : 0 ≤ x ∧ x ≤ 7 := by omega
      have r4_ : 1 ≤ cc ∧ cc ≤ 8 := by omega
      refine lv_aload_n S.1 S.2.1 dX0_holesAt_16 rfl (lv_at hl 0 rfl) ?_
      refine j_get (v := .ref a0) S hin hK hP rfl rfl 0 (by decide) (List.mem_of_getElem? (i := 2) rfl) rfl dX0_holesAt_17 ?_
      refine j_iload_n S dX0_holesAt_20 rfl (lv_at hl 1 rfl) ?_
      refine j_iald S hK hP 1 0 rfl rfl (iv_ix (n := 8) r3_ (by decide +kernel)) dX0_holesAt_21 ?_
      have r5_ := hH x (by omega) (by omega)
      exact hret (H x) 22 _ (by omega) dX0_holesAt_22
    · refine j_iconst S dX0_holesAt_12 ?_
      refine j_goto (tgt := 22) S dX0_holesAt_13 (by decide) ?_
      exact hret 0 22 _ (by omega) dX0_holesAt_22
abbrev rmX0_holes : Room := { frames := 1, cells := 0, slots := 0, locals := 21 }
theorem hdX0_holes : yX0_holes.cls ≠ "java/lang/invoke/MethodHandle" ∧ yX0_holes.cls ≠ "java/lang/invoke/VarHandle" ∧ (parseMethodDescriptor yX0_holes.desc).map (fun d => d.parameters.length) = some 1 := by decide +kernel
set_option maxHeartbeats 4000000 in
set_option maxRecDepth 100000 in
theorem c_X0_holes (l : Launch) (D : va_G) (h a0 a1 a2 a3 : Nat) (cA : ClassId) (H T E F : Int → Int) (cc gc w d v : Int) (hok : SOK H T E cc gc w d v) (x : Int) (hx : inI x) : MI l yX0_holes wsX0_holes rmX0_holes [.ref h, jI x] (WB D (XW h a0 a1 a2 a3 cA H T E F cc gc w d v) cA) (fun rR => rR = sp_holes cc H x) := by
  refine MI_of (cc := cX0_holes) (maxL := 3) (by decide) rfl (Nat.le_of_ble_eq_true rfl) ?_
  intro pP eE sS mM aA bL mT cC QQ ls S hret ⟨hP, hK⟩ hl
  obtain ⟨hcc, hgc, hw, hd, hv, hH, hT, hE⟩ := id hok
  have hin : ∀ w ∈ wsX00, w ∈ wsX0_holes := fun w hw => List.mem_cons_of_mem _ (List.mem_append_right _ hw)
  have hl : lv_has ls 3 [(0, .ref h), (1, jI x)] := hl
  refine lv_aload_n S.1 S.2.1 dX0_holes_0 rfl (lv_at hl 0 rfl) ?_
  refine j_iload_n S dX0_holes_1 rfl (lv_at hl 1 rfl) ?_
  refine j_cvi (As := [jI x]) (ci := 0) S (c_X0_holesAt l D h a0 a1 a2 a3 cA H T E F cc gc w d v hok x (iv_w hx (by decide +kernel))) (cwV 1 S.2.2.2.2 gX0_holes_X0_holesAt rfl rfl rfl ⟨rfl, hdX0_holesAt⟩ ⟨Nat.le_of_ble_eq_true rfl, Nat.le_of_ble_eq_true rfl⟩) hK hP rfl rfl rfl [] rfl rfl hl.1 (Nat.le_of_ble_eq_true rfl) ⟨Nat.zero_le _, Nat.zero_le _⟩ dX0_holes_2 (fun i2 q2 => ?_)
  have r1_ : 0 ≤ i2 ∧ i2 ≤ 120 := by omega
  refine j_istore_n (lv' := [(2, jI i2), (0, .ref h), (1, jI x)]) S dX0_holes_5 rfl hl (by decide) rfl (fun ls hl => ?_)
  refine j_iload_n S dX0_holes_6 rfl (lv_at hl 0 rfl) ?_
  refine j_if_ne (tgt := 14) S dX0_holes_7 (by decide) (iv_i r1_ (by decide +kernel)) (fun c7 => ?_) (fun c7 => ?_)
  · have r2_ : 1 ≤ i2 ∧ i2 ≤ 120 := by omega
    refine j_iload_n S dX0_holes_14 rfl (lv_at hl 0 rfl) ?_
    exact hret i2 15 _ (by unfold sp_holes; (repeat' split) <;> first | omega | rfl) dX0_holes_15
  · have r3_ : 0 ≤ i2 ∧ i2 ≤ 0 := by omega
    refine j_iconst S dX0_holes_10 ?_
    refine j_goto (tgt := 15) S dX0_holes_11 (by decide) ?_
    exact hret (-1) 15 _ (by unfold sp_holes; (repeat' split) <;> first | omega | rfl) dX0_holes_15
abbrev rmX0_hasCircleOf : Room := { frames := 0, cells := 0, slots := 0, locals := 0 }
theorem hdX0_hasCircleOf : yX0_hasCircleOf.cls ≠ "java/lang/invoke/MethodHandle" ∧ yX0_hasCircleOf.cls ≠ "java/lang/invoke/VarHandle" ∧ (parseMethodDescriptor yX0_hasCircleOf.desc).map (fun d => d.parameters.length) = some 1 := by decide +kernel
set_option maxHeartbeats 4000000 in
set_option maxRecDepth 100000 in
theorem c_X0_hasCircleOf (l : Launch) (D : va_G) (h a0 a1 a2 a3 : Nat) (cA : ClassId) (H T E F : Int → Int) (cc gc w d v : Int) (hok : SOK H T E cc gc w d v) (x : Int) (hx : inI x) : MI l yX0_hasCircleOf wsX0_hasCircleOf rmX0_hasCircleOf [.ref h, jI x] (WB D (XW h a0 a1 a2 a3 cA H T E F cc gc w d v) cA) (fun rR => rR = bI (∃ j, 0 ≤ j ∧ j < cc ∧ H j = x)) := by
  refine MZ_of (cc := cX0_hasCircleOf) (maxL := 3) (by decide) rfl (Nat.le_of_ble_eq_true rfl) ?_
  intro pP eE sS mM aA bL mT cC QQ ls S hret ⟨hP, hK⟩ hl
  obtain ⟨hcc, hgc, hw, hd, hv, hH, hT, hE⟩ := id hok
  have hin : ∀ w ∈ wsX00, w ∈ wsX0_hasCircleOf := fun w hw => List.mem_cons_of_mem _ (List.mem_append_right _ hw)
  have hl : lv_has ls 3 [(0, .ref h), (1, jI x)] := hl
  refine j_iconst S dX0_hasCircleOf_0 ?_
  refine j_istore_n (lv' := [(2, jI 0), (0, .ref h), (1, jI x)]) S dX0_hasCircleOf_1 rfl hl (by decide) rfl (fun ls hl => ?_)
  have loop2 : ∀ (N : Nat) (k : Int) (ls : Array Slot), (0 ≤ k ∧ k ≤ 8) → (k ≤ cc) → (∀ j, 0 ≤ j → j < k → H j ≠ x) → cc - k < (N : Int) → lv_has ls 3 [(2, jI k), (0, .ref h), (1, jI x)] → W pP l eE rmX0_hasCircleOf sS mM aA bL mT cC sS.heap [] 0 0 QQ (F0 mM 2 ls []) := by
    intro N
    induction N with
    | zero =>
      intro k ls hk hk2 hn hN
      exact absurd hN (by omega)
    | succ N ih2 =>
      intro k ls hk hk2 hn hN hl
      refine j_iload_n S dX0_hasCircleOf_2 rfl (lv_at hl 0 rfl) ?_
      refine lv_aload_n S.1 S.2.1 dX0_hasCircleOf_3 rfl (lv_at hl 1 rfl) ?_
      refine j_get (v := jI cc) S hin hK hP rfl rfl 4 (by decide) (List.mem_of_getElem? (i := 1) rfl) rfl dX0_hasCircleOf_4 ?_
      refine j_icmp_ge (tgt := 28) S dX0_hasCircleOf_7 (by decide) (iv_i hk (by decide +kernel)) (iv_i hcc (by decide +kernel)) (fun c7 => ?_) (fun c7 => ?_)
      · refine j_iconst S dX0_hasCircleOf_28 ?_
        exact hret 0 29 _ (Or.inl rfl) (bI_f (fun ⟨j, h1, h2, e⟩ => hn j h1 (by omega) e)) dX0_hasCircleOf_29
      · have r1_ : 0 ≤ k ∧ k ≤ 7 := by omega
        have r2_ : 1 ≤ cc ∧ cc ≤ 8 := by omega
        refine lv_aload_n S.1 S.2.1 dX0_hasCircleOf_10 rfl (lv_at hl 1 rfl) ?_
        refine j_get (v := .ref a0) S hin hK hP rfl rfl 0 (by decide) (List.mem_of_getElem? (i := 2) rfl) rfl dX0_hasCircleOf_11 ?_
        refine j_iload_n S dX0_hasCircleOf_14 rfl (lv_at hl 0 rfl) ?_
        refine j_iald S hK hP 1 0 rfl rfl (iv_ix (n := 8) r1_ (by decide +kernel)) dX0_hasCircleOf_15 ?_
        have r3_ := hH k (by omega) (by omega)
        refine j_iload_n S dX0_hasCircleOf_16 rfl (lv_at hl 2 rfl) ?_
        refine j_icmp_ne (tgt := 22) S dX0_hasCircleOf_17 (by decide) (iv_i r3_ (by decide +kernel)) (iv_i hx (by decide +kernel)) (fun c17 => ?_) (fun c17 => ?_)
        · refine j_iinc (k := 0) (y := (k + 1)) (lv' := [(2, jI (k + 1)), (0, .ref h), (1, jI x)]) S dX0_hasCircleOf_22 hl rfl rfl (by decide) rfl (fun ls hl => ?_)
          refine j_goto (tgt := 2) S dX0_hasCircleOf_25 (by decide) ?_
          exact ih2 (k + 1) _ (by omega) (by omega) (fun j h1 h2 => by by_cases e : j = k; rw [e]; exact c17; exact hn j h1 (by omega)) (by omega) (lv_sub hl [0, 1, 2] rfl)
        · have r4_ : 5 ≤ x ∧ x ≤ 120 := by omega
          refine j_iconst S dX0_hasCircleOf_20 ?_
          exact hret 1 21 _ (Or.inr rfl) (bI_t ⟨k, by omega, by omega, c17⟩) dX0_hasCircleOf_21
  exact loop2 9 0 _ (by omega) (by omega) (fun j h1 h2 => absurd h2 (by omega)) (by omega) (lv_sub hl [0, 1, 2] rfl)
abbrev rmX0_exactQuotient : Room := { frames := 0, cells := 0, slots := 0, locals := 0 }
theorem hdX0_exactQuotient : yX0_exactQuotient.cls ≠ "java/lang/invoke/MethodHandle" ∧ yX0_exactQuotient.cls ≠ "java/lang/invoke/VarHandle" ∧ (parseMethodDescriptor yX0_exactQuotient.desc).map (fun d => d.parameters.length) = some 2 := by decide +kernel
set_option maxHeartbeats 4000000 in
set_option maxRecDepth 100000 in
theorem c_X0_exactQuotient (l : Launch) (x : Int) (y : Int) (hx : (-100000000000000000) ≤ x ∧ x ≤ 100000000000000000) (hy : (-100000000000000000) ≤ y ∧ y ≤ 100000000000000000) : ML l yX0_exactQuotient wsX0_exactQuotient rmX0_exactQuotient [jL x, jL y] W0 (fun rR => rR = sp_eq x y) := by
  refine ML_of (cc := cX0_exactQuotient) (maxL := 4) (by decide) rfl (Nat.le_of_ble_eq_true rfl) ?_
  intro pP eE sS mM aA bL mT cC QQ ls S hret _ hl
  have hl : lv_has ls 4 [(0, jL x), (2, jL y)] := hl
  refine j_lload_n S dX0_exactQuotient_0 rfl (lv_at hl 1 rfl) ?_
  refine j_lconst (a := 1) S dX0_exactQuotient_1 rfl ?_
  refine j_lcmp_lt (pc1 := 3) (tgt := 14) S rfl dX0_exactQuotient_2 dX0_exactQuotient_3 (by decide) (iv_l hy (by decide +kernel)) (iv_l (iv_n 1) (by decide +kernel)) (fun c2 => ?_) (fun c2 => ?_)
  · have r1_ : (-100000000000000000) ≤ y ∧ y ≤ 0 := by omega
    refine j_lconst (a := 0) S dX0_exactQuotient_14 rfl ?_
    refine j_goto (tgt := 21) S dX0_exactQuotient_15 (by decide) ?_
    exact hret 0 21 _ (sp_eq_0 (by omega)).symm dX0_exactQuotient_21
  · have r2_ : 1 ≤ y ∧ y ≤ 100000000000000000 := by omega
    refine j_lload_n S dX0_exactQuotient_6 rfl (lv_at hl 0 rfl) ?_
    refine j_lload_n S dX0_exactQuotient_7 rfl (lv_at hl 1 rfl) ?_
    refine j_lrem S dX0_exactQuotient_8 (iv_l hx (by decide +kernel)) (iv_pl r2_ (by decide +kernel)) (iv_gt hx (by decide +kernel)) ?_
    refine j_lconst (a := 0) S dX0_exactQuotient_9 rfl ?_
    refine j_lcmp_eq (pc1 := 11) (tgt := 18) S rfl dX0_exactQuotient_10 dX0_exactQuotient_11 (by decide) (iv_l (iv_tmod (lo := (-99999999999999999)) (hi := 99999999999999999) r2_ (by decide +kernel)) (by decide +kernel)) (iv_l (iv_n 0) (by decide +kernel)) (fun c10 => ?_) (fun c10 => ?_)
    · refine j_lload_n S dX0_exactQuotient_18 rfl (lv_at hl 0 rfl) ?_
      refine j_lload_n S dX0_exactQuotient_19 rfl (lv_at hl 1 rfl) ?_
      refine j_ldiv S dX0_exactQuotient_20 (iv_l hx (by decide +kernel)) (iv_pl r2_ (by decide +kernel)) (iv_gt hx (by decide +kernel)) ?_
      exact hret (Int.tdiv x y) 21 _ (sp_eq_1 (by omega) c10).symm dX0_exactQuotient_21
    · refine j_lconst (a := 0) S dX0_exactQuotient_14 rfl ?_
      refine j_goto (tgt := 21) S dX0_exactQuotient_15 (by decide) ?_
      exact hret 0 21 _ (sp_eq_0 (by omega)).symm dX0_exactQuotient_21
abbrev rmX0_nearestOrLesser : Room := { frames := 0, cells := 0, slots := 0, locals := 0 }
theorem hdX0_nearestOrLesser : yX0_nearestOrLesser.cls ≠ "java/lang/invoke/MethodHandle" ∧ yX0_nearestOrLesser.cls ≠ "java/lang/invoke/VarHandle" ∧ (parseMethodDescriptor yX0_nearestOrLesser.desc).map (fun d => d.parameters.length) = some 2 := by decide +kernel
set_option maxHeartbeats 4000000 in
set_option maxRecDepth 100000 in
theorem c_X0_nearestOrLesser (l : Launch) (x : Int) (y : Int) (hx : 0 ≤ x ∧ x ≤ 100000000000000000) (hy : 1 ≤ y ∧ y ≤ 100000000000000000) : ML l yX0_nearestOrLesser wsX0_nearestOrLesser rmX0_nearestOrLesser [jL x, jL y] W0 (fun rR => rR = sp_nol x y) := by
  refine ML_of (cc := cX0_nearestOrLesser) (maxL := 4) (by decide) rfl (Nat.le_of_ble_eq_true rfl) ?_
  intro pP eE sS mM aA bL mT cC QQ ls S hret _ hl
  have hl : lv_has ls 4 [(0, jL x), (2, jL y)] := hl
  refine j_lload_n S dX0_nearestOrLesser_0 rfl (lv_at hl 1 rfl) ?_
  refine j_lconst (a := 1) S dX0_nearestOrLesser_1 rfl ?_
  refine j_lcmp_ge (pc1 := 3) (tgt := 10) S rfl dX0_nearestOrLesser_2 dX0_nearestOrLesser_3 (by decide) (iv_l hy (by decide +kernel)) (iv_l (iv_n 1) (by decide +kernel)) (fun c2 => ?_) (fun z9 => by have : 1 ≤ y ∧ y ≤ 100000000000000000 := hy; omega)
  refine j_ldc2 (n := 2) S (S.2.2.2.2 _ (List.mem_of_getElem? (i := 1) rfl)) (by decide) dX0_nearestOrLesser_10 ?_
  refine j_lload_n S dX0_nearestOrLesser_13 rfl (lv_at hl 0 rfl) ?_
  refine j_lmul S dX0_nearestOrLesser_14 ?_
  refine j_lload_n S dX0_nearestOrLesser_15 rfl (lv_at hl 1 rfl) ?_
  refine j_ladd S dX0_nearestOrLesser_16 ?_
  refine j_lconst (a := 1) S dX0_nearestOrLesser_17 rfl ?_
  refine j_lsub S dX0_nearestOrLesser_18 ?_
  refine j_ldc2 (n := 2) S (S.2.2.2.2 _ (List.mem_of_getElem? (i := 1) rfl)) (by decide) dX0_nearestOrLesser_19 ?_
  refine j_lload_n S dX0_nearestOrLesser_22 rfl (lv_at hl 1 rfl) ?_
  refine j_lmul S dX0_nearestOrLesser_23 ?_
  refine j_ldivp S dX0_nearestOrLesser_24 (iv_l (iv_sub (lo := 0) (hi := 299999999999999999) (iv_add (lo := 1) (hi := 300000000000000000) (iv_mulp (lo := 0) (hi := 200000000000000000) (iv_n 2) hx (by decide +kernel)) hy (by decide +kernel)) (iv_n 1) (by decide +kernel)) (by decide +kernel)) (iv_pl (iv_mulp (lo := 2) (hi := 200000000000000000) (iv_n 2) hy (by decide +kernel)) (by decide +kernel)) (iv_nn (iv_sub (lo := 0) (hi := 299999999999999999) (iv_add (lo := 1) (hi := 300000000000000000) (iv_mulp (lo := 0) (hi := 200000000000000000) (iv_n 2) hx (by decide +kernel)) hy (by decide +kernel)) (iv_n 1) (by decide +kernel)) (by decide +kernel)) ?_
  exact hret ((((2 * x) + y) - 1) / (2 * y)) 25 _ rfl dX0_nearestOrLesser_25
abbrev rmX0_nearestOrGreater : Room := { frames := 0, cells := 0, slots := 0, locals := 0 }
theorem hdX0_nearestOrGreater : yX0_nearestOrGreater.cls ≠ "java/lang/invoke/MethodHandle" ∧ yX0_nearestOrGreater.cls ≠ "java/lang/invoke/VarHandle" ∧ (parseMethodDescriptor yX0_nearestOrGreater.desc).map (fun d => d.parameters.length) = some 2 := by decide +kernel
set_option maxHeartbeats 4000000 in
set_option maxRecDepth 100000 in
theorem c_X0_nearestOrGreater (l : Launch) (x : Int) (y : Int) (hx : 0 ≤ x ∧ x ≤ 100000000000000000) (hy : 1 ≤ y ∧ y ≤ 100000000000000000) : ML l yX0_nearestOrGreater wsX0_nearestOrGreater rmX0_nearestOrGreater [jL x, jL y] W0 (fun rR => rR = sp_nog x y) := by
  refine ML_of (cc := cX0_nearestOrGreater) (maxL := 4) (by decide) rfl (Nat.le_of_ble_eq_true rfl) ?_
  intro pP eE sS mM aA bL mT cC QQ ls S hret _ hl
  have hl : lv_has ls 4 [(0, jL x), (2, jL y)] := hl
  refine j_lload_n S dX0_nearestOrGreater_0 rfl (lv_at hl 1 rfl) ?_
  refine j_lconst (a := 1) S dX0_nearestOrGreater_1 rfl ?_
  refine j_lcmp_ge (pc1 := 3) (tgt := 10) S rfl dX0_nearestOrGreater_2 dX0_nearestOrGreater_3 (by decide) (iv_l hy (by decide +kernel)) (iv_l (iv_n 1) (by decide +kernel)) (fun c2 => ?_) (fun z9 => by have : 1 ≤ y ∧ y ≤ 100000000000000000 := hy; omega)
  refine j_ldc2 (n := 2) S (S.2.2.2.2 _ (List.mem_of_getElem? (i := 1) rfl)) (by decide) dX0_nearestOrGreater_10 ?_
  refine j_lload_n S dX0_nearestOrGreater_13 rfl (lv_at hl 0 rfl) ?_
  refine j_lmul S dX0_nearestOrGreater_14 ?_
  refine j_lload_n S dX0_nearestOrGreater_15 rfl (lv_at hl 1 rfl) ?_
  refine j_ladd S dX0_nearestOrGreater_16 ?_
  refine j_ldc2 (n := 2) S (S.2.2.2.2 _ (List.mem_of_getElem? (i := 1) rfl)) (by decide) dX0_nearestOrGreater_17 ?_
  refine j_lload_n S dX0_nearestOrGreater_20 rfl (lv_at hl 1 rfl) ?_
  refine j_lmul S dX0_nearestOrGreater_21 ?_
  refine j_ldivp S dX0_nearestOrGreater_22 (iv_l (iv_add (lo := 1) (hi := 300000000000000000) (iv_mulp (lo := 0) (hi := 200000000000000000) (iv_n 2) hx (by decide +kernel)) hy (by decide +kernel)) (by decide +kernel)) (iv_pl (iv_mulp (lo := 2) (hi := 200000000000000000) (iv_n 2) hy (by decide +kernel)) (by decide +kernel)) (iv_nn (iv_add (lo := 1) (hi := 300000000000000000) (iv_mulp (lo := 0) (hi := 200000000000000000) (iv_n 2) hx (by decide +kernel)) hy (by decide +kernel)) (by decide +kernel)) ?_
  exact hret (((2 * x) + y) / (2 * y)) 23 _ rfl dX0_nearestOrGreater_23
