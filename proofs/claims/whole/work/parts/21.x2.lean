abbrev rmX0_nearestHole : Room := { frames := 1, cells := 0, slots := 0, locals := 23 }
theorem hdX0_nearestHole : yX0_nearestHole.cls ≠ "java/lang/invoke/MethodHandle" ∧ yX0_nearestHole.cls ≠ "java/lang/invoke/VarHandle" ∧ (parseMethodDescriptor yX0_nearestHole.desc).map (fun d => d.parameters.length) = some 3 := by decide +kernel
set_option maxHeartbeats 4000000 in
set_option maxRecDepth 100000 in
theorem c_X0_nearestHole (l : Launch) (D : va_G) (h a0 a1 a2 a3 : Nat) (cA : ClassId) (H T E F : Int → Int) (cc gc w d v : Int) (hok : SOK H T E cc gc w d v) (u1 : Int) (n : Int) (i : Int) (hu1 : 5 ≤ u1 ∧ u1 ≤ 120) (hn : 2 ≤ n ∧ n ≤ 1000) (hi : 0 ≤ i ∧ i ≤ 1000) : MI l yX0_nearestHole wsX0_nearestHole rmX0_nearestHole [.ref h, jI u1, jI n, jI i] (WB D (XW h a0 a1 a2 a3 cA H T E F cc gc w d v) cA) (fun rR => rR = sp_hn w u1 n i) := by
  refine MI_of (cc := cX0_nearestHole) (maxL := 4) (by decide) rfl (Nat.le_of_ble_eq_true rfl) ?_
  intro pP eE sS mM aA bL mT cC QQ ls S hret ⟨hP, hK⟩ hl
  obtain ⟨hcc, hgc, hw, hd, hv, hH, hT, hE⟩ := id hok
  have hin : ∀ w ∈ wsX00, w ∈ wsX0_nearestHole := fun w hw => List.mem_cons_of_mem _ (List.mem_append_right _ hw)
  have hl : lv_has ls 4 [(0, .ref h), (1, jI u1), (2, jI n), (3, jI i)] := hl
  refine j_iload_n S dX0_nearestHole_0 rfl (lv_at hl 3 rfl) ?_
  refine lv_aload_n S.1 S.2.1 dX0_nearestHole_1 rfl (lv_at hl 0 rfl) ?_
  refine j_get (v := jI w) S hin hK hP rfl rfl 6 (by decide) (List.mem_of_getElem? (i := 1) rfl) rfl dX0_nearestHole_2 ?_
  refine j_imul S dX0_nearestHole_5 ?_
  refine j_iload_n S dX0_nearestHole_6 rfl (lv_at hl 1 rfl) ?_
  refine j_imul S dX0_nearestHole_7 ?_
  refine j_i2l S dX0_nearestHole_8 (iv_i (iv_mulp (lo := 0) (hi := 24000000) (iv_mulp (lo := 0) (hi := 200000) hi hw (by decide +kernel)) hu1 (by decide +kernel)) (by decide +kernel)) ?_
  refine j_iload_n S dX0_nearestHole_9 rfl (lv_at hl 2 rfl) ?_
  refine j_i2l S dX0_nearestHole_10 (iv_i hn (by decide +kernel)) ?_
  refine j_csl (As := [jL ((i * w) * u1), jL n]) S (c_X0_nearestOrGreater l ((i * w) * u1) n (iv_w (iv_mulp (lo := 0) (hi := 24000000) (iv_mulp (lo := 0) (hi := 200000) hi hw (by decide +kernel)) hu1 (by decide +kernel)) (by decide +kernel)) (iv_w hn (by decide +kernel))) (va_cwS 2 S.2.2.2.2 gX0_nearestHole_X0_nearestOrGreater rfl rfl rfl hdX0_nearestOrGreater ⟨Nat.le_of_ble_eq_true rfl, Nat.le_of_ble_eq_true rfl⟩) [] rfl rfl hl.1 (Nat.le_of_ble_eq_true rfl) ⟨Nat.zero_le _, Nat.zero_le _⟩ dX0_nearestHole_11 (fun i11 q11 => ?_)
  subst q11
  have r1_ : 0 ≤ (sp_nog ((i * w) * u1) n) ∧ (sp_nog ((i * w) * u1) n) ≤ 24000001 := sp_nog_iv (ub := 24000001) (iv_w (lo := 0) (hi := 24000000) (iv_mulp (lo := 0) (hi := 24000000) (iv_mulp (lo := 0) (hi := 200000) hi hw (by decide +kernel)) hu1 (by decide +kernel)) (by decide +kernel)) (by have := hn; omega) (by decide)
  refine j_l2i S dX0_nearestHole_14 ?_
  exact hret (sp_nog ((i * w) * u1) n) 15 _ rfl dX0_nearestHole_15
abbrev rmX0_missUpper : Room := { frames := 2, cells := 0, slots := 0, locals := 46 }
theorem hdX0_missUpper : yX0_missUpper.cls ≠ "java/lang/invoke/MethodHandle" ∧ yX0_missUpper.cls ≠ "java/lang/invoke/VarHandle" ∧ (parseMethodDescriptor yX0_missUpper.desc).map (fun d => d.parameters.length) = some 3 := by decide +kernel
set_option maxHeartbeats 4000000 in
set_option maxRecDepth 100000 in
theorem c_X0_missUpper (l : Launch) (D : va_G) (h a0 a1 a2 a3 : Nat) (cA : ClassId) (H T E F : Int → Int) (cc gc w d v : Int) (hok : SOK H T E cc gc w d v) (u1 : Int) (n : Int) (i : Int) (hu1 : 5 ≤ u1 ∧ u1 ≤ 120) (hn : 2 ≤ n ∧ n ≤ 1000) (hi : 0 ≤ i ∧ i ≤ 1000) : MI l yX0_missUpper wsX0_missUpper rmX0_missUpper [.ref h, jI u1, jI n, jI i] (WB D (XW h a0 a1 a2 a3 cA H T E F cc gc w d v) cA) (fun rR => rR = sp_ms w u1 n i) := by
  refine MI_of (cc := cX0_missUpper) (maxL := 4) (by decide) rfl (Nat.le_of_ble_eq_true rfl) ?_
  intro pP eE sS mM aA bL mT cC QQ ls S hret ⟨hP, hK⟩ hl
  obtain ⟨hcc, hgc, hw, hd, hv, hH, hT, hE⟩ := id hok
  have hin : ∀ w ∈ wsX00, w ∈ wsX0_missUpper := fun w hw => List.mem_cons_of_mem _ (List.mem_append_right _ hw)
  have hl : lv_has ls 4 [(0, .ref h), (1, jI u1), (2, jI n), (3, jI i)] := hl
  refine lv_aload_n S.1 S.2.1 dX0_missUpper_0 rfl (lv_at hl 0 rfl) ?_
  refine j_iload_n S dX0_missUpper_1 rfl (lv_at hl 1 rfl) ?_
  refine j_iload_n S dX0_missUpper_2 rfl (lv_at hl 2 rfl) ?_
  refine j_iload_n S dX0_missUpper_3 rfl (lv_at hl 3 rfl) ?_
  refine j_cvi (As := [jI u1, jI n, jI i]) (ci := 0) S (c_X0_nearestHole l D h a0 a1 a2 a3 cA H T E F cc gc w d v hok u1 n i (iv_w hu1 (by decide +kernel)) (iv_w hn (by decide +kernel)) (iv_w hi (by decide +kernel))) (cwV 3 S.2.2.2.2 gX0_missUpper_X0_nearestHole rfl rfl rfl ⟨rfl, hdX0_nearestHole⟩ ⟨Nat.le_of_ble_eq_true rfl, Nat.le_of_ble_eq_true rfl⟩) hK hP rfl rfl rfl [] rfl rfl hl.1 (Nat.le_of_ble_eq_true rfl) ⟨Nat.zero_le _, Nat.zero_le _⟩ dX0_missUpper_4 (fun i4 q4 => ?_)
  subst q4
  have r1_ : 0 ≤ (sp_hn w u1 n i) ∧ (sp_hn w u1 n i) ≤ 48001000 := sp_hn_iv hw (iv_w (lo := 5) (hi := 120) hu1 (by decide +kernel)) (iv_w (lo := 0) (hi := 1000) hi (by decide +kernel)) (iv_w (lo := 2) (hi := 1000) hn (by decide +kernel))
  refine j_iload_n S dX0_missUpper_7 rfl (lv_at hl 2 rfl) ?_
  refine j_imul S dX0_missUpper_8 ?_
  refine j_iload_n S dX0_missUpper_9 rfl (lv_at hl 3 rfl) ?_
  refine lv_aload_n S.1 S.2.1 dX0_missUpper_10 rfl (lv_at hl 0 rfl) ?_
  refine j_get (v := jI w) S hin hK hP rfl rfl 6 (by decide) (List.mem_of_getElem? (i := 1) rfl) rfl dX0_missUpper_11 ?_
  refine j_imul S dX0_missUpper_14 ?_
  refine j_iload_n S dX0_missUpper_15 rfl (lv_at hl 1 rfl) ?_
  refine j_imul S dX0_missUpper_16 ?_
  refine j_isub S dX0_missUpper_17 ?_
  exact hret (((sp_hn w u1 n i) * n) - ((i * w) * u1)) 18 _ rfl dX0_missUpper_18
abbrev rmX0_worstUpper : Room := { frames := 3, cells := 0, slots := 0, locals := 69 }
theorem hdX0_worstUpper : yX0_worstUpper.cls ≠ "java/lang/invoke/MethodHandle" ∧ yX0_worstUpper.cls ≠ "java/lang/invoke/VarHandle" ∧ (parseMethodDescriptor yX0_worstUpper.desc).map (fun d => d.parameters.length) = some 2 := by decide +kernel
set_option maxHeartbeats 4000000 in
set_option maxRecDepth 100000 in
theorem c_X0_worstUpper (l : Launch) (D : va_G) (h a0 a1 a2 a3 : Nat) (cA : ClassId) (H T E F : Int → Int) (cc gc w d v : Int) (hok : SOK H T E cc gc w d v) (u1 : Int) (n : Int) (hu1 : 5 ≤ u1 ∧ u1 ≤ 120) (hn : 2 ≤ n ∧ n ≤ 1000) : MI l yX0_worstUpper wsX0_worstUpper rmX0_worstUpper [.ref h, jI u1, jI n] (WB D (XW h a0 a1 a2 a3 cA H T E F cc gc w d v) cA) (fun rR => rR = sp_wu w u1 n) := by
  refine MI_of (cc := cX0_worstUpper) (maxL := 5) (by decide) rfl (Nat.le_of_ble_eq_true rfl) ?_
  intro pP eE sS mM aA bL mT cC QQ ls S hret ⟨hP, hK⟩ hl
  obtain ⟨hcc, hgc, hw, hd, hv, hH, hT, hE⟩ := id hok
  have hin : ∀ w ∈ wsX00, w ∈ wsX0_worstUpper := fun w hw => List.mem_cons_of_mem _ (List.mem_append_right _ hw)
  have hl : lv_has ls 5 [(0, .ref h), (1, jI u1), (2, jI n)] := hl
  refine j_iconst S dX0_worstUpper_0 ?_
  refine j_istore_n (lv' := [(3, jI 0), (0, .ref h), (1, jI u1), (2, jI n)]) S dX0_worstUpper_1 rfl hl (by decide) rfl (fun ls hl => ?_)
  refine j_iconst S dX0_worstUpper_2 ?_
  refine j_istore (lv' := [(4, jI 0), (3, jI 0), (0, .ref h), (1, jI u1), (2, jI n)]) S dX0_worstUpper_3 hl (by decide) rfl (fun ls hl => ?_)
  have loop5 : ∀ (N : Nat) (b k : Int) (ls : Array Slot), (0 ≤ k ∧ k ≤ 1001) → (k ≤ n + 1) → (b = sp_wf w u1 n k) → (0 ≤ b ∧ b ≤ 500) → n + 1 - k < (N : Int) → lv_has ls 5 [(4, jI k), (3, jI b), (0, .ref h), (1, jI u1), (2, jI n)] → W pP l eE rmX0_worstUpper sS mM aA bL mT cC sS.heap [] 0 0 QQ (F0 mM 5 ls []) := by
    intro N
    induction N with
    | zero =>
      intro b k ls hk hk2 hb hbi hN
      exact absurd hN (by omega)
    | succ N ih5 =>
      intro b k ls hk hk2 hb hbi hN hl
      refine j_iload S dX0_worstUpper_5 (lv_at hl 0 rfl) ?_
      refine j_iload_n S dX0_worstUpper_7 rfl (lv_at hl 4 rfl) ?_
      refine j_icmp_gt (tgt := 33) S dX0_worstUpper_8 (by decide) (iv_i hk (by decide +kernel)) (iv_i hn (by decide +kernel)) (fun c8 => ?_) (fun c8 => ?_)
      · have r1_ : 3 ≤ k ∧ k ≤ 1001 := by omega
        refine j_iload_n S dX0_worstUpper_33 rfl (lv_at hl 1 rfl) ?_
        exact hret b 34 _ (by rw [hb, show k = n + 1 from by omega]; rfl) dX0_worstUpper_34
      · have r2_ : 0 ≤ k ∧ k ≤ 1000 := by omega
        refine j_iload_n S dX0_worstUpper_11 rfl (lv_at hl 1 rfl) ?_
        refine lv_aload_n S.1 S.2.1 dX0_worstUpper_12 rfl (lv_at hl 2 rfl) ?_
        refine j_iload_n S dX0_worstUpper_13 rfl (lv_at hl 3 rfl) ?_
        refine j_iload_n S dX0_worstUpper_14 rfl (lv_at hl 4 rfl) ?_
        refine j_iload S dX0_worstUpper_15 (lv_at hl 0 rfl) ?_
        refine j_cvi (As := [jI u1, jI n, jI k]) (ci := 0) S (c_X0_missUpper l D h a0 a1 a2 a3 cA H T E F cc gc w d v hok u1 n k (iv_w hu1 (by decide +kernel)) (iv_w hn (by decide +kernel)) (iv_w r2_ (by decide +kernel))) (cwV 3 S.2.2.2.2 gX0_worstUpper_X0_missUpper rfl rfl rfl ⟨rfl, hdX0_missUpper⟩ ⟨Nat.le_of_ble_eq_true rfl, Nat.le_of_ble_eq_true rfl⟩) hK hP rfl rfl rfl [jI b] rfl rfl hl.1 (Nat.le_of_ble_eq_true rfl) ⟨Nat.zero_le _, Nat.zero_le _⟩ dX0_worstUpper_17 (fun i17 q17 => ?_)
        subst q17
        have r3_ : (-500) ≤ (sp_ms w u1 n k) ∧ (sp_ms w u1 n k) ≤ 500 := sp_ms_iv (iv_w (lo := 2) (hi := 1000) hn (by decide +kernel))
        refine j_mabs S hl.1 (List.mem_of_getElem? (i := 1) rfl) (List.mem_of_getElem? (i := 2) rfl) (List.mem_of_getElem? (i := 3) rfl) (List.mem_of_getElem? (i := 4) rfl) (Nat.le_of_ble_eq_true rfl) (Nat.le_of_ble_eq_true rfl) ⟨Nat.zero_le _, Nat.zero_le _⟩ r3_ (by decide +kernel) dX0_worstUpper_20 ?_
        have t4_ : (-500) ≤ (sp_ms w u1 n k) ∧ (sp_ms w u1 n k) ≤ 500 := r3_
        have r5_ : 0 ≤ ((Int.natAbs (sp_ms w u1 n k) : Nat) : Int) ∧ ((Int.natAbs (sp_ms w u1 n k) : Nat) : Int) ≤ 500 := by omega
        refine j_mmax S hl.1 (List.mem_of_getElem? (i := 5) rfl) (List.mem_of_getElem? (i := 6) rfl) (List.mem_of_getElem? (i := 3) rfl) (List.mem_of_getElem? (i := 7) rfl) (Nat.le_of_ble_eq_true rfl) (Nat.le_of_ble_eq_true rfl) ⟨Nat.zero_le _, Nat.zero_le _⟩ (iv_i hbi (by decide +kernel)) (iv_i r5_ (by decide +kernel)) dX0_worstUpper_23 ?_
        have t6_ : 0 ≤ b ∧ b ≤ 500 := hbi
        have t7_ : 0 ≤ ((Int.natAbs (sp_ms w u1 n k) : Nat) : Int) ∧ ((Int.natAbs (sp_ms w u1 n k) : Nat) : Int) ≤ 500 := r5_
        have r8_ : 0 ≤ (max b ((Int.natAbs (sp_ms w u1 n k) : Nat) : Int)) ∧ (max b ((Int.natAbs (sp_ms w u1 n k) : Nat) : Int)) ≤ 500 := by omega
        refine j_istore_n (lv' := [(3, jI (max b ((Int.natAbs (sp_ms w u1 n k) : Nat) : Int))), (4, jI k), (0, .ref h), (1, jI u1), (2, jI n)]) S dX0_worstUpper_26 rfl hl (by decide) rfl (fun ls hl => ?_)
        refine j_iinc (k := 1) (y := (k + 1)) (lv' := [(4, jI (k + 1)), (3, jI (max b ((Int.natAbs (sp_ms w u1 n k) : Nat) : Int))), (0, .ref h), (1, jI u1), (2, jI n)]) S dX0_worstUpper_27 hl rfl rfl (by decide) rfl (fun ls hl => ?_)
        refine j_goto (tgt := 5) S dX0_worstUpper_30 (by decide) ?_
        exact ih5 (max b ((Int.natAbs (sp_ms w u1 n k) : Nat) : Int)) (k + 1) _ (by omega) (by omega) (by rw [sp_wf_s (by omega), ← hb]) (by omega) (by omega) (lv_sub hl [0, 1, 2, 3, 4] rfl)
  exact loop5 1002 0 0 _ (by omega) (by omega) rfl (by omega) (by omega) (lv_sub hl [0, 1, 2, 3, 4] rfl)
abbrev rmX0_exactCuts : Room := { frames := 3, cells := 0, slots := 0, locals := 69 }
theorem hdX0_exactCuts : yX0_exactCuts.cls ≠ "java/lang/invoke/MethodHandle" ∧ yX0_exactCuts.cls ≠ "java/lang/invoke/VarHandle" ∧ (parseMethodDescriptor yX0_exactCuts.desc).map (fun d => d.parameters.length) = some 2 := by decide +kernel
set_option maxHeartbeats 4000000 in
set_option maxRecDepth 100000 in
theorem c_X0_exactCuts (l : Launch) (D : va_G) (h a0 a1 a2 a3 : Nat) (cA : ClassId) (H T E F : Int → Int) (cc gc w d v : Int) (hok : SOK H T E cc gc w d v) (u1 : Int) (n : Int) (hu1 : 5 ≤ u1 ∧ u1 ≤ 120) (hn : 2 ≤ n ∧ n ≤ 1000) : MI l yX0_exactCuts wsX0_exactCuts rmX0_exactCuts [.ref h, jI u1, jI n] (WB D (XW h a0 a1 a2 a3 cA H T E F cc gc w d v) cA) (fun rR => rR = sp_xf w u1 n n) := by
  refine MI_of (cc := cX0_exactCuts) (maxL := 5) (by decide) rfl (Nat.le_of_ble_eq_true rfl) ?_
  intro pP eE sS mM aA bL mT cC QQ ls S hret ⟨hP, hK⟩ hl
  obtain ⟨hcc, hgc, hw, hd, hv, hH, hT, hE⟩ := id hok
  have hin : ∀ w ∈ wsX00, w ∈ wsX0_exactCuts := fun w hw => List.mem_cons_of_mem _ (List.mem_append_right _ hw)
  have hl : lv_has ls 5 [(0, .ref h), (1, jI u1), (2, jI n)] := hl
  refine j_iconst S dX0_exactCuts_0 ?_
  refine j_istore_n (lv' := [(3, jI 0), (0, .ref h), (1, jI u1), (2, jI n)]) S dX0_exactCuts_1 rfl hl (by decide) rfl (fun ls hl => ?_)
  refine j_iconst S dX0_exactCuts_2 ?_
  refine j_istore (lv' := [(4, jI 0), (3, jI 0), (0, .ref h), (1, jI u1), (2, jI n)]) S dX0_exactCuts_3 hl (by decide) rfl (fun ls hl => ?_)
  have loop5 : ∀ (N : Nat) (b k : Int) (ls : Array Slot), (0 ≤ k ∧ k ≤ 1000) → (k ≤ n) → (b = sp_xf w u1 n k) → n - k < (N : Int) → lv_has ls 5 [(4, jI k), (3, jI b), (0, .ref h), (1, jI u1), (2, jI n)] → W pP l eE rmX0_exactCuts sS mM aA bL mT cC sS.heap [] 0 0 QQ (F0 mM 5 ls []) := by
    intro N
    induction N with
    | zero =>
      intro b k ls hk hk2 hb hN
      exact absurd hN (by omega)
    | succ N ih5 =>
      intro b k ls hk hk2 hb hN hl
      refine j_iload S dX0_exactCuts_5 (lv_at hl 0 rfl) ?_
      refine j_iload_n S dX0_exactCuts_7 rfl (lv_at hl 4 rfl) ?_
      refine j_icmp_ge (tgt := 31) S dX0_exactCuts_8 (by decide) (iv_i hk (by decide +kernel)) (iv_i hn (by decide +kernel)) (fun c8 => ?_) (fun c8 => ?_)
      · have r1_ : 2 ≤ k ∧ k ≤ 1000 := by omega
        refine j_iload_n S dX0_exactCuts_31 rfl (lv_at hl 1 rfl) ?_
        exact hret b 32 _ (by rw [hb, show k = n from by omega]) dX0_exactCuts_32
      · have r2_ : 0 ≤ k ∧ k ≤ 999 := by omega
        refine lv_aload_n S.1 S.2.1 dX0_exactCuts_11 rfl (lv_at hl 2 rfl) ?_
        refine j_iload_n S dX0_exactCuts_12 rfl (lv_at hl 3 rfl) ?_
        refine j_iload_n S dX0_exactCuts_13 rfl (lv_at hl 4 rfl) ?_
        refine j_iload S dX0_exactCuts_14 (lv_at hl 0 rfl) ?_
        refine j_cvi (As := [jI u1, jI n, jI k]) (ci := 0) S (c_X0_missUpper l D h a0 a1 a2 a3 cA H T E F cc gc w d v hok u1 n k (iv_w hu1 (by decide +kernel)) (iv_w hn (by decide +kernel)) (iv_w r2_ (by decide +kernel))) (cwV 3 S.2.2.2.2 gX0_exactCuts_X0_missUpper rfl rfl rfl ⟨rfl, hdX0_missUpper⟩ ⟨Nat.le_of_ble_eq_true rfl, Nat.le_of_ble_eq_true rfl⟩) hK hP rfl rfl rfl [] rfl rfl hl.1 (Nat.le_of_ble_eq_true rfl) ⟨Nat.zero_le _, Nat.zero_le _⟩ dX0_exactCuts_16 (fun i16 q16 => ?_)
        subst q16
        have r3_ : (-500) ≤ (sp_ms w u1 n k) ∧ (sp_ms w u1 n k) ≤ 500 := sp_ms_iv (iv_w (lo := 2) (hi := 1000) hn (by decide +kernel))
        refine j_if_ne (tgt := 25) S dX0_exactCuts_19 (by decide) (iv_i r3_ (by decide +kernel)) (fun c19 => ?_) (fun c19 => ?_)
        · refine j_iinc (k := 0) (y := (k + 1)) (lv' := [(4, jI (k + 1)), (3, jI b), (0, .ref h), (1, jI u1), (2, jI n)]) S dX0_exactCuts_25 hl rfl rfl (by decide) rfl (fun ls hl => ?_)
          refine j_goto (tgt := 5) S dX0_exactCuts_28 (by decide) ?_
          exact ih5 b (k + 1) _ (by omega) (by omega) (by rw [sp_xf_s (by omega), ← hb]; split <;> omega) (by omega) (lv_sub hl [0, 1, 2, 3, 4] rfl)
        · have r4_ : 0 ≤ (sp_ms w u1 n k) ∧ (sp_ms w u1 n k) ≤ 0 := by omega
          refine j_iinc (k := 1) (y := (b + 1)) (lv' := [(3, jI (b + 1)), (4, jI k), (0, .ref h), (1, jI u1), (2, jI n)]) S dX0_exactCuts_22 hl rfl rfl (by decide) rfl (fun ls hl => ?_)
          refine j_iinc (k := 1) (y := (k + 1)) (lv' := [(4, jI (k + 1)), (3, jI (b + 1)), (0, .ref h), (1, jI u1), (2, jI n)]) S dX0_exactCuts_25 hl rfl rfl (by decide) rfl (fun ls hl => ?_)
          refine j_goto (tgt := 5) S dX0_exactCuts_28 (by decide) ?_
          exact ih5 (b + 1) (k + 1) _ (by omega) (by omega) (by rw [sp_xf_s (by omega), ← hb]; split <;> omega) (by omega) (lv_sub hl [0, 1, 2, 3, 4] rfl)
  exact loop5 1001 0 0 _ (by omega) (by omega) rfl (by omega) (lv_sub hl [0, 1, 2, 3, 4] rfl)
abbrev rmX0_errorUpper : Room := { frames := 0, cells := 0, slots := 0, locals := 0 }
theorem hdX0_errorUpper : yX0_errorUpper.cls ≠ "java/lang/invoke/MethodHandle" ∧ yX0_errorUpper.cls ≠ "java/lang/invoke/VarHandle" ∧ (parseMethodDescriptor yX0_errorUpper.desc).map (fun d => d.parameters.length) = some 3 := by decide +kernel
set_option maxHeartbeats 4000000 in
set_option maxRecDepth 100000 in
theorem c_X0_errorUpper (l : Launch) (D : va_G) (h a0 a1 a2 a3 : Nat) (cA : ClassId) (H T E F : Int → Int) (cc gc w d v : Int) (hok : SOK H T E cc gc w d v) (u1 : Int) (s : Int) (i : Int) (hu1 : 5 ≤ u1 ∧ u1 ≤ 120) (hs : 1 ≤ s ∧ s ≤ 100000) (hi : 0 ≤ i ∧ i ≤ 10000) : MI l yX0_errorUpper wsX0_errorUpper rmX0_errorUpper [.ref h, jI u1, jI s, jI i] (WB D (XW h a0 a1 a2 a3 cA H T E F cc gc w d v) cA) (fun rR => rR = sp_er E u1 s i) := by
  refine MI_of (cc := cX0_errorUpper) (maxL := 7) (by decide) rfl (Nat.le_of_ble_eq_true rfl) ?_
  intro pP eE sS mM aA bL mT cC QQ ls S hret ⟨hP, hK⟩ hl
  obtain ⟨hcc, hgc, hw, hd, hv, hH, hT, hE⟩ := id hok
  have hin : ∀ w ∈ wsX00, w ∈ wsX0_errorUpper := fun w hw => List.mem_cons_of_mem _ (List.mem_append_right _ hw)
  have hl : lv_has ls 7 [(0, .ref h), (1, jI u1), (2, jI s), (3, jI i)] := hl
  refine j_iload_n S dX0_errorUpper_0 rfl (lv_at hl 1 rfl) ?_
  refine j_iconst S dX0_errorUpper_1 ?_
  refine j_icmp_ge (tgt := 7) S dX0_errorUpper_2 (by decide) (iv_i hu1 (by decide +kernel)) (iv_i (iv_n 1) (by decide +kernel)) (fun c2 => ?_) (fun z9 => by have : 5 ≤ u1 ∧ u1 ≤ 120 := hu1; omega)
  refine j_iload_n S dX0_errorUpper_7 rfl (lv_at hl 3 rfl) ?_
  refine j_i2l S dX0_errorUpper_8 (iv_i hi (by decide +kernel)) ?_
  refine j_iload_n S dX0_errorUpper_9 rfl (lv_at hl 2 rfl) ?_
  refine j_i2l S dX0_errorUpper_10 (iv_i hs (by decide +kernel)) ?_
  refine j_lmul S dX0_errorUpper_11 ?_
  refine j_iload_n S dX0_errorUpper_12 rfl (lv_at hl 1 rfl) ?_
  refine j_i2l S dX0_errorUpper_13 (iv_i hu1 (by decide +kernel)) ?_
  refine j_lremp S dX0_errorUpper_14 (iv_l (iv_mulp (lo := 0) (hi := 1000000000) hi hs (by decide +kernel)) (by decide +kernel)) (iv_pl hu1 (by decide +kernel)) (iv_nn (iv_mulp (lo := 0) (hi := 1000000000) hi hs (by decide +kernel)) (by decide +kernel)) ?_
  refine j_l2i S dX0_errorUpper_15 ?_
  refine j_istore (lv' := [(4, jI ((i * s) % u1)), (0, .ref h), (1, jI u1), (2, jI s), (3, jI i)]) S dX0_errorUpper_16 hl (by decide) rfl (fun ls hl => ?_)
  refine j_iload S dX0_errorUpper_18 (lv_at hl 0 rfl) ?_
  refine j_bipush S dX0_errorUpper_20 (by decide) ?_
  refine j_imul S dX0_errorUpper_22 ?_
  refine j_iload_n S dX0_errorUpper_23 rfl (lv_at hl 2 rfl) ?_
  refine j_idivp S dX0_errorUpper_24 (iv_i (iv_mulp (lo := 0) (hi := 952) (iv_mod (lo := 0) (hi := 119) hu1 (by decide +kernel)) (iv_n 8) (by decide +kernel)) (by decide +kernel)) (iv_pi hu1 (by decide +kernel)) (iv_nn (iv_mulp (lo := 0) (hi := 952) (iv_mod (lo := 0) (hi := 119) hu1 (by decide +kernel)) (iv_n 8) (by decide +kernel)) (by decide +kernel)) ?_
  refine j_istore (lv' := [(5, jI ((((i * s) % u1) * 8) / u1)), (4, jI ((i * s) % u1)), (0, .ref h), (1, jI u1), (2, jI s), (3, jI i)]) S dX0_errorUpper_25 hl (by decide) rfl (fun ls hl => ?_)
  refine j_iload S dX0_errorUpper_27 (lv_at hl 1 rfl) ?_
  refine j_bipush S dX0_errorUpper_29 (by decide) ?_
  refine j_imul S dX0_errorUpper_31 ?_
  refine j_iload_n S dX0_errorUpper_32 rfl (lv_at hl 3 rfl) ?_
  refine j_iremp S dX0_errorUpper_33 (iv_i (iv_mulp (lo := 0) (hi := 952) (iv_mod (lo := 0) (hi := 119) hu1 (by decide +kernel)) (iv_n 8) (by decide +kernel)) (by decide +kernel)) (iv_pi hu1 (by decide +kernel)) (iv_nn (iv_mulp (lo := 0) (hi := 952) (iv_mod (lo := 0) (hi := 119) hu1 (by decide +kernel)) (iv_n 8) (by decide +kernel)) (by decide +kernel)) ?_
  refine j_istore (lv' := [(6, jI ((((i * s) % u1) * 8) % u1)), (5, jI ((((i * s) % u1) * 8) / u1)), (4, jI ((i * s) % u1)), (0, .ref h), (1, jI u1), (2, jI s), (3, jI i)]) S dX0_errorUpper_34 hl (by decide) rfl (fun ls hl => ?_)
  refine lv_aload_n S.1 S.2.1 dX0_errorUpper_36 rfl (lv_at hl 3 rfl) ?_
  refine j_get (v := .ref a2) S hin hK hP rfl rfl 2 (by decide) (List.mem_of_getElem? (i := 1) rfl) rfl dX0_errorUpper_37 ?_
  refine j_iload S dX0_errorUpper_40 (lv_at hl 1 rfl) ?_
  refine j_bipush S dX0_errorUpper_42 (by decide) ?_
  refine j_iremp S dX0_errorUpper_44 (iv_i (iv_div (lo := 0) (hi := 952) (iv_mulp (lo := 0) (hi := 952) (iv_mod (lo := 0) (hi := 119) hu1 (by decide +kernel)) (iv_n 8) (by decide +kernel)) (by have := hu1; omega) (by decide +kernel)) (by decide +kernel)) (iv_pi (iv_n 8) (by decide +kernel)) (iv_nn (iv_div (lo := 0) (hi := 952) (iv_mulp (lo := 0) (hi := 952) (iv_mod (lo := 0) (hi := 119) hu1 (by decide +kernel)) (iv_n 8) (by decide +kernel)) (by have := hu1; omega) (by decide +kernel)) (by decide +kernel)) ?_
  refine j_iald S hK hP 3 0 rfl rfl (iv_ix (n := 8) (iv_mod (lo := 0) (hi := 7) (iv_n 8) (by decide +kernel)) (by decide +kernel)) dX0_errorUpper_45 ?_
  have t2_ : 0 ≤ (((((i * s) % u1) * 8) / u1) % 8) ∧ (((((i * s) % u1) * 8) / u1) % 8) ≤ 7 := (iv_mod (lo := 0) (hi := 7) (iv_n 8) (by decide +kernel))
  have r1_ := hE (((((i * s) % u1) * 8) / u1) % 8) (by omega) (by omega)
  refine j_iload_n S dX0_errorUpper_46 rfl (lv_at hl 4 rfl) ?_
  refine j_iload S dX0_errorUpper_47 (lv_at hl 0 rfl) ?_
  refine j_isub S dX0_errorUpper_49 ?_
  refine j_imul S dX0_errorUpper_50 ?_
  refine lv_aload_n S.1 S.2.1 dX0_errorUpper_51 rfl (lv_at hl 3 rfl) ?_
  refine j_get (v := .ref a2) S hin hK hP rfl rfl 2 (by decide) (List.mem_of_getElem? (i := 1) rfl) rfl dX0_errorUpper_52 ?_
  refine j_iload S dX0_errorUpper_55 (lv_at hl 1 rfl) ?_
  refine j_iconst S dX0_errorUpper_57 ?_
  refine j_iadd S dX0_errorUpper_58 ?_
  refine j_bipush S dX0_errorUpper_59 (by decide) ?_
  refine j_iremp S dX0_errorUpper_61 (iv_i (iv_add (lo := 1) (hi := 953) (iv_div (lo := 0) (hi := 952) (iv_mulp (lo := 0) (hi := 952) (iv_mod (lo := 0) (hi := 119) hu1 (by decide +kernel)) (iv_n 8) (by decide +kernel)) (by have := hu1; omega) (by decide +kernel)) (iv_n 1) (by decide +kernel)) (by decide +kernel)) (iv_pi (iv_n 8) (by decide +kernel)) (iv_nn (iv_add (lo := 1) (hi := 953) (iv_div (lo := 0) (hi := 952) (iv_mulp (lo := 0) (hi := 952) (iv_mod (lo := 0) (hi := 119) hu1 (by decide +kernel)) (iv_n 8) (by decide +kernel)) (by have := hu1; omega) (by decide +kernel)) (iv_n 1) (by decide +kernel)) (by decide +kernel)) ?_
  refine j_iald S hK hP 3 0 rfl rfl (iv_ix (n := 8) (iv_mod (lo := 0) (hi := 7) (iv_n 8) (by decide +kernel)) (by decide +kernel)) dX0_errorUpper_62 ?_
  have t4_ : 0 ≤ ((((((i * s) % u1) * 8) / u1) + 1) % 8) ∧ ((((((i * s) % u1) * 8) / u1) + 1) % 8) ≤ 7 := (iv_mod (lo := 0) (hi := 7) (iv_n 8) (by decide +kernel))
  have r3_ := hE ((((((i * s) % u1) * 8) / u1) + 1) % 8) (by omega) (by omega)
  refine j_iload S dX0_errorUpper_63 (lv_at hl 0 rfl) ?_
  refine j_imul S dX0_errorUpper_65 ?_
  refine j_iadd S dX0_errorUpper_66 ?_
  exact hret (((E (((((i * s) % u1) * 8) / u1) % 8)) * (u1 - ((((i * s) % u1) * 8) % u1))) + ((E ((((((i * s) % u1) * 8) / u1) + 1) % 8)) * ((((i * s) % u1) * 8) % u1))) 67 _ rfl dX0_errorUpper_67
abbrev rmX0_gapUpper : Room := { frames := 1, cells := 0, slots := 0, locals := 24 }
theorem hdX0_gapUpper : yX0_gapUpper.cls ≠ "java/lang/invoke/MethodHandle" ∧ yX0_gapUpper.cls ≠ "java/lang/invoke/VarHandle" ∧ (parseMethodDescriptor yX0_gapUpper.desc).map (fun d => d.parameters.length) = some 3 := by decide +kernel
set_option maxHeartbeats 4000000 in
set_option maxRecDepth 100000 in
theorem c_X0_gapUpper (l : Launch) (p : Int) (q : Int) (low : Int) (hp : 1 ≤ p ∧ p ≤ 1000000) (hq : 1 ≤ q ∧ q ≤ 1000000) (hlow : 1 ≤ low ∧ low ≤ 10000) : ML l yX0_gapUpper wsX0_gapUpper rmX0_gapUpper [jI p, jI q, jI low] W0 (fun rR => rR = sp_gap p q low) := by
  refine ML_of (cc := cX0_gapUpper) (maxL := 5) (by decide) rfl (Nat.le_of_ble_eq_true rfl) ?_
  intro pP eE sS mM aA bL mT cC QQ ls S hret _ hl
  have hl : lv_has ls 5 [(0, jI p), (1, jI q), (2, jI low)] := hl
  refine j_iload_n S dX0_gapUpper_0 rfl (lv_at hl 0 rfl) ?_
  refine j_i2l S dX0_gapUpper_1 (iv_i hp (by decide +kernel)) ?_
  refine j_iload_n S dX0_gapUpper_2 rfl (lv_at hl 2 rfl) ?_
  refine j_i2l S dX0_gapUpper_3 (iv_i hlow (by decide +kernel)) ?_
  refine j_lmul S dX0_gapUpper_4 ?_
  refine j_lstore_n (lv' := [(3, jL (p * low)), (0, jI p), (1, jI q), (2, jI low)]) S dX0_gapUpper_5 rfl hl (by decide) rfl (fun ls hl => ?_)
  refine j_lload_n S dX0_gapUpper_6 rfl (lv_at hl 0 rfl) ?_
  refine j_iload_n S dX0_gapUpper_7 rfl (lv_at hl 2 rfl) ?_
  refine j_i2l S dX0_gapUpper_8 (iv_i hq (by decide +kernel)) ?_
  refine j_csl (As := [jL (p * low), jL q]) S (c_X0_nearestOrLesser l (p * low) q (iv_w (iv_mulp (lo := 1) (hi := 10000000000) hp hlow (by decide +kernel)) (by decide +kernel)) (iv_w hq (by decide +kernel))) (va_cwS 2 S.2.2.2.2 gX0_gapUpper_X0_nearestOrLesser rfl rfl rfl hdX0_nearestOrLesser ⟨Nat.le_of_ble_eq_true rfl, Nat.le_of_ble_eq_true rfl⟩) [] rfl rfl hl.1 (Nat.le_of_ble_eq_true rfl) ⟨Nat.zero_le _, Nat.zero_le _⟩ dX0_gapUpper_9 (fun i9 q9 => ?_)
  subst q9
  have r1_ : 0 ≤ (sp_nol (p * low) q) ∧ (sp_nol (p * low) q) ≤ 10000000001 := sp_nol_iv (ub := 10000000001) (iv_w (lo := 0) (hi := 10000000000) (iv_mulp (lo := 1) (hi := 10000000000) hp hlow (by decide +kernel)) (by decide +kernel)) (by have := hq; omega) (by decide)
  refine j_iload_n S dX0_gapUpper_12 rfl (lv_at hl 2 rfl) ?_
  refine j_i2l S dX0_gapUpper_13 (iv_i hq (by decide +kernel)) ?_
  refine j_lmul S dX0_gapUpper_14 ?_
  refine j_lload_n S dX0_gapUpper_15 rfl (lv_at hl 0 rfl) ?_
  refine j_lsub S dX0_gapUpper_16 ?_
  refine j_mabsl S hl.1 (List.mem_of_getElem? (i := 1) rfl) (List.mem_of_getElem? (i := 2) rfl) (List.mem_of_getElem? (i := 3) rfl) (List.mem_of_getElem? (i := 4) rfl) (Nat.le_of_ble_eq_true rfl) (Nat.le_of_ble_eq_true rfl) ⟨Nat.zero_le _, Nat.zero_le _⟩ (iv_sub (lo := (-10000000000)) (hi := 10000000000999999) (iv_mulp (lo := 0) (hi := 10000000001000000) r1_ hq (by decide +kernel)) (iv_mulp (lo := 1) (hi := 10000000000) hp hlow (by decide +kernel)) (by decide +kernel)) (by decide +kernel) dX0_gapUpper_17 ?_
  have t2_ : (-10000000000) ≤ (((sp_nol (p * low) q) * q) - (p * low)) ∧ (((sp_nol (p * low) q) * q) - (p * low)) ≤ 10000000000999999 := (iv_sub (lo := (-10000000000)) (hi := 10000000000999999) (iv_mulp (lo := 0) (hi := 10000000001000000) r1_ hq (by decide +kernel)) (iv_mulp (lo := 1) (hi := 10000000000) hp hlow (by decide +kernel)) (by decide +kernel))
  have r3_ : 0 ≤ ((Int.natAbs (((sp_nol (p * low) q) * q) - (p * low)) : Nat) : Int) ∧ ((Int.natAbs (((sp_nol (p * low) q) * q) - (p * low)) : Nat) : Int) ≤ 10000000000999999 := by omega
  exact hret ((Int.natAbs (((sp_nol (p * low) q) * q) - (p * low)) : Nat) : Int) 20 _ rfl dX0_gapUpper_20
abbrev rmX0_nearestLower : Room := { frames := 2, cells := 0, slots := 0, locals := 48 }
theorem hdX0_nearestLower : yX0_nearestLower.cls ≠ "java/lang/invoke/MethodHandle" ∧ yX0_nearestLower.cls ≠ "java/lang/invoke/VarHandle" ∧ (parseMethodDescriptor yX0_nearestLower.desc).map (fun d => d.parameters.length) = some 3 := by decide +kernel
set_option maxHeartbeats 4000000 in
set_option maxRecDepth 100000 in
theorem c_X0_nearestLower (l : Launch) (p : Int) (q : Int) (limit : Int) (hp : 1 ≤ p ∧ p ≤ 1000000) (hq : 1 ≤ q ∧ q ≤ 1000000) (hlimit : 1 ≤ limit ∧ limit ≤ 10000) : MI l yX0_nearestLower wsX0_nearestLower rmX0_nearestLower [jI p, jI q, jI limit] W0 (fun rR => rR = sp_nr p q limit) := by
  refine MI_of (cc := cX0_nearestLower) (maxL := 9) (by decide) rfl (Nat.le_of_ble_eq_true rfl) ?_
  intro pP eE sS mM aA bL mT cC QQ ls S hret _ hl
  have hl : lv_has ls 9 [(0, jI p), (1, jI q), (2, jI limit)] := hl
  refine j_iconst S dX0_nearestLower_0 ?_
  refine j_istore_n (lv' := [(3, jI 1), (0, jI p), (1, jI q), (2, jI limit)]) S dX0_nearestLower_1 rfl hl (by decide) rfl (fun ls hl => ?_)
  refine j_iload_n S dX0_nearestLower_2 rfl (lv_at hl 1 rfl) ?_
  refine j_iload_n S dX0_nearestLower_3 rfl (lv_at hl 2 rfl) ?_
  refine j_iconst S dX0_nearestLower_4 ?_
  refine j_csl (As := [jI p, jI q, jI 1]) S (c_X0_gapUpper l p q 1 (iv_w hp (by decide +kernel)) (iv_w hq (by decide +kernel)) (iv_w (iv_n 1) (by decide +kernel))) (va_cwS 3 S.2.2.2.2 gX0_nearestLower_X0_gapUpper rfl rfl rfl hdX0_gapUpper ⟨Nat.le_of_ble_eq_true rfl, Nat.le_of_ble_eq_true rfl⟩) [] rfl rfl hl.1 (Nat.le_of_ble_eq_true rfl) ⟨Nat.zero_le _, Nat.zero_le _⟩ dX0_nearestLower_5 (fun i5 q5 => ?_)
  subst q5
  have r1_ : 0 ≤ (sp_gap p q 1) ∧ (sp_gap p q 1) ≤ 500000 := sp_gap_iv (iv_w (lo := 1) (hi := 1000000) hq (by decide +kernel))
  refine j_lstore (lv' := [(4, jL (sp_gap p q 1)), (3, jI 1), (0, jI p), (1, jI q), (2, jI limit)]) S dX0_nearestLower_8 hl (by decide) rfl (fun ls hl => ?_)
  refine j_iconst S dX0_nearestLower_10 ?_
  refine j_istore (lv' := [(6, jI 2), (4, jL (sp_gap p q 1)), (3, jI 1), (0, jI p), (1, jI q), (2, jI limit)]) S dX0_nearestLower_11 hl (by decide) rfl (fun ls hl => ?_)
  have loop13 : ∀ (N : Nat) (b G k : Int) (ls : Array Slot), (2 ≤ k ∧ k ≤ 10001) → (k ≤ limit + 1) → (b = sp_nr p q (k - 1)) → (G = sp_gap p q b) → (1 ≤ b ∧ b ≤ 10000) → (0 ≤ G ∧ G ≤ 500000) → limit + 1 - k < (N : Int) → lv_has ls 9 [(6, jI k), (4, jL G), (3, jI b), (0, jI p), (1, jI q), (2, jI limit)] → W pP l eE rmX0_nearestLower sS mM aA bL mT cC sS.heap [] 0 0 QQ (F0 mM 13 ls []) := by
    intro N
    induction N with
    | zero =>
      intro b G k ls hk hk2 hb hg hbi hgi hN
      exact absurd hN (by omega)
    | succ N ih13 =>
      intro b G k ls hk hk2 hb hg hbi hgi hN hl
      refine j_iload S dX0_nearestLower_13 (lv_at hl 0 rfl) ?_
      refine j_iload_n S dX0_nearestLower_15 rfl (lv_at hl 5 rfl) ?_
      refine j_icmp_gt (tgt := 63) S dX0_nearestLower_16 (by decide) (iv_i hk (by decide +kernel)) (iv_i hlimit (by decide +kernel)) (fun c16 => ?_) (fun c16 => ?_)
      · refine j_iload_n S dX0_nearestLower_63 rfl (lv_at hl 2 rfl) ?_
        exact hret b 64 _ (by rw [hb, show k - 1 = limit from by omega]) dX0_nearestLower_64
      · have r2_ : 2 ≤ k ∧ k ≤ 10000 := by omega
        have r3_ : 2 ≤ limit ∧ limit ≤ 10000 := by omega
        refine j_lload S dX0_nearestLower_19 (lv_at hl 1 rfl) ?_
        refine j_lconst (a := 0) S dX0_nearestLower_21 rfl ?_
        refine j_lcmp_le (pc1 := 23) (tgt := 63) S rfl dX0_nearestLower_22 dX0_nearestLower_23 (by decide) (iv_l hgi (by decide +kernel)) (iv_l (iv_n 0) (by decide +kernel)) (fun c22 => ?_) (fun c22 => ?_)
        · have r4_ : 0 ≤ G ∧ G ≤ 0 := by omega
          refine j_iload_n S dX0_nearestLower_63 rfl (lv_at hl 2 rfl) ?_
          exact hret b 64 _ (by rw [hb]; exact (sp_nr_stop (by omega) (by omega) (by rw [← hb, ← hg]; exact c22)).symm) dX0_nearestLower_64
        · have r5_ : 1 ≤ G ∧ G ≤ 500000 := by omega
          refine j_iload_n S dX0_nearestLower_26 rfl (lv_at hl 3 rfl) ?_
          refine j_iload_n S dX0_nearestLower_27 rfl (lv_at hl 4 rfl) ?_
          refine j_iload S dX0_nearestLower_28 (lv_at hl 0 rfl) ?_
          refine j_csl (As := [jI p, jI q, jI k]) S (c_X0_gapUpper l p q k (iv_w hp (by decide +kernel)) (iv_w hq (by decide +kernel)) (iv_w r2_ (by decide +kernel))) (va_cwS 3 S.2.2.2.2 gX0_nearestLower_X0_gapUpper rfl rfl rfl hdX0_gapUpper ⟨Nat.le_of_ble_eq_true rfl, Nat.le_of_ble_eq_true rfl⟩) [] rfl rfl hl.1 (Nat.le_of_ble_eq_true rfl) ⟨Nat.zero_le _, Nat.zero_le _⟩ dX0_nearestLower_30 (fun i30 q30 => ?_)
          subst q30
          have r6_ : 0 ≤ (sp_gap p q k) ∧ (sp_gap p q k) ≤ 500000 := sp_gap_iv (iv_w (lo := 1) (hi := 1000000) hq (by decide +kernel))
          refine j_lstore (lv' := [(7, jL (sp_gap p q k)), (6, jI k), (4, jL G), (3, jI b), (0, jI p), (1, jI q), (2, jI limit)]) S dX0_nearestLower_33 hl (by decide) rfl (fun ls hl => ?_)
          refine j_lload S dX0_nearestLower_35 (lv_at hl 0 rfl) ?_
          refine j_iload_n S dX0_nearestLower_37 rfl (lv_at hl 3 rfl) ?_
          refine j_i2l S dX0_nearestLower_38 (iv_i hbi (by decide +kernel)) ?_
          refine j_lmul S dX0_nearestLower_39 ?_
          refine j_lload S dX0_nearestLower_40 (lv_at hl 2 rfl) ?_
          refine j_iload S dX0_nearestLower_42 (lv_at hl 1 rfl) ?_
          refine j_i2l S dX0_nearestLower_44 (iv_i r2_ (by decide +kernel)) ?_
          refine j_lmul S dX0_nearestLower_45 ?_
          refine j_lcmp_ge (pc1 := 47) (tgt := 57) S rfl dX0_nearestLower_46 dX0_nearestLower_47 (by decide) (iv_l (iv_mulp (lo := 0) (hi := 5000000000) r6_ hbi (by decide +kernel)) (by decide +kernel)) (iv_l (iv_mulp (lo := 2) (hi := 5000000000) r5_ r2_ (by decide +kernel)) (by decide +kernel)) (fun c46 => ?_) (fun c46 => ?_)
          · refine j_iinc (k := 1) (y := (k + 1)) (lv' := [(6, jI (k + 1)), (7, jL (sp_gap p q k)), (4, jL G), (3, jI b), (0, jI p), (1, jI q), (2, jI limit)]) S dX0_nearestLower_57 hl rfl rfl (by decide) rfl (fun ls hl => ?_)
            refine j_goto (tgt := 13) S dX0_nearestLower_60 (by decide) ?_
            exact ih13 b G (k + 1) _ (by omega) (by omega) (by rw [show k + 1 - 1 = k from by omega, sp_nr_s (by omega), ← hb, ← hg]; split <;> omega) hg (by omega) (by omega) (by omega) (lv_sub hl [0, 2, 3, 4, 5, 6] rfl)
          · refine j_iload S dX0_nearestLower_50 (lv_at hl 1 rfl) ?_
            refine j_istore_n (lv' := [(3, jI k), (7, jL (sp_gap p q k)), (6, jI k), (4, jL G), (0, jI p), (1, jI q), (2, jI limit)]) S dX0_nearestLower_52 rfl hl (by decide) rfl (fun ls hl => ?_)
            refine j_lload S dX0_nearestLower_53 (lv_at hl 1 rfl) ?_
            refine j_lstore (lv' := [(4, jL (sp_gap p q k)), (3, jI k), (7, jL (sp_gap p q k)), (6, jI k), (0, jI p), (1, jI q), (2, jI limit)]) S dX0_nearestLower_55 hl (by decide) rfl (fun ls hl => ?_)
            refine j_iinc (k := 3) (y := (k + 1)) (lv' := [(6, jI (k + 1)), (4, jL (sp_gap p q k)), (3, jI k), (7, jL (sp_gap p q k)), (0, jI p), (1, jI q), (2, jI limit)]) S dX0_nearestLower_57 hl rfl rfl (by decide) rfl (fun ls hl => ?_)
            refine j_goto (tgt := 13) S dX0_nearestLower_60 (by decide) ?_
            exact ih13 k (sp_gap p q k) (k + 1) _ (by omega) (by omega) (by rw [show k + 1 - 1 = k from by omega, sp_nr_s (by omega), ← hb, ← hg]; split <;> omega) rfl (by omega) (by omega) (by omega) (lv_sub hl [0, 1, 2, 4, 5, 6] rfl)
  exact loop13 10002 1 (sp_gap p q 1) 2 _ (by omega) (by omega) rfl rfl (by omega) (by omega) (by omega) (lv_sub hl [0, 1, 2, 3, 4, 5] rfl)
abbrev rmX0_mainMark : Room := { frames := 0, cells := 0, slots := 0, locals := 0 }
theorem hdX0_mainMark : yX0_mainMark.cls ≠ "java/lang/invoke/MethodHandle" ∧ yX0_mainMark.cls ≠ "java/lang/invoke/VarHandle" ∧ (parseMethodDescriptor yX0_mainMark.desc).map (fun d => d.parameters.length) = some 2 := by decide +kernel
set_option maxHeartbeats 4000000 in
set_option maxRecDepth 100000 in
theorem c_X0_mainMark (l : Launch) (D : va_G) (h a0 a1 a2 a3 : Nat) (cA : ClassId) (H T E F : Int → Int) (cc gc w d v : Int) (hok : SOK H T E cc gc w d v) (p : Int) (q : Int) (hp : 0 ≤ p ∧ p ≤ 1000000000000) (hq : 1 ≤ q ∧ q ≤ 1000000000000) (hpq : p < q) : ML l yX0_mainMark wsX0_mainMark rmX0_mainMark [.ref h, jL p, jL q] (WB D (XW h a0 a1 a2 a3 cA H T E F cc gc w d v) cA) (fun rR => rR = sp_mm d p q) := by
  refine ML_of (cc := cX0_mainMark) (maxL := 5) (by decide) rfl (Nat.le_of_ble_eq_true rfl) ?_
  intro pP eE sS mM aA bL mT cC QQ ls S hret ⟨hP, hK⟩ hl
  obtain ⟨hcc, hgc, hw, hd, hv, hH, hT, hE⟩ := id hok
  have hin : ∀ w ∈ wsX00, w ∈ wsX0_mainMark := fun w hw => List.mem_cons_of_mem _ (List.mem_append_right _ hw)
  have hl : lv_has ls 5 [(0, .ref h), (1, jL p), (3, jL q)] := hl
  refine j_lload_n S dX0_mainMark_0 rfl (lv_at hl 2 rfl) ?_
  refine j_lconst (a := 1) S dX0_mainMark_1 rfl ?_
  refine j_lcmp_ge (pc1 := 3) (tgt := 10) S rfl dX0_mainMark_2 dX0_mainMark_3 (by decide) (iv_l hq (by decide +kernel)) (iv_l (iv_n 1) (by decide +kernel)) (fun c2 => ?_) (fun z9 => by have : 1 ≤ q ∧ q ≤ 1000000000000 := hq; omega)
  refine j_lload_n S dX0_mainMark_10 rfl (lv_at hl 1 rfl) ?_
  refine lv_aload_n S.1 S.2.1 dX0_mainMark_11 rfl (lv_at hl 0 rfl) ?_
  refine j_get (v := jI d) S hin hK hP rfl rfl 7 (by decide) (List.mem_of_getElem? (i := 1) rfl) rfl dX0_mainMark_12 ?_
  refine j_i2l S dX0_mainMark_15 (iv_i hd (by decide +kernel)) ?_
  refine j_lmul S dX0_mainMark_16 ?_
  refine j_lload_n S dX0_mainMark_17 rfl (lv_at hl 2 rfl) ?_
  refine j_ldivp S dX0_mainMark_18 (iv_l (iv_mulp (lo := 0) (hi := 720000000000000) hp hd (by decide +kernel)) (by decide +kernel)) (iv_pl hq (by decide +kernel)) (iv_nn (iv_mulp (lo := 0) (hi := 720000000000000) hp hd (by decide +kernel)) (by decide +kernel)) ?_
  exact hret ((p * d) / q) 19 _ rfl dX0_mainMark_19
abbrev rmX0_vernierLine : Room := { frames := 1, cells := 0, slots := 0, locals := 24 }
theorem hdX0_vernierLine : yX0_vernierLine.cls ≠ "java/lang/invoke/MethodHandle" ∧ yX0_vernierLine.cls ≠ "java/lang/invoke/VarHandle" ∧ (parseMethodDescriptor yX0_vernierLine.desc).map (fun d => d.parameters.length) = some 2 := by decide +kernel
set_option maxHeartbeats 4000000 in
set_option maxRecDepth 100000 in
theorem c_X0_vernierLine (l : Launch) (D : va_G) (h a0 a1 a2 a3 : Nat) (cA : ClassId) (H T E F : Int → Int) (cc gc w d v : Int) (hok : SOK H T E cc gc w d v) (p : Int) (q : Int) (hp : 0 ≤ p ∧ p ≤ 1000000000000) (hq : 1 ≤ q ∧ q ≤ 1000000000000) (hpq : p < q) : ML l yX0_vernierLine wsX0_vernierLine rmX0_vernierLine [.ref h, jL p, jL q] (WB D (XW h a0 a1 a2 a3 cA H T E F cc gc w d v) cA) (fun rR => rR = sp_ln d v p q) := by
  refine ML_of (cc := cX0_vernierLine) (maxL := 7) (by decide) rfl (Nat.le_of_ble_eq_true rfl) ?_
  intro pP eE sS mM aA bL mT cC QQ ls S hret ⟨hP, hK⟩ hl
  obtain ⟨hcc, hgc, hw, hd, hv, hH, hT, hE⟩ := id hok
  have hin : ∀ w ∈ wsX00, w ∈ wsX0_vernierLine := fun w hw => List.mem_cons_of_mem _ (List.mem_append_right _ hw)
  have hl : lv_has ls 7 [(0, .ref h), (1, jL p), (3, jL q)] := hl
  refine j_lload_n S dX0_vernierLine_0 rfl (lv_at hl 1 rfl) ?_
  refine lv_aload_n S.1 S.2.1 dX0_vernierLine_1 rfl (lv_at hl 0 rfl) ?_
  refine j_get (v := jI d) S hin hK hP rfl rfl 7 (by decide) (List.mem_of_getElem? (i := 1) rfl) rfl dX0_vernierLine_2 ?_
  refine j_i2l S dX0_vernierLine_5 (iv_i hd (by decide +kernel)) ?_
  refine j_lmul S dX0_vernierLine_6 ?_
  refine lv_aload_n S.1 S.2.1 dX0_vernierLine_7 rfl (lv_at hl 0 rfl) ?_
  refine j_lload_n S dX0_vernierLine_8 rfl (lv_at hl 1 rfl) ?_
  refine j_lload_n S dX0_vernierLine_9 rfl (lv_at hl 2 rfl) ?_
  refine j_cvl (As := [jL p, jL q]) (ci := 0) S (c_X0_mainMark l D h a0 a1 a2 a3 cA H T E F cc gc w d v hok p q (iv_w hp (by decide +kernel)) (iv_w hq (by decide +kernel)) (by omega)) (cwV 2 S.2.2.2.2 gX0_vernierLine_X0_mainMark rfl rfl rfl ⟨rfl, hdX0_mainMark⟩ ⟨Nat.le_of_ble_eq_true rfl, Nat.le_of_ble_eq_true rfl⟩) hK hP rfl rfl rfl [jL (p * d)] rfl rfl hl.1 (Nat.le_of_ble_eq_true rfl) ⟨Nat.zero_le _, Nat.zero_le _⟩ dX0_vernierLine_10 (fun i10 q10 => ?_)
  subst q10
  have r1_ : 0 ≤ (sp_mm d p q) ∧ (sp_mm d p q) ≤ 720 := sp_mm_iv hd (iv_w (lo := 0) (hi := 1000000000000) hp (by decide +kernel)) (iv_w (lo := 1) (hi := 1000000000000) hq (by decide +kernel)) (by omega)
  refine j_lload_n S dX0_vernierLine_13 rfl (lv_at hl 2 rfl) ?_
  refine j_lmul S dX0_vernierLine_14 ?_
  refine j_lsub S dX0_vernierLine_15 ?_
  have r2_ : 0 ≤ ((p * d) - ((sp_mm d p q) * q)) ∧ ((p * d) - ((sp_mm d p q) * q)) ≤ 1000000000000 := sp_left_iv hq
  refine j_lstore (lv' := [(5, jL ((p * d) - ((sp_mm d p q) * q))), (0, .ref h), (1, jL p), (3, jL q)]) S dX0_vernierLine_16 hl (by decide) rfl (fun ls hl => ?_)
  refine j_lload S dX0_vernierLine_18 (lv_at hl 0 rfl) ?_
  refine lv_aload_n S.1 S.2.1 dX0_vernierLine_20 rfl (lv_at hl 1 rfl) ?_
  refine j_get (v := jI v) S hin hK hP rfl rfl 8 (by decide) (List.mem_of_getElem? (i := 2) rfl) rfl dX0_vernierLine_21 ?_
  refine j_i2l S dX0_vernierLine_24 (iv_i hv (by decide +kernel)) ?_
  refine j_lmul S dX0_vernierLine_25 ?_
  refine j_lload_n S dX0_vernierLine_26 rfl (lv_at hl 3 rfl) ?_
  refine j_csl (As := [jL (((p * d) - ((sp_mm d p q) * q)) * v), jL q]) S (c_X0_nearestOrLesser l (((p * d) - ((sp_mm d p q) * q)) * v) q (iv_w (iv_mulp (lo := 0) (hi := 60000000000000) r2_ hv (by decide +kernel)) (by decide +kernel)) (iv_w hq (by decide +kernel))) (va_cwS 2 S.2.2.2.2 gX0_vernierLine_X0_nearestOrLesser rfl rfl rfl hdX0_nearestOrLesser ⟨Nat.le_of_ble_eq_true rfl, Nat.le_of_ble_eq_true rfl⟩) [] rfl rfl hl.1 (Nat.le_of_ble_eq_true rfl) ⟨Nat.zero_le _, Nat.zero_le _⟩ dX0_vernierLine_27 (fun i27 q27 => ?_)
  subst q27
  have r3_ : 0 ≤ (sp_nol (((p * d) - ((sp_mm d p q) * q)) * v) q) ∧ (sp_nol (((p * d) - ((sp_mm d p q) * q)) * v) q) ≤ 60000000000001 := sp_nol_iv (ub := 60000000000001) (iv_w (lo := 0) (hi := 60000000000000) (iv_mulp (lo := 0) (hi := 60000000000000) r2_ hv (by decide +kernel)) (by decide +kernel)) (by have := hq; omega) (by decide)
  exact hret (sp_nol (((p * d) - ((sp_mm d p q) * q)) * v) q) 30 _ rfl dX0_vernierLine_30
abbrev rmX0_readParts : Room := { frames := 2, cells := 0, slots := 0, locals := 50 }
theorem hdX0_readParts : yX0_readParts.cls ≠ "java/lang/invoke/MethodHandle" ∧ yX0_readParts.cls ≠ "java/lang/invoke/VarHandle" ∧ (parseMethodDescriptor yX0_readParts.desc).map (fun d => d.parameters.length) = some 2 := by decide +kernel
set_option maxHeartbeats 4000000 in
set_option maxRecDepth 100000 in
theorem c_X0_readParts (l : Launch) (D : va_G) (h a0 a1 a2 a3 : Nat) (cA : ClassId) (H T E F : Int → Int) (cc gc w d v : Int) (hok : SOK H T E cc gc w d v) (p : Int) (q : Int) (hp : 0 ≤ p ∧ p ≤ 1000000000000) (hq : 1 ≤ q ∧ q ≤ 1000000000000) (hpq : p < q) : ML l yX0_readParts wsX0_readParts rmX0_readParts [.ref h, jL p, jL q] (WB D (XW h a0 a1 a2 a3 cA H T E F cc gc w d v) cA) (fun rR => rR = sp_rd d v p q) := by
  refine ML_of (cc := cX0_readParts) (maxL := 5) (by decide) rfl (Nat.le_of_ble_eq_true rfl) ?_
  intro pP eE sS mM aA bL mT cC QQ ls S hret ⟨hP, hK⟩ hl
  obtain ⟨hcc, hgc, hw, hd, hv, hH, hT, hE⟩ := id hok
  have hin : ∀ w ∈ wsX00, w ∈ wsX0_readParts := fun w hw => List.mem_cons_of_mem _ (List.mem_append_right _ hw)
  have hl : lv_has ls 5 [(0, .ref h), (1, jL p), (3, jL q)] := hl
  refine lv_aload_n S.1 S.2.1 dX0_readParts_0 rfl (lv_at hl 0 rfl) ?_
  refine j_lload_n S dX0_readParts_1 rfl (lv_at hl 1 rfl) ?_
  refine j_lload_n S dX0_readParts_2 rfl (lv_at hl 2 rfl) ?_
  refine j_cvl (As := [jL p, jL q]) (ci := 0) S (c_X0_mainMark l D h a0 a1 a2 a3 cA H T E F cc gc w d v hok p q (iv_w hp (by decide +kernel)) (iv_w hq (by decide +kernel)) (by omega)) (cwV 2 S.2.2.2.2 gX0_readParts_X0_mainMark rfl rfl rfl ⟨rfl, hdX0_mainMark⟩ ⟨Nat.le_of_ble_eq_true rfl, Nat.le_of_ble_eq_true rfl⟩) hK hP rfl rfl rfl [] rfl rfl hl.1 (Nat.le_of_ble_eq_true rfl) ⟨Nat.zero_le _, Nat.zero_le _⟩ dX0_readParts_3 (fun i3 q3 => ?_)
  subst q3
  have r1_ : 0 ≤ (sp_mm d p q) ∧ (sp_mm d p q) ≤ 720 := sp_mm_iv hd (iv_w (lo := 0) (hi := 1000000000000) hp (by decide +kernel)) (iv_w (lo := 1) (hi := 1000000000000) hq (by decide +kernel)) (by omega)
  refine lv_aload_n S.1 S.2.1 dX0_readParts_6 rfl (lv_at hl 0 rfl) ?_
  refine j_get (v := jI v) S hin hK hP rfl rfl 8 (by decide) (List.mem_of_getElem? (i := 1) rfl) rfl dX0_readParts_7 ?_
  refine j_i2l S dX0_readParts_10 (iv_i hv (by decide +kernel)) ?_
  refine j_lmul S dX0_readParts_11 ?_
  refine lv_aload_n S.1 S.2.1 dX0_readParts_12 rfl (lv_at hl 0 rfl) ?_
  refine j_lload_n S dX0_readParts_13 rfl (lv_at hl 1 rfl) ?_
  refine j_lload_n S dX0_readParts_14 rfl (lv_at hl 2 rfl) ?_
  refine j_cvl (As := [jL p, jL q]) (ci := 0) S (c_X0_vernierLine l D h a0 a1 a2 a3 cA H T E F cc gc w d v hok p q (iv_w hp (by decide +kernel)) (iv_w hq (by decide +kernel)) (by omega)) (cwV 2 S.2.2.2.2 gX0_readParts_X0_vernierLine rfl rfl rfl ⟨rfl, hdX0_vernierLine⟩ ⟨Nat.le_of_ble_eq_true rfl, Nat.le_of_ble_eq_true rfl⟩) hK hP rfl rfl rfl [jL ((sp_mm d p q) * v)] rfl rfl hl.1 (Nat.le_of_ble_eq_true rfl) ⟨Nat.zero_le _, Nat.zero_le _⟩ dX0_readParts_15 (fun i15 q15 => ?_)
  subst q15
  have r2_ : 0 ≤ (sp_ln d v p q) ∧ (sp_ln d v p q) ≤ 60 := sp_ln_iv hv (iv_w (lo := 1) (hi := 1000000000000) hq (by decide +kernel)) (by omega)
  refine j_ladd S dX0_readParts_18 ?_
  exact hret (((sp_mm d p q) * v) + (sp_ln d v p q)) 19 _ rfl dX0_readParts_19
abbrev rmX0_commonMeasure : Room := { frames := 0, cells := 0, slots := 0, locals := 0 }
theorem hdX0_commonMeasure : yX0_commonMeasure.cls ≠ "java/lang/invoke/MethodHandle" ∧ yX0_commonMeasure.cls ≠ "java/lang/invoke/VarHandle" ∧ (parseMethodDescriptor yX0_commonMeasure.desc).map (fun d => d.parameters.length) = some 2 := by decide +kernel
set_option maxHeartbeats 4000000 in
set_option maxRecDepth 100000 in
theorem c_X0_commonMeasure (l : Launch) (a : Int) (b : Int) (ha : 0 ≤ a ∧ a ≤ 1000000000) (hb : 1 ≤ b ∧ b ≤ 1000) : ML l yX0_commonMeasure wsX0_commonMeasure rmX0_commonMeasure [jL a, jL b] W0 (fun rR => rR = ((Int.gcd a b : Nat) : Int)) := by
  refine ML_of (cc := cX0_commonMeasure) (maxL := 7) (by decide) rfl (Nat.le_of_ble_eq_true rfl) ?_
  intro pP eE sS mM aA bL mT cC QQ ls S hret _ hl
  have hl : lv_has ls 7 [(0, jL a), (2, jL b)] := hl
  refine j_iconst S dX0_commonMeasure_0 ?_
  refine j_istore (lv' := [(4, jI 0), (0, jL a), (2, jL b)]) S dX0_commonMeasure_1 hl (by decide) rfl (fun ls hl => ?_)
  have loop3 : ∀ (N : Nat) (x y k : Int) (ls : Array Slot), (0 ≤ k ∧ k ≤ 21) → (0 ≤ x ∧ x ≤ 1000000000) → (0 ≤ y ∧ y ≤ 1000) → (Int.gcd x y = Int.gcd a b) → ((k = 0 ∧ 0 < y) ∨ (y < x ∧ x * y < p2 k)) → 21 - k < (N : Int) → lv_has ls 7 [(4, jI k), (0, jL x), (2, jL y)] → W pP l eE rmX0_commonMeasure sS mM aA bL mT cC sS.heap [] 0 0 QQ (F0 mM 3 ls []) := by
    intro N
    induction N with
    | zero =>
      intro x y k ls hk hx hy hg hm hN
      exact absurd hN (by omega)
    | succ N ih3 =>
      intro x y k ls hk hx hy hg hm hN hl
      refine j_iload S dX0_commonMeasure_3 (lv_at hl 0 rfl) ?_
      refine j_bipush S dX0_commonMeasure_5 (by decide) ?_
      refine j_icmp_ge (tgt := 32) S dX0_commonMeasure_7 (by decide) (iv_i hk (by decide +kernel)) (iv_i (iv_n 100) (by decide +kernel)) (fun z9 => by have : 0 ≤ k ∧ k ≤ 21 := hk; omega) (fun c7 => ?_)
      refine j_lload_n S dX0_commonMeasure_10 rfl (lv_at hl 2 rfl) ?_
      refine j_lconst (a := 0) S dX0_commonMeasure_11 rfl ?_
      refine j_lcmp_eq (pc1 := 13) (tgt := 32) S rfl dX0_commonMeasure_12 dX0_commonMeasure_13 (by decide) (iv_l hy (by decide +kernel)) (iv_l (iv_n 0) (by decide +kernel)) (fun c12 => ?_) (fun c12 => ?_)
      · have r1_ : 0 ≤ y ∧ y ≤ 0 := by omega
        refine j_lload_n S dX0_commonMeasure_32 rfl (lv_at hl 1 rfl) ?_
        exact hret x 33 _ (by rw [← hg, c12]; exact (gcd_0 hx.1).symm) dX0_commonMeasure_33
      · have r2_ : 1 ≤ y ∧ y ≤ 1000 := by omega
        refine j_lload_n S dX0_commonMeasure_16 rfl (lv_at hl 1 rfl) ?_
        refine j_lload_n S dX0_commonMeasure_17 rfl (lv_at hl 2 rfl) ?_
        refine j_lremp S dX0_commonMeasure_18 (iv_l hx (by decide +kernel)) (iv_pl r2_ (by decide +kernel)) (iv_nn hx (by decide +kernel)) ?_
        refine j_lstore (lv' := [(5, jL (x % y)), (4, jI k), (0, jL x), (2, jL y)]) S dX0_commonMeasure_19 hl (by decide) rfl (fun ls hl => ?_)
        refine j_lload_n S dX0_commonMeasure_21 rfl (lv_at hl 3 rfl) ?_
        refine j_lstore_n (lv' := [(0, jL y), (5, jL (x % y)), (4, jI k), (2, jL y)]) S dX0_commonMeasure_22 rfl hl (by decide) rfl (fun ls hl => ?_)
        refine j_lload S dX0_commonMeasure_23 (lv_at hl 1 rfl) ?_
        refine j_lstore_n (lv' := [(2, jL (x % y)), (0, jL y), (5, jL (x % y)), (4, jI k)]) S dX0_commonMeasure_25 rfl hl (by decide) rfl (fun ls hl => ?_)
        refine j_iinc (k := 3) (y := (k + 1)) (lv' := [(4, jI (k + 1)), (2, jL (x % y)), (0, jL y), (5, jL (x % y))]) S dX0_commonMeasure_26 hl rfl rfl (by decide) rfl (fun ls hl => ?_)
        refine j_goto (tgt := 3) S dX0_commonMeasure_29 (by decide) ?_
        exact ih3 y (x % y) (k + 1) _ (by have := cm_lt hm hk (by omega); omega) (by omega) (by have := Int.emod_nonneg x (b := y) (by omega); have := Int.emod_lt_of_pos x (b := y) (by omega); omega) (by rw [gcd_step (by omega) (by omega), hg]) (Or.inr (cm_next hx hy hm (by omega) hk)) (by have := cm_lt hm hk (by omega); omega) (lv_sub hl [0, 2, 1] rfl)
  exact loop3 22 a b 0 _ (by omega) (by omega) (by omega) rfl (by omega) (by omega) (lv_sub hl [0, 1, 2] rfl)
abbrev rmX0_lowestTerm : Room := { frames := 1, cells := 0, slots := 0, locals := 26 }
theorem hdX0_lowestTerm : yX0_lowestTerm.cls ≠ "java/lang/invoke/MethodHandle" ∧ yX0_lowestTerm.cls ≠ "java/lang/invoke/VarHandle" ∧ (parseMethodDescriptor yX0_lowestTerm.desc).map (fun d => d.parameters.length) = some 3 := by decide +kernel
set_option maxHeartbeats 4000000 in
set_option maxRecDepth 100000 in
theorem c_X0_lowestTerm (l : Launch) (up : Int) (low : Int) (what : Int) (hup : (-1000000000) ≤ up ∧ up ≤ 1000000000) (hlow : 1 ≤ low ∧ low ≤ 1000) (hwhat : inI what) : MI l yX0_lowestTerm wsX0_lowestTerm rmX0_lowestTerm [jL up, jL low, jI what] W0 (fun rR => rR = sp_lt up low what) := by
  refine MI_of (cc := cX0_lowestTerm) (maxL := 9) (by decide) rfl (Nat.le_of_ble_eq_true rfl) ?_
  intro pP eE sS mM aA bL mT cC QQ ls S hret _ hl
  have hl : lv_has ls 9 [(0, jL up), (2, jL low), (4, jI what)] := hl
  refine j_iload S dX0_lowestTerm_0 (lv_at hl 2 rfl) ?_
  refine j_if_ne (tgt := 9) S dX0_lowestTerm_2 (by decide) (iv_i hwhat (by decide +kernel)) (fun c2 => ?_) (fun c2 => ?_)
  · refine j_lload_n S dX0_lowestTerm_9 rfl (lv_at hl 1 rfl) ?_
    refine j_lstore (lv' := [(5, jL low), (0, jL up), (2, jL low), (4, jI what)]) S dX0_lowestTerm_10 hl (by decide) rfl (fun ls hl => ?_)
    refine j_lload_n S dX0_lowestTerm_12 rfl (lv_at hl 1 rfl) ?_
    refine j_mabsl S hl.1 (List.mem_of_getElem? (i := 1) rfl) (List.mem_of_getElem? (i := 2) rfl) (List.mem_of_getElem? (i := 3) rfl) (List.mem_of_getElem? (i := 4) rfl) (Nat.le_of_ble_eq_true rfl) (Nat.le_of_ble_eq_true rfl) ⟨Nat.zero_le _, Nat.zero_le _⟩ hup (by decide +kernel) dX0_lowestTerm_13 ?_
    have t1_ : (-1000000000) ≤ up ∧ up ≤ 1000000000 := hup
    have r2_ : 0 ≤ ((Int.natAbs up : Nat) : Int) ∧ ((Int.natAbs up : Nat) : Int) ≤ 1000000000 := by omega
    refine j_lload_n S dX0_lowestTerm_16 rfl (lv_at hl 2 rfl) ?_
    refine j_csl (As := [jL ((Int.natAbs up : Nat) : Int), jL low]) S (c_X0_commonMeasure l ((Int.natAbs up : Nat) : Int) low (iv_w r2_ (by decide +kernel)) (iv_w hlow (by decide +kernel))) (va_cwS 2 S.2.2.2.2 gX0_lowestTerm_X0_commonMeasure rfl rfl rfl hdX0_commonMeasure ⟨Nat.le_of_ble_eq_true rfl, Nat.le_of_ble_eq_true rfl⟩) [] rfl rfl hl.1 (Nat.le_of_ble_eq_true rfl) ⟨Nat.zero_le _, Nat.zero_le _⟩ dX0_lowestTerm_17 (fun i17 q17 => ?_)
    subst q17
    have r3_ : 1 ≤ ((Int.gcd ((Int.natAbs up : Nat) : Int) low : Nat) : Int) ∧ ((Int.gcd ((Int.natAbs up : Nat) : Int) low : Nat) : Int) ≤ 1000 := gcd_iv (iv_w (lo := 1) (hi := 1000) hlow (by decide +kernel))
    refine j_lstore (lv' := [(7, jL ((Int.gcd ((Int.natAbs up : Nat) : Int) low : Nat) : Int)), (5, jL low), (0, jL up), (2, jL low), (4, jI what)]) S dX0_lowestTerm_20 hl (by decide) rfl (fun ls hl => ?_)
    refine j_lload S dX0_lowestTerm_22 (lv_at hl 0 rfl) ?_
    refine j_lconst (a := 1) S dX0_lowestTerm_24 rfl ?_
    refine j_lcmp_ge (pc1 := 26) (tgt := 34) S rfl dX0_lowestTerm_25 dX0_lowestTerm_26 (by decide) (iv_l r3_ (by decide +kernel)) (iv_l (iv_n 1) (by decide +kernel)) (fun c25 => ?_) (fun z9 => by have : 1 ≤ ((Int.gcd ((Int.natAbs up : Nat) : Int) low : Nat) : Int) ∧ ((Int.gcd ((Int.natAbs up : Nat) : Int) low : Nat) : Int) ≤ 1000 := r3_; omega)
    refine j_lload S dX0_lowestTerm_34 (lv_at hl 1 rfl) ?_
    refine j_lload S dX0_lowestTerm_36 (lv_at hl 0 rfl) ?_
    refine j_ldivp S dX0_lowestTerm_38 (iv_l hlow (by decide +kernel)) (iv_pl r3_ (by decide +kernel)) (iv_nn hlow (by decide +kernel)) ?_
    refine j_l2i S dX0_lowestTerm_39 ?_
    exact hret (low / ((Int.gcd ((Int.natAbs up : Nat) : Int) low : Nat) : Int)) 40 _ (sp_lt_1 c2 (by omega)).symm dX0_lowestTerm_40
  · have r4_ : 0 ≤ what ∧ what ≤ 0 := by omega
    refine j_lload_n S dX0_lowestTerm_5 rfl (lv_at hl 0 rfl) ?_
    refine j_goto (tgt := 10) S dX0_lowestTerm_6 (by decide) ?_
    refine j_lstore (lv' := [(5, jL up), (0, jL up), (2, jL low), (4, jI what)]) S dX0_lowestTerm_10 hl (by decide) rfl (fun ls hl => ?_)
    refine j_lload_n S dX0_lowestTerm_12 rfl (lv_at hl 1 rfl) ?_
    refine j_mabsl S hl.1 (List.mem_of_getElem? (i := 1) rfl) (List.mem_of_getElem? (i := 2) rfl) (List.mem_of_getElem? (i := 3) rfl) (List.mem_of_getElem? (i := 4) rfl) (Nat.le_of_ble_eq_true rfl) (Nat.le_of_ble_eq_true rfl) ⟨Nat.zero_le _, Nat.zero_le _⟩ hup (by decide +kernel) dX0_lowestTerm_13 ?_
    have t5_ : (-1000000000) ≤ up ∧ up ≤ 1000000000 := hup
    have r6_ : 0 ≤ ((Int.natAbs up : Nat) : Int) ∧ ((Int.natAbs up : Nat) : Int) ≤ 1000000000 := by omega
    refine j_lload_n S dX0_lowestTerm_16 rfl (lv_at hl 2 rfl) ?_
    refine j_csl (As := [jL ((Int.natAbs up : Nat) : Int), jL low]) S (c_X0_commonMeasure l ((Int.natAbs up : Nat) : Int) low (iv_w r6_ (by decide +kernel)) (iv_w hlow (by decide +kernel))) (va_cwS 2 S.2.2.2.2 gX0_lowestTerm_X0_commonMeasure rfl rfl rfl hdX0_commonMeasure ⟨Nat.le_of_ble_eq_true rfl, Nat.le_of_ble_eq_true rfl⟩) [] rfl rfl hl.1 (Nat.le_of_ble_eq_true rfl) ⟨Nat.zero_le _, Nat.zero_le _⟩ dX0_lowestTerm_17 (fun i17 q17 => ?_)
    subst q17
    have r7_ : 1 ≤ ((Int.gcd ((Int.natAbs up : Nat) : Int) low : Nat) : Int) ∧ ((Int.gcd ((Int.natAbs up : Nat) : Int) low : Nat) : Int) ≤ 1000 := gcd_iv (iv_w (lo := 1) (hi := 1000) hlow (by decide +kernel))
    refine j_lstore (lv' := [(7, jL ((Int.gcd ((Int.natAbs up : Nat) : Int) low : Nat) : Int)), (5, jL up), (0, jL up), (2, jL low), (4, jI what)]) S dX0_lowestTerm_20 hl (by decide) rfl (fun ls hl => ?_)
    refine j_lload S dX0_lowestTerm_22 (lv_at hl 0 rfl) ?_
    refine j_lconst (a := 1) S dX0_lowestTerm_24 rfl ?_
    refine j_lcmp_ge (pc1 := 26) (tgt := 34) S rfl dX0_lowestTerm_25 dX0_lowestTerm_26 (by decide) (iv_l r7_ (by decide +kernel)) (iv_l (iv_n 1) (by decide +kernel)) (fun c25 => ?_) (fun z9 => by have : 1 ≤ ((Int.gcd ((Int.natAbs up : Nat) : Int) low : Nat) : Int) ∧ ((Int.gcd ((Int.natAbs up : Nat) : Int) low : Nat) : Int) ≤ 1000 := r7_; omega)
    refine j_lload S dX0_lowestTerm_34 (lv_at hl 1 rfl) ?_
    refine j_lload S dX0_lowestTerm_36 (lv_at hl 0 rfl) ?_
    refine j_ldiv S dX0_lowestTerm_38 (iv_l hup (by decide +kernel)) (iv_pl r7_ (by decide +kernel)) (iv_gt hup (by decide +kernel)) ?_
    refine j_l2i S dX0_lowestTerm_39 ?_
    exact hret (Int.tdiv up ((Int.gcd ((Int.natAbs up : Nat) : Int) low : Nat) : Int)) 40 _ (sp_lt_0 c2).symm dX0_lowestTerm_40
abbrev rmX0_plainCircle : Room := { frames := 1, cells := 0, slots := 0, locals := 23 }
theorem hdX0_plainCircle : yX0_plainCircle.cls ≠ "java/lang/invoke/MethodHandle" ∧ yX0_plainCircle.cls ≠ "java/lang/invoke/VarHandle" ∧ (parseMethodDescriptor yX0_plainCircle.desc).map (fun d => d.parameters.length) = some 1 := by decide +kernel
set_option maxHeartbeats 4000000 in
set_option maxRecDepth 100000 in
theorem c_X0_plainCircle (l : Launch) (D : va_G) (h a0 a1 a2 a3 : Nat) (cA : ClassId) (H T E F : Int → Int) (cc gc w d v : Int) (hok : SOK H T E cc gc w d v) (n : Int) (hn : 2 ≤ n ∧ n ≤ 1000) : MI l yX0_plainCircle wsX0_plainCircle rmX0_plainCircle [.ref h, jI n] (WB D (XW h a0 a1 a2 a3 cA H T E F cc gc w d v) cA) (fun rR => rR = sp_pl w H n cc) := by
  refine MI_of (cc := cX0_plainCircle) (maxL := 5) (by decide) rfl (Nat.le_of_ble_eq_true rfl) ?_
  intro pP eE sS mM aA bL mT cC QQ ls S hret ⟨hP, hK⟩ hl
  obtain ⟨hcc, hgc, hw, hd, hv, hH, hT, hE⟩ := id hok
  have hin : ∀ w ∈ wsX00, w ∈ wsX0_plainCircle := fun w hw => List.mem_cons_of_mem _ (List.mem_append_right _ hw)
  have hl : lv_has ls 5 [(0, .ref h), (1, jI n)] := hl
  refine j_bipush S dX0_plainCircle_0 (by decide) ?_
  refine j_istore_n (lv' := [(2, jI (-6)), (0, .ref h), (1, jI n)]) S dX0_plainCircle_2 rfl hl (by decide) rfl (fun ls hl => ?_)
  refine j_iconst S dX0_plainCircle_3 ?_
  refine j_istore_n (lv' := [(3, jI 0), (2, jI (-6)), (0, .ref h), (1, jI n)]) S dX0_plainCircle_4 rfl hl (by decide) rfl (fun ls hl => ?_)
  have loop5 : ∀ (N : Nat) (b k : Int) (ls : Array Slot), (0 ≤ k ∧ k ≤ 8) → (k ≤ cc) → (b = sp_pl w H n k) → (-6 ≤ b ∧ b ≤ 7) → (b = -6 ∨ (0 ≤ b ∧ b < k)) → cc - k < (N : Int) → lv_has ls 5 [(3, jI k), (2, jI b), (0, .ref h), (1, jI n)] → W pP l eE rmX0_plainCircle sS mM aA bL mT cC sS.heap [] 0 0 QQ (F0 mM 5 ls []) := by
    intro N
    induction N with
    | zero =>
      intro b k ls hk hk2 hb hbi hb2 hN
      exact absurd hN (by omega)
    | succ N ih5 =>
      intro b k ls hk hk2 hb hbi hb2 hN hl
      refine j_iload_n S dX0_plainCircle_5 rfl (lv_at hl 0 rfl) ?_
      refine lv_aload_n S.1 S.2.1 dX0_plainCircle_6 rfl (lv_at hl 2 rfl) ?_
      refine j_get (v := jI cc) S hin hK hP rfl rfl 4 (by decide) (List.mem_of_getElem? (i := 1) rfl) rfl dX0_plainCircle_7 ?_
      refine j_icmp_ge (tgt := 76) S dX0_plainCircle_10 (by decide) (iv_i hk (by decide +kernel)) (iv_i hcc (by decide +kernel)) (fun c10 => ?_) (fun c10 => ?_)
      · refine j_iload_n S dX0_plainCircle_76 rfl (lv_at hl 1 rfl) ?_
        exact hret b 77 _ (by rw [hb, show k = cc from by omega]) dX0_plainCircle_77
      · have r1_ : 0 ≤ k ∧ k ≤ 7 := by omega
        have r2_ : 1 ≤ cc ∧ cc ≤ 8 := by omega
        refine lv_aload_n S.1 S.2.1 dX0_plainCircle_13 rfl (lv_at hl 2 rfl) ?_
        refine j_get (v := jI w) S hin hK hP rfl rfl 6 (by decide) (List.mem_of_getElem? (i := 2) rfl) rfl dX0_plainCircle_14 ?_
        refine lv_aload_n S.1 S.2.1 dX0_plainCircle_17 rfl (lv_at hl 2 rfl) ?_
        refine j_get (v := .ref a0) S hin hK hP rfl rfl 0 (by decide) (List.mem_of_getElem? (i := 3) rfl) rfl dX0_plainCircle_18 ?_
        refine j_iload_n S dX0_plainCircle_21 rfl (lv_at hl 0 rfl) ?_
        refine j_iald S hK hP 1 0 rfl rfl (iv_ix (n := 8) r1_ (by decide +kernel)) dX0_plainCircle_22 ?_
        have r3_ := hH k (by omega) (by omega)
        refine j_imul S dX0_plainCircle_23 ?_
        refine j_i2l S dX0_plainCircle_24 (iv_i (iv_mulp (lo := 50) (hi := 24000) hw r3_ (by decide +kernel)) (by decide +kernel)) ?_
        refine j_iload_n S dX0_plainCircle_25 rfl (lv_at hl 3 rfl) ?_
        refine j_i2l S dX0_plainCircle_26 (iv_i hn (by decide +kernel)) ?_
        refine j_csl (As := [jL (w * (H k)), jL n]) S (c_X0_exactQuotient l (w * (H k)) n (iv_w (iv_mulp (lo := 50) (hi := 24000) hw r3_ (by decide +kernel)) (by decide +kernel)) (iv_w hn (by decide +kernel))) (va_cwS 2 S.2.2.2.2 gX0_plainCircle_X0_exactQuotient rfl rfl rfl hdX0_exactQuotient ⟨Nat.le_of_ble_eq_true rfl, Nat.le_of_ble_eq_true rfl⟩) [] rfl rfl hl.1 (Nat.le_of_ble_eq_true rfl) ⟨Nat.zero_le _, Nat.zero_le _⟩ dX0_plainCircle_27 (fun i27 q27 => ?_)
        subst q27
        have r4_ : (-24000) ≤ (sp_eq (w * (H k)) n) ∧ (sp_eq (w * (H k)) n) ≤ 24000 := sp_eq_iv (iv_w (lo := (-24000)) (hi := 24000) (iv_mulp (lo := 50) (hi := 24000) hw r3_ (by decide +kernel)) (by decide +kernel))
        refine j_lconst (a := 0) S dX0_plainCircle_30 rfl ?_
        refine j_lcmp_eq (pc1 := 32) (tgt := 39) S rfl dX0_plainCircle_31 dX0_plainCircle_32 (by decide) (iv_l r4_ (by decide +kernel)) (iv_l (iv_n 0) (by decide +kernel)) (fun c31 => ?_) (fun c31 => ?_)
        · have r5_ : 0 ≤ (sp_eq (w * (H k)) n) ∧ (sp_eq (w * (H k)) n) ≤ 0 := by omega
          refine j_iconst S dX0_plainCircle_39 ?_
          refine j_istore (lv' := [(4, jI 0), (3, jI k), (2, jI b), (0, .ref h), (1, jI n)]) S dX0_plainCircle_40 hl (by decide) rfl (fun ls hl => ?_)
          refine j_iload S dX0_plainCircle_42 (lv_at hl 0 rfl) ?_
          refine j_if_eq (tgt := 70) S dX0_plainCircle_44 (by decide) (iv_i (iv_n 0) (by decide +kernel)) (fun c44 => ?_) (fun z9 => absurd z9 (by decide))
          refine j_iinc (k := 1) (y := (k + 1)) (lv' := [(3, jI (k + 1)), (4, jI 0), (2, jI b), (0, .ref h), (1, jI n)]) S dX0_plainCircle_70 hl rfl rfl (by decide) rfl (fun ls hl => ?_)
          refine j_goto (tgt := 5) S dX0_plainCircle_73 (by decide) ?_
          exact ih5 b (k + 1) _ (by omega) (by omega) (by have e9 := @sp_eq_iff (w * H k) n (by have : 50 ≤ w * H k ∧ w * H k ≤ 24000 := (iv_mulp (lo := 50) (hi := 24000) hw r3_ (by decide +kernel)); omega) (by omega); rw [sp_pl_s (by omega), ← hb]; split <;> omega) (by omega) (by omega) (by omega) (lv_sub hl [0, 2, 3, 4] rfl)
        · refine j_iconst S dX0_plainCircle_35 ?_
          refine j_goto (tgt := 40) S dX0_plainCircle_36 (by decide) ?_
          refine j_istore (lv' := [(4, jI 1), (3, jI k), (2, jI b), (0, .ref h), (1, jI n)]) S dX0_plainCircle_40 hl (by decide) rfl (fun ls hl => ?_)
          refine j_iload S dX0_plainCircle_42 (lv_at hl 0 rfl) ?_
          refine j_if_eq (tgt := 70) S dX0_plainCircle_44 (by decide) (iv_i (iv_n 1) (by decide +kernel)) (fun z9 => absurd z9 (by decide)) (fun c44 => ?_)
          refine j_iload_n S dX0_plainCircle_47 rfl (lv_at hl 2 rfl) ?_
          refine j_bipush S dX0_plainCircle_48 (by decide) ?_
          refine j_icmp_eq (tgt := 68) S dX0_plainCircle_50 (by decide) (iv_i hbi (by decide +kernel)) (iv_i (iv_n (-6)) (by decide +kernel)) (fun c50 => ?_) (fun c50 => ?_)
          · have r6_ : (-6) ≤ b ∧ b ≤ (-6) := by omega
            refine j_iload_n S dX0_plainCircle_68 rfl (lv_at hl 1 rfl) ?_
            refine j_istore_n (lv' := [(2, jI k), (4, jI 1), (3, jI k), (0, .ref h), (1, jI n)]) S dX0_plainCircle_69 rfl hl (by decide) rfl (fun ls hl => ?_)
            refine j_iinc (k := 2) (y := (k + 1)) (lv' := [(3, jI (k + 1)), (2, jI k), (4, jI 1), (0, .ref h), (1, jI n)]) S dX0_plainCircle_70 hl rfl rfl (by decide) rfl (fun ls hl => ?_)
            refine j_goto (tgt := 5) S dX0_plainCircle_73 (by decide) ?_
            exact ih5 k (k + 1) _ (by omega) (by omega) (by have e9 := @sp_eq_iff (w * H k) n (by have : 50 ≤ w * H k ∧ w * H k ≤ 24000 := (iv_mulp (lo := 50) (hi := 24000) hw r3_ (by decide +kernel)); omega) (by omega); rw [sp_pl_s (by omega), ← hb]; split <;> omega) (by omega) (by omega) (by omega) (lv_sub hl [0, 1, 3, 4] rfl)
          · have r7_ : (-5) ≤ b ∧ b ≤ 7 := by omega
            refine lv_aload_n S.1 S.2.1 dX0_plainCircle_53 rfl (lv_at hl 3 rfl) ?_
            refine j_get (v := .ref a0) S hin hK hP rfl rfl 0 (by decide) (List.mem_of_getElem? (i := 3) rfl) rfl dX0_plainCircle_54 ?_
            refine j_iload_n S dX0_plainCircle_57 rfl (lv_at hl 1 rfl) ?_
            refine j_iald S hK hP 1 0 rfl rfl (iv_ix (n := 8) r1_ (by decide +kernel)) dX0_plainCircle_58 ?_
            refine lv_aload_n S.1 S.2.1 dX0_plainCircle_59 rfl (lv_at hl 3 rfl) ?_
            refine j_get (v := .ref a0) S hin hK hP rfl rfl 0 (by decide) (List.mem_of_getElem? (i := 3) rfl) rfl dX0_plainCircle_60 ?_
            refine j_iload_n S dX0_plainCircle_63 rfl (lv_at hl 2 rfl) ?_
            refine j_iald S hK hP 1 0 rfl rfl ⟨by omega, by omega, by omega⟩ dX0_plainCircle_64 ?_
            have r8_ := hH b (by omega) (by omega)
            refine j_icmp_ge (tgt := 70) S dX0_plainCircle_65 (by decide) (iv_i r3_ (by decide +kernel)) (iv_i r8_ (by decide +kernel)) (fun c65 => ?_) (fun c65 => ?_)
            · refine j_iinc (k := 1) (y := (k + 1)) (lv' := [(3, jI (k + 1)), (4, jI 1), (2, jI b), (0, .ref h), (1, jI n)]) S dX0_plainCircle_70 hl rfl rfl (by decide) rfl (fun ls hl => ?_)
              refine j_goto (tgt := 5) S dX0_plainCircle_73 (by decide) ?_
              exact ih5 b (k + 1) _ (by omega) (by omega) (by have e9 := @sp_eq_iff (w * H k) n (by have : 50 ≤ w * H k ∧ w * H k ≤ 24000 := (iv_mulp (lo := 50) (hi := 24000) hw r3_ (by decide +kernel)); omega) (by omega); rw [sp_pl_s (by omega), ← hb]; split <;> omega) (by omega) (by omega) (by omega) (lv_sub hl [0, 2, 3, 4] rfl)
            · have r9_ : 5 ≤ (H k) ∧ (H k) ≤ 119 := by omega
              have r10_ : 6 ≤ (H b) ∧ (H b) ≤ 120 := by omega
              refine j_iload_n S dX0_plainCircle_68 rfl (lv_at hl 1 rfl) ?_
              refine j_istore_n (lv' := [(2, jI k), (4, jI 1), (3, jI k), (0, .ref h), (1, jI n)]) S dX0_plainCircle_69 rfl hl (by decide) rfl (fun ls hl => ?_)
              refine j_iinc (k := 2) (y := (k + 1)) (lv' := [(3, jI (k + 1)), (2, jI k), (4, jI 1), (0, .ref h), (1, jI n)]) S dX0_plainCircle_70 hl rfl rfl (by decide) rfl (fun ls hl => ?_)
              refine j_goto (tgt := 5) S dX0_plainCircle_73 (by decide) ?_
              exact ih5 k (k + 1) _ (by omega) (by omega) (by have e9 := @sp_eq_iff (w * H k) n (by have : 50 ≤ w * H k ∧ w * H k ≤ 23800 := (iv_mulp (lo := 50) (hi := 23800) hw r9_ (by decide +kernel)); omega) (by omega); rw [sp_pl_s (by omega), ← hb]; split <;> omega) (by omega) (by omega) (by omega) (lv_sub hl [0, 1, 3, 4] rfl)
  exact loop5 9 (-6) 0 _ (by omega) (by omega) rfl (by omega) (by omega) (by omega) (lv_sub hl [0, 1, 2, 3] rfl)
abbrev rmX0_plain : Room := { frames := 2, cells := 0, slots := 0, locals := 47 }
theorem hdX0_plain : yX0_plain.cls ≠ "java/lang/invoke/MethodHandle" ∧ yX0_plain.cls ≠ "java/lang/invoke/VarHandle" ∧ (parseMethodDescriptor yX0_plain.desc).map (fun d => d.parameters.length) = some 2 := by decide +kernel
set_option maxHeartbeats 4000000 in
set_option maxRecDepth 100000 in
theorem c_X0_plain (l : Launch) (D : va_G) (h a0 a1 a2 a3 : Nat) (cA : ClassId) (H T E F : Int → Int) (cc gc w d v : Int) (hok : SOK H T E cc gc w d v) (n : Int) (what : Int) (hn : inI n) (hwhat : inI what) : MI l yX0_plain wsX0_plain rmX0_plain [.ref h, jI n, jI what] (WB D (XW h a0 a1 a2 a3 cA H T E F cc gc w d v) cA) (fun rR => rR = sp_plain w cc H n what) := by
  refine MI_of (cc := cX0_plain) (maxL := 4) (by decide) rfl (Nat.le_of_ble_eq_true rfl) ?_
  intro pP eE sS mM aA bL mT cC QQ ls S hret ⟨hP, hK⟩ hl
  obtain ⟨hcc, hgc, hw, hd, hv, hH, hT, hE⟩ := id hok
  have hin : ∀ w ∈ wsX00, w ∈ wsX0_plain := fun w hw => List.mem_cons_of_mem _ (List.mem_append_right _ hw)
  have hl : lv_has ls 4 [(0, .ref h), (1, jI n), (2, jI what)] := hl
  refine j_iload_n S dX0_plain_0 rfl (lv_at hl 1 rfl) ?_
  refine j_csi (As := [jI n]) S (c_X0_isNoNumberOfParts l n (iv_w hn (by decide +kernel))) (va_cwS 1 S.2.2.2.2 gX0_plain_X0_isNoNumberOfParts rfl rfl rfl hdX0_isNoNumberOfParts ⟨Nat.le_of_ble_eq_true rfl, Nat.le_of_ble_eq_true rfl⟩) [] rfl rfl hl.1 (Nat.le_of_ble_eq_true rfl) ⟨Nat.zero_le _, Nat.zero_le _⟩ dX0_plain_1 (fun i1 q1 => ?_)
  subst q1
  refine j_ifb_ne (tgt := 16) S dX0_plain_4 (by decide) (fun c4 => ?_) (fun c4 => ?_)
  · refine j_bipush S dX0_plain_16 (by decide) ?_
    exact hret (-2) 18 _ (by unfold sp_plain; (repeat' split) <;> first | omega | rfl) dX0_plain_18
  · have r1_ : 2 ≤ n ∧ n ≤ 1000 := by omega
    refine j_iload_n S dX0_plain_7 rfl (lv_at hl 2 rfl) ?_
    refine j_iconst S dX0_plain_8 ?_
    refine j_iconst S dX0_plain_9 ?_
    refine j_csi (As := [jI what, jI 0, jI 2]) S (c_X0_isOutside l what 0 2 (iv_w hwhat (by decide +kernel)) (iv_w (iv_n 0) (by decide +kernel)) (iv_w (iv_n 2) (by decide +kernel))) (va_cwS 3 S.2.2.2.2 gX0_plain_X0_isOutside rfl rfl rfl hdX0_isOutside ⟨Nat.le_of_ble_eq_true rfl, Nat.le_of_ble_eq_true rfl⟩) [] rfl rfl hl.1 (Nat.le_of_ble_eq_true rfl) ⟨Nat.zero_le _, Nat.zero_le _⟩ dX0_plain_10 (fun i10 q10 => ?_)
    subst q10
    refine j_ifb_eq (tgt := 19) S dX0_plain_13 (by decide) (fun c13 => ?_) (fun c13 => ?_)
    · have r2_ : 0 ≤ what ∧ what ≤ 2 := by omega
      refine lv_aload_n S.1 S.2.1 dX0_plain_19 rfl (lv_at hl 0 rfl) ?_
      refine j_iload_n S dX0_plain_20 rfl (lv_at hl 1 rfl) ?_
      refine j_cvi (As := [jI n]) (ci := 0) S (c_X0_plainCircle l D h a0 a1 a2 a3 cA H T E F cc gc w d v hok n (iv_w r1_ (by decide +kernel))) (cwV 1 S.2.2.2.2 gX0_plain_X0_plainCircle rfl rfl rfl ⟨rfl, hdX0_plainCircle⟩ ⟨Nat.le_of_ble_eq_true rfl, Nat.le_of_ble_eq_true rfl⟩) hK hP rfl rfl rfl [] rfl rfl hl.1 (Nat.le_of_ble_eq_true rfl) ⟨Nat.zero_le _, Nat.zero_le _⟩ dX0_plain_21 (fun i21 q21 => ?_)
      subst q21
      have r3_ : (-6) ≤ (sp_pl w H n cc) ∧ (sp_pl w H n cc) ≤ 7 := sp_pl_iv hcc
      have e21 := @sp_pl_rng w n cc H hcc.1
      refine j_istore_n (lv' := [(3, jI (sp_pl w H n cc)), (0, .ref h), (1, jI n), (2, jI what)]) S dX0_plain_24 rfl hl (by decide) rfl (fun ls hl => ?_)
      refine j_iload_n S dX0_plain_25 rfl (lv_at hl 3 rfl) ?_
      refine j_if_eq (tgt := 35) S dX0_plain_26 (by decide) (iv_i r2_ (by decide +kernel)) (fun c26 => ?_) (fun c26 => ?_)
      · have r4_ : 0 ≤ what ∧ what ≤ 0 := by omega
        refine j_iload_n S dX0_plain_35 rfl (lv_at hl 0 rfl) ?_
        exact hret (sp_pl w H n cc) 36 _ (by unfold sp_plain; (repeat' split) <;> first | omega | rfl) dX0_plain_36
      · have r5_ : 1 ≤ what ∧ what ≤ 2 := by omega
        refine j_iload_n S dX0_plain_29 rfl (lv_at hl 0 rfl) ?_
        refine j_bipush S dX0_plain_30 (by decide) ?_
        refine j_icmp_ne (tgt := 37) S dX0_plain_32 (by decide) (iv_i r3_ (by decide +kernel)) (iv_i (iv_n (-6)) (by decide +kernel)) (fun c32 => ?_) (fun c32 => ?_)
        · have r6_ : (-5) ≤ (sp_pl w H n cc) ∧ (sp_pl w H n cc) ≤ 7 := by omega
          refine j_iload_n S dX0_plain_37 rfl (lv_at hl 3 rfl) ?_
          refine j_iconst S dX0_plain_38 ?_
          refine j_icmp_ne (tgt := 51) S dX0_plain_39 (by decide) (iv_i r5_ (by decide +kernel)) (iv_i (iv_n 1) (by decide +kernel)) (fun c39 => ?_) (fun c39 => ?_)
          · have r7_ : 2 ≤ what ∧ what ≤ 2 := by omega
            refine lv_aload_n S.1 S.2.1 dX0_plain_51 rfl (lv_at hl 1 rfl) ?_
            refine j_get (v := jI w) S hin hK hP rfl rfl 6 (by decide) (List.mem_of_getElem? (i := 1) rfl) rfl dX0_plain_52 ?_
            refine j_iload_n S dX0_plain_55 rfl (lv_at hl 2 rfl) ?_
            refine j_iremp S dX0_plain_56 (iv_i hw (by decide +kernel)) (iv_pi r1_ (by decide +kernel)) (iv_nn hw (by decide +kernel)) ?_
            refine lv_aload_n S.1 S.2.1 dX0_plain_57 rfl (lv_at hl 1 rfl) ?_
            refine j_iload_n S dX0_plain_58 rfl (lv_at hl 0 rfl) ?_
            refine j_cvi (As := [jI (sp_pl w H n cc)]) (ci := 0) S (c_X0_holesAt l D h a0 a1 a2 a3 cA H T E F cc gc w d v hok (sp_pl w H n cc) (iv_w r6_ (by decide +kernel))) (cwV 1 S.2.2.2.2 gX0_plain_X0_holesAt rfl rfl rfl ⟨rfl, hdX0_holesAt⟩ ⟨Nat.le_of_ble_eq_true rfl, Nat.le_of_ble_eq_true rfl⟩) hK hP rfl rfl rfl [jI (w % n)] rfl rfl hl.1 (Nat.le_of_ble_eq_true rfl) ⟨Nat.zero_le _, Nat.zero_le _⟩ dX0_plain_59 (fun i59 q59 => ?_)
            have r8_ : 0 ≤ i59 ∧ i59 ≤ 120 := by omega
            refine j_imul S dX0_plain_62 ?_
            refine j_iload_n S dX0_plain_63 rfl (lv_at hl 2 rfl) ?_
            refine j_idivp S dX0_plain_64 (iv_i (iv_mulp (lo := 0) (hi := 119880) (iv_mod (lo := 0) (hi := 999) r1_ (by decide +kernel)) r8_ (by decide +kernel)) (by decide +kernel)) (iv_pi r1_ (by decide +kernel)) (iv_nn (iv_mulp (lo := 0) (hi := 119880) (iv_mod (lo := 0) (hi := 999) r1_ (by decide +kernel)) r8_ (by decide +kernel)) (by decide +kernel)) ?_
            exact hret (((w % n) * i59) / n) 65 _ (by unfold sp_plain; (repeat' split) <;> first | omega | (rw [show i59 = H (sp_pl w H n cc) from by omega]) | rfl) dX0_plain_65
          · have r9_ : 1 ≤ what ∧ what ≤ 1 := by omega
            refine lv_aload_n S.1 S.2.1 dX0_plain_42 rfl (lv_at hl 1 rfl) ?_
            refine j_get (v := jI w) S hin hK hP rfl rfl 6 (by decide) (List.mem_of_getElem? (i := 1) rfl) rfl dX0_plain_43 ?_
            refine j_iload_n S dX0_plain_46 rfl (lv_at hl 2 rfl) ?_
            refine j_idivp S dX0_plain_47 (iv_i hw (by decide +kernel)) (iv_pi r1_ (by decide +kernel)) (iv_nn hw (by decide +kernel)) ?_
            refine j_goto (tgt := 65) S dX0_plain_48 (by decide) ?_
            exact hret (w / n) 65 _ (by unfold sp_plain; (repeat' split) <;> first | omega | rfl) dX0_plain_65
        · have r10_ : (-6) ≤ (sp_pl w H n cc) ∧ (sp_pl w H n cc) ≤ (-6) := by omega
          refine j_iload_n S dX0_plain_35 rfl (lv_at hl 0 rfl) ?_
          exact hret (sp_pl w H n cc) 36 _ (by unfold sp_plain; (repeat' split) <;> first | omega | rfl) dX0_plain_36
    · refine j_bipush S dX0_plain_16 (by decide) ?_
      exact hret (-2) 18 _ (by unfold sp_plain; (repeat' split) <;> first | omega | rfl) dX0_plain_18
abbrev rmX0_firstStep : Room := { frames := 1, cells := 0, slots := 0, locals := 23 }
theorem hdX0_firstStep : yX0_firstStep.cls ≠ "java/lang/invoke/MethodHandle" ∧ yX0_firstStep.cls ≠ "java/lang/invoke/VarHandle" ∧ (parseMethodDescriptor yX0_firstStep.desc).map (fun d => d.parameters.length) = some 4 := by decide +kernel
set_option maxHeartbeats 4000000 in
set_option maxRecDepth 100000 in
theorem c_X0_firstStep (l : Launch) (D : va_G) (h a0 a1 a2 a3 : Nat) (cA : ClassId) (H T E F : Int → Int) (cc gc w d v : Int) (hok : SOK H T E cc gc w d v) (u1 : Int) (u2 : Int) (n : Int) (b : Int) (hu1 : 5 ≤ u1 ∧ u1 ≤ 120) (hu2 : 5 ≤ u2 ∧ u2 ≤ 120) (hn : 2 ≤ n ∧ n ≤ 1000) (hb : (-120) ≤ b ∧ b ≤ 120) : MI l yX0_firstStep wsX0_firstStep rmX0_firstStep [.ref h, jI u1, jI u2, jI n, jI b] (WB D (XW h a0 a1 a2 a3 cA H T E F cc gc w d v) cA) (fun rR => rR = sp_fs w u1 u2 n b) := by
  refine MI_of (cc := cX0_firstStep) (maxL := 6) (by decide) rfl (Nat.le_of_ble_eq_true rfl) ?_
  intro pP eE sS mM aA bL mT cC QQ ls S hret ⟨hP, hK⟩ hl
  obtain ⟨hcc, hgc, hw, hd, hv, hH, hT, hE⟩ := id hok
  have hin : ∀ w ∈ wsX00, w ∈ wsX0_firstStep := fun w hw => List.mem_cons_of_mem _ (List.mem_append_right _ hw)
  have hl : lv_has ls 6 [(0, .ref h), (1, jI u1), (2, jI u2), (3, jI n), (4, jI b)] := hl
  refine lv_aload_n S.1 S.2.1 dX0_firstStep_0 rfl (lv_at hl 0 rfl) ?_
  refine j_get (v := jI w) S hin hK hP rfl rfl 6 (by decide) (List.mem_of_getElem? (i := 1) rfl) rfl dX0_firstStep_1 ?_
  refine j_iload_n S dX0_firstStep_4 rfl (lv_at hl 2 rfl) ?_
  refine j_imul S dX0_firstStep_5 ?_
  refine j_iload S dX0_firstStep_6 (lv_at hl 4 rfl) ?_
  refine j_iload_n S dX0_firstStep_8 rfl (lv_at hl 3 rfl) ?_
  refine j_imul S dX0_firstStep_9 ?_
  refine j_isub S dX0_firstStep_10 ?_
  refine j_istore (lv' := [(5, jI ((w * u2) - (b * n))), (0, .ref h), (1, jI u1), (2, jI u2), (3, jI n), (4, jI b)]) S dX0_firstStep_11 hl (by decide) rfl (fun ls hl => ?_)
  refine j_iload_n S dX0_firstStep_13 rfl (lv_at hl 2 rfl) ?_
  refine j_iload S dX0_firstStep_14 (lv_at hl 0 rfl) ?_
  refine j_imul S dX0_firstStep_16 ?_
  refine j_i2l S dX0_firstStep_17 (iv_i (iv_mul (lo := (-17280000)) (hi := 17280000) 120 144000 hu1 (iv_sub (lo := (-119950)) (hi := 144000) (iv_mulp (lo := 50) (hi := 24000) hw hu2 (by decide +kernel)) (iv_mul (lo := (-120000)) (hi := 120000) 120 1000 hb hn (by decide +kernel)) (by decide +kernel)) (by decide +kernel)) (by decide +kernel)) ?_
  refine j_iload_n S dX0_firstStep_18 rfl (lv_at hl 4 rfl) ?_
  refine j_iload_n S dX0_firstStep_19 rfl (lv_at hl 3 rfl) ?_
  refine j_imul S dX0_firstStep_20 ?_
  refine j_i2l S dX0_firstStep_21 (iv_i (iv_mulp (lo := 10) (hi := 120000) hn hu2 (by decide +kernel)) (by decide +kernel)) ?_
  refine j_csl (As := [jL (u1 * ((w * u2) - (b * n))), jL (n * u2)]) S (c_X0_exactQuotient l (u1 * ((w * u2) - (b * n))) (n * u2) (iv_w (iv_mul (lo := (-17280000)) (hi := 17280000) 120 144000 hu1 (iv_sub (lo := (-119950)) (hi := 144000) (iv_mulp (lo := 50) (hi := 24000) hw hu2 (by decide +kernel)) (iv_mul (lo := (-120000)) (hi := 120000) 120 1000 hb hn (by decide +kernel)) (by decide +kernel)) (by decide +kernel)) (by decide +kernel)) (iv_w (iv_mulp (lo := 10) (hi := 120000) hn hu2 (by decide +kernel)) (by decide +kernel))) (va_cwS 2 S.2.2.2.2 gX0_firstStep_X0_exactQuotient rfl rfl rfl hdX0_exactQuotient ⟨Nat.le_of_ble_eq_true rfl, Nat.le_of_ble_eq_true rfl⟩) [] rfl rfl hl.1 (Nat.le_of_ble_eq_true rfl) ⟨Nat.zero_le _, Nat.zero_le _⟩ dX0_firstStep_22 (fun i22 q22 => ?_)
  subst q22
  have r1_ : (-17280000) ≤ (sp_eq (u1 * ((w * u2) - (b * n))) (n * u2)) ∧ (sp_eq (u1 * ((w * u2) - (b * n))) (n * u2)) ≤ 17280000 := sp_eq_iv (iv_w (lo := (-17280000)) (hi := 17280000) (iv_mul (lo := (-17280000)) (hi := 17280000) 120 144000 hu1 (iv_sub (lo := (-119950)) (hi := 144000) (iv_mulp (lo := 50) (hi := 24000) hw hu2 (by decide +kernel)) (iv_mul (lo := (-120000)) (hi := 120000) 120 1000 hb hn (by decide +kernel)) (by decide +kernel)) (by decide +kernel)) (by decide +kernel))
  refine j_l2i S dX0_firstStep_25 ?_
  exact hret (sp_eq (u1 * ((w * u2) - (b * n))) (n * u2)) 26 _ rfl dX0_firstStep_26
abbrev rmX0_secondStep : Room := { frames := 2, cells := 0, slots := 0, locals := 48 }
theorem hdX0_secondStep : yX0_secondStep.cls ≠ "java/lang/invoke/MethodHandle" ∧ yX0_secondStep.cls ≠ "java/lang/invoke/VarHandle" ∧ (parseMethodDescriptor yX0_secondStep.desc).map (fun d => d.parameters.length) = some 3 := by decide +kernel
set_option maxHeartbeats 4000000 in
set_option maxRecDepth 100000 in
theorem c_X0_secondStep (l : Launch) (D : va_G) (h a0 a1 a2 a3 : Nat) (cA : ClassId) (H T E F : Int → Int) (cc gc w d v : Int) (hok : SOK H T E cc gc w d v) (u1 : Int) (u2 : Int) (n : Int) (hu1 : 5 ≤ u1 ∧ u1 ≤ 120) (hu2 : 5 ≤ u2 ∧ u2 ≤ 120) (hn : 2 ≤ n ∧ n ≤ 1000) : MI l yX0_secondStep wsX0_secondStep rmX0_secondStep [.ref h, jI u1, jI u2, jI n] (WB D (XW h a0 a1 a2 a3 cA H T E F cc gc w d v) cA) (fun rR => rR = sp_ss w u1 u2 n 1) := by
  refine MI_of (cc := cX0_secondStep) (maxL := 5) (by decide) rfl (Nat.le_of_ble_eq_true rfl) ?_
  intro pP eE sS mM aA bL mT cC QQ ls S hret ⟨hP, hK⟩ hl
  obtain ⟨hcc, hgc, hw, hd, hv, hH, hT, hE⟩ := id hok
  have hin : ∀ w ∈ wsX00, w ∈ wsX0_secondStep := fun w hw => List.mem_cons_of_mem _ (List.mem_append_right _ hw)
  have hl : lv_has ls 5 [(0, .ref h), (1, jI u1), (2, jI u2), (3, jI n)] := hl
  refine j_iconst S dX0_secondStep_0 ?_
  refine j_istore (lv' := [(4, jI 1), (0, .ref h), (1, jI u1), (2, jI u2), (3, jI n)]) S dX0_secondStep_1 hl (by decide) rfl (fun ls hl => ?_)
  have loop3 : ∀ (N : Nat) (k : Int) (ls : Array Slot), (1 ≤ k ∧ k ≤ 121) → (k ≤ u2 + 1) → (sp_ss w u1 u2 n k = sp_ss w u1 u2 n 1) → u2 + 1 - k < (N : Int) → lv_has ls 5 [(4, jI k), (0, .ref h), (1, jI u1), (2, jI u2), (3, jI n)] → W pP l eE rmX0_secondStep sS mM aA bL mT cC sS.heap [] 0 0 QQ (F0 mM 3 ls []) := by
    intro N
    induction N with
    | zero =>
      intro k ls hk hk2 hs hN
      exact absurd hN (by omega)
    | succ N ih3 =>
      intro k ls hk hk2 hs hN hl
      refine j_iload S dX0_secondStep_3 (lv_at hl 0 rfl) ?_
      refine j_iload_n S dX0_secondStep_5 rfl (lv_at hl 3 rfl) ?_
      refine j_icmp_gt (tgt := 47) S dX0_secondStep_6 (by decide) (iv_i hk (by decide +kernel)) (iv_i hu2 (by decide +kernel)) (fun c6 => ?_) (fun c6 => ?_)
      · have r1_ : 6 ≤ k ∧ k ≤ 121 := by omega
        refine j_iconst S dX0_secondStep_47 ?_
        exact hret 0 48 _ (by rw [← hs, sp_ss_end (by omega)]) dX0_secondStep_48
      · have r2_ : 1 ≤ k ∧ k ≤ 120 := by omega
        refine lv_aload_n S.1 S.2.1 dX0_secondStep_9 rfl (lv_at hl 1 rfl) ?_
        refine j_iload_n S dX0_secondStep_10 rfl (lv_at hl 2 rfl) ?_
        refine j_iload_n S dX0_secondStep_11 rfl (lv_at hl 3 rfl) ?_
        refine j_iload_n S dX0_secondStep_12 rfl (lv_at hl 4 rfl) ?_
        refine j_iload S dX0_secondStep_13 (lv_at hl 0 rfl) ?_
        refine j_cvi (As := [jI u1, jI u2, jI n, jI k]) (ci := 0) S (c_X0_firstStep l D h a0 a1 a2 a3 cA H T E F cc gc w d v hok u1 u2 n k (iv_w hu1 (by decide +kernel)) (iv_w hu2 (by decide +kernel)) (iv_w hn (by decide +kernel)) (iv_w r2_ (by decide +kernel))) (cwV 4 S.2.2.2.2 gX0_secondStep_X0_firstStep rfl rfl rfl ⟨rfl, hdX0_firstStep⟩ ⟨Nat.le_of_ble_eq_true rfl, Nat.le_of_ble_eq_true rfl⟩) hK hP rfl rfl rfl [] rfl rfl hl.1 (Nat.le_of_ble_eq_true rfl) ⟨Nat.zero_le _, Nat.zero_le _⟩ dX0_secondStep_15 (fun i15 q15 => ?_)
        subst q15
        have r3_ : (-17280000) ≤ (sp_fs w u1 u2 n k) ∧ (sp_fs w u1 u2 n k) ≤ 17280000 := sp_fs_iv hw (iv_w (lo := 5) (hi := 120) hu1 (by decide +kernel)) (iv_w (lo := 5) (hi := 120) hu2 (by decide +kernel)) (iv_w (lo := 2) (hi := 1000) hn (by decide +kernel)) (iv_w (lo := (-120)) (hi := 120) r2_ (by decide +kernel))
        refine j_if_eq (tgt := 24) S dX0_secondStep_18 (by decide) (iv_i r3_ (by decide +kernel)) (fun c18 => ?_) (fun c18 => ?_)
        · have r4_ : 0 ≤ (sp_fs w u1 u2 n k) ∧ (sp_fs w u1 u2 n k) ≤ 0 := by omega
          refine lv_aload_n S.1 S.2.1 dX0_secondStep_24 rfl (lv_at hl 1 rfl) ?_
          refine j_iload_n S dX0_secondStep_25 rfl (lv_at hl 2 rfl) ?_
          refine j_iload_n S dX0_secondStep_26 rfl (lv_at hl 3 rfl) ?_
          refine j_iload_n S dX0_secondStep_27 rfl (lv_at hl 4 rfl) ?_
          refine j_iload S dX0_secondStep_28 (lv_at hl 0 rfl) ?_
          refine j_ineg S dX0_secondStep_30 ?_
          refine j_cvi (As := [jI u1, jI u2, jI n, jI (-k)]) (ci := 0) S (c_X0_firstStep l D h a0 a1 a2 a3 cA H T E F cc gc w d v hok u1 u2 n (-k) (iv_w hu1 (by decide +kernel)) (iv_w hu2 (by decide +kernel)) (iv_w hn (by decide +kernel)) (iv_w (iv_neg (lo := (-120)) (hi := (-1)) r2_ (by decide +kernel)) (by decide +kernel))) (cwV 4 S.2.2.2.2 gX0_secondStep_X0_firstStep rfl rfl rfl ⟨rfl, hdX0_firstStep⟩ ⟨Nat.le_of_ble_eq_true rfl, Nat.le_of_ble_eq_true rfl⟩) hK hP rfl rfl rfl [] rfl rfl hl.1 (Nat.le_of_ble_eq_true rfl) ⟨Nat.zero_le _, Nat.zero_le _⟩ dX0_secondStep_31 (fun i31 q31 => ?_)
          subst q31
          have r5_ : (-17280000) ≤ (sp_fs w u1 u2 n (-k)) ∧ (sp_fs w u1 u2 n (-k)) ≤ 17280000 := sp_fs_iv hw (iv_w (lo := 5) (hi := 120) hu1 (by decide +kernel)) (iv_w (lo := 5) (hi := 120) hu2 (by decide +kernel)) (iv_w (lo := 2) (hi := 1000) hn (by decide +kernel)) (iv_w (lo := (-120)) (hi := 120) (iv_neg (lo := (-120)) (hi := (-1)) r2_ (by decide +kernel)) (by decide +kernel))
          refine j_if_eq (tgt := 41) S dX0_secondStep_34 (by decide) (iv_i r5_ (by decide +kernel)) (fun c34 => ?_) (fun c34 => ?_)
          · have r6_ : 0 ≤ (sp_fs w u1 u2 n (-k)) ∧ (sp_fs w u1 u2 n (-k)) ≤ 0 := by omega
            refine j_iinc (k := 0) (y := (k + 1)) (lv' := [(4, jI (k + 1)), (0, .ref h), (1, jI u1), (2, jI u2), (3, jI n)]) S dX0_secondStep_41 hl rfl rfl (by decide) rfl (fun ls hl => ?_)
            refine j_goto (tgt := 3) S dX0_secondStep_44 (by decide) ?_
            exact ih3 (k + 1) _ (by omega) (by omega) (by rw [← hs, sp_ss_s (s := k) (by omega), if_neg (fun q => q c18), if_neg (fun q => q c34)]) (by omega) (lv_sub hl [0, 1, 2, 3, 4] rfl)
          · refine j_iload S dX0_secondStep_37 (lv_at hl 0 rfl) ?_
            refine j_ineg S dX0_secondStep_39 ?_
            exact hret (-k) 40 _ (by rw [← hs, sp_ss_s (by omega), if_neg (fun q => q c18), if_pos c34]) dX0_secondStep_40
        · refine j_iload S dX0_secondStep_21 (lv_at hl 0 rfl) ?_
          exact hret k 23 _ (by rw [← hs, sp_ss_s (by omega), if_pos c18]) dX0_secondStep_23
  exact loop3 122 1 _ (by omega) (by omega) rfl (by omega) (lv_sub hl [0, 1, 2, 3, 4] rfl)
abbrev rmX0_compoundTerm : Room := { frames := 2, cells := 0, slots := 0, locals := 48 }
theorem hdX0_compoundTerm : yX0_compoundTerm.cls ≠ "java/lang/invoke/MethodHandle" ∧ yX0_compoundTerm.cls ≠ "java/lang/invoke/VarHandle" ∧ (parseMethodDescriptor yX0_compoundTerm.desc).map (fun d => d.parameters.length) = some 5 := by decide +kernel
set_option maxHeartbeats 4000000 in
set_option maxRecDepth 100000 in
theorem c_X0_compoundTerm (l : Launch) (D : va_G) (h a0 a1 a2 a3 : Nat) (cA : ClassId) (H T E F : Int → Int) (cc gc w d v : Int) (hok : SOK H T E cc gc w d v) (x1 : Int) (x2 : Int) (n : Int) (b : Int) (what : Int) (hx1 : 0 ≤ x1 ∧ x1 ≤ 7) (hx2 : 0 ≤ x2 ∧ x2 ≤ 7) (hn : 2 ≤ n ∧ n ≤ 1000) (hb : (-120) ≤ b ∧ b ≤ 120) (hwhat : inI what) (hx1c : x1 < cc) (hx2c : x2 < cc) : MI l yX0_compoundTerm wsX0_compoundTerm rmX0_compoundTerm [.ref h, jI x1, jI x2, jI n, jI b, jI what] (WB D (XW h a0 a1 a2 a3 cA H T E F cc gc w d v) cA) (fun rR => rR = sp_ct w H n x1 x2 b what) := by
  refine MI_of (cc := cX0_compoundTerm) (maxL := 6) (by decide) rfl (Nat.le_of_ble_eq_true rfl) ?_
  intro pP eE sS mM aA bL mT cC QQ ls S hret ⟨hP, hK⟩ hl
  obtain ⟨hcc, hgc, hw, hd, hv, hH, hT, hE⟩ := id hok
  have hin : ∀ w ∈ wsX00, w ∈ wsX0_compoundTerm := fun w hw => List.mem_cons_of_mem _ (List.mem_append_right _ hw)
  have hl : lv_has ls 6 [(0, .ref h), (1, jI x1), (2, jI x2), (3, jI n), (4, jI b), (5, jI what)] := hl
  refine j_iload S dX0_compoundTerm_0 (lv_at hl 5 rfl) ?_
  by_cases k0 : what = 0
  · refine lv_tableIn (tgt := 28) S.1 S.2.1 dX0_compoundTerm_2 (by rw [tI (iv_i hwhat (by decide +kernel))]; omega) (by rw [tI (iv_i hwhat (by decide +kernel))]; omega) (by rw [tI (iv_i hwhat (by decide +kernel)), k0]; rfl) (by decide) ?_
    refine j_iload_n S dX0_compoundTerm_28 rfl (lv_at hl 1 rfl) ?_
    exact hret x1 29 _ (by unfold sp_ct; (repeat' split) <;> omega) dX0_compoundTerm_29
  by_cases k1 : what = 1
  · refine lv_tableIn (tgt := 30) S.1 S.2.1 dX0_compoundTerm_2 (by rw [tI (iv_i hwhat (by decide +kernel))]; omega) (by rw [tI (iv_i hwhat (by decide +kernel))]; omega) (by rw [tI (iv_i hwhat (by decide +kernel)), k1]; rfl) (by decide) ?_
    refine lv_aload_n S.1 S.2.1 dX0_compoundTerm_30 rfl (lv_at hl 0 rfl) ?_
    refine lv_aload_n S.1 S.2.1 dX0_compoundTerm_31 rfl (lv_at hl 0 rfl) ?_
    refine j_get (v := .ref a0) S hin hK hP rfl rfl 0 (by decide) (List.mem_of_getElem? (i := 1) rfl) rfl dX0_compoundTerm_32 ?_
    refine j_iload_n S dX0_compoundTerm_35 rfl (lv_at hl 1 rfl) ?_
    refine j_iald S hK hP 1 0 rfl rfl (iv_ix (n := 8) hx1 (by decide +kernel)) dX0_compoundTerm_36 ?_
    have r1_ := hH x1 (by omega) (by omega)
    refine lv_aload_n S.1 S.2.1 dX0_compoundTerm_37 rfl (lv_at hl 0 rfl) ?_
    refine j_get (v := .ref a0) S hin hK hP rfl rfl 0 (by decide) (List.mem_of_getElem? (i := 1) rfl) rfl dX0_compoundTerm_38 ?_
    refine j_iload_n S dX0_compoundTerm_41 rfl (lv_at hl 2 rfl) ?_
    refine j_iald S hK hP 1 0 rfl rfl (iv_ix (n := 8) hx2 (by decide +kernel)) dX0_compoundTerm_42 ?_
    have r2_ := hH x2 (by omega) (by omega)
    refine j_iload_n S dX0_compoundTerm_43 rfl (lv_at hl 3 rfl) ?_
    refine j_iload S dX0_compoundTerm_44 (lv_at hl 4 rfl) ?_
    refine j_cvi (As := [jI (H x1), jI (H x2), jI n, jI b]) (ci := 0) S (c_X0_firstStep l D h a0 a1 a2 a3 cA H T E F cc gc w d v hok (H x1) (H x2) n b (iv_w r1_ (by decide +kernel)) (iv_w r2_ (by decide +kernel)) (iv_w hn (by decide +kernel)) (iv_w hb (by decide +kernel))) (cwV 4 S.2.2.2.2 gX0_compoundTerm_X0_firstStep rfl rfl rfl ⟨rfl, hdX0_firstStep⟩ ⟨Nat.le_of_ble_eq_true rfl, Nat.le_of_ble_eq_true rfl⟩) hK hP rfl rfl rfl [] rfl rfl hl.1 (Nat.le_of_ble_eq_true rfl) ⟨Nat.zero_le _, Nat.zero_le _⟩ dX0_compoundTerm_46 (fun i46 q46 => ?_)
    subst q46
    have r3_ : (-17280000) ≤ (sp_fs w (H x1) (H x2) n b) ∧ (sp_fs w (H x1) (H x2) n b) ≤ 17280000 := sp_fs_iv hw (iv_w (lo := 5) (hi := 120) r1_ (by decide +kernel)) (iv_w (lo := 5) (hi := 120) r2_ (by decide +kernel)) (iv_w (lo := 2) (hi := 1000) hn (by decide +kernel)) (iv_w (lo := (-120)) (hi := 120) hb (by decide +kernel))
    exact hret (sp_fs w (H x1) (H x2) n b) 49 _ (by unfold sp_ct; (repeat' split) <;> omega) dX0_compoundTerm_49
  by_cases k2 : what = 2
  · refine lv_tableIn (tgt := 50) S.1 S.2.1 dX0_compoundTerm_2 (by rw [tI (iv_i hwhat (by decide +kernel))]; omega) (by rw [tI (iv_i hwhat (by decide +kernel))]; omega) (by rw [tI (iv_i hwhat (by decide +kernel)), k2]; rfl) (by decide) ?_
    refine j_iload_n S dX0_compoundTerm_50 rfl (lv_at hl 2 rfl) ?_
    exact hret x2 51 _ (by unfold sp_ct; (repeat' split) <;> omega) dX0_compoundTerm_51
  refine lv_tableOut (tgt := 52) S.1 S.2.1 dX0_compoundTerm_2 (by rw [tI (iv_i hwhat (by decide +kernel))]; omega) (by decide) ?_
  refine j_iload S dX0_compoundTerm_52 (lv_at hl 4 rfl) ?_
  exact hret b 54 _ (by unfold sp_ct; (repeat' split) <;> omega) dX0_compoundTerm_54
