abbrev rmX0_compound : Room := { frames := 3, cells := 0, slots := 0, locals := 73 }
theorem hdX0_compound : yX0_compound.cls ≠ "java/lang/invoke/MethodHandle" ∧ yX0_compound.cls ≠ "java/lang/invoke/VarHandle" ∧ (parseMethodDescriptor yX0_compound.desc).map (fun d => d.parameters.length) = some 2 := by decide +kernel
set_option maxHeartbeats 4000000 in
set_option maxRecDepth 100000 in
theorem c_X0_compound (l : Launch) (D : va_G) (h a0 a1 a2 a3 : Nat) (cA : ClassId) (H T E F : Int → Int) (cc gc w d v : Int) (hok : SOK H T E cc gc w d v) (n : Int) (what : Int) (hn : inI n) (hwhat : inI what) : MI l yX0_compound wsX0_compound rmX0_compound [.ref h, jI n, jI what] (WB D (XW h a0 a1 a2 a3 cA H T E F cc gc w d v) cA) (fun rR => P_compound w cc H n what rR) := by
  refine MI_of (cc := cX0_compound) (maxL := 6) (by decide) rfl (Nat.le_of_ble_eq_true rfl) ?_
  intro pP eE sS mM aA bL mT cC QQ ls S hret ⟨hP, hK⟩ hl
  obtain ⟨hcc, hgc, hw, hd, hv, hH, hT, hE⟩ := id hok
  have hin : ∀ w ∈ wsX00, w ∈ wsX0_compound := fun w hw => List.mem_cons_of_mem _ (List.mem_append_right _ hw)
  have hl : lv_has ls 6 [(0, .ref h), (1, jI n), (2, jI what)] := hl
  refine j_iload_n S dX0_compound_0 rfl (lv_at hl 1 rfl) ?_
  refine j_csi (As := [jI n]) S (c_X0_isNoNumberOfParts l n (iv_w hn (by decide +kernel))) (va_cwS 1 S.2.2.2.2 gX0_compound_X0_isNoNumberOfParts rfl rfl rfl hdX0_isNoNumberOfParts ⟨Nat.le_of_ble_eq_true rfl, Nat.le_of_ble_eq_true rfl⟩) [] rfl rfl hl.1 (Nat.le_of_ble_eq_true rfl) ⟨Nat.zero_le _, Nat.zero_le _⟩ dX0_compound_1 (fun i1 q1 => ?_)
  subst q1
  refine j_ifb_ne (tgt := 16) S dX0_compound_4 (by decide) (fun c4 => ?_) (fun c4 => ?_)
  · refine j_ldc (n := (-1000000002)) S (S.2.2.2.2 _ (List.mem_of_getElem? (i := 1) rfl)) (by decide) dX0_compound_16 ?_
    exact hret (-1000000002) 18 _ (Or.inl ⟨by omega, rfl⟩) dX0_compound_18
  · have r1_ : 2 ≤ n ∧ n ≤ 1000 := by omega
    refine j_iload_n S dX0_compound_7 rfl (lv_at hl 2 rfl) ?_
    refine j_iconst S dX0_compound_8 ?_
    refine j_iconst S dX0_compound_9 ?_
    refine j_csi (As := [jI what, jI 0, jI 3]) S (c_X0_isOutside l what 0 3 (iv_w hwhat (by decide +kernel)) (iv_w (iv_n 0) (by decide +kernel)) (iv_w (iv_n 3) (by decide +kernel))) (va_cwS 3 S.2.2.2.2 gX0_compound_X0_isOutside rfl rfl rfl hdX0_isOutside ⟨Nat.le_of_ble_eq_true rfl, Nat.le_of_ble_eq_true rfl⟩) [] rfl rfl hl.1 (Nat.le_of_ble_eq_true rfl) ⟨Nat.zero_le _, Nat.zero_le _⟩ dX0_compound_10 (fun i10 q10 => ?_)
    subst q10
    refine j_ifb_eq (tgt := 19) S dX0_compound_13 (by decide) (fun c13 => ?_) (fun c13 => ?_)
    · have r2_ : 0 ≤ what ∧ what ≤ 3 := by omega
      refine j_iconst S dX0_compound_19 ?_
      refine j_istore_n (lv' := [(3, jI 0), (0, .ref h), (1, jI n), (2, jI what)]) S dX0_compound_20 rfl hl (by decide) rfl (fun ls hl => ?_)
      have loop21 : ∀ (N : Nat) (x1 : Int) (ls : Array Slot), (0 ≤ x1 ∧ x1 ≤ 8) → (x1 ≤ cc) → (∀ h' k', 0 ≤ h' → h' < x1 → h' < k' → k' < cc → sp_sec w H n h' k' = 0) → cc - x1 < (N : Int) → lv_has ls 6 [(3, jI x1), (0, .ref h), (1, jI n), (2, jI what)] → W pP l eE rmX0_compound sS mM aA bL mT cC sS.heap [] 0 0 QQ (F0 mM 21 ls []) := by
        intro N
        induction N with
        | zero =>
          intro x1 ls hx1 hx1c hz hN
          exact absurd hN (by omega)
        | succ N ih21 =>
          intro x1 ls hx1 hx1c hz hN hl
          refine j_iload_n S dX0_compound_21 rfl (lv_at hl 0 rfl) ?_
          refine lv_aload_n S.1 S.2.1 dX0_compound_22 rfl (lv_at hl 1 rfl) ?_
          refine j_get (v := jI cc) S hin hK hP rfl rfl 4 (by decide) (List.mem_of_getElem? (i := 2) rfl) rfl dX0_compound_23 ?_
          refine j_icmp_ge (tgt := 92) S dX0_compound_26 (by decide) (iv_i hx1 (by decide +kernel)) (iv_i hcc (by decide +kernel)) (fun c26 => ?_) (fun c26 => ?_)
          · refine j_ldc (n := (-1000000005)) S (S.2.2.2.2 _ (List.mem_of_getElem? (i := 4) rfl)) (by decide) dX0_compound_92 ?_
            exact hret (-1000000005) 94 _ (Or.inr (Or.inl ⟨by omega, (fun h' k' a1 a2 a3 => hz h' k' a1 (by omega) a2 a3), rfl⟩)) dX0_compound_94
          · have r3_ : 0 ≤ x1 ∧ x1 ≤ 7 := by omega
            have r4_ : 1 ≤ cc ∧ cc ≤ 8 := by omega
            refine j_iload_n S dX0_compound_29 rfl (lv_at hl 0 rfl) ?_
            refine j_iconst S dX0_compound_30 ?_
            refine j_iadd S dX0_compound_31 ?_
            refine j_istore (lv' := [(4, jI (x1 + 1)), (3, jI x1), (0, .ref h), (1, jI n), (2, jI what)]) S dX0_compound_32 hl (by decide) rfl (fun ls hl => ?_)
            have loop34 : ∀ (N : Nat) (x2 : Int) (ls : Array Slot), (0 ≤ x2 ∧ x2 ≤ 8) → (x1 < x2 ∧ x2 ≤ cc) → (∀ k', x1 < k' → k' < x2 → sp_sec w H n x1 k' = 0) → cc - x2 < (N : Int) → lv_has ls 6 [(4, jI x2), (3, jI x1), (0, .ref h), (1, jI n), (2, jI what)] → W pP l eE rmX0_compound sS mM aA bL mT cC sS.heap [] 0 0 QQ (F0 mM 34 ls []) := by
              intro N
              induction N with
              | zero =>
                intro x2 ls hx2 hx2b hz2 hN
                exact absurd hN (by omega)
              | succ N ih34 =>
                intro x2 ls hx2 hx2b hz2 hN hl
                refine j_iload S dX0_compound_34 (lv_at hl 0 rfl) ?_
                refine lv_aload_n S.1 S.2.1 dX0_compound_36 rfl (lv_at hl 2 rfl) ?_
                refine j_get (v := jI cc) S hin hK hP rfl rfl 4 (by decide) (List.mem_of_getElem? (i := 2) rfl) rfl dX0_compound_37 ?_
                refine j_icmp_ge (tgt := 86) S dX0_compound_40 (by decide) (iv_i hx2 (by decide +kernel)) (iv_i r4_ (by decide +kernel)) (fun c40 => ?_) (fun c40 => ?_)
                · have r5_ : 1 ≤ x2 ∧ x2 ≤ 8 := by omega
                  refine j_iinc (k := 1) (y := (x1 + 1)) (lv' := [(3, jI (x1 + 1)), (4, jI x2), (0, .ref h), (1, jI n), (2, jI what)]) S dX0_compound_86 hl rfl rfl (by decide) rfl (fun ls hl => ?_)
                  refine j_goto (tgt := 21) S dX0_compound_89 (by decide) ?_
                  exact ih21 (x1 + 1) _ (by omega) (by omega) (fun h' k' a1 a2 a3 a4 => by by_cases e : h' = x1; rw [e]; exact hz2 k' (by omega) (by omega); exact hz h' k' a1 (by omega) a3 a4) (by omega) (lv_sub hl [0, 2, 3, 4] rfl)
                · have r6_ : 0 ≤ x2 ∧ x2 ≤ 7 := by omega
                  refine lv_aload_n S.1 S.2.1 dX0_compound_43 rfl (lv_at hl 2 rfl) ?_
                  refine lv_aload_n S.1 S.2.1 dX0_compound_44 rfl (lv_at hl 2 rfl) ?_
                  refine j_get (v := .ref a0) S hin hK hP rfl rfl 0 (by decide) (List.mem_of_getElem? (i := 3) rfl) rfl dX0_compound_45 ?_
                  refine j_iload_n S dX0_compound_48 rfl (lv_at hl 1 rfl) ?_
                  refine j_iald S hK hP 1 0 rfl rfl (iv_ix (n := 8) r3_ (by decide +kernel)) dX0_compound_49 ?_
                  have r7_ := hH x1 (by omega) (by omega)
                  refine lv_aload_n S.1 S.2.1 dX0_compound_50 rfl (lv_at hl 2 rfl) ?_
                  refine j_get (v := .ref a0) S hin hK hP rfl rfl 0 (by decide) (List.mem_of_getElem? (i := 3) rfl) rfl dX0_compound_51 ?_
                  refine j_iload S dX0_compound_54 (lv_at hl 0 rfl) ?_
                  refine j_iald S hK hP 1 0 rfl rfl (iv_ix (n := 8) r6_ (by decide +kernel)) dX0_compound_56 ?_
                  have r8_ := hH x2 (by omega) (by omega)
                  refine j_iload_n S dX0_compound_57 rfl (lv_at hl 3 rfl) ?_
                  refine j_cvi (As := [jI (H x1), jI (H x2), jI n]) (ci := 0) S (c_X0_secondStep l D h a0 a1 a2 a3 cA H T E F cc gc w d v hok (H x1) (H x2) n (iv_w r7_ (by decide +kernel)) (iv_w r8_ (by decide +kernel)) (iv_w r1_ (by decide +kernel))) (cwV 3 S.2.2.2.2 gX0_compound_X0_secondStep rfl rfl rfl ⟨rfl, hdX0_secondStep⟩ ⟨Nat.le_of_ble_eq_true rfl, Nat.le_of_ble_eq_true rfl⟩) hK hP rfl rfl rfl [] rfl rfl hl.1 (Nat.le_of_ble_eq_true rfl) ⟨Nat.zero_le _, Nat.zero_le _⟩ dX0_compound_58 (fun i58 q58 => ?_)
                  subst q58
                  have r9_ : (-120) ≤ (sp_ss w (H x1) (H x2) n 1) ∧ (sp_ss w (H x1) (H x2) n 1) ≤ 120 := sp_ss_iv (iv_w (lo := 5) (hi := 120) r8_ (by decide +kernel))
                  refine j_istore (lv' := [(5, jI (sp_ss w (H x1) (H x2) n 1)), (4, jI x2), (3, jI x1), (0, .ref h), (1, jI n), (2, jI what)]) S dX0_compound_61 hl (by decide) rfl (fun ls hl => ?_)
                  refine j_iload S dX0_compound_63 (lv_at hl 0 rfl) ?_
                  refine j_if_eq (tgt := 80) S dX0_compound_65 (by decide) (iv_i r9_ (by decide +kernel)) (fun c65 => ?_) (fun c65 => ?_)
                  · have r10_ : 0 ≤ (sp_ss w (H x1) (H x2) n 1) ∧ (sp_ss w (H x1) (H x2) n 1) ≤ 0 := by omega
                    refine j_iinc (k := 1) (y := (x2 + 1)) (lv' := [(4, jI (x2 + 1)), (5, jI (sp_ss w (H x1) (H x2) n 1)), (3, jI x1), (0, .ref h), (1, jI n), (2, jI what)]) S dX0_compound_80 hl rfl rfl (by decide) rfl (fun ls hl => ?_)
                    refine j_goto (tgt := 34) S dX0_compound_83 (by decide) ?_
                    exact ih34 (x2 + 1) _ (by omega) (by omega) (fun k' a1 a2 => by by_cases e : k' = x2; rw [e]; exact c65; exact hz2 k' a1 (by omega)) (by omega) (lv_sub hl [0, 2, 3, 4, 5] rfl)
                  · refine lv_aload_n S.1 S.2.1 dX0_compound_68 rfl (lv_at hl 3 rfl) ?_
                    refine j_iload_n S dX0_compound_69 rfl (lv_at hl 2 rfl) ?_
                    refine j_iload S dX0_compound_70 (lv_at hl 1 rfl) ?_
                    refine j_iload_n S dX0_compound_72 rfl (lv_at hl 4 rfl) ?_
                    refine j_iload S dX0_compound_73 (lv_at hl 0 rfl) ?_
                    refine j_iload_n S dX0_compound_75 rfl (lv_at hl 5 rfl) ?_
                    refine j_cvi (As := [jI x1, jI x2, jI n, jI (sp_ss w (H x1) (H x2) n 1), jI what]) (ci := 0) S (c_X0_compoundTerm l D h a0 a1 a2 a3 cA H T E F cc gc w d v hok x1 x2 n (sp_ss w (H x1) (H x2) n 1) what (iv_w r3_ (by decide +kernel)) (iv_w r6_ (by decide +kernel)) (iv_w r1_ (by decide +kernel)) (iv_w r9_ (by decide +kernel)) (iv_w r2_ (by decide +kernel)) (by omega) (by omega)) (cwV 5 S.2.2.2.2 gX0_compound_X0_compoundTerm rfl rfl rfl ⟨rfl, hdX0_compoundTerm⟩ ⟨Nat.le_of_ble_eq_true rfl, Nat.le_of_ble_eq_true rfl⟩) hK hP rfl rfl rfl [] rfl rfl hl.1 (Nat.le_of_ble_eq_true rfl) ⟨Nat.zero_le _, Nat.zero_le _⟩ dX0_compound_76 (fun i76 q76 => ?_)
                    subst q76
                    exact hret (sp_ct w H n x1 x2 (sp_ss w (H x1) (H x2) n 1) what) 79 _ (Or.inr (Or.inr ⟨by omega, x1, x2, ⟨by omega, by omega, by omega⟩, c65, (fun h' k' a1 a2 a3 a4 => by rcases a4 with a4 | ⟨a4, a5⟩; exact hz h' k' a1 a4 a2 a3; rw [a4]; exact hz2 k' (by omega) a5), rfl⟩)) dX0_compound_79
            exact loop34 9 (x1 + 1) _ (by omega) (by omega) (fun k' a1 a2 => absurd a2 (by omega)) (by omega) (lv_sub hl [0, 1, 2, 3, 4] rfl)
      exact loop21 9 0 _ (by omega) (by omega) (fun h' k' a1 a2 => absurd a2 (by omega)) (by omega) (lv_sub hl [0, 1, 2, 3] rfl)
    · refine j_ldc (n := (-1000000002)) S (S.2.2.2.2 _ (List.mem_of_getElem? (i := 1) rfl)) (by decide) dX0_compound_16 ?_
      exact hret (-1000000002) 18 _ (Or.inl ⟨by omega, rfl⟩) dX0_compound_18
abbrev rmX0_hole : Room := { frames := 2, cells := 0, slots := 0, locals := 46 }
theorem hdX0_hole : yX0_hole.cls ≠ "java/lang/invoke/MethodHandle" ∧ yX0_hole.cls ≠ "java/lang/invoke/VarHandle" ∧ (parseMethodDescriptor yX0_hole.desc).map (fun d => d.parameters.length) = some 3 := by decide +kernel
set_option maxHeartbeats 4000000 in
set_option maxRecDepth 100000 in
theorem c_X0_hole (l : Launch) (D : va_G) (h a0 a1 a2 a3 : Nat) (cA : ClassId) (H T E F : Int → Int) (cc gc w d v : Int) (hok : SOK H T E cc gc w d v) (x : Int) (n : Int) (i : Int) (hx : inI x) (hn : inI n) (hi : inI i) : MI l yX0_hole wsX0_hole rmX0_hole [.ref h, jI x, jI n, jI i] (WB D (XW h a0 a1 a2 a3 cA H T E F cc gc w d v) cA) (fun rR => rR = sp_hole w cc H x n i) := by
  refine MI_of (cc := cX0_hole) (maxL := 5) (by decide) rfl (Nat.le_of_ble_eq_true rfl) ?_
  intro pP eE sS mM aA bL mT cC QQ ls S hret ⟨hP, hK⟩ hl
  obtain ⟨hcc, hgc, hw, hd, hv, hH, hT, hE⟩ := id hok
  have hin : ∀ w ∈ wsX00, w ∈ wsX0_hole := fun w hw => List.mem_cons_of_mem _ (List.mem_append_right _ hw)
  have hl : lv_has ls 5 [(0, .ref h), (1, jI x), (2, jI n), (3, jI i)] := hl
  refine lv_aload_n S.1 S.2.1 dX0_hole_0 rfl (lv_at hl 0 rfl) ?_
  refine j_iload_n S dX0_hole_1 rfl (lv_at hl 1 rfl) ?_
  refine j_cvi (As := [jI x]) (ci := 0) S (c_X0_holesAt l D h a0 a1 a2 a3 cA H T E F cc gc w d v hok x (iv_w hx (by decide +kernel))) (cwV 1 S.2.2.2.2 gX0_hole_X0_holesAt rfl rfl rfl ⟨rfl, hdX0_holesAt⟩ ⟨Nat.le_of_ble_eq_true rfl, Nat.le_of_ble_eq_true rfl⟩) hK hP rfl rfl rfl [] rfl rfl hl.1 (Nat.le_of_ble_eq_true rfl) ⟨Nat.zero_le _, Nat.zero_le _⟩ dX0_hole_2 (fun i2 q2 => ?_)
  have r1_ : 0 ≤ i2 ∧ i2 ≤ 120 := by omega
  refine j_istore (lv' := [(4, jI i2), (0, .ref h), (1, jI x), (2, jI n), (3, jI i)]) S dX0_hole_5 hl (by decide) rfl (fun ls hl => ?_)
  refine j_iload S dX0_hole_7 (lv_at hl 0 rfl) ?_
  refine j_if_ne (tgt := 14) S dX0_hole_9 (by decide) (iv_i r1_ (by decide +kernel)) (fun c9 => ?_) (fun c9 => ?_)
  · have r2_ : 1 ≤ i2 ∧ i2 ≤ 120 := by omega
    have r3_ : 5 ≤ i2 ∧ i2 ≤ 120 := by omega
    refine j_iload_n S dX0_hole_14 rfl (lv_at hl 3 rfl) ?_
    refine j_csi (As := [jI n]) S (c_X0_isNoNumberOfParts l n (iv_w hn (by decide +kernel))) (va_cwS 1 S.2.2.2.2 gX0_hole_X0_isNoNumberOfParts rfl rfl rfl hdX0_isNoNumberOfParts ⟨Nat.le_of_ble_eq_true rfl, Nat.le_of_ble_eq_true rfl⟩) [] rfl rfl hl.1 (Nat.le_of_ble_eq_true rfl) ⟨Nat.zero_le _, Nat.zero_le _⟩ dX0_hole_15 (fun i15 q15 => ?_)
    subst q15
    refine j_ifb_ne (tgt := 30) S dX0_hole_18 (by decide) (fun c18 => ?_) (fun c18 => ?_)
    · refine j_bipush S dX0_hole_30 (by decide) ?_
      exact hret (-2) 32 _ (by unfold sp_hole; (repeat' split) <;> first | omega | (rw [show i2 = H x from by omega]) | rfl) dX0_hole_32
    · have r4_ : 2 ≤ n ∧ n ≤ 1000 := by omega
      refine j_iload_n S dX0_hole_21 rfl (lv_at hl 4 rfl) ?_
      refine j_iconst S dX0_hole_22 ?_
      refine j_iload_n S dX0_hole_23 rfl (lv_at hl 3 rfl) ?_
      refine j_csi (As := [jI i, jI 0, jI n]) S (c_X0_isOutside l i 0 n (iv_w hi (by decide +kernel)) (iv_w (iv_n 0) (by decide +kernel)) (iv_w r4_ (by decide +kernel))) (va_cwS 3 S.2.2.2.2 gX0_hole_X0_isOutside rfl rfl rfl hdX0_isOutside ⟨Nat.le_of_ble_eq_true rfl, Nat.le_of_ble_eq_true rfl⟩) [] rfl rfl hl.1 (Nat.le_of_ble_eq_true rfl) ⟨Nat.zero_le _, Nat.zero_le _⟩ dX0_hole_24 (fun i24 q24 => ?_)
      subst q24
      refine j_ifb_eq (tgt := 33) S dX0_hole_27 (by decide) (fun c27 => ?_) (fun c27 => ?_)
      · have r5_ : 0 ≤ i ∧ i ≤ 1000 := by omega
        refine lv_aload_n S.1 S.2.1 dX0_hole_33 rfl (lv_at hl 1 rfl) ?_
        refine j_iload S dX0_hole_34 (lv_at hl 0 rfl) ?_
        refine j_iload_n S dX0_hole_36 rfl (lv_at hl 3 rfl) ?_
        refine j_iload_n S dX0_hole_37 rfl (lv_at hl 4 rfl) ?_
        refine j_cvi (As := [jI i2, jI n, jI i]) (ci := 0) S (c_X0_nearestHole l D h a0 a1 a2 a3 cA H T E F cc gc w d v hok i2 n i (iv_w r3_ (by decide +kernel)) (iv_w r4_ (by decide +kernel)) (iv_w r5_ (by decide +kernel))) (cwV 3 S.2.2.2.2 gX0_hole_X0_nearestHole rfl rfl rfl ⟨rfl, hdX0_nearestHole⟩ ⟨Nat.le_of_ble_eq_true rfl, Nat.le_of_ble_eq_true rfl⟩) hK hP rfl rfl rfl [] rfl rfl hl.1 (Nat.le_of_ble_eq_true rfl) ⟨Nat.zero_le _, Nat.zero_le _⟩ dX0_hole_38 (fun i38 q38 => ?_)
        subst q38
        have r6_ : 0 ≤ (sp_hn w i2 n i) ∧ (sp_hn w i2 n i) ≤ 48001000 := sp_hn_iv hw (iv_w (lo := 5) (hi := 120) r3_ (by decide +kernel)) (iv_w (lo := 0) (hi := 1000) r5_ (by decide +kernel)) (iv_w (lo := 2) (hi := 1000) r4_ (by decide +kernel))
        exact hret (sp_hn w i2 n i) 41 _ (by unfold sp_hole; (repeat' split) <;> first | omega | (rw [show i2 = H x from by omega]) | rfl) dX0_hole_41
      · refine j_bipush S dX0_hole_30 (by decide) ?_
        exact hret (-2) 32 _ (by unfold sp_hole; (repeat' split) <;> first | omega | (rw [show i2 = H x from by omega]) | rfl) dX0_hole_32
  · have r7_ : 0 ≤ i2 ∧ i2 ≤ 0 := by omega
    refine j_iconst S dX0_hole_12 ?_
    exact hret (-1) 13 _ (by unfold sp_hole; (repeat' split) <;> first | omega | (rw [show i2 = H x from by omega]) | rfl) dX0_hole_13
abbrev rmX0_miss : Room := { frames := 3, cells := 0, slots := 0, locals := 69 }
theorem hdX0_miss : yX0_miss.cls ≠ "java/lang/invoke/MethodHandle" ∧ yX0_miss.cls ≠ "java/lang/invoke/VarHandle" ∧ (parseMethodDescriptor yX0_miss.desc).map (fun d => d.parameters.length) = some 4 := by decide +kernel
set_option maxHeartbeats 4000000 in
set_option maxRecDepth 100000 in
theorem c_X0_miss (l : Launch) (D : va_G) (h a0 a1 a2 a3 : Nat) (cA : ClassId) (H T E F : Int → Int) (cc gc w d v : Int) (hok : SOK H T E cc gc w d v) (x : Int) (n : Int) (i : Int) (what : Int) (hx : inI x) (hn : inI n) (hi : inI i) (hwhat : inI what) : MI l yX0_miss wsX0_miss rmX0_miss [.ref h, jI x, jI n, jI i, jI what] (WB D (XW h a0 a1 a2 a3 cA H T E F cc gc w d v) cA) (fun rR => rR = sp_miss w cc H x n i what) := by
  refine MI_of (cc := cX0_miss) (maxL := 6) (by decide) rfl (Nat.le_of_ble_eq_true rfl) ?_
  intro pP eE sS mM aA bL mT cC QQ ls S hret ⟨hP, hK⟩ hl
  obtain ⟨hcc, hgc, hw, hd, hv, hH, hT, hE⟩ := id hok
  have hin : ∀ w ∈ wsX00, w ∈ wsX0_miss := fun w hw => List.mem_cons_of_mem _ (List.mem_append_right _ hw)
  have hl : lv_has ls 6 [(0, .ref h), (1, jI x), (2, jI n), (3, jI i), (4, jI what)] := hl
  refine lv_aload_n S.1 S.2.1 dX0_miss_0 rfl (lv_at hl 0 rfl) ?_
  refine j_iload_n S dX0_miss_1 rfl (lv_at hl 1 rfl) ?_
  refine j_cvi (As := [jI x]) (ci := 0) S (c_X0_holesAt l D h a0 a1 a2 a3 cA H T E F cc gc w d v hok x (iv_w hx (by decide +kernel))) (cwV 1 S.2.2.2.2 gX0_miss_X0_holesAt rfl rfl rfl ⟨rfl, hdX0_holesAt⟩ ⟨Nat.le_of_ble_eq_true rfl, Nat.le_of_ble_eq_true rfl⟩) hK hP rfl rfl rfl [] rfl rfl hl.1 (Nat.le_of_ble_eq_true rfl) ⟨Nat.zero_le _, Nat.zero_le _⟩ dX0_miss_2 (fun i2 q2 => ?_)
  have r1_ : 0 ≤ i2 ∧ i2 ≤ 120 := by omega
  refine j_istore (lv' := [(5, jI i2), (0, .ref h), (1, jI x), (2, jI n), (3, jI i), (4, jI what)]) S dX0_miss_5 hl (by decide) rfl (fun ls hl => ?_)
  refine j_iload S dX0_miss_7 (lv_at hl 0 rfl) ?_
  refine j_if_ne (tgt := 15) S dX0_miss_9 (by decide) (iv_i r1_ (by decide +kernel)) (fun c9 => ?_) (fun c9 => ?_)
  · have r2_ : 1 ≤ i2 ∧ i2 ≤ 120 := by omega
    have r3_ : 5 ≤ i2 ∧ i2 ≤ 120 := by omega
    refine j_iload_n S dX0_miss_15 rfl (lv_at hl 3 rfl) ?_
    refine j_csi (As := [jI n]) S (c_X0_isNoNumberOfParts l n (iv_w hn (by decide +kernel))) (va_cwS 1 S.2.2.2.2 gX0_miss_X0_isNoNumberOfParts rfl rfl rfl hdX0_isNoNumberOfParts ⟨Nat.le_of_ble_eq_true rfl, Nat.le_of_ble_eq_true rfl⟩) [] rfl rfl hl.1 (Nat.le_of_ble_eq_true rfl) ⟨Nat.zero_le _, Nat.zero_le _⟩ dX0_miss_16 (fun i16 q16 => ?_)
    subst q16
    refine j_ifb_ne (tgt := 41) S dX0_miss_19 (by decide) (fun c19 => ?_) (fun c19 => ?_)
    · refine j_ldc (n := (-1000000002)) S (S.2.2.2.2 _ (List.mem_of_getElem? (i := 2) rfl)) (by decide) dX0_miss_41 ?_
      exact hret (-1000000002) 43 _ (by unfold sp_miss; (repeat' split) <;> first | omega | (rw [show i2 = H x from by omega]) | rfl) dX0_miss_43
    · have r4_ : 2 ≤ n ∧ n ≤ 1000 := by omega
      refine j_iload_n S dX0_miss_22 rfl (lv_at hl 4 rfl) ?_
      refine j_iconst S dX0_miss_23 ?_
      refine j_iload_n S dX0_miss_24 rfl (lv_at hl 3 rfl) ?_
      refine j_csi (As := [jI i, jI 0, jI n]) S (c_X0_isOutside l i 0 n (iv_w hi (by decide +kernel)) (iv_w (iv_n 0) (by decide +kernel)) (iv_w r4_ (by decide +kernel))) (va_cwS 3 S.2.2.2.2 gX0_miss_X0_isOutside rfl rfl rfl hdX0_isOutside ⟨Nat.le_of_ble_eq_true rfl, Nat.le_of_ble_eq_true rfl⟩) [] rfl rfl hl.1 (Nat.le_of_ble_eq_true rfl) ⟨Nat.zero_le _, Nat.zero_le _⟩ dX0_miss_25 (fun i25 q25 => ?_)
      subst q25
      refine j_ifb_ne (tgt := 41) S dX0_miss_28 (by decide) (fun c28 => ?_) (fun c28 => ?_)
      · refine j_ldc (n := (-1000000002)) S (S.2.2.2.2 _ (List.mem_of_getElem? (i := 2) rfl)) (by decide) dX0_miss_41 ?_
        exact hret (-1000000002) 43 _ (by unfold sp_miss; (repeat' split) <;> first | omega | (rw [show i2 = H x from by omega]) | rfl) dX0_miss_43
      · have r5_ : 0 ≤ i ∧ i ≤ 1000 := by omega
        refine j_iload S dX0_miss_31 (lv_at hl 5 rfl) ?_
        refine j_iconst S dX0_miss_33 ?_
        refine j_iconst S dX0_miss_34 ?_
        refine j_csi (As := [jI what, jI 0, jI 1]) S (c_X0_isOutside l what 0 1 (iv_w hwhat (by decide +kernel)) (iv_w (iv_n 0) (by decide +kernel)) (iv_w (iv_n 1) (by decide +kernel))) (va_cwS 3 S.2.2.2.2 gX0_miss_X0_isOutside rfl rfl rfl hdX0_isOutside ⟨Nat.le_of_ble_eq_true rfl, Nat.le_of_ble_eq_true rfl⟩) [] rfl rfl hl.1 (Nat.le_of_ble_eq_true rfl) ⟨Nat.zero_le _, Nat.zero_le _⟩ dX0_miss_35 (fun i35 q35 => ?_)
        subst q35
        refine j_ifb_eq (tgt := 44) S dX0_miss_38 (by decide) (fun c38 => ?_) (fun c38 => ?_)
        · have r6_ : 0 ≤ what ∧ what ≤ 1 := by omega
          refine lv_aload_n S.1 S.2.1 dX0_miss_44 rfl (lv_at hl 1 rfl) ?_
          refine j_iload S dX0_miss_45 (lv_at hl 0 rfl) ?_
          refine j_iload_n S dX0_miss_47 rfl (lv_at hl 3 rfl) ?_
          refine j_iload_n S dX0_miss_48 rfl (lv_at hl 4 rfl) ?_
          refine j_cvi (As := [jI i2, jI n, jI i]) (ci := 0) S (c_X0_missUpper l D h a0 a1 a2 a3 cA H T E F cc gc w d v hok i2 n i (iv_w r3_ (by decide +kernel)) (iv_w r4_ (by decide +kernel)) (iv_w r5_ (by decide +kernel))) (cwV 3 S.2.2.2.2 gX0_miss_X0_missUpper rfl rfl rfl ⟨rfl, hdX0_missUpper⟩ ⟨Nat.le_of_ble_eq_true rfl, Nat.le_of_ble_eq_true rfl⟩) hK hP rfl rfl rfl [] rfl rfl hl.1 (Nat.le_of_ble_eq_true rfl) ⟨Nat.zero_le _, Nat.zero_le _⟩ dX0_miss_49 (fun i49 q49 => ?_)
          subst q49
          have r7_ : (-500) ≤ (sp_ms w i2 n i) ∧ (sp_ms w i2 n i) ≤ 500 := sp_ms_iv (iv_w (lo := 2) (hi := 1000) r4_ (by decide +kernel))
          refine j_i2l S dX0_miss_52 (iv_i r7_ (by decide +kernel)) ?_
          refine j_iload_n S dX0_miss_53 rfl (lv_at hl 3 rfl) ?_
          refine j_i2l S dX0_miss_54 (iv_i r4_ (by decide +kernel)) ?_
          refine j_iload S dX0_miss_55 (lv_at hl 5 rfl) ?_
          refine j_csi (As := [jL (sp_ms w i2 n i), jL n, jI what]) S (c_X0_lowestTerm l (sp_ms w i2 n i) n what (iv_w r7_ (by decide +kernel)) (iv_w r4_ (by decide +kernel)) (iv_w r6_ (by decide +kernel))) (va_cwS 3 S.2.2.2.2 gX0_miss_X0_lowestTerm rfl rfl rfl hdX0_lowestTerm ⟨Nat.le_of_ble_eq_true rfl, Nat.le_of_ble_eq_true rfl⟩) [] rfl rfl hl.1 (Nat.le_of_ble_eq_true rfl) ⟨Nat.zero_le _, Nat.zero_le _⟩ dX0_miss_57 (fun i57 q57 => ?_)
          subst q57
          exact hret (sp_lt (sp_ms w i2 n i) n what) 60 _ (by unfold sp_miss; (repeat' split) <;> first | omega | (rw [show i2 = H x from by omega]) | rfl) dX0_miss_60
        · refine j_ldc (n := (-1000000002)) S (S.2.2.2.2 _ (List.mem_of_getElem? (i := 2) rfl)) (by decide) dX0_miss_41 ?_
          exact hret (-1000000002) 43 _ (by unfold sp_miss; (repeat' split) <;> first | omega | (rw [show i2 = H x from by omega]) | rfl) dX0_miss_43
  · have r8_ : 0 ≤ i2 ∧ i2 ≤ 0 := by omega
    refine j_ldc (n := (-1000000001)) S (S.2.2.2.2 _ (List.mem_of_getElem? (i := 1) rfl)) (by decide) dX0_miss_12 ?_
    exact hret (-1000000001) 14 _ (by unfold sp_miss; (repeat' split) <;> first | omega | (rw [show i2 = H x from by omega]) | rfl) dX0_miss_14
abbrev rmX0_worst : Room := { frames := 4, cells := 0, slots := 0, locals := 93 }
theorem hdX0_worst : yX0_worst.cls ≠ "java/lang/invoke/MethodHandle" ∧ yX0_worst.cls ≠ "java/lang/invoke/VarHandle" ∧ (parseMethodDescriptor yX0_worst.desc).map (fun d => d.parameters.length) = some 3 := by decide +kernel
set_option maxHeartbeats 4000000 in
set_option maxRecDepth 100000 in
theorem c_X0_worst (l : Launch) (D : va_G) (h a0 a1 a2 a3 : Nat) (cA : ClassId) (H T E F : Int → Int) (cc gc w d v : Int) (hok : SOK H T E cc gc w d v) (x : Int) (n : Int) (what : Int) (hx : inI x) (hn : inI n) (hwhat : inI what) : MI l yX0_worst wsX0_worst rmX0_worst [.ref h, jI x, jI n, jI what] (WB D (XW h a0 a1 a2 a3 cA H T E F cc gc w d v) cA) (fun rR => rR = sp_worst w cc H x n what) := by
  refine MI_of (cc := cX0_worst) (maxL := 5) (by decide) rfl (Nat.le_of_ble_eq_true rfl) ?_
  intro pP eE sS mM aA bL mT cC QQ ls S hret ⟨hP, hK⟩ hl
  obtain ⟨hcc, hgc, hw, hd, hv, hH, hT, hE⟩ := id hok
  have hin : ∀ w ∈ wsX00, w ∈ wsX0_worst := fun w hw => List.mem_cons_of_mem _ (List.mem_append_right _ hw)
  have hl : lv_has ls 5 [(0, .ref h), (1, jI x), (2, jI n), (3, jI what)] := hl
  refine lv_aload_n S.1 S.2.1 dX0_worst_0 rfl (lv_at hl 0 rfl) ?_
  refine j_iload_n S dX0_worst_1 rfl (lv_at hl 1 rfl) ?_
  refine j_cvi (As := [jI x]) (ci := 0) S (c_X0_holesAt l D h a0 a1 a2 a3 cA H T E F cc gc w d v hok x (iv_w hx (by decide +kernel))) (cwV 1 S.2.2.2.2 gX0_worst_X0_holesAt rfl rfl rfl ⟨rfl, hdX0_holesAt⟩ ⟨Nat.le_of_ble_eq_true rfl, Nat.le_of_ble_eq_true rfl⟩) hK hP rfl rfl rfl [] rfl rfl hl.1 (Nat.le_of_ble_eq_true rfl) ⟨Nat.zero_le _, Nat.zero_le _⟩ dX0_worst_2 (fun i2 q2 => ?_)
  have r1_ : 0 ≤ i2 ∧ i2 ≤ 120 := by omega
  refine j_istore (lv' := [(4, jI i2), (0, .ref h), (1, jI x), (2, jI n), (3, jI what)]) S dX0_worst_5 hl (by decide) rfl (fun ls hl => ?_)
  refine j_iload S dX0_worst_7 (lv_at hl 0 rfl) ?_
  refine j_if_ne (tgt := 14) S dX0_worst_9 (by decide) (iv_i r1_ (by decide +kernel)) (fun c9 => ?_) (fun c9 => ?_)
  · have r2_ : 1 ≤ i2 ∧ i2 ≤ 120 := by omega
    have r3_ : 5 ≤ i2 ∧ i2 ≤ 120 := by omega
    refine j_iload_n S dX0_worst_14 rfl (lv_at hl 3 rfl) ?_
    refine j_csi (As := [jI n]) S (c_X0_isNoNumberOfParts l n (iv_w hn (by decide +kernel))) (va_cwS 1 S.2.2.2.2 gX0_worst_X0_isNoNumberOfParts rfl rfl rfl hdX0_isNoNumberOfParts ⟨Nat.le_of_ble_eq_true rfl, Nat.le_of_ble_eq_true rfl⟩) [] rfl rfl hl.1 (Nat.le_of_ble_eq_true rfl) ⟨Nat.zero_le _, Nat.zero_le _⟩ dX0_worst_15 (fun i15 q15 => ?_)
    subst q15
    refine j_ifb_ne (tgt := 30) S dX0_worst_18 (by decide) (fun c18 => ?_) (fun c18 => ?_)
    · refine j_bipush S dX0_worst_30 (by decide) ?_
      exact hret (-2) 32 _ (by unfold sp_worst; (repeat' split) <;> first | omega | (rw [show i2 = H x from by omega]) | rfl) dX0_worst_32
    · have r4_ : 2 ≤ n ∧ n ≤ 1000 := by omega
      refine j_iload_n S dX0_worst_21 rfl (lv_at hl 4 rfl) ?_
      refine j_iconst S dX0_worst_22 ?_
      refine j_iconst S dX0_worst_23 ?_
      refine j_csi (As := [jI what, jI 0, jI 2]) S (c_X0_isOutside l what 0 2 (iv_w hwhat (by decide +kernel)) (iv_w (iv_n 0) (by decide +kernel)) (iv_w (iv_n 2) (by decide +kernel))) (va_cwS 3 S.2.2.2.2 gX0_worst_X0_isOutside rfl rfl rfl hdX0_isOutside ⟨Nat.le_of_ble_eq_true rfl, Nat.le_of_ble_eq_true rfl⟩) [] rfl rfl hl.1 (Nat.le_of_ble_eq_true rfl) ⟨Nat.zero_le _, Nat.zero_le _⟩ dX0_worst_24 (fun i24 q24 => ?_)
      subst q24
      refine j_ifb_eq (tgt := 33) S dX0_worst_27 (by decide) (fun c27 => ?_) (fun c27 => ?_)
      · have r5_ : 0 ≤ what ∧ what ≤ 2 := by omega
        refine j_iload_n S dX0_worst_33 rfl (lv_at hl 4 rfl) ?_
        refine j_iconst S dX0_worst_34 ?_
        refine j_icmp_ne (tgt := 48) S dX0_worst_35 (by decide) (iv_i r5_ (by decide +kernel)) (iv_i (iv_n 2) (by decide +kernel)) (fun c35 => ?_) (fun c35 => ?_)
        · have r6_ : 0 ≤ what ∧ what ≤ 1 := by omega
          refine lv_aload_n S.1 S.2.1 dX0_worst_48 rfl (lv_at hl 1 rfl) ?_
          refine j_iload S dX0_worst_49 (lv_at hl 0 rfl) ?_
          refine j_iload_n S dX0_worst_51 rfl (lv_at hl 3 rfl) ?_
          refine j_cvi (As := [jI i2, jI n]) (ci := 0) S (c_X0_worstUpper l D h a0 a1 a2 a3 cA H T E F cc gc w d v hok i2 n (iv_w r3_ (by decide +kernel)) (iv_w r4_ (by decide +kernel))) (cwV 2 S.2.2.2.2 gX0_worst_X0_worstUpper rfl rfl rfl ⟨rfl, hdX0_worstUpper⟩ ⟨Nat.le_of_ble_eq_true rfl, Nat.le_of_ble_eq_true rfl⟩) hK hP rfl rfl rfl [] rfl rfl hl.1 (Nat.le_of_ble_eq_true rfl) ⟨Nat.zero_le _, Nat.zero_le _⟩ dX0_worst_52 (fun i52 q52 => ?_)
          subst q52
          have r7_ : 0 ≤ (sp_wu w i2 n) ∧ (sp_wu w i2 n) ≤ 500 := sp_wu_iv (iv_w (lo := 2) (hi := 1000) r4_ (by decide +kernel))
          refine j_i2l S dX0_worst_55 (iv_i r7_ (by decide +kernel)) ?_
          refine j_iload_n S dX0_worst_56 rfl (lv_at hl 3 rfl) ?_
          refine j_i2l S dX0_worst_57 (iv_i r4_ (by decide +kernel)) ?_
          refine j_iload_n S dX0_worst_58 rfl (lv_at hl 4 rfl) ?_
          refine j_csi (As := [jL (sp_wu w i2 n), jL n, jI what]) S (c_X0_lowestTerm l (sp_wu w i2 n) n what (iv_w r7_ (by decide +kernel)) (iv_w r4_ (by decide +kernel)) (iv_w r6_ (by decide +kernel))) (va_cwS 3 S.2.2.2.2 gX0_worst_X0_lowestTerm rfl rfl rfl hdX0_lowestTerm ⟨Nat.le_of_ble_eq_true rfl, Nat.le_of_ble_eq_true rfl⟩) [] rfl rfl hl.1 (Nat.le_of_ble_eq_true rfl) ⟨Nat.zero_le _, Nat.zero_le _⟩ dX0_worst_59 (fun i59 q59 => ?_)
          subst q59
          exact hret (sp_lt (sp_wu w i2 n) n what) 62 _ (by unfold sp_worst; (repeat' split) <;> first | omega | (rw [show i2 = H x from by omega]) | rfl) dX0_worst_62
        · have r8_ : 2 ≤ what ∧ what ≤ 2 := by omega
          refine lv_aload_n S.1 S.2.1 dX0_worst_38 rfl (lv_at hl 1 rfl) ?_
          refine j_iload S dX0_worst_39 (lv_at hl 0 rfl) ?_
          refine j_iload_n S dX0_worst_41 rfl (lv_at hl 3 rfl) ?_
          refine j_cvi (As := [jI i2, jI n]) (ci := 0) S (c_X0_exactCuts l D h a0 a1 a2 a3 cA H T E F cc gc w d v hok i2 n (iv_w r3_ (by decide +kernel)) (iv_w r4_ (by decide +kernel))) (cwV 2 S.2.2.2.2 gX0_worst_X0_exactCuts rfl rfl rfl ⟨rfl, hdX0_exactCuts⟩ ⟨Nat.le_of_ble_eq_true rfl, Nat.le_of_ble_eq_true rfl⟩) hK hP rfl rfl rfl [] rfl rfl hl.1 (Nat.le_of_ble_eq_true rfl) ⟨Nat.zero_le _, Nat.zero_le _⟩ dX0_worst_42 (fun i42 q42 => ?_)
          subst q42
          refine j_goto (tgt := 62) S dX0_worst_45 (by decide) ?_
          exact hret (sp_xf w i2 n n) 62 _ (by unfold sp_worst; (repeat' split) <;> first | omega | (rw [show i2 = H x from by omega]) | rfl) dX0_worst_62
      · refine j_bipush S dX0_worst_30 (by decide) ?_
        exact hret (-2) 32 _ (by unfold sp_worst; (repeat' split) <;> first | omega | (rw [show i2 = H x from by omega]) | rfl) dX0_worst_32
  · have r9_ : 0 ≤ i2 ∧ i2 ≤ 0 := by omega
    refine j_iconst S dX0_worst_12 ?_
    exact hret (-1) 13 _ (by unfold sp_worst; (repeat' split) <;> first | omega | (rw [show i2 = H x from by omega]) | rfl) dX0_worst_13
abbrev rmX0_best : Room := { frames := 4, cells := 0, slots := 0, locals := 93 }
theorem hdX0_best : yX0_best.cls ≠ "java/lang/invoke/MethodHandle" ∧ yX0_best.cls ≠ "java/lang/invoke/VarHandle" ∧ (parseMethodDescriptor yX0_best.desc).map (fun d => d.parameters.length) = some 1 := by decide +kernel
set_option maxHeartbeats 4000000 in
set_option maxRecDepth 100000 in
theorem c_X0_best (l : Launch) (D : va_G) (h a0 a1 a2 a3 : Nat) (cA : ClassId) (H T E F : Int → Int) (cc gc w d v : Int) (hok : SOK H T E cc gc w d v) (n : Int) (hn : inI n) : MI l yX0_best wsX0_best rmX0_best [.ref h, jI n] (WB D (XW h a0 a1 a2 a3 cA H T E F cc gc w d v) cA) (fun rR => rR = sp_best w cc H n) := by
  refine MI_of (cc := cX0_best) (maxL := 6) (by decide) rfl (Nat.le_of_ble_eq_true rfl) ?_
  intro pP eE sS mM aA bL mT cC QQ ls S hret ⟨hP, hK⟩ hl
  obtain ⟨hcc, hgc, hw, hd, hv, hH, hT, hE⟩ := id hok
  have hin : ∀ w ∈ wsX00, w ∈ wsX0_best := fun w hw => List.mem_cons_of_mem _ (List.mem_append_right _ hw)
  have hl : lv_has ls 6 [(0, .ref h), (1, jI n)] := hl
  refine j_iload_n S dX0_best_0 rfl (lv_at hl 1 rfl) ?_
  refine j_csi (As := [jI n]) S (c_X0_isNoNumberOfParts l n (iv_w hn (by decide +kernel))) (va_cwS 1 S.2.2.2.2 gX0_best_X0_isNoNumberOfParts rfl rfl rfl hdX0_isNoNumberOfParts ⟨Nat.le_of_ble_eq_true rfl, Nat.le_of_ble_eq_true rfl⟩) [] rfl rfl hl.1 (Nat.le_of_ble_eq_true rfl) ⟨Nat.zero_le _, Nat.zero_le _⟩ dX0_best_1 (fun i1 q1 => ?_)
  subst q1
  refine j_ifb_eq (tgt := 10) S dX0_best_4 (by decide) (fun c4 => ?_) (fun c4 => ?_)
  · have r1_ : 2 ≤ n ∧ n ≤ 1000 := by omega
    refine lv_aload_n S.1 S.2.1 dX0_best_10 rfl (lv_at hl 0 rfl) ?_
    refine j_get (v := jI cc) S hin hK hP rfl rfl 4 (by decide) (List.mem_of_getElem? (i := 1) rfl) rfl dX0_best_11 ?_
    refine j_if_ne (tgt := 20) S dX0_best_14 (by decide) (iv_i hcc (by decide +kernel)) (fun c14 => ?_) (fun c14 => ?_)
    · have r2_ : 1 ≤ cc ∧ cc ≤ 8 := by omega
      refine j_iconst S dX0_best_20 ?_
      refine j_istore_n (lv' := [(2, jI 0), (0, .ref h), (1, jI n)]) S dX0_best_21 rfl hl (by decide) rfl (fun ls hl => ?_)
      refine lv_aload_n S.1 S.2.1 dX0_best_22 rfl (lv_at hl 1 rfl) ?_
      refine lv_aload_n S.1 S.2.1 dX0_best_23 rfl (lv_at hl 1 rfl) ?_
      refine j_get (v := .ref a0) S hin hK hP rfl rfl 0 (by decide) (List.mem_of_getElem? (i := 2) rfl) rfl dX0_best_24 ?_
      refine j_iconst S dX0_best_27 ?_
      refine j_iald S hK hP 1 0 rfl rfl (iv_ix (n := 8) (iv_n 0) (by decide +kernel)) dX0_best_28 ?_
      have r3_ := hH 0 (by omega) (by omega)
      refine j_iload_n S dX0_best_29 rfl (lv_at hl 2 rfl) ?_
      refine j_cvi (As := [jI (H 0), jI n]) (ci := 0) S (c_X0_worstUpper l D h a0 a1 a2 a3 cA H T E F cc gc w d v hok (H 0) n (iv_w r3_ (by decide +kernel)) (iv_w r1_ (by decide +kernel))) (cwV 2 S.2.2.2.2 gX0_best_X0_worstUpper rfl rfl rfl ⟨rfl, hdX0_worstUpper⟩ ⟨Nat.le_of_ble_eq_true rfl, Nat.le_of_ble_eq_true rfl⟩) hK hP rfl rfl rfl [] rfl rfl hl.1 (Nat.le_of_ble_eq_true rfl) ⟨Nat.zero_le _, Nat.zero_le _⟩ dX0_best_30 (fun i30 q30 => ?_)
      subst q30
      have r4_ : 0 ≤ (sp_wu w (H 0) n) ∧ (sp_wu w (H 0) n) ≤ 500 := sp_wu_iv (iv_w (lo := 2) (hi := 1000) r1_ (by decide +kernel))
      refine j_istore_n (lv' := [(3, jI (sp_wu w (H 0) n)), (2, jI 0), (0, .ref h), (1, jI n)]) S dX0_best_33 rfl hl (by decide) rfl (fun ls hl => ?_)
      refine j_iconst S dX0_best_34 ?_
      refine j_istore (lv' := [(4, jI 1), (3, jI (sp_wu w (H 0) n)), (2, jI 0), (0, .ref h), (1, jI n)]) S dX0_best_35 hl (by decide) rfl (fun ls hl => ?_)
      have loop37 : ∀ (N : Nat) (b bw k : Int) (ls : Array Slot), (1 ≤ k ∧ k ≤ 8) → (k ≤ cc) → (b = sp_bs w H n k) → (0 ≤ b ∧ b ≤ 7) → (b < k) → (bw = sp_wu w (H b) n) → (0 ≤ bw ∧ bw ≤ 500) → cc - k < (N : Int) → lv_has ls 6 [(4, jI k), (3, jI bw), (2, jI b), (0, .ref h), (1, jI n)] → W pP l eE rmX0_best sS mM aA bL mT cC sS.heap [] 0 0 QQ (F0 mM 37 ls []) := by
        intro N
        induction N with
        | zero =>
          intro b bw k ls hk hk2 hb hbi hbk hbw hbwi hN
          exact absurd hN (by omega)
        | succ N ih37 =>
          intro b bw k ls hk hk2 hb hbi hbk hbw hbwi hN hl
          refine j_iload S dX0_best_37 (lv_at hl 0 rfl) ?_
          refine lv_aload_n S.1 S.2.1 dX0_best_39 rfl (lv_at hl 3 rfl) ?_
          refine j_get (v := jI cc) S hin hK hP rfl rfl 4 (by decide) (List.mem_of_getElem? (i := 1) rfl) rfl dX0_best_40 ?_
          refine j_icmp_ge (tgt := 93) S dX0_best_43 (by decide) (iv_i hk (by decide +kernel)) (iv_i r2_ (by decide +kernel)) (fun c43 => ?_) (fun c43 => ?_)
          · refine j_iload_n S dX0_best_93 rfl (lv_at hl 2 rfl) ?_
            exact hret b 94 _ (by unfold sp_best; (repeat' split) <;> first | omega | (rw [hb, show k = cc from by omega])) dX0_best_94
          · have r5_ : 1 ≤ k ∧ k ≤ 7 := by omega
            have r6_ : 2 ≤ cc ∧ cc ≤ 8 := by omega
            refine lv_aload_n S.1 S.2.1 dX0_best_46 rfl (lv_at hl 3 rfl) ?_
            refine lv_aload_n S.1 S.2.1 dX0_best_47 rfl (lv_at hl 3 rfl) ?_
            refine j_get (v := .ref a0) S hin hK hP rfl rfl 0 (by decide) (List.mem_of_getElem? (i := 2) rfl) rfl dX0_best_48 ?_
            refine j_iload S dX0_best_51 (lv_at hl 0 rfl) ?_
            refine j_iald S hK hP 1 0 rfl rfl (iv_ix (n := 8) r5_ (by decide +kernel)) dX0_best_53 ?_
            have r7_ := hH k (by omega) (by omega)
            refine j_iload_n S dX0_best_54 rfl (lv_at hl 4 rfl) ?_
            refine j_cvi (As := [jI (H k), jI n]) (ci := 0) S (c_X0_worstUpper l D h a0 a1 a2 a3 cA H T E F cc gc w d v hok (H k) n (iv_w r7_ (by decide +kernel)) (iv_w r1_ (by decide +kernel))) (cwV 2 S.2.2.2.2 gX0_best_X0_worstUpper rfl rfl rfl ⟨rfl, hdX0_worstUpper⟩ ⟨Nat.le_of_ble_eq_true rfl, Nat.le_of_ble_eq_true rfl⟩) hK hP rfl rfl rfl [] rfl rfl hl.1 (Nat.le_of_ble_eq_true rfl) ⟨Nat.zero_le _, Nat.zero_le _⟩ dX0_best_55 (fun i55 q55 => ?_)
            subst q55
            have r8_ : 0 ≤ (sp_wu w (H k) n) ∧ (sp_wu w (H k) n) ≤ 500 := sp_wu_iv (iv_w (lo := 2) (hi := 1000) r1_ (by decide +kernel))
            refine j_istore (lv' := [(5, jI (sp_wu w (H k) n)), (4, jI k), (3, jI bw), (2, jI b), (0, .ref h), (1, jI n)]) S dX0_best_58 hl (by decide) rfl (fun ls hl => ?_)
            refine j_iload S dX0_best_60 (lv_at hl 0 rfl) ?_
            refine lv_aload_n S.1 S.2.1 dX0_best_62 rfl (lv_at hl 4 rfl) ?_
            refine j_get (v := .ref a0) S hin hK hP rfl rfl 0 (by decide) (List.mem_of_getElem? (i := 2) rfl) rfl dX0_best_63 ?_
            refine j_iload_n S dX0_best_66 rfl (lv_at hl 3 rfl) ?_
            refine j_iald S hK hP 1 0 rfl rfl (iv_ix (n := 8) hbi (by decide +kernel)) dX0_best_67 ?_
            have r9_ := hH b (by omega) (by omega)
            refine j_imul S dX0_best_68 ?_
            refine j_iload_n S dX0_best_69 rfl (lv_at hl 2 rfl) ?_
            refine lv_aload_n S.1 S.2.1 dX0_best_70 rfl (lv_at hl 4 rfl) ?_
            refine j_get (v := .ref a0) S hin hK hP rfl rfl 0 (by decide) (List.mem_of_getElem? (i := 2) rfl) rfl dX0_best_71 ?_
            refine j_iload S dX0_best_74 (lv_at hl 1 rfl) ?_
            refine j_iald S hK hP 1 0 rfl rfl (iv_ix (n := 8) r5_ (by decide +kernel)) dX0_best_76 ?_
            refine j_imul S dX0_best_77 ?_
            refine j_icmp_ge (tgt := 87) S dX0_best_78 (by decide) (iv_i (iv_mulp (lo := 0) (hi := 60000) r8_ r9_ (by decide +kernel)) (by decide +kernel)) (iv_i (iv_mulp (lo := 0) (hi := 60000) hbwi r7_ (by decide +kernel)) (by decide +kernel)) (fun c78 => ?_) (fun c78 => ?_)
            · refine j_iinc (k := 1) (y := (k + 1)) (lv' := [(4, jI (k + 1)), (5, jI (sp_wu w (H k) n)), (3, jI bw), (2, jI b), (0, .ref h), (1, jI n)]) S dX0_best_87 hl rfl rfl (by decide) rfl (fun ls hl => ?_)
              refine j_goto (tgt := 37) S dX0_best_90 (by decide) ?_
              exact ih37 b bw (k + 1) _ (by omega) (by omega) (by rw [sp_bs_s (by omega), ← hb, ← hbw]; split <;> omega) (by omega) (by omega) hbw (by omega) (by omega) (lv_sub hl [0, 2, 3, 4, 5] rfl)
            · refine j_iload S dX0_best_81 (lv_at hl 1 rfl) ?_
              refine j_istore_n (lv' := [(2, jI k), (5, jI (sp_wu w (H k) n)), (4, jI k), (3, jI bw), (0, .ref h), (1, jI n)]) S dX0_best_83 rfl hl (by decide) rfl (fun ls hl => ?_)
              refine j_iload S dX0_best_84 (lv_at hl 1 rfl) ?_
              refine j_istore_n (lv' := [(3, jI (sp_wu w (H k) n)), (2, jI k), (5, jI (sp_wu w (H k) n)), (4, jI k), (0, .ref h), (1, jI n)]) S dX0_best_86 rfl hl (by decide) rfl (fun ls hl => ?_)
              refine j_iinc (k := 3) (y := (k + 1)) (lv' := [(4, jI (k + 1)), (3, jI (sp_wu w (H k) n)), (2, jI k), (5, jI (sp_wu w (H k) n)), (0, .ref h), (1, jI n)]) S dX0_best_87 hl rfl rfl (by decide) rfl (fun ls hl => ?_)
              refine j_goto (tgt := 37) S dX0_best_90 (by decide) ?_
              exact ih37 k (sp_wu w (H k) n) (k + 1) _ (by omega) (by omega) (by rw [sp_bs_s (by omega), ← hb, ← hbw]; split <;> omega) (by omega) (by omega) rfl (by omega) (by omega) (lv_sub hl [0, 1, 2, 4, 5] rfl)
      exact loop37 9 0 (sp_wu w (H 0) n) 1 _ (by omega) (by omega) rfl (by omega) (by omega) rfl (by omega) (by omega) (lv_sub hl [0, 1, 2, 3, 4] rfl)
    · have r10_ : 0 ≤ cc ∧ cc ≤ 0 := by omega
      refine j_bipush S dX0_best_17 (by decide) ?_
      exact hret (-3) 19 _ (by unfold sp_best; (repeat' split) <;> first | omega) dX0_best_19
  · refine j_bipush S dX0_best_7 (by decide) ?_
    exact hret (-2) 9 _ (by unfold sp_best; (repeat' split) <;> first | omega) dX0_best_9
abbrev rmX0_spoilt : Room := { frames := 2, cells := 0, slots := 0, locals := 54 }
theorem hdX0_spoilt : yX0_spoilt.cls ≠ "java/lang/invoke/MethodHandle" ∧ yX0_spoilt.cls ≠ "java/lang/invoke/VarHandle" ∧ (parseMethodDescriptor yX0_spoilt.desc).map (fun d => d.parameters.length) = some 4 := by decide +kernel
set_option maxHeartbeats 4000000 in
set_option maxRecDepth 100000 in
theorem c_X0_spoilt (l : Launch) (D : va_G) (h a0 a1 a2 a3 : Nat) (cA : ClassId) (H T E F : Int → Int) (cc gc w d v : Int) (hok : SOK H T E cc gc w d v) (x : Int) (s : Int) (i : Int) (what : Int) (hx : inI x) (hs : inI s) (hi : inI i) (hwhat : inI what) : MI l yX0_spoilt wsX0_spoilt rmX0_spoilt [.ref h, jI x, jI s, jI i, jI what] (WB D (XW h a0 a1 a2 a3 cA H T E F cc gc w d v) cA) (fun rR => rR = sp_spoilt cc H E x s i what) := by
  refine MI_of (cc := cX0_spoilt) (maxL := 6) (by decide) rfl (Nat.le_of_ble_eq_true rfl) ?_
  intro pP eE sS mM aA bL mT cC QQ ls S hret ⟨hP, hK⟩ hl
  obtain ⟨hcc, hgc, hw, hd, hv, hH, hT, hE⟩ := id hok
  have hin : ∀ w ∈ wsX00, w ∈ wsX0_spoilt := fun w hw => List.mem_cons_of_mem _ (List.mem_append_right _ hw)
  have hl : lv_has ls 6 [(0, .ref h), (1, jI x), (2, jI s), (3, jI i), (4, jI what)] := hl
  refine lv_aload_n S.1 S.2.1 dX0_spoilt_0 rfl (lv_at hl 0 rfl) ?_
  refine j_iload_n S dX0_spoilt_1 rfl (lv_at hl 1 rfl) ?_
  refine j_cvi (As := [jI x]) (ci := 0) S (c_X0_holesAt l D h a0 a1 a2 a3 cA H T E F cc gc w d v hok x (iv_w hx (by decide +kernel))) (cwV 1 S.2.2.2.2 gX0_spoilt_X0_holesAt rfl rfl rfl ⟨rfl, hdX0_holesAt⟩ ⟨Nat.le_of_ble_eq_true rfl, Nat.le_of_ble_eq_true rfl⟩) hK hP rfl rfl rfl [] rfl rfl hl.1 (Nat.le_of_ble_eq_true rfl) ⟨Nat.zero_le _, Nat.zero_le _⟩ dX0_spoilt_2 (fun i2 q2 => ?_)
  have r1_ : 0 ≤ i2 ∧ i2 ≤ 120 := by omega
  refine j_istore (lv' := [(5, jI i2), (0, .ref h), (1, jI x), (2, jI s), (3, jI i), (4, jI what)]) S dX0_spoilt_5 hl (by decide) rfl (fun ls hl => ?_)
  refine j_iload S dX0_spoilt_7 (lv_at hl 0 rfl) ?_
  refine j_if_ne (tgt := 15) S dX0_spoilt_9 (by decide) (iv_i r1_ (by decide +kernel)) (fun c9 => ?_) (fun c9 => ?_)
  · have r2_ : 1 ≤ i2 ∧ i2 ≤ 120 := by omega
    have r3_ : 5 ≤ i2 ∧ i2 ≤ 120 := by omega
    refine j_iload_n S dX0_spoilt_15 rfl (lv_at hl 3 rfl) ?_
    refine j_csi (As := [jI s]) S (c_X0_isNoStep l s (iv_w hs (by decide +kernel))) (va_cwS 1 S.2.2.2.2 gX0_spoilt_X0_isNoStep rfl rfl rfl hdX0_isNoStep ⟨Nat.le_of_ble_eq_true rfl, Nat.le_of_ble_eq_true rfl⟩) [] rfl rfl hl.1 (Nat.le_of_ble_eq_true rfl) ⟨Nat.zero_le _, Nat.zero_le _⟩ dX0_spoilt_16 (fun i16 q16 => ?_)
    subst q16
    refine j_ifb_ne (tgt := 43) S dX0_spoilt_19 (by decide) (fun c19 => ?_) (fun c19 => ?_)
    · refine j_ldc (n := (-1000000002)) S (S.2.2.2.2 _ (List.mem_of_getElem? (i := 2) rfl)) (by decide) dX0_spoilt_43 ?_
      exact hret (-1000000002) 45 _ (by unfold sp_spoilt; (repeat' split) <;> first | omega | (rw [show i2 = H x from by omega]) | rfl) dX0_spoilt_45
    · have r4_ : 1 ≤ s ∧ s ≤ 100000 := by omega
      refine j_iload_n S dX0_spoilt_22 rfl (lv_at hl 4 rfl) ?_
      refine j_iconst S dX0_spoilt_23 ?_
      refine j_sipush S dX0_spoilt_24 (by decide) ?_
      refine j_csi (As := [jI i, jI 0, jI 10000]) S (c_X0_isOutside l i 0 10000 (iv_w hi (by decide +kernel)) (iv_w (iv_n 0) (by decide +kernel)) (iv_w (iv_n 10000) (by decide +kernel))) (va_cwS 3 S.2.2.2.2 gX0_spoilt_X0_isOutside rfl rfl rfl hdX0_isOutside ⟨Nat.le_of_ble_eq_true rfl, Nat.le_of_ble_eq_true rfl⟩) [] rfl rfl hl.1 (Nat.le_of_ble_eq_true rfl) ⟨Nat.zero_le _, Nat.zero_le _⟩ dX0_spoilt_27 (fun i27 q27 => ?_)
      subst q27
      refine j_ifb_ne (tgt := 43) S dX0_spoilt_30 (by decide) (fun c30 => ?_) (fun c30 => ?_)
      · refine j_ldc (n := (-1000000002)) S (S.2.2.2.2 _ (List.mem_of_getElem? (i := 2) rfl)) (by decide) dX0_spoilt_43 ?_
        exact hret (-1000000002) 45 _ (by unfold sp_spoilt; (repeat' split) <;> first | omega | (rw [show i2 = H x from by omega]) | rfl) dX0_spoilt_45
      · have r5_ : 0 ≤ i ∧ i ≤ 10000 := by omega
        refine j_iload S dX0_spoilt_33 (lv_at hl 5 rfl) ?_
        refine j_iconst S dX0_spoilt_35 ?_
        refine j_iconst S dX0_spoilt_36 ?_
        refine j_csi (As := [jI what, jI 0, jI 1]) S (c_X0_isOutside l what 0 1 (iv_w hwhat (by decide +kernel)) (iv_w (iv_n 0) (by decide +kernel)) (iv_w (iv_n 1) (by decide +kernel))) (va_cwS 3 S.2.2.2.2 gX0_spoilt_X0_isOutside rfl rfl rfl hdX0_isOutside ⟨Nat.le_of_ble_eq_true rfl, Nat.le_of_ble_eq_true rfl⟩) [] rfl rfl hl.1 (Nat.le_of_ble_eq_true rfl) ⟨Nat.zero_le _, Nat.zero_le _⟩ dX0_spoilt_37 (fun i37 q37 => ?_)
        subst q37
        refine j_ifb_eq (tgt := 46) S dX0_spoilt_40 (by decide) (fun c40 => ?_) (fun c40 => ?_)
        · have r6_ : 0 ≤ what ∧ what ≤ 1 := by omega
          refine lv_aload_n S.1 S.2.1 dX0_spoilt_46 rfl (lv_at hl 1 rfl) ?_
          refine j_iload S dX0_spoilt_47 (lv_at hl 0 rfl) ?_
          refine j_iload_n S dX0_spoilt_49 rfl (lv_at hl 3 rfl) ?_
          refine j_iload_n S dX0_spoilt_50 rfl (lv_at hl 4 rfl) ?_
          refine j_cvi (As := [jI i2, jI s, jI i]) (ci := 0) S (c_X0_errorUpper l D h a0 a1 a2 a3 cA H T E F cc gc w d v hok i2 s i (iv_w r3_ (by decide +kernel)) (iv_w r4_ (by decide +kernel)) (iv_w r5_ (by decide +kernel))) (cwV 3 S.2.2.2.2 gX0_spoilt_X0_errorUpper rfl rfl rfl ⟨rfl, hdX0_errorUpper⟩ ⟨Nat.le_of_ble_eq_true rfl, Nat.le_of_ble_eq_true rfl⟩) hK hP rfl rfl rfl [] rfl rfl hl.1 (Nat.le_of_ble_eq_true rfl) ⟨Nat.zero_le _, Nat.zero_le _⟩ dX0_spoilt_51 (fun i51 q51 => ?_)
          subst q51
          have r7_ : (-24000) ≤ (sp_er E i2 s i) ∧ (sp_er E i2 s i) ≤ 24000 := sp_er_iv hE (iv_w (lo := 5) (hi := 120) r3_ (by decide +kernel))
          refine j_i2l S dX0_spoilt_54 (iv_i r7_ (by decide +kernel)) ?_
          refine j_iload S dX0_spoilt_55 (lv_at hl 0 rfl) ?_
          refine j_i2l S dX0_spoilt_57 (iv_i r3_ (by decide +kernel)) ?_
          refine j_iload S dX0_spoilt_58 (lv_at hl 5 rfl) ?_
          refine j_csi (As := [jL (sp_er E i2 s i), jL i2, jI what]) S (c_X0_lowestTerm l (sp_er E i2 s i) i2 what (iv_w r7_ (by decide +kernel)) (iv_w r3_ (by decide +kernel)) (iv_w r6_ (by decide +kernel))) (va_cwS 3 S.2.2.2.2 gX0_spoilt_X0_lowestTerm rfl rfl rfl hdX0_lowestTerm ⟨Nat.le_of_ble_eq_true rfl, Nat.le_of_ble_eq_true rfl⟩) [] rfl rfl hl.1 (Nat.le_of_ble_eq_true rfl) ⟨Nat.zero_le _, Nat.zero_le _⟩ dX0_spoilt_60 (fun i60 q60 => ?_)
          subst q60
          exact hret (sp_lt (sp_er E i2 s i) i2 what) 63 _ (by unfold sp_spoilt; (repeat' split) <;> first | omega | (rw [show i2 = H x from by omega]) | rfl) dX0_spoilt_63
        · refine j_ldc (n := (-1000000002)) S (S.2.2.2.2 _ (List.mem_of_getElem? (i := 2) rfl)) (by decide) dX0_spoilt_43 ?_
          exact hret (-1000000002) 45 _ (by unfold sp_spoilt; (repeat' split) <;> first | omega | (rw [show i2 = H x from by omega]) | rfl) dX0_spoilt_45
  · have r8_ : 0 ≤ i2 ∧ i2 ≤ 0 := by omega
    refine j_ldc (n := (-1000000001)) S (S.2.2.2.2 _ (List.mem_of_getElem? (i := 1) rfl)) (by decide) dX0_spoilt_12 ?_
    exact hret (-1000000001) 14 _ (by unfold sp_spoilt; (repeat' split) <;> first | omega | (rw [show i2 = H x from by omega]) | rfl) dX0_spoilt_14
abbrev rmX0_extreme : Room := { frames := 2, cells := 0, slots := 0, locals := 42 }
theorem hdX0_extreme : yX0_extreme.cls ≠ "java/lang/invoke/MethodHandle" ∧ yX0_extreme.cls ≠ "java/lang/invoke/VarHandle" ∧ (parseMethodDescriptor yX0_extreme.desc).map (fun d => d.parameters.length) = some 4 := by decide +kernel
set_option maxHeartbeats 4000000 in
set_option maxRecDepth 100000 in
theorem c_X0_extreme (l : Launch) (D : va_G) (h a0 a1 a2 a3 : Nat) (cA : ClassId) (H T E F : Int → Int) (cc gc w d v : Int) (hok : SOK H T E cc gc w d v) (x : Int) (s : Int) (n : Int) (what : Int) (hx : inI x) (hs : inI s) (hn : inI n) (hwhat : inI what) : MI l yX0_extreme wsX0_extreme rmX0_extreme [.ref h, jI x, jI s, jI n, jI what] (WB D (XW h a0 a1 a2 a3 cA H T E F cc gc w d v) cA) (fun rR => rR = sp_extreme cc H E x s n what) := by
  refine MI_of (cc := cX0_extreme) (maxL := 10) (by decide) rfl (Nat.le_of_ble_eq_true rfl) ?_
  intro pP eE sS mM aA bL mT cC QQ ls S hret ⟨hP, hK⟩ hl
  obtain ⟨hcc, hgc, hw, hd, hv, hH, hT, hE⟩ := id hok
  have hin : ∀ w ∈ wsX00, w ∈ wsX0_extreme := fun w hw => List.mem_cons_of_mem _ (List.mem_append_right _ hw)
  have hl : lv_has ls 10 [(0, .ref h), (1, jI x), (2, jI s), (3, jI n), (4, jI what)] := hl
  refine lv_aload_n S.1 S.2.1 dX0_extreme_0 rfl (lv_at hl 0 rfl) ?_
  refine j_iload_n S dX0_extreme_1 rfl (lv_at hl 1 rfl) ?_
  refine j_cvi (As := [jI x]) (ci := 0) S (c_X0_holesAt l D h a0 a1 a2 a3 cA H T E F cc gc w d v hok x (iv_w hx (by decide +kernel))) (cwV 1 S.2.2.2.2 gX0_extreme_X0_holesAt rfl rfl rfl ⟨rfl, hdX0_holesAt⟩ ⟨Nat.le_of_ble_eq_true rfl, Nat.le_of_ble_eq_true rfl⟩) hK hP rfl rfl rfl [] rfl rfl hl.1 (Nat.le_of_ble_eq_true rfl) ⟨Nat.zero_le _, Nat.zero_le _⟩ dX0_extreme_2 (fun i2 q2 => ?_)
  have r1_ : 0 ≤ i2 ∧ i2 ≤ 120 := by omega
  refine j_istore (lv' := [(5, jI i2), (0, .ref h), (1, jI x), (2, jI s), (3, jI n), (4, jI what)]) S dX0_extreme_5 hl (by decide) rfl (fun ls hl => ?_)
  refine j_iload S dX0_extreme_7 (lv_at hl 0 rfl) ?_
  refine j_if_ne (tgt := 14) S dX0_extreme_9 (by decide) (iv_i r1_ (by decide +kernel)) (fun c9 => ?_) (fun c9 => ?_)
  · have r2_ : 1 ≤ i2 ∧ i2 ≤ 120 := by omega
    have r3_ : 5 ≤ i2 ∧ i2 ≤ 120 := by omega
    refine j_iload_n S dX0_extreme_14 rfl (lv_at hl 3 rfl) ?_
    refine j_csi (As := [jI s]) S (c_X0_isNoStep l s (iv_w hs (by decide +kernel))) (va_cwS 1 S.2.2.2.2 gX0_extreme_X0_isNoStep rfl rfl rfl hdX0_isNoStep ⟨Nat.le_of_ble_eq_true rfl, Nat.le_of_ble_eq_true rfl⟩) [] rfl rfl hl.1 (Nat.le_of_ble_eq_true rfl) ⟨Nat.zero_le _, Nat.zero_le _⟩ dX0_extreme_15 (fun i15 q15 => ?_)
    subst q15
    refine j_ifb_ne (tgt := 42) S dX0_extreme_18 (by decide) (fun c18 => ?_) (fun c18 => ?_)
    · refine j_bipush S dX0_extreme_42 (by decide) ?_
      exact hret (-2) 44 _ (by unfold sp_extreme; (repeat' split) <;> first | omega) dX0_extreme_44
    · have r4_ : 1 ≤ s ∧ s ≤ 100000 := by omega
      refine j_iload_n S dX0_extreme_21 rfl (lv_at hl 4 rfl) ?_
      refine j_iconst S dX0_extreme_22 ?_
      refine j_sipush S dX0_extreme_23 (by decide) ?_
      refine j_csi (As := [jI n, jI 0, jI 1000]) S (c_X0_isOutside l n 0 1000 (iv_w hn (by decide +kernel)) (iv_w (iv_n 0) (by decide +kernel)) (iv_w (iv_n 1000) (by decide +kernel))) (va_cwS 3 S.2.2.2.2 gX0_extreme_X0_isOutside rfl rfl rfl hdX0_isOutside ⟨Nat.le_of_ble_eq_true rfl, Nat.le_of_ble_eq_true rfl⟩) [] rfl rfl hl.1 (Nat.le_of_ble_eq_true rfl) ⟨Nat.zero_le _, Nat.zero_le _⟩ dX0_extreme_26 (fun i26 q26 => ?_)
      subst q26
      refine j_ifb_ne (tgt := 42) S dX0_extreme_29 (by decide) (fun c29 => ?_) (fun c29 => ?_)
      · refine j_bipush S dX0_extreme_42 (by decide) ?_
        exact hret (-2) 44 _ (by unfold sp_extreme; (repeat' split) <;> first | omega) dX0_extreme_44
      · have r5_ : 0 ≤ n ∧ n ≤ 1000 := by omega
        refine j_iload S dX0_extreme_32 (lv_at hl 5 rfl) ?_
        refine j_iconst S dX0_extreme_34 ?_
        refine j_iconst S dX0_extreme_35 ?_
        refine j_csi (As := [jI what, jI 0, jI 1]) S (c_X0_isOutside l what 0 1 (iv_w hwhat (by decide +kernel)) (iv_w (iv_n 0) (by decide +kernel)) (iv_w (iv_n 1) (by decide +kernel))) (va_cwS 3 S.2.2.2.2 gX0_extreme_X0_isOutside rfl rfl rfl hdX0_isOutside ⟨Nat.le_of_ble_eq_true rfl, Nat.le_of_ble_eq_true rfl⟩) [] rfl rfl hl.1 (Nat.le_of_ble_eq_true rfl) ⟨Nat.zero_le _, Nat.zero_le _⟩ dX0_extreme_36 (fun i36 q36 => ?_)
        subst q36
        refine j_ifb_eq (tgt := 45) S dX0_extreme_39 (by decide) (fun c39 => ?_) (fun c39 => ?_)
        · have r6_ : 0 ≤ what ∧ what ≤ 1 := by omega
          refine j_iconst S dX0_extreme_45 ?_
          refine j_istore (lv' := [(6, jI 0), (5, jI i2), (0, .ref h), (1, jI x), (2, jI s), (3, jI n), (4, jI what)]) S dX0_extreme_46 hl (by decide) rfl (fun ls hl => ?_)
          refine lv_aload_n S.1 S.2.1 dX0_extreme_48 rfl (lv_at hl 2 rfl) ?_
          refine j_iload S dX0_extreme_49 (lv_at hl 1 rfl) ?_
          refine j_iload_n S dX0_extreme_51 rfl (lv_at hl 4 rfl) ?_
          refine j_iconst S dX0_extreme_52 ?_
          refine j_cvi (As := [jI i2, jI s, jI 0]) (ci := 0) S (c_X0_errorUpper l D h a0 a1 a2 a3 cA H T E F cc gc w d v hok i2 s 0 (iv_w r3_ (by decide +kernel)) (iv_w r4_ (by decide +kernel)) (iv_w (iv_n 0) (by decide +kernel))) (cwV 3 S.2.2.2.2 gX0_extreme_X0_errorUpper rfl rfl rfl ⟨rfl, hdX0_errorUpper⟩ ⟨Nat.le_of_ble_eq_true rfl, Nat.le_of_ble_eq_true rfl⟩) hK hP rfl rfl rfl [] rfl rfl hl.1 (Nat.le_of_ble_eq_true rfl) ⟨Nat.zero_le _, Nat.zero_le _⟩ dX0_extreme_53 (fun i53 q53 => ?_)
          subst q53
          have r7_ : (-24000) ≤ (sp_er E i2 s 0) ∧ (sp_er E i2 s 0) ≤ 24000 := sp_er_iv hE (iv_w (lo := 5) (hi := 120) r3_ (by decide +kernel))
          refine j_istore (lv' := [(7, jI (sp_er E i2 s 0)), (6, jI 0), (5, jI i2), (0, .ref h), (1, jI x), (2, jI s), (3, jI n), (4, jI what)]) S dX0_extreme_56 hl (by decide) rfl (fun ls hl => ?_)
          refine j_iconst S dX0_extreme_58 ?_
          refine j_istore (lv' := [(8, jI 1), (7, jI (sp_er E i2 s 0)), (6, jI 0), (5, jI i2), (0, .ref h), (1, jI x), (2, jI s), (3, jI n), (4, jI what)]) S dX0_extreme_59 hl (by decide) rfl (fun ls hl => ?_)
          have loop61 : ∀ (N : Nat) (b f k : Int) (ls : Array Slot), (1 ≤ k ∧ k ≤ 1001) → (k ≤ n + 1) → (b = sp_ex E i2 s what k) → (f = sp_er E i2 s b) → (-24000 ≤ f ∧ f ≤ 24000) → n + 1 - k < (N : Int) → lv_has ls 10 [(8, jI k), (7, jI f), (6, jI b), (5, jI i2), (0, .ref h), (1, jI x), (2, jI s), (3, jI n), (4, jI what)] → W pP l eE rmX0_extreme sS mM aA bL mT cC sS.heap [] 0 0 QQ (F0 mM 61 ls []) := by
            intro N
            induction N with
            | zero =>
              intro b f k ls hk hk2 hb hf hfi hN
              exact absurd hN (by omega)
            | succ N ih61 =>
              intro b f k ls hk hk2 hb hf hfi hN hl
              refine j_iload S dX0_extreme_61 (lv_at hl 0 rfl) ?_
              refine j_iload_n S dX0_extreme_63 rfl (lv_at hl 7 rfl) ?_
              refine j_icmp_gt (tgt := 114) S dX0_extreme_64 (by decide) (iv_i hk (by decide +kernel)) (iv_i r5_ (by decide +kernel)) (fun c64 => ?_) (fun c64 => ?_)
              · refine j_iload S dX0_extreme_114 (lv_at hl 2 rfl) ?_
                exact hret b 116 _ (by unfold sp_extreme; (repeat' split) <;> first | omega | (rw [hb, show k = n + 1 from by omega, show i2 = H x from by omega])) dX0_extreme_116
              · have r8_ : 1 ≤ k ∧ k ≤ 1000 := by omega
                have r9_ : 1 ≤ n ∧ n ≤ 1000 := by omega
                refine lv_aload_n S.1 S.2.1 dX0_extreme_67 rfl (lv_at hl 4 rfl) ?_
                refine j_iload S dX0_extreme_68 (lv_at hl 3 rfl) ?_
                refine j_iload_n S dX0_extreme_70 rfl (lv_at hl 6 rfl) ?_
                refine j_iload S dX0_extreme_71 (lv_at hl 0 rfl) ?_
                refine j_cvi (As := [jI i2, jI s, jI k]) (ci := 0) S (c_X0_errorUpper l D h a0 a1 a2 a3 cA H T E F cc gc w d v hok i2 s k (iv_w r3_ (by decide +kernel)) (iv_w r4_ (by decide +kernel)) (iv_w r8_ (by decide +kernel))) (cwV 3 S.2.2.2.2 gX0_extreme_X0_errorUpper rfl rfl rfl ⟨rfl, hdX0_errorUpper⟩ ⟨Nat.le_of_ble_eq_true rfl, Nat.le_of_ble_eq_true rfl⟩) hK hP rfl rfl rfl [] rfl rfl hl.1 (Nat.le_of_ble_eq_true rfl) ⟨Nat.zero_le _, Nat.zero_le _⟩ dX0_extreme_73 (fun i73 q73 => ?_)
                subst q73
                have r10_ : (-24000) ≤ (sp_er E i2 s k) ∧ (sp_er E i2 s k) ≤ 24000 := sp_er_iv hE (iv_w (lo := 5) (hi := 120) r3_ (by decide +kernel))
                refine j_istore (lv' := [(9, jI (sp_er E i2 s k)), (8, jI k), (7, jI f), (6, jI b), (5, jI i2), (0, .ref h), (1, jI x), (2, jI s), (3, jI n), (4, jI what)]) S dX0_extreme_76 hl (by decide) rfl (fun ls hl => ?_)
                refine j_iload S dX0_extreme_78 (lv_at hl 9 rfl) ?_
                refine j_if_ne (tgt := 93) S dX0_extreme_80 (by decide) (iv_i r6_ (by decide +kernel)) (fun c80 => ?_) (fun c80 => ?_)
                · have r11_ : 1 ≤ what ∧ what ≤ 1 := by omega
                  refine j_iload S dX0_extreme_93 (lv_at hl 0 rfl) ?_
                  refine j_iload S dX0_extreme_95 (lv_at hl 2 rfl) ?_
                  refine j_icmp_ge (tgt := 108) S dX0_extreme_97 (by decide) (iv_i r10_ (by decide +kernel)) (iv_i hfi (by decide +kernel)) (fun c97 => ?_) (fun c97 => ?_)
                  · refine j_iinc (k := 1) (y := (k + 1)) (lv' := [(8, jI (k + 1)), (9, jI (sp_er E i2 s k)), (7, jI f), (6, jI b), (5, jI i2), (0, .ref h), (1, jI x), (2, jI s), (3, jI n), (4, jI what)]) S dX0_extreme_108 hl rfl rfl (by decide) rfl (fun ls hl => ?_)
                    refine j_goto (tgt := 61) S dX0_extreme_111 (by decide) ?_
                    exact ih61 b f (k + 1) _ (by omega) (by omega) (by rw [sp_ex_s (by omega), ← hb, ← hf]; split <;> omega) hf (by omega) (by omega) (lv_sub hl [0, 2, 3, 4, 5, 6, 7, 8, 9] rfl)
                  · have r12_ : (-24000) ≤ (sp_er E i2 s k) ∧ (sp_er E i2 s k) ≤ 23999 := by omega
                    have r13_ : (-23999) ≤ f ∧ f ≤ 24000 := by omega
                    refine j_iload S dX0_extreme_100 (lv_at hl 1 rfl) ?_
                    refine j_istore (lv' := [(6, jI k), (9, jI (sp_er E i2 s k)), (8, jI k), (7, jI f), (5, jI i2), (0, .ref h), (1, jI x), (2, jI s), (3, jI n), (4, jI what)]) S dX0_extreme_102 hl (by decide) rfl (fun ls hl => ?_)
                    refine j_iload S dX0_extreme_104 (lv_at hl 1 rfl) ?_
                    refine j_istore (lv' := [(7, jI (sp_er E i2 s k)), (6, jI k), (9, jI (sp_er E i2 s k)), (8, jI k), (5, jI i2), (0, .ref h), (1, jI x), (2, jI s), (3, jI n), (4, jI what)]) S dX0_extreme_106 hl (by decide) rfl (fun ls hl => ?_)
                    refine j_iinc (k := 3) (y := (k + 1)) (lv' := [(8, jI (k + 1)), (7, jI (sp_er E i2 s k)), (6, jI k), (9, jI (sp_er E i2 s k)), (5, jI i2), (0, .ref h), (1, jI x), (2, jI s), (3, jI n), (4, jI what)]) S dX0_extreme_108 hl rfl rfl (by decide) rfl (fun ls hl => ?_)
                    refine j_goto (tgt := 61) S dX0_extreme_111 (by decide) ?_
                    exact ih61 k (sp_er E i2 s k) (k + 1) _ (by omega) (by omega) (by rw [sp_ex_s (by omega), ← hb, ← hf]; split <;> omega) rfl (by omega) (by omega) (lv_sub hl [0, 1, 2, 4, 5, 6, 7, 8, 9] rfl)
                · have r14_ : 0 ≤ what ∧ what ≤ 0 := by omega
                  refine j_iload S dX0_extreme_83 (lv_at hl 0 rfl) ?_
                  refine j_iload S dX0_extreme_85 (lv_at hl 2 rfl) ?_
                  refine j_icmp_le (tgt := 108) S dX0_extreme_87 (by decide) (iv_i r10_ (by decide +kernel)) (iv_i hfi (by decide +kernel)) (fun c87 => ?_) (fun c87 => ?_)
                  · refine j_iinc (k := 1) (y := (k + 1)) (lv' := [(8, jI (k + 1)), (9, jI (sp_er E i2 s k)), (7, jI f), (6, jI b), (5, jI i2), (0, .ref h), (1, jI x), (2, jI s), (3, jI n), (4, jI what)]) S dX0_extreme_108 hl rfl rfl (by decide) rfl (fun ls hl => ?_)
                    refine j_goto (tgt := 61) S dX0_extreme_111 (by decide) ?_
                    exact ih61 b f (k + 1) _ (by omega) (by omega) (by rw [sp_ex_s (by omega), ← hb, ← hf]; split <;> omega) hf (by omega) (by omega) (lv_sub hl [0, 2, 3, 4, 5, 6, 7, 8, 9] rfl)
                  · have r15_ : (-24000) ≤ f ∧ f ≤ 23999 := by omega
                    have r16_ : (-23999) ≤ (sp_er E i2 s k) ∧ (sp_er E i2 s k) ≤ 24000 := by omega
                    refine j_goto (tgt := 100) S dX0_extreme_90 (by decide) ?_
                    refine j_iload S dX0_extreme_100 (lv_at hl 1 rfl) ?_
                    refine j_istore (lv' := [(6, jI k), (9, jI (sp_er E i2 s k)), (8, jI k), (7, jI f), (5, jI i2), (0, .ref h), (1, jI x), (2, jI s), (3, jI n), (4, jI what)]) S dX0_extreme_102 hl (by decide) rfl (fun ls hl => ?_)
                    refine j_iload S dX0_extreme_104 (lv_at hl 1 rfl) ?_
                    refine j_istore (lv' := [(7, jI (sp_er E i2 s k)), (6, jI k), (9, jI (sp_er E i2 s k)), (8, jI k), (5, jI i2), (0, .ref h), (1, jI x), (2, jI s), (3, jI n), (4, jI what)]) S dX0_extreme_106 hl (by decide) rfl (fun ls hl => ?_)
                    refine j_iinc (k := 3) (y := (k + 1)) (lv' := [(8, jI (k + 1)), (7, jI (sp_er E i2 s k)), (6, jI k), (9, jI (sp_er E i2 s k)), (5, jI i2), (0, .ref h), (1, jI x), (2, jI s), (3, jI n), (4, jI what)]) S dX0_extreme_108 hl rfl rfl (by decide) rfl (fun ls hl => ?_)
                    refine j_goto (tgt := 61) S dX0_extreme_111 (by decide) ?_
                    exact ih61 k (sp_er E i2 s k) (k + 1) _ (by omega) (by omega) (by rw [sp_ex_s (by omega), ← hb, ← hf]; split <;> omega) rfl (by omega) (by omega) (lv_sub hl [0, 1, 2, 4, 5, 6, 7, 8, 9] rfl)
          exact loop61 1002 0 (sp_er E i2 s 0) 1 _ (by omega) (by omega) rfl rfl (by omega) (by omega) (lv_sub hl [0, 1, 2, 3, 4, 5, 6, 7, 8] rfl)
        · refine j_bipush S dX0_extreme_42 (by decide) ?_
          exact hret (-2) 44 _ (by unfold sp_extreme; (repeat' split) <;> first | omega) dX0_extreme_44
  · have r17_ : 0 ≤ i2 ∧ i2 ≤ 0 := by omega
    refine j_iconst S dX0_extreme_12 ?_
    exact hret (-1) 13 _ (by unfold sp_extreme; (repeat' split) <;> first | omega) dX0_extreme_13
abbrev rmX0_near : Room := { frames := 3, cells := 0, slots := 0, locals := 76 }
theorem hdX0_near : yX0_near.cls ≠ "java/lang/invoke/MethodHandle" ∧ yX0_near.cls ≠ "java/lang/invoke/VarHandle" ∧ (parseMethodDescriptor yX0_near.desc).map (fun d => d.parameters.length) = some 4 := by decide +kernel
set_option maxHeartbeats 4000000 in
set_option maxRecDepth 100000 in
theorem c_X0_near (l : Launch) (D : va_G) (h a0 a1 a2 a3 : Nat) (cA : ClassId) (H T E F : Int → Int) (cc gc w d v : Int) (hok : SOK H T E cc gc w d v) (p : Int) (q : Int) (limit : Int) (what : Int) (hp : inI p) (hq : inI q) (hlimit : inI limit) (hwhat : inI what) : MI l yX0_near wsX0_near rmX0_near [.ref h, jI p, jI q, jI limit, jI what] (WB D (XW h a0 a1 a2 a3 cA H T E F cc gc w d v) cA) (fun rR => rR = sp_near p q limit what) := by
  refine MI_of (cc := cX0_near) (maxL := 6) (by decide) rfl (Nat.le_of_ble_eq_true rfl) ?_
  intro pP eE sS mM aA bL mT cC QQ ls S hret ⟨hP, hK⟩ hl
  obtain ⟨hcc, hgc, hw, hd, hv, hH, hT, hE⟩ := id hok
  have hl : lv_has ls 6 [(0, .ref h), (1, jI p), (2, jI q), (3, jI limit), (4, jI what)] := hl
  refine j_iload_n S dX0_near_0 rfl (lv_at hl 1 rfl) ?_
  refine j_iload_n S dX0_near_1 rfl (lv_at hl 2 rfl) ?_
  refine j_csi (As := [jI p, jI q]) S (c_X0_isNoShare l p q (iv_w hp (by decide +kernel)) (iv_w hq (by decide +kernel))) (va_cwS 2 S.2.2.2.2 gX0_near_X0_isNoShare rfl rfl rfl hdX0_isNoShare ⟨Nat.le_of_ble_eq_true rfl, Nat.le_of_ble_eq_true rfl⟩) [] rfl rfl hl.1 (Nat.le_of_ble_eq_true rfl) ⟨Nat.zero_le _, Nat.zero_le _⟩ dX0_near_2 (fun i2 q2 => ?_)
  subst q2
  refine j_ifb_ne (tgt := 29) S dX0_near_5 (by decide) (fun c5 => ?_) (fun c5 => ?_)
  · refine j_bipush S dX0_near_29 (by decide) ?_
    exact hret (-2) 31 _ (by unfold sp_near; (repeat' split) <;> first | omega | rfl) dX0_near_31
  · have r1_ : 1 ≤ p ∧ p ≤ 1000000 := by omega
    have r2_ : 1 ≤ q ∧ q ≤ 1000000 := by omega
    refine j_iload_n S dX0_near_8 rfl (lv_at hl 3 rfl) ?_
    refine j_iconst S dX0_near_9 ?_
    refine j_sipush S dX0_near_10 (by decide) ?_
    refine j_csi (As := [jI limit, jI 1, jI 10000]) S (c_X0_isOutside l limit 1 10000 (iv_w hlimit (by decide +kernel)) (iv_w (iv_n 1) (by decide +kernel)) (iv_w (iv_n 10000) (by decide +kernel))) (va_cwS 3 S.2.2.2.2 gX0_near_X0_isOutside rfl rfl rfl hdX0_isOutside ⟨Nat.le_of_ble_eq_true rfl, Nat.le_of_ble_eq_true rfl⟩) [] rfl rfl hl.1 (Nat.le_of_ble_eq_true rfl) ⟨Nat.zero_le _, Nat.zero_le _⟩ dX0_near_13 (fun i13 q13 => ?_)
    subst q13
    refine j_ifb_ne (tgt := 29) S dX0_near_16 (by decide) (fun c16 => ?_) (fun c16 => ?_)
    · refine j_bipush S dX0_near_29 (by decide) ?_
      exact hret (-2) 31 _ (by unfold sp_near; (repeat' split) <;> first | omega | rfl) dX0_near_31
    · have r3_ : 1 ≤ limit ∧ limit ≤ 10000 := by omega
      refine j_iload S dX0_near_19 (lv_at hl 4 rfl) ?_
      refine j_iconst S dX0_near_21 ?_
      refine j_iconst S dX0_near_22 ?_
      refine j_csi (As := [jI what, jI 0, jI 1]) S (c_X0_isOutside l what 0 1 (iv_w hwhat (by decide +kernel)) (iv_w (iv_n 0) (by decide +kernel)) (iv_w (iv_n 1) (by decide +kernel))) (va_cwS 3 S.2.2.2.2 gX0_near_X0_isOutside rfl rfl rfl hdX0_isOutside ⟨Nat.le_of_ble_eq_true rfl, Nat.le_of_ble_eq_true rfl⟩) [] rfl rfl hl.1 (Nat.le_of_ble_eq_true rfl) ⟨Nat.zero_le _, Nat.zero_le _⟩ dX0_near_23 (fun i23 q23 => ?_)
      subst q23
      refine j_ifb_eq (tgt := 32) S dX0_near_26 (by decide) (fun c26 => ?_) (fun c26 => ?_)
      · have r4_ : 0 ≤ what ∧ what ≤ 1 := by omega
        refine j_iload_n S dX0_near_32 rfl (lv_at hl 1 rfl) ?_
        refine j_iload_n S dX0_near_33 rfl (lv_at hl 2 rfl) ?_
        refine j_iload_n S dX0_near_34 rfl (lv_at hl 3 rfl) ?_
        refine j_csi (As := [jI p, jI q, jI limit]) S (c_X0_nearestLower l p q limit (iv_w r1_ (by decide +kernel)) (iv_w r2_ (by decide +kernel)) (iv_w r3_ (by decide +kernel))) (va_cwS 3 S.2.2.2.2 gX0_near_X0_nearestLower rfl rfl rfl hdX0_nearestLower ⟨Nat.le_of_ble_eq_true rfl, Nat.le_of_ble_eq_true rfl⟩) [] rfl rfl hl.1 (Nat.le_of_ble_eq_true rfl) ⟨Nat.zero_le _, Nat.zero_le _⟩ dX0_near_35 (fun i35 q35 => ?_)
        subst q35
        have r5_ : 1 ≤ (sp_nr p q limit) ∧ (sp_nr p q limit) ≤ 10000 := sp_nr_iv (iv_w (lo := 1) (hi := 10000) r3_ (by decide +kernel))
        refine j_istore (lv' := [(5, jI (sp_nr p q limit)), (0, .ref h), (1, jI p), (2, jI q), (3, jI limit), (4, jI what)]) S dX0_near_38 hl (by decide) rfl (fun ls hl => ?_)
        refine j_iload S dX0_near_40 (lv_at hl 5 rfl) ?_
        refine j_iconst S dX0_near_42 ?_
        refine j_icmp_ne (tgt := 51) S dX0_near_43 (by decide) (iv_i r4_ (by decide +kernel)) (iv_i (iv_n 1) (by decide +kernel)) (fun c43 => ?_) (fun c43 => ?_)
        · have r6_ : 0 ≤ what ∧ what ≤ 0 := by omega
          refine j_iload_n S dX0_near_51 rfl (lv_at hl 2 rfl) ?_
          refine j_i2l S dX0_near_52 (iv_i r1_ (by decide +kernel)) ?_
          refine j_iload S dX0_near_53 (lv_at hl 0 rfl) ?_
          refine j_i2l S dX0_near_55 (iv_i r5_ (by decide +kernel)) ?_
          refine j_lmul S dX0_near_56 ?_
          refine j_iload_n S dX0_near_57 rfl (lv_at hl 3 rfl) ?_
          refine j_i2l S dX0_near_58 (iv_i r2_ (by decide +kernel)) ?_
          refine j_csl (As := [jL (p * (sp_nr p q limit)), jL q]) S (c_X0_nearestOrLesser l (p * (sp_nr p q limit)) q (iv_w (iv_mulp (lo := 1) (hi := 10000000000) r1_ r5_ (by decide +kernel)) (by decide +kernel)) (iv_w r2_ (by decide +kernel))) (va_cwS 2 S.2.2.2.2 gX0_near_X0_nearestOrLesser rfl rfl rfl hdX0_nearestOrLesser ⟨Nat.le_of_ble_eq_true rfl, Nat.le_of_ble_eq_true rfl⟩) [] rfl rfl hl.1 (Nat.le_of_ble_eq_true rfl) ⟨Nat.zero_le _, Nat.zero_le _⟩ dX0_near_59 (fun i59 q59 => ?_)
          subst q59
          have r7_ : 0 ≤ (sp_nol (p * (sp_nr p q limit)) q) ∧ (sp_nol (p * (sp_nr p q limit)) q) ≤ 10000000001 := sp_nol_iv (ub := 10000000001) (iv_w (lo := 0) (hi := 10000000000) (iv_mulp (lo := 1) (hi := 10000000000) r1_ r5_ (by decide +kernel)) (by decide +kernel)) (by have := r2_; omega) (by decide)
          refine j_l2i S dX0_near_62 ?_
          exact hret (sp_nol (p * (sp_nr p q limit)) q) 63 _ (by unfold sp_near; (repeat' split) <;> first | omega | rfl) dX0_near_63
        · have r8_ : 1 ≤ what ∧ what ≤ 1 := by omega
          refine j_iload S dX0_near_46 (lv_at hl 0 rfl) ?_
          refine j_goto (tgt := 63) S dX0_near_48 (by decide) ?_
          exact hret (sp_nr p q limit) 63 _ (by unfold sp_near; (repeat' split) <;> first | omega | rfl) dX0_near_63
      · refine j_bipush S dX0_near_29 (by decide) ?_
        exact hret (-2) 31 _ (by unfold sp_near; (repeat' split) <;> first | omega | rfl) dX0_near_31
abbrev rmX0_read : Room := { frames := 3, cells := 0, slots := 0, locals := 74 }
theorem hdX0_read : yX0_read.cls ≠ "java/lang/invoke/MethodHandle" ∧ yX0_read.cls ≠ "java/lang/invoke/VarHandle" ∧ (parseMethodDescriptor yX0_read.desc).map (fun d => d.parameters.length) = some 3 := by decide +kernel
set_option maxHeartbeats 4000000 in
set_option maxRecDepth 100000 in
theorem c_X0_read (l : Launch) (D : va_G) (h a0 a1 a2 a3 : Nat) (cA : ClassId) (H T E F : Int → Int) (cc gc w d v : Int) (hok : SOK H T E cc gc w d v) (p : Int) (q : Int) (what : Int) (hp : inI p) (hq : inI q) (hwhat : inI what) : MI l yX0_read wsX0_read rmX0_read [.ref h, jI p, jI q, jI what] (WB D (XW h a0 a1 a2 a3 cA H T E F cc gc w d v) cA) (fun rR => rR = sp_read d v p q what) := by
  refine MI_of (cc := cX0_read) (maxL := 4) (by decide) rfl (Nat.le_of_ble_eq_true rfl) ?_
  intro pP eE sS mM aA bL mT cC QQ ls S hret ⟨hP, hK⟩ hl
  obtain ⟨hcc, hgc, hw, hd, hv, hH, hT, hE⟩ := id hok
  have hin : ∀ w ∈ wsX00, w ∈ wsX0_read := fun w hw => List.mem_cons_of_mem _ (List.mem_append_right _ hw)
  have hl : lv_has ls 4 [(0, .ref h), (1, jI p), (2, jI q), (3, jI what)] := hl
  refine j_iload_n S dX0_read_0 rfl (lv_at hl 1 rfl) ?_
  refine j_iload_n S dX0_read_1 rfl (lv_at hl 2 rfl) ?_
  refine j_csi (As := [jI p, jI q]) S (c_X0_isNoPlace l p q (iv_w hp (by decide +kernel)) (iv_w hq (by decide +kernel))) (va_cwS 2 S.2.2.2.2 gX0_read_X0_isNoPlace rfl rfl rfl hdX0_isNoPlace ⟨Nat.le_of_ble_eq_true rfl, Nat.le_of_ble_eq_true rfl⟩) [] rfl rfl hl.1 (Nat.le_of_ble_eq_true rfl) ⟨Nat.zero_le _, Nat.zero_le _⟩ dX0_read_2 (fun i2 q2 => ?_)
  subst q2
  refine j_ifb_ne (tgt := 17) S dX0_read_5 (by decide) (fun c5 => ?_) (fun c5 => ?_)
  · refine j_bipush S dX0_read_17 (by decide) ?_
    exact hret (-2) 19 _ (by unfold sp_read; (repeat' split) <;> first | omega | rfl) dX0_read_19
  · have r1_ : 1 ≤ q ∧ q ≤ 1000000 := by omega
    have r2_ : 0 ≤ p ∧ p ≤ 999999 := by omega
    refine j_iload_n S dX0_read_8 rfl (lv_at hl 3 rfl) ?_
    refine j_iconst S dX0_read_9 ?_
    refine j_iconst S dX0_read_10 ?_
    refine j_csi (As := [jI what, jI 0, jI 2]) S (c_X0_isOutside l what 0 2 (iv_w hwhat (by decide +kernel)) (iv_w (iv_n 0) (by decide +kernel)) (iv_w (iv_n 2) (by decide +kernel))) (va_cwS 3 S.2.2.2.2 gX0_read_X0_isOutside rfl rfl rfl hdX0_isOutside ⟨Nat.le_of_ble_eq_true rfl, Nat.le_of_ble_eq_true rfl⟩) [] rfl rfl hl.1 (Nat.le_of_ble_eq_true rfl) ⟨Nat.zero_le _, Nat.zero_le _⟩ dX0_read_11 (fun i11 q11 => ?_)
    subst q11
    refine j_ifb_eq (tgt := 20) S dX0_read_14 (by decide) (fun c14 => ?_) (fun c14 => ?_)
    · have r3_ : 0 ≤ what ∧ what ≤ 2 := by omega
      refine j_iload_n S dX0_read_20 rfl (lv_at hl 3 rfl) ?_
      refine j_if_ne (tgt := 34) S dX0_read_21 (by decide) (iv_i r3_ (by decide +kernel)) (fun c21 => ?_) (fun c21 => ?_)
      · have r4_ : 1 ≤ what ∧ what ≤ 2 := by omega
        refine j_iload_n S dX0_read_34 rfl (lv_at hl 3 rfl) ?_
        refine j_iconst S dX0_read_35 ?_
        refine j_icmp_ne (tgt := 50) S dX0_read_36 (by decide) (iv_i r4_ (by decide +kernel)) (iv_i (iv_n 1) (by decide +kernel)) (fun c36 => ?_) (fun c36 => ?_)
        · have r5_ : 2 ≤ what ∧ what ≤ 2 := by omega
          refine lv_aload_n S.1 S.2.1 dX0_read_50 rfl (lv_at hl 0 rfl) ?_
          refine j_iload_n S dX0_read_51 rfl (lv_at hl 1 rfl) ?_
          refine j_i2l S dX0_read_52 (iv_i r2_ (by decide +kernel)) ?_
          refine j_iload_n S dX0_read_53 rfl (lv_at hl 2 rfl) ?_
          refine j_i2l S dX0_read_54 (iv_i r1_ (by decide +kernel)) ?_
          refine j_cvl (As := [jL p, jL q]) (ci := 0) S (c_X0_readParts l D h a0 a1 a2 a3 cA H T E F cc gc w d v hok p q (iv_w r2_ (by decide +kernel)) (iv_w r1_ (by decide +kernel)) (by omega)) (cwV 2 S.2.2.2.2 gX0_read_X0_readParts rfl rfl rfl ⟨rfl, hdX0_readParts⟩ ⟨Nat.le_of_ble_eq_true rfl, Nat.le_of_ble_eq_true rfl⟩) hK hP rfl rfl rfl [] rfl rfl hl.1 (Nat.le_of_ble_eq_true rfl) ⟨Nat.zero_le _, Nat.zero_le _⟩ dX0_read_55 (fun i55 q55 => ?_)
          subst q55
          have r6_ : 0 ≤ (sp_rd d v p q) ∧ (sp_rd d v p q) ≤ 43260 := sp_rd_iv hd hv (iv_w (lo := 0) (hi := 1000000000000) r2_ (by decide +kernel)) (iv_w (lo := 1) (hi := 1000000000000) r1_ (by decide +kernel)) (by omega)
          refine j_l2i S dX0_read_58 ?_
          exact hret (sp_rd d v p q) 59 _ (by unfold sp_read; (repeat' split) <;> first | omega | rfl) dX0_read_59
        · have r7_ : 1 ≤ what ∧ what ≤ 1 := by omega
          refine lv_aload_n S.1 S.2.1 dX0_read_39 rfl (lv_at hl 0 rfl) ?_
          refine j_iload_n S dX0_read_40 rfl (lv_at hl 1 rfl) ?_
          refine j_i2l S dX0_read_41 (iv_i r2_ (by decide +kernel)) ?_
          refine j_iload_n S dX0_read_42 rfl (lv_at hl 2 rfl) ?_
          refine j_i2l S dX0_read_43 (iv_i r1_ (by decide +kernel)) ?_
          refine j_cvl (As := [jL p, jL q]) (ci := 0) S (c_X0_vernierLine l D h a0 a1 a2 a3 cA H T E F cc gc w d v hok p q (iv_w r2_ (by decide +kernel)) (iv_w r1_ (by decide +kernel)) (by omega)) (cwV 2 S.2.2.2.2 gX0_read_X0_vernierLine rfl rfl rfl ⟨rfl, hdX0_vernierLine⟩ ⟨Nat.le_of_ble_eq_true rfl, Nat.le_of_ble_eq_true rfl⟩) hK hP rfl rfl rfl [] rfl rfl hl.1 (Nat.le_of_ble_eq_true rfl) ⟨Nat.zero_le _, Nat.zero_le _⟩ dX0_read_44 (fun i44 q44 => ?_)
          subst q44
          have r8_ : 0 ≤ (sp_ln d v p q) ∧ (sp_ln d v p q) ≤ 60 := sp_ln_iv hv (iv_w (lo := 1) (hi := 1000000000000) r1_ (by decide +kernel)) (by omega)
          refine j_goto (tgt := 58) S dX0_read_47 (by decide) ?_
          refine j_l2i S dX0_read_58 ?_
          exact hret (sp_ln d v p q) 59 _ (by unfold sp_read; (repeat' split) <;> first | omega | rfl) dX0_read_59
      · have r9_ : 0 ≤ what ∧ what ≤ 0 := by omega
        refine lv_aload_n S.1 S.2.1 dX0_read_24 rfl (lv_at hl 0 rfl) ?_
        refine j_iload_n S dX0_read_25 rfl (lv_at hl 1 rfl) ?_
        refine j_i2l S dX0_read_26 (iv_i r2_ (by decide +kernel)) ?_
        refine j_iload_n S dX0_read_27 rfl (lv_at hl 2 rfl) ?_
        refine j_i2l S dX0_read_28 (iv_i r1_ (by decide +kernel)) ?_
        refine j_cvl (As := [jL p, jL q]) (ci := 0) S (c_X0_mainMark l D h a0 a1 a2 a3 cA H T E F cc gc w d v hok p q (iv_w r2_ (by decide +kernel)) (iv_w r1_ (by decide +kernel)) (by omega)) (cwV 2 S.2.2.2.2 gX0_read_X0_mainMark rfl rfl rfl ⟨rfl, hdX0_mainMark⟩ ⟨Nat.le_of_ble_eq_true rfl, Nat.le_of_ble_eq_true rfl⟩) hK hP rfl rfl rfl [] rfl rfl hl.1 (Nat.le_of_ble_eq_true rfl) ⟨Nat.zero_le _, Nat.zero_le _⟩ dX0_read_29 (fun i29 q29 => ?_)
        subst q29
        have r10_ : 0 ≤ (sp_mm d p q) ∧ (sp_mm d p q) ≤ 720 := sp_mm_iv hd (iv_w (lo := 0) (hi := 1000000000000) r2_ (by decide +kernel)) (iv_w (lo := 1) (hi := 1000000000000) r1_ (by decide +kernel)) (by omega)
        refine j_l2i S dX0_read_32 ?_
        exact hret (sp_mm d p q) 33 _ (by unfold sp_read; (repeat' split) <;> first | omega | rfl) dX0_read_33
    · refine j_bipush S dX0_read_17 (by decide) ?_
      exact hret (-2) 19 _ (by unfold sp_read; (repeat' split) <;> first | omega | rfl) dX0_read_19
abbrev rmX0_told : Room := { frames := 0, cells := 0, slots := 0, locals := 0 }
theorem hdX0_told : yX0_told.cls ≠ "java/lang/invoke/MethodHandle" ∧ yX0_told.cls ≠ "java/lang/invoke/VarHandle" ∧ (parseMethodDescriptor yX0_told.desc).map (fun d => d.parameters.length) = some 1 := by decide +kernel
set_option maxHeartbeats 4000000 in
set_option maxRecDepth 100000 in
theorem c_X0_told (l : Launch) (D : va_G) (h a0 a1 a2 a3 : Nat) (cA : ClassId) (H T E F : Int → Int) (cc gc w d v : Int) (hok : SOK H T E cc gc w d v) (what : Int) (hwhat : inI what) : MI l yX0_told wsX0_told rmX0_told [.ref h, jI what] (WB D (XW h a0 a1 a2 a3 cA H T E F cc gc w d v) cA) (fun rR => rR = sp_told w cc gc d v what) := by
  refine MI_of (cc := cX0_told) (maxL := 2) (by decide) rfl (Nat.le_of_ble_eq_true rfl) ?_
  intro pP eE sS mM aA bL mT cC QQ ls S hret ⟨hP, hK⟩ hl
  obtain ⟨hcc, hgc, hw, hd, hv, hH, hT, hE⟩ := id hok
  have hin : ∀ w ∈ wsX00, w ∈ wsX0_told := fun w hw => List.mem_cons_of_mem _ (List.mem_append_right _ hw)
  have hl : lv_has ls 2 [(0, .ref h), (1, jI what)] := hl
  refine j_iload_n S dX0_told_0 rfl (lv_at hl 1 rfl) ?_
  by_cases k0 : what = 0
  · refine lv_tableIn (tgt := 36) S.1 S.2.1 dX0_told_1 (by rw [tI (iv_i hwhat (by decide +kernel))]; omega) (by rw [tI (iv_i hwhat (by decide +kernel))]; omega) (by rw [tI (iv_i hwhat (by decide +kernel)), k0]; rfl) (by decide) ?_
    refine lv_aload_n S.1 S.2.1 dX0_told_36 rfl (lv_at hl 0 rfl) ?_
    refine j_get (v := jI w) S hin hK hP rfl rfl 6 (by decide) (List.mem_of_getElem? (i := 1) rfl) rfl dX0_told_37 ?_
    exact hret w 40 _ (by unfold sp_told; (repeat' split) <;> omega) dX0_told_40
  by_cases k1 : what = 1
  · refine lv_tableIn (tgt := 41) S.1 S.2.1 dX0_told_1 (by rw [tI (iv_i hwhat (by decide +kernel))]; omega) (by rw [tI (iv_i hwhat (by decide +kernel))]; omega) (by rw [tI (iv_i hwhat (by decide +kernel)), k1]; rfl) (by decide) ?_
    refine lv_aload_n S.1 S.2.1 dX0_told_41 rfl (lv_at hl 0 rfl) ?_
    refine j_get (v := jI cc) S hin hK hP rfl rfl 4 (by decide) (List.mem_of_getElem? (i := 2) rfl) rfl dX0_told_42 ?_
    exact hret cc 45 _ (by unfold sp_told; (repeat' split) <;> omega) dX0_told_45
  by_cases k2 : what = 2
  · refine lv_tableIn (tgt := 46) S.1 S.2.1 dX0_told_1 (by rw [tI (iv_i hwhat (by decide +kernel))]; omega) (by rw [tI (iv_i hwhat (by decide +kernel))]; omega) (by rw [tI (iv_i hwhat (by decide +kernel)), k2]; rfl) (by decide) ?_
    refine lv_aload_n S.1 S.2.1 dX0_told_46 rfl (lv_at hl 0 rfl) ?_
    refine j_get (v := jI gc) S hin hK hP rfl rfl 5 (by decide) (List.mem_of_getElem? (i := 3) rfl) rfl dX0_told_47 ?_
    exact hret gc 50 _ (by unfold sp_told; (repeat' split) <;> omega) dX0_told_50
  by_cases k3 : what = 3
  · refine lv_tableIn (tgt := 51) S.1 S.2.1 dX0_told_1 (by rw [tI (iv_i hwhat (by decide +kernel))]; omega) (by rw [tI (iv_i hwhat (by decide +kernel))]; omega) (by rw [tI (iv_i hwhat (by decide +kernel)), k3]; rfl) (by decide) ?_
    refine lv_aload_n S.1 S.2.1 dX0_told_51 rfl (lv_at hl 0 rfl) ?_
    refine j_get (v := jI d) S hin hK hP rfl rfl 7 (by decide) (List.mem_of_getElem? (i := 4) rfl) rfl dX0_told_52 ?_
    exact hret d 55 _ (by unfold sp_told; (repeat' split) <;> omega) dX0_told_55
  by_cases k4 : what = 4
  · refine lv_tableIn (tgt := 56) S.1 S.2.1 dX0_told_1 (by rw [tI (iv_i hwhat (by decide +kernel))]; omega) (by rw [tI (iv_i hwhat (by decide +kernel))]; omega) (by rw [tI (iv_i hwhat (by decide +kernel)), k4]; rfl) (by decide) ?_
    refine lv_aload_n S.1 S.2.1 dX0_told_56 rfl (lv_at hl 0 rfl) ?_
    refine j_get (v := jI v) S hin hK hP rfl rfl 8 (by decide) (List.mem_of_getElem? (i := 5) rfl) rfl dX0_told_57 ?_
    exact hret v 60 _ (by unfold sp_told; (repeat' split) <;> omega) dX0_told_60
  refine lv_tableOut (tgt := 61) S.1 S.2.1 dX0_told_1 (by rw [tI (iv_i hwhat (by decide +kernel))]; omega) (by decide) ?_
  refine j_bipush S dX0_told_61 (by decide) ?_
  exact hret (-2) 63 _ (by unfold sp_told; (repeat' split) <;> omega) dX0_told_63
abbrev rmJ9_floorMod_f86c9 : Room := { frames := 0, cells := 0, slots := 0, locals := 0 }
theorem hdJ9_floorMod_f86c9 : yJ9_floorMod_f86c9.cls ≠ "java/lang/invoke/MethodHandle" ∧ yJ9_floorMod_f86c9.cls ≠ "java/lang/invoke/VarHandle" ∧ (parseMethodDescriptor yJ9_floorMod_f86c9.desc).map (fun d => d.parameters.length) = some 2 := by decide +kernel
set_option maxHeartbeats 4000000 in
set_option maxRecDepth 100000 in
theorem c_J9_floorMod_f86c9 (l : Launch) (x : Int) (y : Int) (hx : (-10000000000000) ≤ x ∧ x ≤ 10000000000000) (hy : 1 ≤ y ∧ y ≤ 1000000000000) : ML l yJ9_floorMod_f86c9 wsJ9_floorMod_f86c9 rmJ9_floorMod_f86c9 [jL x, jL y] W0 (fun rR => rR = x % y) := by
  refine MLF_of (cc := cJ9_floorMod_f86c9) (maxL := 6) (by decide +kernel) rfl (Nat.le_of_ble_eq_true rfl) ?_
  intro pP eE sS mM aA bL mT cC QQ ls S hret _ hl
  have hl : lv_has ls 6 [(0, jL x), (2, jL y)] := hl
  refine j_lload_n S dJ9_floorMod_f86c9_0 rfl (lv_at hl 0 rfl) ?_
  refine j_lload_n S dJ9_floorMod_f86c9_1 rfl (lv_at hl 1 rfl) ?_
  refine j_lrem S dJ9_floorMod_f86c9_2 (iv_l hx (by decide +kernel)) (iv_pl hy (by decide +kernel)) (iv_gt hx (by decide +kernel)) ?_
  refine j_lstore (lv' := [(4, jL (Int.tmod x y)), (0, jL x), (2, jL y)]) S dJ9_floorMod_f86c9_3 hl (by decide) rfl (fun ls hl => ?_)
  refine j_lload_n S dJ9_floorMod_f86c9_5 rfl (lv_at hl 1 rfl) ?_
  refine j_lload_n S dJ9_floorMod_f86c9_6 rfl (lv_at hl 2 rfl) ?_
  refine j_lxor_ge (tgt := 25) (pc1 := 8) (pc2 := 9) (pc3 := 10) S rfl rfl rfl dJ9_floorMod_f86c9_7 dJ9_floorMod_f86c9_8 dJ9_floorMod_f86c9_9 dJ9_floorMod_f86c9_10 (by decide) (iv_l hx (by decide +kernel)) (iv_pl hy (by decide +kernel)) (fun c7 => ?_) (fun c7 => ?_)
  · refine j_lload S dJ9_floorMod_f86c9_25 (lv_at hl 0 rfl) ?_
    exact hret (Int.tmod x y) 27 _ (Int.tmod_eq_emod_of_nonneg c7) dJ9_floorMod_f86c9_27
  · refine j_lload S dJ9_floorMod_f86c9_13 (lv_at hl 0 rfl) ?_
    refine j_lconst (a := 0) S dJ9_floorMod_f86c9_15 rfl ?_
    refine j_lcmp_eq (pc1 := 17) (tgt := 25) S rfl dJ9_floorMod_f86c9_16 dJ9_floorMod_f86c9_17 (by decide) (iv_l (iv_tmod (lo := (-999999999999)) (hi := 999999999999) hy (by decide +kernel)) (by decide +kernel)) (iv_l (iv_n 0) (by decide +kernel)) (fun c16 => ?_) (fun c16 => ?_)
    · refine j_lload S dJ9_floorMod_f86c9_25 (lv_at hl 0 rfl) ?_
      exact hret (Int.tmod x y) 27 _ (fm_b c16) dJ9_floorMod_f86c9_27
    · refine j_lload S dJ9_floorMod_f86c9_20 (lv_at hl 0 rfl) ?_
      refine j_lload_n S dJ9_floorMod_f86c9_22 rfl (lv_at hl 2 rfl) ?_
      refine j_ladd S dJ9_floorMod_f86c9_23 ?_
      exact hret ((Int.tmod x y) + y) 24 _ (fm_c c7 (by omega) c16) dJ9_floorMod_f86c9_24
abbrev rmX0_two : Room := { frames := 3, cells := 0, slots := 0, locals := 74 }
theorem hdX0_two : yX0_two.cls ≠ "java/lang/invoke/MethodHandle" ∧ yX0_two.cls ≠ "java/lang/invoke/VarHandle" ∧ (parseMethodDescriptor yX0_two.desc).map (fun d => d.parameters.length) = some 4 := by decide +kernel
set_option maxHeartbeats 4000000 in
set_option maxRecDepth 100000 in
theorem c_X0_two (l : Launch) (D : va_G) (h a0 a1 a2 a3 : Nat) (cA : ClassId) (H T E F : Int → Int) (cc gc w d v : Int) (hok : SOK H T E cc gc w d v) (p : Int) (q : Int) (e : Int) (what : Int) (hp : inI p) (hq : inI q) (he : inI e) (hwhat : inI what) : MI l yX0_two wsX0_two rmX0_two [.ref h, jI p, jI q, jI e, jI what] (WB D (XW h a0 a1 a2 a3 cA H T E F cc gc w d v) cA) (fun rR => rR = sp_two d v p q e what) := by
  refine MI_of (cc := cX0_two) (maxL := 19) (by decide) rfl (Nat.le_of_ble_eq_true rfl) ?_
  intro pP eE sS mM aA bL mT cC QQ ls S hret ⟨hP, hK⟩ hl
  obtain ⟨hcc, hgc, hw, hd, hv, hH, hT, hE⟩ := id hok
  have hin : ∀ w ∈ wsX00, w ∈ wsX0_two := fun w hw => List.mem_cons_of_mem _ (List.mem_append_right _ hw)
  have hl : lv_has ls 19 [(0, .ref h), (1, jI p), (2, jI q), (3, jI e), (4, jI what)] := hl
  refine j_iload_n S dX0_two_0 rfl (lv_at hl 1 rfl) ?_
  refine j_iload_n S dX0_two_1 rfl (lv_at hl 2 rfl) ?_
  refine j_csi (As := [jI p, jI q]) S (c_X0_isNoPlace l p q (iv_w hp (by decide +kernel)) (iv_w hq (by decide +kernel))) (va_cwS 2 S.2.2.2.2 gX0_two_X0_isNoPlace rfl rfl rfl hdX0_isNoPlace ⟨Nat.le_of_ble_eq_true rfl, Nat.le_of_ble_eq_true rfl⟩) [] rfl rfl hl.1 (Nat.le_of_ble_eq_true rfl) ⟨Nat.zero_le _, Nat.zero_le _⟩ dX0_two_2 (fun i2 q2 => ?_)
  subst q2
  refine j_ifb_ne (tgt := 31) S dX0_two_5 (by decide) (fun c5 => ?_) (fun c5 => ?_)
  · refine j_ldc (n := (-1000000002)) S (S.2.2.2.2 _ (List.mem_of_getElem? (i := 1) rfl)) (by decide) dX0_two_31 ?_
    exact hret (-1000000002) 33 _ (by unfold sp_two sp_r1 sp_r2; rw [show q * 500000 = q * 1000000 / 2 from by omega]; (repeat' split) <;> first | omega | rfl) dX0_two_33
  · have r1_ : 1 ≤ q ∧ q ≤ 1000000 := by omega
    have r2_ : 0 ≤ p ∧ p ≤ 999999 := by omega
    refine j_iload_n S dX0_two_8 rfl (lv_at hl 3 rfl) ?_
    refine j_sipush S dX0_two_9 (by decide) ?_
    refine j_sipush S dX0_two_12 (by decide) ?_
    refine j_csi (As := [jI e, jI (-1000), jI 1000]) S (c_X0_isOutside l e (-1000) 1000 (iv_w he (by decide +kernel)) (iv_w (iv_n (-1000)) (by decide +kernel)) (iv_w (iv_n 1000) (by decide +kernel))) (va_cwS 3 S.2.2.2.2 gX0_two_X0_isOutside rfl rfl rfl hdX0_isOutside ⟨Nat.le_of_ble_eq_true rfl, Nat.le_of_ble_eq_true rfl⟩) [] rfl rfl hl.1 (Nat.le_of_ble_eq_true rfl) ⟨Nat.zero_le _, Nat.zero_le _⟩ dX0_two_15 (fun i15 q15 => ?_)
    subst q15
    refine j_ifb_ne (tgt := 31) S dX0_two_18 (by decide) (fun c18 => ?_) (fun c18 => ?_)
    · refine j_ldc (n := (-1000000002)) S (S.2.2.2.2 _ (List.mem_of_getElem? (i := 1) rfl)) (by decide) dX0_two_31 ?_
      exact hret (-1000000002) 33 _ (by unfold sp_two sp_r1 sp_r2; rw [show q * 500000 = q * 1000000 / 2 from by omega]; (repeat' split) <;> first | omega | rfl) dX0_two_33
    · have r3_ : (-1000) ≤ e ∧ e ≤ 1000 := by omega
      refine j_iload S dX0_two_21 (lv_at hl 4 rfl) ?_
      refine j_iconst S dX0_two_23 ?_
      refine j_iconst S dX0_two_24 ?_
      refine j_csi (As := [jI what, jI 0, jI 1]) S (c_X0_isOutside l what 0 1 (iv_w hwhat (by decide +kernel)) (iv_w (iv_n 0) (by decide +kernel)) (iv_w (iv_n 1) (by decide +kernel))) (va_cwS 3 S.2.2.2.2 gX0_two_X0_isOutside rfl rfl rfl hdX0_isOutside ⟨Nat.le_of_ble_eq_true rfl, Nat.le_of_ble_eq_true rfl⟩) [] rfl rfl hl.1 (Nat.le_of_ble_eq_true rfl) ⟨Nat.zero_le _, Nat.zero_le _⟩ dX0_two_25 (fun i25 q25 => ?_)
      subst q25
      refine j_ifb_eq (tgt := 34) S dX0_two_28 (by decide) (fun c28 => ?_) (fun c28 => ?_)
      · have r4_ : 0 ≤ what ∧ what ≤ 1 := by omega
        refine j_iload_n S dX0_two_34 rfl (lv_at hl 2 rfl) ?_
        refine j_i2l S dX0_two_35 (iv_i r1_ (by decide +kernel)) ?_
        refine j_ldc2 (n := 1000000) S (S.2.2.2.2 _ (List.mem_of_getElem? (i := 2) rfl)) (by decide) dX0_two_36 ?_
        refine j_lmul S dX0_two_39 ?_
        refine j_lstore (lv' := [(5, jL (q * 1000000)), (0, .ref h), (1, jI p), (2, jI q), (3, jI e), (4, jI what)]) S dX0_two_40 hl (by decide) rfl (fun ls hl => ?_)
        refine j_iload_n S dX0_two_42 rfl (lv_at hl 2 rfl) ?_
        refine j_i2l S dX0_two_43 (iv_i r2_ (by decide +kernel)) ?_
        refine j_ldc2 (n := 1000000) S (S.2.2.2.2 _ (List.mem_of_getElem? (i := 2) rfl)) (by decide) dX0_two_44 ?_
        refine j_lmul S dX0_two_47 ?_
        refine j_lstore (lv' := [(7, jL (p * 1000000)), (5, jL (q * 1000000)), (0, .ref h), (1, jI p), (2, jI q), (3, jI e), (4, jI what)]) S dX0_two_48 hl (by decide) rfl (fun ls hl => ?_)
        refine j_iload_n S dX0_two_50 rfl (lv_at hl 5 rfl) ?_
        refine j_i2l S dX0_two_51 (iv_i r3_ (by decide +kernel)) ?_
        refine j_iload_n S dX0_two_52 rfl (lv_at hl 4 rfl) ?_
        refine j_i2l S dX0_two_53 (iv_i r1_ (by decide +kernel)) ?_
        refine j_lmul S dX0_two_54 ?_
        refine j_lstore (lv' := [(9, jL (e * q)), (7, jL (p * 1000000)), (5, jL (q * 1000000)), (0, .ref h), (1, jI p), (2, jI q), (3, jI e), (4, jI what)]) S dX0_two_55 hl (by decide) rfl (fun ls hl => ?_)
        refine lv_aload_n S.1 S.2.1 dX0_two_57 rfl (lv_at hl 3 rfl) ?_
        refine j_lload S dX0_two_58 (lv_at hl 1 rfl) ?_
        refine j_lload S dX0_two_60 (lv_at hl 0 rfl) ?_
        refine j_ladd S dX0_two_62 ?_
        refine j_lload S dX0_two_63 (lv_at hl 2 rfl) ?_
        refine j_csl (As := [jL ((p * 1000000) + (e * q)), jL (q * 1000000)]) S (c_J9_floorMod_f86c9 l ((p * 1000000) + (e * q)) (q * 1000000) (iv_w (iv_add (lo := (-1000000000)) (hi := 1000999000000) (iv_mulp (lo := 0) (hi := 999999000000) r2_ (iv_n 1000000) (by decide +kernel)) (iv_mul (lo := (-1000000000)) (hi := 1000000000) 1000 1000000 r3_ r1_ (by decide +kernel)) (by decide +kernel)) (by decide +kernel)) (iv_w (iv_mulp (lo := 1000000) (hi := 1000000000000) r1_ (iv_n 1000000) (by decide +kernel)) (by decide +kernel))) (va_cwS 2 S.2.2.2.2 gX0_two_J9_floorMod_f86c9 rfl rfl rfl hdJ9_floorMod_f86c9 ⟨Nat.le_of_ble_eq_true rfl, Nat.le_of_ble_eq_true rfl⟩) [.ref h] rfl rfl hl.1 (Nat.le_of_ble_eq_true rfl) ⟨Nat.zero_le _, Nat.zero_le _⟩ dX0_two_65 (fun i65 q65 => ?_)
        subst q65
        have r5_ : 0 ≤ (((p * 1000000) + (e * q)) % (q * 1000000)) ∧ (((p * 1000000) + (e * q)) % (q * 1000000)) ≤ 1000000000000 := emod_iv (iv_w (lo := 1) (hi := 1000000000000) (iv_mulp (lo := 1000000) (hi := 1000000000000) r1_ (iv_n 1000000) (by decide +kernel)) (by decide +kernel))
        refine j_lload S dX0_two_68 (lv_at hl 2 rfl) ?_
        refine j_cvl (As := [jL (((p * 1000000) + (e * q)) % (q * 1000000)), jL (q * 1000000)]) (ci := 0) S (c_X0_readParts l D h a0 a1 a2 a3 cA H T E F cc gc w d v hok (((p * 1000000) + (e * q)) % (q * 1000000)) (q * 1000000) (iv_w r5_ (by decide +kernel)) (iv_w (iv_mulp (lo := 1000000) (hi := 1000000000000) r1_ (iv_n 1000000) (by decide +kernel)) (by decide +kernel)) (Int.emod_lt_of_pos _ (by omega))) (cwV 2 S.2.2.2.2 gX0_two_X0_readParts rfl rfl rfl ⟨rfl, hdX0_readParts⟩ ⟨Nat.le_of_ble_eq_true rfl, Nat.le_of_ble_eq_true rfl⟩) hK hP rfl rfl rfl [] rfl rfl hl.1 (Nat.le_of_ble_eq_true rfl) ⟨Nat.zero_le _, Nat.zero_le _⟩ dX0_two_70 (fun i70 q70 => ?_)
        subst q70
        have r6_ : 0 ≤ (sp_rd d v (((p * 1000000) + (e * q)) % (q * 1000000)) (q * 1000000)) ∧ (sp_rd d v (((p * 1000000) + (e * q)) % (q * 1000000)) (q * 1000000)) ≤ 43260 := sp_rd_iv hd hv (iv_w (lo := 0) (hi := 1000000000000) r5_ (by decide +kernel)) (iv_w (lo := 1) (hi := 1000000000000) (iv_mulp (lo := 1000000) (hi := 1000000000000) r1_ (iv_n 1000000) (by decide +kernel)) (by decide +kernel)) (Int.emod_lt_of_pos _ (by omega))
        refine j_lstore (lv' := [(11, jL (sp_rd d v (((p * 1000000) + (e * q)) % (q * 1000000)) (q * 1000000))), (9, jL (e * q)), (7, jL (p * 1000000)), (5, jL (q * 1000000)), (0, .ref h), (1, jI p), (2, jI q), (3, jI e), (4, jI what)]) S dX0_two_73 hl (by decide) rfl (fun ls hl => ?_)
        refine lv_aload_n S.1 S.2.1 dX0_two_75 rfl (lv_at hl 4 rfl) ?_
        refine j_lload S dX0_two_76 (lv_at hl 2 rfl) ?_
        refine j_lload S dX0_two_78 (lv_at hl 3 rfl) ?_
        refine j_ldc2 (n := 2) S (S.2.2.2.2 _ (List.mem_of_getElem? (i := 3) rfl)) (by decide) dX0_two_80 ?_
        refine j_ldivp S dX0_two_83 (iv_l (iv_mulp (lo := 1000000) (hi := 1000000000000) r1_ (iv_n 1000000) (by decide +kernel)) (by decide +kernel)) (iv_pl (iv_n 2) (by decide +kernel)) (iv_nn (iv_mulp (lo := 1000000) (hi := 1000000000000) r1_ (iv_n 1000000) (by decide +kernel)) (by decide +kernel)) ?_
        refine j_ladd S dX0_two_84 ?_
        refine j_lload S dX0_two_85 (lv_at hl 1 rfl) ?_
        refine j_lsub S dX0_two_87 ?_
        refine j_lload S dX0_two_88 (lv_at hl 3 rfl) ?_
        refine j_csl (As := [jL (((p * 1000000) + ((q * 1000000) / 2)) - (e * q)), jL (q * 1000000)]) S (c_J9_floorMod_f86c9 l (((p * 1000000) + ((q * 1000000) / 2)) - (e * q)) (q * 1000000) (iv_w (iv_sub (lo := (-1000000000)) (hi := 2000999000000) (iv_add (lo := 0) (hi := 1999999000000) (iv_mulp (lo := 0) (hi := 999999000000) r2_ (iv_n 1000000) (by decide +kernel)) (iv_div (lo := 0) (hi := 1000000000000) (iv_mulp (lo := 1000000) (hi := 1000000000000) r1_ (iv_n 1000000) (by decide +kernel)) (by have := (iv_n 2); omega) (by decide +kernel)) (by decide +kernel)) (iv_mul (lo := (-1000000000)) (hi := 1000000000) 1000 1000000 r3_ r1_ (by decide +kernel)) (by decide +kernel)) (by decide +kernel)) (iv_w (iv_mulp (lo := 1000000) (hi := 1000000000000) r1_ (iv_n 1000000) (by decide +kernel)) (by decide +kernel))) (va_cwS 2 S.2.2.2.2 gX0_two_J9_floorMod_f86c9 rfl rfl rfl hdJ9_floorMod_f86c9 ⟨Nat.le_of_ble_eq_true rfl, Nat.le_of_ble_eq_true rfl⟩) [.ref h] rfl rfl hl.1 (Nat.le_of_ble_eq_true rfl) ⟨Nat.zero_le _, Nat.zero_le _⟩ dX0_two_90 (fun i90 q90 => ?_)
        subst q90
        have r7_ : 0 ≤ ((((p * 1000000) + ((q * 1000000) / 2)) - (e * q)) % (q * 1000000)) ∧ ((((p * 1000000) + ((q * 1000000) / 2)) - (e * q)) % (q * 1000000)) ≤ 1000000000000 := emod_iv (iv_w (lo := 1) (hi := 1000000000000) (iv_mulp (lo := 1000000) (hi := 1000000000000) r1_ (iv_n 1000000) (by decide +kernel)) (by decide +kernel))
        refine j_lload S dX0_two_93 (lv_at hl 3 rfl) ?_
        refine j_cvl (As := [jL ((((p * 1000000) + ((q * 1000000) / 2)) - (e * q)) % (q * 1000000)), jL (q * 1000000)]) (ci := 0) S (c_X0_readParts l D h a0 a1 a2 a3 cA H T E F cc gc w d v hok ((((p * 1000000) + ((q * 1000000) / 2)) - (e * q)) % (q * 1000000)) (q * 1000000) (iv_w r7_ (by decide +kernel)) (iv_w (iv_mulp (lo := 1000000) (hi := 1000000000000) r1_ (iv_n 1000000) (by decide +kernel)) (by decide +kernel)) (Int.emod_lt_of_pos _ (by omega))) (cwV 2 S.2.2.2.2 gX0_two_X0_readParts rfl rfl rfl ⟨rfl, hdX0_readParts⟩ ⟨Nat.le_of_ble_eq_true rfl, Nat.le_of_ble_eq_true rfl⟩) hK hP rfl rfl rfl [] rfl rfl hl.1 (Nat.le_of_ble_eq_true rfl) ⟨Nat.zero_le _, Nat.zero_le _⟩ dX0_two_95 (fun i95 q95 => ?_)
        subst q95
        have r8_ : 0 ≤ (sp_rd d v ((((p * 1000000) + ((q * 1000000) / 2)) - (e * q)) % (q * 1000000)) (q * 1000000)) ∧ (sp_rd d v ((((p * 1000000) + ((q * 1000000) / 2)) - (e * q)) % (q * 1000000)) (q * 1000000)) ≤ 43260 := sp_rd_iv hd hv (iv_w (lo := 0) (hi := 1000000000000) r7_ (by decide +kernel)) (iv_w (lo := 1) (hi := 1000000000000) (iv_mulp (lo := 1000000) (hi := 1000000000000) r1_ (iv_n 1000000) (by decide +kernel)) (by decide +kernel)) (Int.emod_lt_of_pos _ (by omega))
        refine j_lstore (lv' := [(13, jL (sp_rd d v ((((p * 1000000) + ((q * 1000000) / 2)) - (e * q)) % (q * 1000000)) (q * 1000000))), (11, jL (sp_rd d v (((p * 1000000) + (e * q)) % (q * 1000000)) (q * 1000000))), (9, jL (e * q)), (7, jL (p * 1000000)), (5, jL (q * 1000000)), (0, .ref h), (1, jI p), (2, jI q), (3, jI e), (4, jI what)]) S dX0_two_98 hl (by decide) rfl (fun ls hl => ?_)
        refine lv_aload_n S.1 S.2.1 dX0_two_100 rfl (lv_at hl 5 rfl) ?_
        refine j_get (v := jI d) S hin hK hP rfl rfl 7 (by decide) (List.mem_of_getElem? (i := 4) rfl) rfl dX0_two_101 ?_
        refine j_i2l S dX0_two_104 (iv_i hd (by decide +kernel)) ?_
        refine lv_aload_n S.1 S.2.1 dX0_two_105 rfl (lv_at hl 5 rfl) ?_
        refine j_get (v := jI v) S hin hK hP rfl rfl 8 (by decide) (List.mem_of_getElem? (i := 5) rfl) rfl dX0_two_106 ?_
        refine j_i2l S dX0_two_109 (iv_i hv (by decide +kernel)) ?_
        refine j_lmul S dX0_two_110 ?_
        refine j_lstore (lv' := [(15, jL (d * v)), (13, jL (sp_rd d v ((((p * 1000000) + ((q * 1000000) / 2)) - (e * q)) % (q * 1000000)) (q * 1000000))), (11, jL (sp_rd d v (((p * 1000000) + (e * q)) % (q * 1000000)) (q * 1000000))), (9, jL (e * q)), (7, jL (p * 1000000)), (5, jL (q * 1000000)), (0, .ref h), (1, jI p), (2, jI q), (3, jI e), (4, jI what)]) S dX0_two_111 hl (by decide) rfl (fun ls hl => ?_)
        refine j_ldc2 (n := 2) S (S.2.2.2.2 _ (List.mem_of_getElem? (i := 3) rfl)) (by decide) dX0_two_113 ?_
        refine j_lload S dX0_two_116 (lv_at hl 2 rfl) ?_
        refine j_lload S dX0_two_118 (lv_at hl 1 rfl) ?_
        refine j_ladd S dX0_two_120 ?_
        refine j_lmul S dX0_two_121 ?_
        refine j_lstore (lv' := [(17, jL (2 * ((sp_rd d v (((p * 1000000) + (e * q)) % (q * 1000000)) (q * 1000000)) + (sp_rd d v ((((p * 1000000) + ((q * 1000000) / 2)) - (e * q)) % (q * 1000000)) (q * 1000000))))), (15, jL (d * v)), (13, jL (sp_rd d v ((((p * 1000000) + ((q * 1000000) / 2)) - (e * q)) % (q * 1000000)) (q * 1000000))), (11, jL (sp_rd d v (((p * 1000000) + (e * q)) % (q * 1000000)) (q * 1000000))), (9, jL (e * q)), (7, jL (p * 1000000)), (5, jL (q * 1000000)), (0, .ref h), (1, jI p), (2, jI q), (3, jI e), (4, jI what)]) S dX0_two_122 hl (by decide) rfl (fun ls hl => ?_)
        refine j_lload S dX0_two_124 (lv_at hl 3 rfl) ?_
        refine j_lload S dX0_two_126 (lv_at hl 2 rfl) ?_
        refine j_lcmp_le (pc1 := 129) (tgt := 140) S rfl dX0_two_128 dX0_two_129 (by decide) (iv_l r6_ (by decide +kernel)) (iv_l r8_ (by decide +kernel)) (fun c128 => ?_) (fun c128 => ?_)
        · refine j_lload S dX0_two_140 (lv_at hl 0 rfl) ?_
          refine j_lload S dX0_two_142 (lv_at hl 1 rfl) ?_
          refine j_lsub S dX0_two_144 ?_
          refine j_ldc2 (n := 4) S (S.2.2.2.2 _ (List.mem_of_getElem? (i := 6) rfl)) (by decide) dX0_two_145 ?_
          refine j_iload S dX0_two_148 (lv_at hl 11 rfl) ?_
          refine j_csi (As := [jL ((2 * ((sp_rd d v (((p * 1000000) + (e * q)) % (q * 1000000)) (q * 1000000)) + (sp_rd d v ((((p * 1000000) + ((q * 1000000) / 2)) - (e * q)) % (q * 1000000)) (q * 1000000)))) - (d * v)), jL 4, jI what]) S (c_X0_lowestTerm l ((2 * ((sp_rd d v (((p * 1000000) + (e * q)) % (q * 1000000)) (q * 1000000)) + (sp_rd d v ((((p * 1000000) + ((q * 1000000) / 2)) - (e * q)) % (q * 1000000)) (q * 1000000)))) - (d * v)) 4 what (iv_w (iv_sub (lo := (-43200)) (hi := 173036) (iv_mulp (lo := 0) (hi := 173040) (iv_n 2) (iv_add (lo := 0) (hi := 86520) r6_ r8_ (by decide +kernel)) (by decide +kernel)) (iv_mulp (lo := 4) (hi := 43200) hd hv (by decide +kernel)) (by decide +kernel)) (by decide +kernel)) (iv_w (iv_n 4) (by decide +kernel)) (iv_w r4_ (by decide +kernel))) (va_cwS 3 S.2.2.2.2 gX0_two_X0_lowestTerm rfl rfl rfl hdX0_lowestTerm ⟨Nat.le_of_ble_eq_true rfl, Nat.le_of_ble_eq_true rfl⟩) [] rfl rfl hl.1 (Nat.le_of_ble_eq_true rfl) ⟨Nat.zero_le _, Nat.zero_le _⟩ dX0_two_150 (fun i150 q150 => ?_)
          subst q150
          exact hret (sp_lt ((2 * ((sp_rd d v (((p * 1000000) + (e * q)) % (q * 1000000)) (q * 1000000)) + (sp_rd d v ((((p * 1000000) + ((q * 1000000) / 2)) - (e * q)) % (q * 1000000)) (q * 1000000)))) - (d * v)) 4 what) 153 _ (by unfold sp_two sp_r1 sp_r2; rw [show q * 500000 = q * 1000000 / 2 from by omega]; (repeat' split) <;> first | omega | rfl) dX0_two_153
        · have r9_ : 0 ≤ (sp_rd d v ((((p * 1000000) + ((q * 1000000) / 2)) - (e * q)) % (q * 1000000)) (q * 1000000)) ∧ (sp_rd d v ((((p * 1000000) + ((q * 1000000) / 2)) - (e * q)) % (q * 1000000)) (q * 1000000)) ≤ 43259 := by omega
          have r10_ : 1 ≤ (sp_rd d v (((p * 1000000) + (e * q)) % (q * 1000000)) (q * 1000000)) ∧ (sp_rd d v (((p * 1000000) + (e * q)) % (q * 1000000)) (q * 1000000)) ≤ 43260 := by omega
          refine j_lload S dX0_two_132 (lv_at hl 0 rfl) ?_
          refine j_lload S dX0_two_134 (lv_at hl 1 rfl) ?_
          refine j_ladd S dX0_two_136 ?_
          refine j_goto (tgt := 145) S dX0_two_137 (by decide) ?_
          refine j_ldc2 (n := 4) S (S.2.2.2.2 _ (List.mem_of_getElem? (i := 6) rfl)) (by decide) dX0_two_145 ?_
          refine j_iload S dX0_two_148 (lv_at hl 11 rfl) ?_
          refine j_csi (As := [jL ((2 * ((sp_rd d v (((p * 1000000) + (e * q)) % (q * 1000000)) (q * 1000000)) + (sp_rd d v ((((p * 1000000) + ((q * 1000000) / 2)) - (e * q)) % (q * 1000000)) (q * 1000000)))) + (d * v)), jL 4, jI what]) S (c_X0_lowestTerm l ((2 * ((sp_rd d v (((p * 1000000) + (e * q)) % (q * 1000000)) (q * 1000000)) + (sp_rd d v ((((p * 1000000) + ((q * 1000000) / 2)) - (e * q)) % (q * 1000000)) (q * 1000000)))) + (d * v)) 4 what (iv_w (iv_add (lo := 6) (hi := 216238) (iv_mulp (lo := 2) (hi := 173038) (iv_n 2) (iv_add (lo := 1) (hi := 86519) r10_ r9_ (by decide +kernel)) (by decide +kernel)) (iv_mulp (lo := 4) (hi := 43200) hd hv (by decide +kernel)) (by decide +kernel)) (by decide +kernel)) (iv_w (iv_n 4) (by decide +kernel)) (iv_w r4_ (by decide +kernel))) (va_cwS 3 S.2.2.2.2 gX0_two_X0_lowestTerm rfl rfl rfl hdX0_lowestTerm ⟨Nat.le_of_ble_eq_true rfl, Nat.le_of_ble_eq_true rfl⟩) [] rfl rfl hl.1 (Nat.le_of_ble_eq_true rfl) ⟨Nat.zero_le _, Nat.zero_le _⟩ dX0_two_150 (fun i150 q150 => ?_)
          subst q150
          exact hret (sp_lt ((2 * ((sp_rd d v (((p * 1000000) + (e * q)) % (q * 1000000)) (q * 1000000)) + (sp_rd d v ((((p * 1000000) + ((q * 1000000) / 2)) - (e * q)) % (q * 1000000)) (q * 1000000)))) + (d * v)) 4 what) 153 _ (by unfold sp_two sp_r1 sp_r2; rw [show q * 500000 = q * 1000000 / 2 from by omega]; (repeat' split) <;> first | omega | rfl) dX0_two_153
      · refine j_ldc (n := (-1000000002)) S (S.2.2.2.2 _ (List.mem_of_getElem? (i := 1) rfl)) (by decide) dX0_two_31 ?_
        exact hret (-1000000002) 33 _ (by unfold sp_two sp_r1 sp_r2; rw [show q * 500000 = q * 1000000 / 2 from by omega]; (repeat' split) <;> first | omega | rfl) dX0_two_33
