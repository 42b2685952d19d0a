abbrev rmX0_gearWith : Room := { frames := 0, cells := 0, slots := 0, locals := 0 }
theorem hdX0_gearWith : yX0_gearWith.cls ≠ "java/lang/invoke/MethodHandle" ∧ yX0_gearWith.cls ≠ "java/lang/invoke/VarHandle" ∧ (parseMethodDescriptor yX0_gearWith.desc).map (fun d => d.parameters.length) = some 4 := by decide +kernel
set_option maxHeartbeats 4000000 in
set_option maxRecDepth 100000 in
theorem c_X0_gearWith (l : Launch) (D : va_G) (h a0 a1 a2 a3 : Nat) (cA : ClassId) (H T E F : Int → Int) (cc gc w d v : Int) (hok : SOK H T E cc gc w d v) (t : Int) (g1 : Int) (g2 : Int) (g3 : Int) (ht : (-100000000000000000) ≤ t ∧ t ≤ 100000000000000000) (hg1 : inI g1) (hg2 : inI g2) (hg3 : inI g3) : MI l yX0_gearWith wsX0_gearWith rmX0_gearWith [.ref h, jL t, jI g1, jI g2, jI g3] (WB D (XW h a0 a1 a2 a3 cA H T E F cc gc w d v) cA) (fun rR => GW gc T t g1 g2 g3 rR) := by
  refine MI_of (cc := cX0_gearWith) (maxL := 7) (by decide) rfl (Nat.le_of_ble_eq_true rfl) ?_
  intro pP eE sS mM aA bL mT cC QQ ls S hret ⟨hP, hK⟩ hl
  obtain ⟨hcc, hgc, hw, hd, hv, hH, hT, hE⟩ := id hok
  have hin : ∀ w ∈ wsX00, w ∈ wsX0_gearWith := fun w hw => List.mem_cons_of_mem _ (List.mem_append_right _ hw)
  have hl : lv_has ls 7 [(0, .ref h), (1, jL t), (3, jI g1), (4, jI g2), (5, jI g3)] := hl
  refine j_iconst S dX0_gearWith_0 ?_
  refine j_istore (lv' := [(6, jI 0), (0, .ref h), (1, jL t), (3, jI g1), (4, jI g2), (5, jI g3)]) S dX0_gearWith_1 hl (by decide) rfl (fun ls hl => ?_)
  have loop3 : ∀ (N : Nat) (k : Int) (ls : Array Slot), (0 ≤ k ∧ k ≤ 10) → (k ≤ gc) → (∀ g, 0 ≤ g → g < k → ¬ (T g = t ∧ g ≠ g1 ∧ g ≠ g2 ∧ g ≠ g3)) → gc - k < (N : Int) → lv_has ls 7 [(6, jI k), (0, .ref h), (1, jL t), (3, jI g1), (4, jI g2), (5, jI g3)] → W pP l eE rmX0_gearWith sS mM aA bL mT cC sS.heap [] 0 0 QQ (F0 mM 3 ls []) := by
    intro N
    induction N with
    | zero =>
      intro k ls hk hk2 hz hN
      exact absurd hN (by omega)
    | succ N ih3 =>
      intro k ls hk hk2 hz hN hl
      refine j_iload S dX0_gearWith_3 (lv_at hl 0 rfl) ?_
      refine lv_aload_n S.1 S.2.1 dX0_gearWith_5 rfl (lv_at hl 1 rfl) ?_
      refine j_get (v := jI gc) S hin hK hP rfl rfl 5 (by decide) (List.mem_of_getElem? (i := 1) rfl) rfl dX0_gearWith_6 ?_
      refine j_icmp_ge (tgt := 54) S dX0_gearWith_9 (by decide) (iv_i hk (by decide +kernel)) (iv_i hgc (by decide +kernel)) (fun c9 => ?_) (fun c9 => ?_)
      · refine j_bipush S dX0_gearWith_54 (by decide) ?_
        exact hret (-6) 56 _ (Or.inl ⟨rfl, fun g a b => hz g a (by omega)⟩) dX0_gearWith_56
      · have r1_ : 0 ≤ k ∧ k ≤ 9 := by omega
        have r2_ : 1 ≤ gc ∧ gc ≤ 10 := by omega
        refine lv_aload_n S.1 S.2.1 dX0_gearWith_12 rfl (lv_at hl 1 rfl) ?_
        refine j_get (v := .ref a1) S hin hK hP rfl rfl 1 (by decide) (List.mem_of_getElem? (i := 2) rfl) rfl dX0_gearWith_13 ?_
        refine j_iload S dX0_gearWith_16 (lv_at hl 0 rfl) ?_
        refine j_iald S hK hP 2 0 rfl rfl (iv_ix (n := 10) r1_ (by decide +kernel)) dX0_gearWith_18 ?_
        have r3_ := hT k (by omega) (by omega)
        refine j_i2l S dX0_gearWith_19 (iv_i r3_ (by decide +kernel)) ?_
        refine j_lload_n S dX0_gearWith_20 rfl (lv_at hl 2 rfl) ?_
        refine j_lcmp_ne (pc1 := 22) (tgt := 48) S rfl dX0_gearWith_21 dX0_gearWith_22 (by decide) (iv_l r3_ (by decide +kernel)) (iv_l ht (by decide +kernel)) (fun c21 => ?_) (fun c21 => ?_)
        · refine j_iinc (k := 0) (y := (k + 1)) (lv' := [(6, jI (k + 1)), (0, .ref h), (1, jL t), (3, jI g1), (4, jI g2), (5, jI g3)]) S dX0_gearWith_48 hl rfl rfl (by decide) rfl (fun ls hl => ?_)
          refine j_goto (tgt := 3) S dX0_gearWith_51 (by decide) ?_
          exact ih3 (k + 1) _ (by omega) (by omega) (fun g a b => by by_cases e : g = k; rw [e]; omega; exact hz g a (by omega)) (by omega) (lv_sub hl [0, 1, 2, 3, 4, 5] rfl)
        · have r4_ : 12 ≤ t ∧ t ≤ 120 := by omega
          refine j_iload S dX0_gearWith_25 (lv_at hl 0 rfl) ?_
          refine j_iload_n S dX0_gearWith_27 rfl (lv_at hl 3 rfl) ?_
          refine j_icmp_eq (tgt := 48) S dX0_gearWith_28 (by decide) (iv_i r1_ (by decide +kernel)) (iv_i hg1 (by decide +kernel)) (fun c28 => ?_) (fun c28 => ?_)
          · have r5_ : 0 ≤ g1 ∧ g1 ≤ 9 := by omega
            refine j_iinc (k := 0) (y := (k + 1)) (lv' := [(6, jI (k + 1)), (0, .ref h), (1, jL t), (3, jI g1), (4, jI g2), (5, jI g3)]) S dX0_gearWith_48 hl rfl rfl (by decide) rfl (fun ls hl => ?_)
            refine j_goto (tgt := 3) S dX0_gearWith_51 (by decide) ?_
            exact ih3 (k + 1) _ (by omega) (by omega) (fun g a b => by by_cases e : g = k; rw [e]; omega; exact hz g a (by omega)) (by omega) (lv_sub hl [0, 1, 2, 3, 4, 5] rfl)
          · refine j_iload S dX0_gearWith_31 (lv_at hl 0 rfl) ?_
            refine j_iload S dX0_gearWith_33 (lv_at hl 4 rfl) ?_
            refine j_icmp_eq (tgt := 48) S dX0_gearWith_35 (by decide) (iv_i r1_ (by decide +kernel)) (iv_i hg2 (by decide +kernel)) (fun c35 => ?_) (fun c35 => ?_)
            · have r6_ : 0 ≤ g2 ∧ g2 ≤ 9 := by omega
              refine j_iinc (k := 0) (y := (k + 1)) (lv' := [(6, jI (k + 1)), (0, .ref h), (1, jL t), (3, jI g1), (4, jI g2), (5, jI g3)]) S dX0_gearWith_48 hl rfl rfl (by decide) rfl (fun ls hl => ?_)
              refine j_goto (tgt := 3) S dX0_gearWith_51 (by decide) ?_
              exact ih3 (k + 1) _ (by omega) (by omega) (fun g a b => by by_cases e : g = k; rw [e]; omega; exact hz g a (by omega)) (by omega) (lv_sub hl [0, 1, 2, 3, 4, 5] rfl)
            · refine j_iload S dX0_gearWith_38 (lv_at hl 0 rfl) ?_
              refine j_iload S dX0_gearWith_40 (lv_at hl 5 rfl) ?_
              refine j_icmp_eq (tgt := 48) S dX0_gearWith_42 (by decide) (iv_i r1_ (by decide +kernel)) (iv_i hg3 (by decide +kernel)) (fun c42 => ?_) (fun c42 => ?_)
              · have r7_ : 0 ≤ g3 ∧ g3 ≤ 9 := by omega
                refine j_iinc (k := 0) (y := (k + 1)) (lv' := [(6, jI (k + 1)), (0, .ref h), (1, jL t), (3, jI g1), (4, jI g2), (5, jI g3)]) S dX0_gearWith_48 hl rfl rfl (by decide) rfl (fun ls hl => ?_)
                refine j_goto (tgt := 3) S dX0_gearWith_51 (by decide) ?_
                exact ih3 (k + 1) _ (by omega) (by omega) (fun g a b => by by_cases e : g = k; rw [e]; omega; exact hz g a (by omega)) (by omega) (lv_sub hl [0, 1, 2, 3, 4, 5] rfl)
              · refine j_iload S dX0_gearWith_45 (lv_at hl 0 rfl) ?_
                exact hret k 47 _ (Or.inr ⟨by omega, by omega, hz⟩) dX0_gearWith_47
  exact loop3 11 0 _ (by omega) (by omega) (fun j h1 h2 => absurd h2 (by omega)) (by omega) (lv_sub hl [0, 1, 2, 3, 4, 5] rfl)
abbrev rmX0_keepTrain : Room := { frames := 0, cells := 0, slots := 0, locals := 0 }
theorem hdX0_keepTrain : yX0_keepTrain.cls ≠ "java/lang/invoke/MethodHandle" ∧ yX0_keepTrain.cls ≠ "java/lang/invoke/VarHandle" ∧ (parseMethodDescriptor yX0_keepTrain.desc).map (fun d => d.parameters.length) = some 4 := by decide +kernel
set_option maxHeartbeats 4000000 in
set_option maxRecDepth 100000 in
theorem c_X0_keepTrain (l : Launch) (D : va_G) (h a0 a1 a2 a3 : Nat) (cA : ClassId) (H T E F : Int → Int) (cc gc w d v : Int) (sz : Nat) (hok : SOK H T E cc gc w d v) (g1 : Int) (g2 : Int) (g3 : Int) (g4 : Int) (hg1 : inI g1) (hg2 : inI g2) (hg3 : inI g3) (hg4 : inI g4) : MMI l yX0_keepTrain wsX0_keepTrain rmX0_keepTrain [.ref h, jI g1, jI g2, jI g3, jI g4] D cA (XW h a0 a1 a2 a3 cA H T E F cc gc w d v) (fun u : Int → Int => XW h a0 a1 a2 a3 cA H T E u cc gc w d v) sz (fun rR u => rR = 1 ∧ u 0 = g1 ∧ u 1 = g2 ∧ u 2 = g3 ∧ u 3 = g4) := by
  refine MMI_of (cc := cX0_keepTrain) (maxL := 5) (Or.inr rfl) (by decide) rfl (Nat.le_of_ble_eq_true rfl) ?_
  intro pP eE sS mM aA bL mT cC QQ ls A S hret hP hK hD hS hA hl
  obtain ⟨hcc, hgc, hw, hd, hv, hH, hT, hE⟩ := id hok
  have hin : ∀ w ∈ wsX00, w ∈ wsX0_keepTrain := fun w hw => List.mem_cons_of_mem _ (List.mem_append_right _ hw)
  have hl : lv_has ls 5 [(0, .ref h), (1, jI g1), (2, jI g2), (3, jI g3), (4, jI g4)] := hl
  refine lv_aload_n S.1 S.2.1 dX0_keepTrain_0 rfl (lv_at hl 0 rfl) ?_
  refine j_get (v := .ref a3) S hin hK hP rfl rfl 3 (by decide) (List.mem_of_getElem? (i := 1) rfl) rfl dX0_keepTrain_1 ?_
  refine j_iconst S dX0_keepTrain_4 ?_
  refine j_iload_n S dX0_keepTrain_5 rfl (lv_at hl 1 rfl) ?_
  refine j_iast (ws1 := (XW h a0 a1 a2 a3 cA H T E (jU F 0 g1) cc gc w d v)) S hK hP hD hS 4 0 rfl rfl (iv_ix (n := 4) (iv_n 0) (by decide +kernel)) rfl dX0_keepTrain_6 (fun Hp lc hP hD hS => ?_)
  refine lv_aload_n S.1 S.2.1 dX0_keepTrain_7 rfl (lv_at hl 0 rfl) ?_
  refine j_get (v := .ref a3) S hin hK hP rfl rfl 3 (by decide) (List.mem_of_getElem? (i := 1) rfl) rfl dX0_keepTrain_8 ?_
  refine j_iconst S dX0_keepTrain_11 ?_
  refine j_iload_n S dX0_keepTrain_12 rfl (lv_at hl 2 rfl) ?_
  refine j_iast (ws1 := (XW h a0 a1 a2 a3 cA H T E (jU (jU F 0 g1) 1 g2) cc gc w d v)) S hK hP hD hS 4 0 rfl rfl (iv_ix (n := 4) (iv_n 1) (by decide +kernel)) rfl dX0_keepTrain_13 (fun Hp lc hP hD hS => ?_)
  refine lv_aload_n S.1 S.2.1 dX0_keepTrain_14 rfl (lv_at hl 0 rfl) ?_
  refine j_get (v := .ref a3) S hin hK hP rfl rfl 3 (by decide) (List.mem_of_getElem? (i := 1) rfl) rfl dX0_keepTrain_15 ?_
  refine j_iconst S dX0_keepTrain_18 ?_
  refine j_iload_n S dX0_keepTrain_19 rfl (lv_at hl 3 rfl) ?_
  refine j_iast (ws1 := (XW h a0 a1 a2 a3 cA H T E (jU (jU (jU F 0 g1) 1 g2) 2 g3) cc gc w d v)) S hK hP hD hS 4 0 rfl rfl (iv_ix (n := 4) (iv_n 2) (by decide +kernel)) rfl dX0_keepTrain_20 (fun Hp lc hP hD hS => ?_)
  refine lv_aload_n S.1 S.2.1 dX0_keepTrain_21 rfl (lv_at hl 0 rfl) ?_
  refine j_get (v := .ref a3) S hin hK hP rfl rfl 3 (by decide) (List.mem_of_getElem? (i := 1) rfl) rfl dX0_keepTrain_22 ?_
  refine j_iconst S dX0_keepTrain_25 ?_
  refine j_iload S dX0_keepTrain_26 (lv_at hl 4 rfl) ?_
  refine j_iast (ws1 := (XW h a0 a1 a2 a3 cA H T E (jU (jU (jU (jU F 0 g1) 1 g2) 2 g3) 3 g4) cc gc w d v)) S hK hP hD hS 4 0 rfl rfl (iv_ix (n := 4) (iv_n 3) (by decide +kernel)) rfl dX0_keepTrain_28 (fun Hp lc hP hD hS => ?_)
  refine j_iconst S dX0_keepTrain_29 ?_
  exact hret 1 (jU (jU (jU (jU F 0 g1) 1 g2) 2 g3) 3 g4) _ _ 30 _ (fun _ => Or.inr rfl) ⟨rfl, by simp [jU], by simp [jU], by simp [jU], by simp [jU]⟩ hP hD hS dX0_keepTrain_30
abbrev rmX0_findTwoGears : Room := { frames := 1, cells := 0, slots := 0, locals := 26 }
theorem hdX0_findTwoGears : yX0_findTwoGears.cls ≠ "java/lang/invoke/MethodHandle" ∧ yX0_findTwoGears.cls ≠ "java/lang/invoke/VarHandle" ∧ (parseMethodDescriptor yX0_findTwoGears.desc).map (fun d => d.parameters.length) = some 2 := by decide +kernel
set_option maxHeartbeats 4000000 in
set_option maxRecDepth 100000 in
theorem c_X0_findTwoGears (l : Launch) (D : va_G) (h a0 a1 a2 a3 : Nat) (cA : ClassId) (H T E F : Int → Int) (cc gc w d v : Int) (sz : Nat) (hok : SOK H T E cc gc w d v) (p : Int) (q : Int) (hp : 1 ≤ p ∧ p ≤ 1000000) (hq : 1 ≤ q ∧ q ≤ 1000000) : MMI l yX0_findTwoGears wsX0_findTwoGears rmX0_findTwoGears [.ref h, jL p, jL q] D cA (XW h a0 a1 a2 a3 cA H T E F cc gc w d v) (fun u : Int → Int => XW h a0 a1 a2 a3 cA H T E u cc gc w d v) sz (fun rR u => (rR = 1 ∧ Two gc T p q (u 0) (u 1) ∧ u 2 = -6 ∧ u 3 = -6) ∨ (rR = 0 ∧ No2 gc T p q)) := by
  refine MMI_of (cc := cX0_findTwoGears) (maxL := 7) (Or.inr rfl) (by decide) rfl (Nat.le_of_ble_eq_true rfl) ?_
  intro pP eE sS mM aA bL mT cC QQ ls A S hret hP hK hD hS hA hl
  obtain ⟨hcc, hgc, hw, hd, hv, hH, hT, hE⟩ := id hok
  have hin : ∀ w ∈ wsX00, w ∈ wsX0_findTwoGears := fun w hw => List.mem_cons_of_mem _ (List.mem_append_right _ hw)
  have hl : lv_has ls 7 [(0, .ref h), (1, jL p), (3, jL q)] := hl
  refine j_iconst S dX0_findTwoGears_0 ?_
  refine j_istore (lv' := [(5, jI 0), (0, .ref h), (1, jL p), (3, jL q)]) S dX0_findTwoGears_1 hl (by decide) rfl (fun ls hl => ?_)
  have loop3 : ∀ (N : Nat) (k : Int) (ls : Array Slot), (0 ≤ k ∧ k ≤ 10) → (k ≤ gc) → (∀ a b, 0 ≤ a → a < k → 0 ≤ b → b < gc → ¬ Q2 T p q a b) → gc - k < (N : Int) → lv_has ls 7 [(5, jI k), (0, .ref h), (1, jL p), (3, jL q)] → W pP l eE rmX0_findTwoGears sS mM aA bL mT cC sS.heap [] 0 0 QQ (F0 mM 3 ls []) := by
    intro N
    induction N with
    | zero =>
      intro k ls hk hk2 hz hN
      exact absurd hN (by omega)
    | succ N ih3 =>
      intro k ls hk hk2 hz hN hl
      refine j_iload S dX0_findTwoGears_3 (lv_at hl 0 rfl) ?_
      refine lv_aload_n S.1 S.2.1 dX0_findTwoGears_5 rfl (lv_at hl 1 rfl) ?_
      refine j_get (v := jI gc) S hin hK hP rfl rfl 5 (by decide) (List.mem_of_getElem? (i := 1) rfl) rfl dX0_findTwoGears_6 ?_
      refine j_icmp_ge (tgt := 64) S dX0_findTwoGears_9 (by decide) (iv_i hk (by decide +kernel)) (iv_i hgc (by decide +kernel)) (fun c9 => ?_) (fun c9 => ?_)
      · refine j_iconst S dX0_findTwoGears_64 ?_
        exact hret 0 F _ _ 65 _ (fun _ => Or.inl rfl) (Or.inr ⟨rfl, fun a b a1 a2 b1 b2 => hz a b a1 (by omega) b1 b2⟩) hP hD hS dX0_findTwoGears_65
      · have r1_ : 0 ≤ k ∧ k ≤ 9 := by omega
        have r2_ : 1 ≤ gc ∧ gc ≤ 10 := by omega
        refine lv_aload_n S.1 S.2.1 dX0_findTwoGears_12 rfl (lv_at hl 1 rfl) ?_
        refine lv_aload_n S.1 S.2.1 dX0_findTwoGears_13 rfl (lv_at hl 1 rfl) ?_
        refine j_get (v := .ref a1) S hin hK hP rfl rfl 1 (by decide) (List.mem_of_getElem? (i := 2) rfl) rfl dX0_findTwoGears_14 ?_
        refine j_iload S dX0_findTwoGears_17 (lv_at hl 0 rfl) ?_
        refine j_iald S hK hP 2 0 rfl rfl (iv_ix (n := 10) r1_ (by decide +kernel)) dX0_findTwoGears_19 ?_
        have r3_ := hT k (by omega) (by omega)
        refine j_i2l S dX0_findTwoGears_20 (iv_i r3_ (by decide +kernel)) ?_
        refine j_lload_n S dX0_findTwoGears_21 rfl (lv_at hl 3 rfl) ?_
        refine j_lmul S dX0_findTwoGears_22 ?_
        refine j_lload_n S dX0_findTwoGears_23 rfl (lv_at hl 2 rfl) ?_
        refine j_csl (As := [jL ((T k) * q), jL p]) S (c_X0_exactQuotient l ((T k) * q) p (iv_w (iv_mulp (lo := 12) (hi := 120000000) r3_ hq (by decide +kernel)) (by decide +kernel)) (iv_w hp (by decide +kernel))) (va_cwS 2 S.2.2.2.2 gX0_findTwoGears_X0_exactQuotient rfl rfl rfl hdX0_exactQuotient ⟨Nat.le_of_ble_eq_true rfl, Nat.le_of_ble_eq_true rfl⟩) [.ref h] rfl rfl hl.1 (Nat.le_of_ble_eq_true rfl) ⟨Nat.zero_le _, Nat.zero_le _⟩ dX0_findTwoGears_24 (fun i24 q24 => ?_)
        subst q24
        have r4_ : (-120000000) ≤ (sp_eq ((T k) * q) p) ∧ (sp_eq ((T k) * q) p) ≤ 120000000 := sp_eq_iv (iv_w (lo := (-120000000)) (hi := 120000000) (iv_mulp (lo := 12) (hi := 120000000) r3_ hq (by decide +kernel)) (by decide +kernel))
        refine j_iload S dX0_findTwoGears_27 (lv_at hl 0 rfl) ?_
        refine j_iload S dX0_findTwoGears_29 (lv_at hl 0 rfl) ?_
        refine j_iload S dX0_findTwoGears_31 (lv_at hl 0 rfl) ?_
        refine j_cvi (As := [jL (sp_eq ((T k) * q) p), jI k, jI k, jI k]) (ci := 0) S (c_X0_gearWith l D h a0 a1 a2 a3 cA H T E F cc gc w d v hok (sp_eq ((T k) * q) p) k k k (iv_w r4_ (by decide +kernel)) (iv_w r1_ (by decide +kernel)) (iv_w r1_ (by decide +kernel)) (iv_w r1_ (by decide +kernel))) (cwV 4 S.2.2.2.2 gX0_findTwoGears_X0_gearWith rfl rfl rfl ⟨rfl, hdX0_gearWith⟩ ⟨Nat.le_of_ble_eq_true rfl, Nat.le_of_ble_eq_true rfl⟩) hK hP rfl rfl rfl [] rfl rfl hl.1 (Nat.le_of_ble_eq_true rfl) ⟨Nat.zero_le _, Nat.zero_le _⟩ dX0_findTwoGears_33 (fun i33 q33 => ?_)
        have r5_ : (-6) ≤ i33 ∧ i33 ≤ 9 := GW_iv hgc q33
        refine j_istore (lv' := [(6, jI i33), (5, jI k), (0, .ref h), (1, jL p), (3, jL q)]) S dX0_findTwoGears_36 hl (by decide) rfl (fun ls hl => ?_)
        refine j_iload S dX0_findTwoGears_38 (lv_at hl 0 rfl) ?_
        refine j_bipush S dX0_findTwoGears_40 (by decide) ?_
        refine j_icmp_eq (tgt := 58) S dX0_findTwoGears_42 (by decide) (iv_i r5_ (by decide +kernel)) (iv_i (iv_n (-6)) (by decide +kernel)) (fun c42 => ?_) (fun c42 => ?_)
        · have r6_ : (-6) ≤ i33 ∧ i33 ≤ (-6) := by omega
          refine j_iinc (k := 1) (y := (k + 1)) (lv' := [(5, jI (k + 1)), (6, jI i33), (0, .ref h), (1, jL p), (3, jL q)]) S dX0_findTwoGears_58 hl rfl rfl (by decide) rfl (fun ls hl => ?_)
          refine j_goto (tgt := 3) S dX0_findTwoGears_61 (by decide) ?_
          exact ih3 (k + 1) _ (by omega) (by omega) (two_step (by omega) hT (by omega) hz q33 c42) (by omega) (lv_sub hl [0, 2, 3, 4] rfl)
        · have r7_ : (-5) ≤ i33 ∧ i33 ≤ 9 := by omega
          refine lv_aload_n S.1 S.2.1 dX0_findTwoGears_45 rfl (lv_at hl 2 rfl) ?_
          refine j_iload S dX0_findTwoGears_46 (lv_at hl 1 rfl) ?_
          refine j_iload S dX0_findTwoGears_48 (lv_at hl 0 rfl) ?_
          refine j_bipush S dX0_findTwoGears_50 (by decide) ?_
          refine j_bipush S dX0_findTwoGears_52 (by decide) ?_
          refine j_cvm [0, 1, 2, 3, 4] [] (wr := []) (As := [jI k, jI i33, jI (-6), jI (-6)]) (ci := 0) S (c_X0_keepTrain l D h a0 a1 a2 a3 cA H T E F cc gc w d v _ hok k i33 (-6) (-6) (iv_w r1_ (by decide +kernel)) (iv_w r7_ (by decide +kernel)) (iv_w (iv_n (-6)) (by decide +kernel)) (iv_w (iv_n (-6)) (by decide +kernel))) (cwV 4 S.2.2.2.2 gX0_findTwoGears_X0_keepTrain rfl rfl rfl ⟨rfl, hdX0_keepTrain⟩ ⟨Nat.le_of_ble_eq_true rfl, Nat.le_of_ble_eq_true rfl⟩) hK hP hD hS hA rfl rfl rfl rfl (by decide) rfl rfl rfl [] rfl rfl hl.1 (Nat.le_of_ble_eq_true rfl) ⟨Nat.zero_le _, Nat.zero_le _⟩ dX0_findTwoGears_54 (fun i54 u54 Hp lc q54 hP hD hS => ?_)
          have hP : va_P D vwCl (XW h a0 a1 a2 a3 cA H T E u54 cc gc w d v) Hp := hP
          have hD : va_D A (XW h a0 a1 a2 a3 cA H T E u54 cc gc w d v) := hD
          have r8_ : 0 ≤ i54 ∧ i54 ≤ 1 := by omega
          exact hret i54 u54 _ _ 57 _ (fun _ => (Or.inr q54.1)) (Or.inl ⟨q54.1, by rw [q54.2.1, q54.2.2.1]; exact two_found (by omega) (by omega) hT (by omega) hz q33 c42, q54.2.2.2⟩) hP hD hS dX0_findTwoGears_57
  exact loop3 11 0 _ (by omega) (by omega) (fun a b a1 a2 => absurd a2 (by omega)) (by omega) (lv_sub hl [0, 1, 2, 3] rfl)
abbrev rmX0_findSecondPair : Room := { frames := 1, cells := 0, slots := 0, locals := 26 }
theorem hdX0_findSecondPair : yX0_findSecondPair.cls ≠ "java/lang/invoke/MethodHandle" ∧ yX0_findSecondPair.cls ≠ "java/lang/invoke/VarHandle" ∧ (parseMethodDescriptor yX0_findSecondPair.desc).map (fun d => d.parameters.length) = some 4 := by decide +kernel
set_option maxHeartbeats 4000000 in
set_option maxRecDepth 100000 in
theorem c_X0_findSecondPair (l : Launch) (D : va_G) (h a0 a1 a2 a3 : Nat) (cA : ClassId) (H T E F : Int → Int) (cc gc w d v : Int) (sz : Nat) (hok : SOK H T E cc gc w d v) (g1 : Int) (g2 : Int) (p : Int) (q : Int) (hg1 : 0 ≤ g1 ∧ g1 ≤ 9) (hg2 : 0 ≤ g2 ∧ g2 ≤ 9) (hp : 1 ≤ p ∧ p ≤ 1000000) (hq : 1 ≤ q ∧ q ≤ 1000000) (hg1c : g1 < gc) (hg2c : g2 < gc) (hne : ¬ g1 = g2) : MMI l yX0_findSecondPair wsX0_findSecondPair rmX0_findSecondPair [.ref h, jI g1, jI g2, jL p, jL q] D cA (XW h a0 a1 a2 a3 cA H T E F cc gc w d v) (fun u : Int → Int => XW h a0 a1 a2 a3 cA H T E u cc gc w d v) sz (fun rR u => (rR = 1 ∧ u 0 = g1 ∧ u 1 = g2 ∧ Sec gc T p q g1 g2 (u 2) (u 3)) ∨ (rR = 0 ∧ ∀ c d, 0 ≤ c → c < gc → 0 ≤ d → d < gc → ¬ Q4 T p q g1 g2 c d)) := by
  refine MMI_of (cc := cX0_findSecondPair) (maxL := 11) (Or.inr rfl) (by decide) rfl (Nat.le_of_ble_eq_true rfl) ?_
  intro pP eE sS mM aA bL mT cC QQ ls A S hret hP hK hD hS hA hl
  obtain ⟨hcc, hgc, hw, hd, hv, hH, hT, hE⟩ := id hok
  have hin : ∀ w ∈ wsX00, w ∈ wsX0_findSecondPair := fun w hw => List.mem_cons_of_mem _ (List.mem_append_right _ hw)
  have hl : lv_has ls 11 [(0, .ref h), (1, jI g1), (2, jI g2), (3, jL p), (5, jL q)] := hl
  refine j_iconst S dX0_findSecondPair_0 ?_
  refine j_istore (lv' := [(7, jI 0), (0, .ref h), (1, jI g1), (2, jI g2), (3, jL p), (5, jL q)]) S dX0_findSecondPair_1 hl (by decide) rfl (fun ls hl => ?_)
  have loop3 : ∀ (N : Nat) (k : Int) (ls : Array Slot), (0 ≤ k ∧ k ≤ 10) → (k ≤ gc) → (∀ c d, 0 ≤ c → c < k → 0 ≤ d → d < gc → ¬ Q4 T p q g1 g2 c d) → gc - k < (N : Int) → lv_has ls 11 [(7, jI k), (0, .ref h), (1, jI g1), (2, jI g2), (3, jL p), (5, jL q)] → W pP l eE rmX0_findSecondPair sS mM aA bL mT cC sS.heap [] 0 0 QQ (F0 mM 3 ls []) := by
    intro N
    induction N with
    | zero =>
      intro k ls hk hk2 hz hN
      exact absurd hN (by omega)
    | succ N ih3 =>
      intro k ls hk hk2 hz hN hl
      refine j_iload S dX0_findSecondPair_3 (lv_at hl 0 rfl) ?_
      refine lv_aload_n S.1 S.2.1 dX0_findSecondPair_5 rfl (lv_at hl 1 rfl) ?_
      refine j_get (v := jI gc) S hin hK hP rfl rfl 5 (by decide) (List.mem_of_getElem? (i := 1) rfl) rfl dX0_findSecondPair_6 ?_
      refine j_icmp_ge (tgt := 92) S dX0_findSecondPair_9 (by decide) (iv_i hk (by decide +kernel)) (iv_i hgc (by decide +kernel)) (fun c9 => ?_) (fun c9 => ?_)
      · refine j_iconst S dX0_findSecondPair_92 ?_
        exact hret 0 F _ _ 93 _ (fun _ => Or.inl rfl) (Or.inr ⟨rfl, fun c d a1 a2 b1 b2 => hz c d a1 (by omega) b1 b2⟩) hP hD hS dX0_findSecondPair_93
      · have r1_ : 0 ≤ k ∧ k ≤ 9 := by omega
        have r2_ : 1 ≤ gc ∧ gc ≤ 10 := by omega
        refine j_iload S dX0_findSecondPair_12 (lv_at hl 0 rfl) ?_
        refine j_iload_n S dX0_findSecondPair_14 rfl (lv_at hl 2 rfl) ?_
        refine j_icmp_eq (tgt := 86) S dX0_findSecondPair_15 (by decide) (iv_i r1_ (by decide +kernel)) (iv_i hg1 (by decide +kernel)) (fun c15 => ?_) (fun c15 => ?_)
        · refine j_iinc (k := 0) (y := (k + 1)) (lv' := [(7, jI (k + 1)), (0, .ref h), (1, jI g1), (2, jI g2), (3, jL p), (5, jL q)]) S dX0_findSecondPair_86 hl rfl rfl (by decide) rfl (fun ls hl => ?_)
          refine j_goto (tgt := 3) S dX0_findSecondPair_89 (by decide) ?_
          exact ih3 (k + 1) _ (by omega) (by omega) (sec_skip (by omega) hz) (by omega) (lv_sub hl [0, 1, 2, 3, 4, 5] rfl)
        · refine j_iload S dX0_findSecondPair_18 (lv_at hl 0 rfl) ?_
          refine j_iload_n S dX0_findSecondPair_20 rfl (lv_at hl 3 rfl) ?_
          refine j_icmp_eq (tgt := 86) S dX0_findSecondPair_21 (by decide) (iv_i r1_ (by decide +kernel)) (iv_i hg2 (by decide +kernel)) (fun c21 => ?_) (fun c21 => ?_)
          · refine j_iinc (k := 0) (y := (k + 1)) (lv' := [(7, jI (k + 1)), (0, .ref h), (1, jI g1), (2, jI g2), (3, jL p), (5, jL q)]) S dX0_findSecondPair_86 hl rfl rfl (by decide) rfl (fun ls hl => ?_)
            refine j_goto (tgt := 3) S dX0_findSecondPair_89 (by decide) ?_
            exact ih3 (k + 1) _ (by omega) (by omega) (sec_skip (by omega) hz) (by omega) (lv_sub hl [0, 1, 2, 3, 4, 5] rfl)
          · refine lv_aload_n S.1 S.2.1 dX0_findSecondPair_24 rfl (lv_at hl 1 rfl) ?_
            refine j_get (v := .ref a1) S hin hK hP rfl rfl 1 (by decide) (List.mem_of_getElem? (i := 2) rfl) rfl dX0_findSecondPair_25 ?_
            refine j_iload_n S dX0_findSecondPair_28 rfl (lv_at hl 2 rfl) ?_
            refine j_iald S hK hP 2 0 rfl rfl (iv_ix (n := 10) hg1 (by decide +kernel)) dX0_findSecondPair_29 ?_
            have r3_ := hT g1 (by omega) (by omega)
            refine lv_aload_n S.1 S.2.1 dX0_findSecondPair_30 rfl (lv_at hl 1 rfl) ?_
            refine j_get (v := .ref a1) S hin hK hP rfl rfl 1 (by decide) (List.mem_of_getElem? (i := 2) rfl) rfl dX0_findSecondPair_31 ?_
            refine j_iload S dX0_findSecondPair_34 (lv_at hl 0 rfl) ?_
            refine j_iald S hK hP 2 0 rfl rfl (iv_ix (n := 10) r1_ (by decide +kernel)) dX0_findSecondPair_36 ?_
            have r4_ := hT k (by omega) (by omega)
            refine j_imul S dX0_findSecondPair_37 ?_
            refine j_i2l S dX0_findSecondPair_38 (iv_i (iv_mulp (lo := 144) (hi := 14400) r3_ r4_ (by decide +kernel)) (by decide +kernel)) ?_
            refine j_lload S dX0_findSecondPair_39 (lv_at hl 5 rfl) ?_
            refine j_lmul S dX0_findSecondPair_41 ?_
            refine j_lstore (lv' := [(8, jL (((T g1) * (T k)) * q)), (7, jI k), (0, .ref h), (1, jI g1), (2, jI g2), (3, jL p), (5, jL q)]) S dX0_findSecondPair_42 hl (by decide) rfl (fun ls hl => ?_)
            refine lv_aload_n S.1 S.2.1 dX0_findSecondPair_44 rfl (lv_at hl 2 rfl) ?_
            refine j_lload S dX0_findSecondPair_45 (lv_at hl 0 rfl) ?_
            refine lv_aload_n S.1 S.2.1 dX0_findSecondPair_47 rfl (lv_at hl 2 rfl) ?_
            refine j_get (v := .ref a1) S hin hK hP rfl rfl 1 (by decide) (List.mem_of_getElem? (i := 2) rfl) rfl dX0_findSecondPair_48 ?_
            refine j_iload_n S dX0_findSecondPair_51 rfl (lv_at hl 4 rfl) ?_
            refine j_iald S hK hP 2 0 rfl rfl (iv_ix (n := 10) hg2 (by decide +kernel)) dX0_findSecondPair_52 ?_
            have r5_ := hT g2 (by omega) (by omega)
            refine j_i2l S dX0_findSecondPair_53 (iv_i r5_ (by decide +kernel)) ?_
            refine j_lload_n S dX0_findSecondPair_54 rfl (lv_at hl 5 rfl) ?_
            refine j_lmul S dX0_findSecondPair_55 ?_
            refine j_csl (As := [jL (((T g1) * (T k)) * q), jL ((T g2) * p)]) S (c_X0_exactQuotient l (((T g1) * (T k)) * q) ((T g2) * p) (iv_w (iv_mulp (lo := 144) (hi := 14400000000) (iv_mulp (lo := 144) (hi := 14400) r3_ r4_ (by decide +kernel)) hq (by decide +kernel)) (by decide +kernel)) (iv_w (iv_mulp (lo := 12) (hi := 120000000) r5_ hp (by decide +kernel)) (by decide +kernel))) (va_cwS 2 S.2.2.2.2 gX0_findSecondPair_X0_exactQuotient rfl rfl rfl hdX0_exactQuotient ⟨Nat.le_of_ble_eq_true rfl, Nat.le_of_ble_eq_true rfl⟩) [.ref h] rfl rfl hl.1 (Nat.le_of_ble_eq_true rfl) ⟨Nat.zero_le _, Nat.zero_le _⟩ dX0_findSecondPair_56 (fun i56 q56 => ?_)
            subst q56
            have r6_ : (-14400000000) ≤ (sp_eq (((T g1) * (T k)) * q) ((T g2) * p)) ∧ (sp_eq (((T g1) * (T k)) * q) ((T g2) * p)) ≤ 14400000000 := sp_eq_iv (iv_w (lo := (-14400000000)) (hi := 14400000000) (iv_mulp (lo := 144) (hi := 14400000000) (iv_mulp (lo := 144) (hi := 14400) r3_ r4_ (by decide +kernel)) hq (by decide +kernel)) (by decide +kernel))
            refine j_iload_n S dX0_findSecondPair_59 rfl (lv_at hl 3 rfl) ?_
            refine j_iload_n S dX0_findSecondPair_60 rfl (lv_at hl 4 rfl) ?_
            refine j_iload S dX0_findSecondPair_61 (lv_at hl 1 rfl) ?_
            refine j_cvi (As := [jL (sp_eq (((T g1) * (T k)) * q) ((T g2) * p)), jI g1, jI g2, jI k]) (ci := 0) S (c_X0_gearWith l D h a0 a1 a2 a3 cA H T E F cc gc w d v hok (sp_eq (((T g1) * (T k)) * q) ((T g2) * p)) g1 g2 k (iv_w r6_ (by decide +kernel)) (iv_w hg1 (by decide +kernel)) (iv_w hg2 (by decide +kernel)) (iv_w r1_ (by decide +kernel))) (cwV 4 S.2.2.2.2 gX0_findSecondPair_X0_gearWith rfl rfl rfl ⟨rfl, hdX0_gearWith⟩ ⟨Nat.le_of_ble_eq_true rfl, Nat.le_of_ble_eq_true rfl⟩) hK hP rfl rfl rfl [] rfl rfl hl.1 (Nat.le_of_ble_eq_true rfl) ⟨Nat.zero_le _, Nat.zero_le _⟩ dX0_findSecondPair_63 (fun i63 q63 => ?_)
            have r7_ : (-6) ≤ i63 ∧ i63 ≤ 9 := GW_iv hgc q63
            refine j_istore (lv' := [(10, jI i63), (8, jL (((T g1) * (T k)) * q)), (7, jI k), (0, .ref h), (1, jI g1), (2, jI g2), (3, jL p), (5, jL q)]) S dX0_findSecondPair_66 hl (by decide) rfl (fun ls hl => ?_)
            refine j_iload S dX0_findSecondPair_68 (lv_at hl 0 rfl) ?_
            refine j_bipush S dX0_findSecondPair_70 (by decide) ?_
            refine j_icmp_eq (tgt := 86) S dX0_findSecondPair_72 (by decide) (iv_i r7_ (by decide +kernel)) (iv_i (iv_n (-6)) (by decide +kernel)) (fun c72 => ?_) (fun c72 => ?_)
            · have r8_ : (-6) ≤ i63 ∧ i63 ≤ (-6) := by omega
              refine j_iinc (k := 2) (y := (k + 1)) (lv' := [(7, jI (k + 1)), (10, jI i63), (8, jL (((T g1) * (T k)) * q)), (0, .ref h), (1, jI g1), (2, jI g2), (3, jL p), (5, jL q)]) S dX0_findSecondPair_86 hl rfl rfl (by decide) rfl (fun ls hl => ?_)
              refine j_goto (tgt := 3) S dX0_findSecondPair_89 (by decide) ?_
              exact ih3 (k + 1) _ (by omega) (by omega) (sec_step (by omega) hT (by omega) hne c15 c21 hz q63 c72) (by omega) (lv_sub hl [0, 3, 4, 5, 6, 7] rfl)
            · have r9_ : (-5) ≤ i63 ∧ i63 ≤ 9 := by omega
              refine lv_aload_n S.1 S.2.1 dX0_findSecondPair_75 rfl (lv_at hl 3 rfl) ?_
              refine j_iload_n S dX0_findSecondPair_76 rfl (lv_at hl 4 rfl) ?_
              refine j_iload_n S dX0_findSecondPair_77 rfl (lv_at hl 5 rfl) ?_
              refine j_iload S dX0_findSecondPair_78 (lv_at hl 2 rfl) ?_
              refine j_iload S dX0_findSecondPair_80 (lv_at hl 0 rfl) ?_
              refine j_cvm [0, 1, 2, 3, 4] [] (wr := []) (As := [jI g1, jI g2, jI k, jI i63]) (ci := 0) S (c_X0_keepTrain l D h a0 a1 a2 a3 cA H T E F cc gc w d v _ hok g1 g2 k i63 (iv_w hg1 (by decide +kernel)) (iv_w hg2 (by decide +kernel)) (iv_w r1_ (by decide +kernel)) (iv_w r9_ (by decide +kernel))) (cwV 4 S.2.2.2.2 gX0_findSecondPair_X0_keepTrain rfl rfl rfl ⟨rfl, hdX0_keepTrain⟩ ⟨Nat.le_of_ble_eq_true rfl, Nat.le_of_ble_eq_true rfl⟩) hK hP hD hS hA rfl rfl rfl rfl (by decide) rfl rfl rfl [] rfl rfl hl.1 (Nat.le_of_ble_eq_true rfl) ⟨Nat.zero_le _, Nat.zero_le _⟩ dX0_findSecondPair_82 (fun i82 u82 Hp lc q82 hP hD hS => ?_)
              have hP : va_P D vwCl (XW h a0 a1 a2 a3 cA H T E u82 cc gc w d v) Hp := hP
              have hD : va_D A (XW h a0 a1 a2 a3 cA H T E u82 cc gc w d v) := hD
              have r10_ : 0 ≤ i82 ∧ i82 ≤ 1 := by omega
              exact hret i82 u82 _ _ 85 _ (fun _ => (Or.inr q82.1)) (Or.inl ⟨q82.1, q82.2.1, q82.2.2.1, by rw [q82.2.2.2.1, q82.2.2.2.2]; exact sec_found (by omega) (by omega) hT (by omega) hne c15 c21 (by omega) hz q63 c72⟩) hP hD hS dX0_findSecondPair_85
  exact loop3 11 0 _ (by omega) (by omega) (fun c d a1 a2 => absurd a2 (by omega)) (by omega) (lv_sub hl [0, 1, 2, 3, 4, 5] rfl)
abbrev rmX0_findFourGears : Room := { frames := 2, cells := 0, slots := 0, locals := 56 }
theorem hdX0_findFourGears : yX0_findFourGears.cls ≠ "java/lang/invoke/MethodHandle" ∧ yX0_findFourGears.cls ≠ "java/lang/invoke/VarHandle" ∧ (parseMethodDescriptor yX0_findFourGears.desc).map (fun d => d.parameters.length) = some 2 := by decide +kernel
set_option maxHeartbeats 4000000 in
set_option maxRecDepth 100000 in
theorem c_X0_findFourGears (l : Launch) (D : va_G) (h a0 a1 a2 a3 : Nat) (cA : ClassId) (H T E F : Int → Int) (cc gc w d v : Int) (sz : Nat) (hok : SOK H T E cc gc w d v) (p : Int) (q : Int) (hp : 1 ≤ p ∧ p ≤ 1000000) (hq : 1 ≤ q ∧ q ≤ 1000000) : MMI l yX0_findFourGears wsX0_findFourGears rmX0_findFourGears [.ref h, jL p, jL q] D cA (XW h a0 a1 a2 a3 cA H T E F cc gc w d v) (fun u : Int → Int => XW h a0 a1 a2 a3 cA H T E u cc gc w d v) sz (fun rR u => (rR = 1 ∧ Four gc T p q (u 0) (u 1) (u 2) (u 3)) ∨ (rR = 0 ∧ No4 gc T p q)) := by
  refine MMI_of (cc := cX0_findFourGears) (maxL := 7) (Or.inr rfl) (by decide) rfl (Nat.le_of_ble_eq_true rfl) ?_
  intro pP eE sS mM aA bL mT cC QQ ls A S hret hP hK hD hS hA hl
  obtain ⟨hcc, hgc, hw, hd, hv, hH, hT, hE⟩ := id hok
  have hin : ∀ w ∈ wsX00, w ∈ wsX0_findFourGears := fun w hw => List.mem_cons_of_mem _ (List.mem_append_right _ hw)
  have hl : lv_has ls 7 [(0, .ref h), (1, jL p), (3, jL q)] := hl
  refine j_iconst S dX0_findFourGears_0 ?_
  refine j_istore (lv' := [(5, jI 0), (0, .ref h), (1, jL p), (3, jL q)]) S dX0_findFourGears_1 hl (by decide) rfl (fun ls hl => ?_)
  have loop3 : ∀ (N : Nat) (F : Int → Int) (Hp : Heap) (lc : List Loc) (hP : va_P D vwCl (XW h a0 a1 a2 a3 cA H T E F cc gc w d v) Hp) (hD : va_D A (XW h a0 a1 a2 a3 cA H T E F cc gc w d v)) (hS : va_S A sS.heap Hp lc) (x1 : Int) (ls : Array Slot), (0 ≤ x1 ∧ x1 ≤ 10) → (x1 ≤ gc) → (∀ a b c d, 0 ≤ a → a < x1 → 0 ≤ b → b < gc → 0 ≤ c → c < gc → 0 ≤ d → d < gc → ¬ Q4 T p q a b c d) → gc - x1 < (N : Int) → lv_has ls 7 [(5, jI x1), (0, .ref h), (1, jL p), (3, jL q)] → W pP l eE rmX0_findFourGears sS mM aA bL mT cC Hp lc 0 0 QQ (F0 mM 3 ls []) := by
    intro N
    induction N with
    | zero =>
      intro F Hp lc hP hD hS x1 ls hx1 hx1c hz hN
      exact absurd hN (by omega)
    | succ N ih3 =>
      intro F Hp lc hP hD hS x1 ls hx1 hx1c hz hN hl
      refine j_iload S dX0_findFourGears_3 (lv_at hl 0 rfl) ?_
      refine lv_aload_n S.1 S.2.1 dX0_findFourGears_5 rfl (lv_at hl 1 rfl) ?_
      refine j_get (v := jI gc) S hin hK hP rfl rfl 5 (by decide) (List.mem_of_getElem? (i := 1) rfl) rfl dX0_findFourGears_6 ?_
      refine j_icmp_ge (tgt := 58) S dX0_findFourGears_9 (by decide) (iv_i hx1 (by decide +kernel)) (iv_i hgc (by decide +kernel)) (fun c9 => ?_) (fun c9 => ?_)
      · refine j_iconst S dX0_findFourGears_58 ?_
        exact hret 0 F _ _ 59 _ (fun _ => Or.inl rfl) (Or.inr ⟨rfl, fun a b c d a1 a2 b1 b2 e1 e2 f1 f2 => hz a b c d a1 (by omega) b1 b2 e1 e2 f1 f2⟩) hP hD hS dX0_findFourGears_59
      · have r1_ : 0 ≤ x1 ∧ x1 ≤ 9 := by omega
        have r2_ : 1 ≤ gc ∧ gc ≤ 10 := by omega
        refine j_iconst S dX0_findFourGears_12 ?_
        refine j_istore (lv' := [(6, jI 0), (5, jI x1), (0, .ref h), (1, jL p), (3, jL q)]) S dX0_findFourGears_13 hl (by decide) rfl (fun ls hl => ?_)
        have loop15 : ∀ (N : Nat) (F : Int → Int) (Hp : Heap) (lc : List Loc) (hP : va_P D vwCl (XW h a0 a1 a2 a3 cA H T E F cc gc w d v) Hp) (hD : va_D A (XW h a0 a1 a2 a3 cA H T E F cc gc w d v)) (hS : va_S A sS.heap Hp lc) (x2 : Int) (ls : Array Slot), (0 ≤ x2 ∧ x2 ≤ 10) → (x2 ≤ gc) → (∀ b c d, 0 ≤ b → b < x2 → 0 ≤ c → c < gc → 0 ≤ d → d < gc → ¬ Q4 T p q x1 b c d) → gc - x2 < (N : Int) → lv_has ls 7 [(6, jI x2), (5, jI x1), (0, .ref h), (1, jL p), (3, jL q)] → W pP l eE rmX0_findFourGears sS mM aA bL mT cC Hp lc 0 0 QQ (F0 mM 15 ls []) := by
          intro N
          induction N with
          | zero =>
            intro F Hp lc hP hD hS x2 ls hx2 hx2c hz2 hN
            exact absurd hN (by omega)
          | succ N ih15 =>
            intro F Hp lc hP hD hS x2 ls hx2 hx2c hz2 hN hl
            refine j_iload S dX0_findFourGears_15 (lv_at hl 0 rfl) ?_
            refine lv_aload_n S.1 S.2.1 dX0_findFourGears_17 rfl (lv_at hl 2 rfl) ?_
            refine j_get (v := jI gc) S hin hK hP rfl rfl 5 (by decide) (List.mem_of_getElem? (i := 1) rfl) rfl dX0_findFourGears_18 ?_
            refine j_icmp_ge (tgt := 52) S dX0_findFourGears_21 (by decide) (iv_i hx2 (by decide +kernel)) (iv_i r2_ (by decide +kernel)) (fun c21 => ?_) (fun c21 => ?_)
            · have r3_ : 1 ≤ x2 ∧ x2 ≤ 10 := by omega
              refine j_iinc (k := 1) (y := (x1 + 1)) (lv' := [(5, jI (x1 + 1)), (6, jI x2), (0, .ref h), (1, jL p), (3, jL q)]) S dX0_findFourGears_52 hl rfl rfl (by decide) rfl (fun ls hl => ?_)
              refine j_goto (tgt := 3) S dX0_findFourGears_55 (by decide) ?_
              exact ih3 F Hp lc hP hD hS (x1 + 1) _ (by omega) (by omega) (fun a b c d a1 a2 b1 b2 e1 e2 f1 f2 => by by_cases e : a = x1; rw [e]; exact hz2 b c d b1 (by omega) e1 e2 f1 f2; exact hz a b c d a1 (by omega) b1 b2 e1 e2 f1 f2) (by omega) (lv_sub hl [0, 2, 3, 4] rfl)
            · have r4_ : 0 ≤ x2 ∧ x2 ≤ 9 := by omega
              refine j_iload S dX0_findFourGears_24 (lv_at hl 0 rfl) ?_
              refine j_iload S dX0_findFourGears_26 (lv_at hl 1 rfl) ?_
              refine j_icmp_eq (tgt := 46) S dX0_findFourGears_28 (by decide) (iv_i r4_ (by decide +kernel)) (iv_i r1_ (by decide +kernel)) (fun c28 => ?_) (fun c28 => ?_)
              · refine j_iinc (k := 0) (y := (x2 + 1)) (lv' := [(6, jI (x2 + 1)), (5, jI x1), (0, .ref h), (1, jL p), (3, jL q)]) S dX0_findFourGears_46 hl rfl rfl (by decide) rfl (fun ls hl => ?_)
                refine j_goto (tgt := 15) S dX0_findFourGears_49 (by decide) ?_
                exact ih15 F Hp lc hP hD hS (x2 + 1) _ (by omega) (by omega) (fun b c d b1 b2 e1 e2 f1 f2 => by by_cases e : b = x2; rw [e]; exact (fun z => absurd z.1 (by omega)); exact hz2 b c d b1 (by omega) e1 e2 f1 f2) (by omega) (lv_sub hl [0, 1, 2, 3, 4] rfl)
              · refine lv_aload_n S.1 S.2.1 dX0_findFourGears_31 rfl (lv_at hl 2 rfl) ?_
                refine j_iload S dX0_findFourGears_32 (lv_at hl 1 rfl) ?_
                refine j_iload S dX0_findFourGears_34 (lv_at hl 0 rfl) ?_
                refine j_lload_n S dX0_findFourGears_36 rfl (lv_at hl 3 rfl) ?_
                refine j_lload_n S dX0_findFourGears_37 rfl (lv_at hl 4 rfl) ?_
                refine j_cvm [0, 1, 2, 3, 4] [] (wr := []) (As := [jI x1, jI x2, jL p, jL q]) (ci := 0) S (c_X0_findSecondPair l D h a0 a1 a2 a3 cA H T E F cc gc w d v _ hok x1 x2 p q (iv_w r1_ (by decide +kernel)) (iv_w r4_ (by decide +kernel)) (iv_w hp (by decide +kernel)) (iv_w hq (by decide +kernel)) (by omega) (by omega) (by omega)) (cwV 4 S.2.2.2.2 gX0_findFourGears_X0_findSecondPair rfl rfl rfl ⟨rfl, hdX0_findSecondPair⟩ ⟨Nat.le_of_ble_eq_true rfl, Nat.le_of_ble_eq_true rfl⟩) hK hP hD hS hA rfl rfl rfl rfl (by decide) rfl rfl rfl [] rfl rfl hl.1 (Nat.le_of_ble_eq_true rfl) ⟨Nat.zero_le _, Nat.zero_le _⟩ dX0_findFourGears_38 (fun i38 u38 Hp lc q38 hP hD hS => ?_)
                have hP : va_P D vwCl (XW h a0 a1 a2 a3 cA H T E u38 cc gc w d v) Hp := hP
                have hD : va_D A (XW h a0 a1 a2 a3 cA H T E u38 cc gc w d v) := hD
                have r5_ : 0 ≤ i38 ∧ i38 ≤ 1 := by rcases q38 with qq | qq <;> (have := qq.1; omega)
                refine j_if_eq (tgt := 46) S dX0_findFourGears_41 (by decide) (iv_i r5_ (by decide +kernel)) (fun c41 => ?_) (fun c41 => ?_)
                · have r6_ : 0 ≤ i38 ∧ i38 ≤ 0 := by omega
                  refine j_iinc (k := 0) (y := (x2 + 1)) (lv' := [(6, jI (x2 + 1)), (5, jI x1), (0, .ref h), (1, jL p), (3, jL q)]) S dX0_findFourGears_46 hl rfl rfl (by decide) rfl (fun ls hl => ?_)
                  refine j_goto (tgt := 15) S dX0_findFourGears_49 (by decide) ?_
                  exact ih15 u38 Hp lc hP hD hS (x2 + 1) _ (by omega) (by omega) (fun b c d b1 b2 e1 e2 f1 f2 => by by_cases e : b = x2; rw [e]; rcases q38 with q38 | q38; exact absurd q38.1 (by omega); exact q38.2 c d e1 e2 f1 f2; exact hz2 b c d b1 (by omega) e1 e2 f1 f2) (by omega) (lv_sub hl [0, 1, 2, 3, 4] rfl)
                · have r7_ : 1 ≤ i38 ∧ i38 ≤ 1 := by omega
                  refine j_iconst S dX0_findFourGears_44 ?_
                  exact hret 1 u38 _ _ 45 _ (fun _ => Or.inr rfl) (by rcases q38 with q38 | q38; exact Or.inl ⟨rfl, by rw [q38.2.1, q38.2.2.1]; exact four_found (by omega) (by omega) (by omega) hz hz2 q38.2.2.2⟩; exact absurd q38.1 c41) hP hD hS dX0_findFourGears_45
        exact loop15 11 F Hp lc hP hD hS 0 _ (by omega) (by omega) (fun b c d a1 a2 => absurd a2 (by omega)) (by omega) (lv_sub hl [0, 1, 2, 3, 4] rfl)
  exact loop3 11 F sS.heap [] hP hD hS 0 _ (by omega) (by omega) (fun a b c d a1 a2 => absurd a2 (by omega)) (by omega) (lv_sub hl [0, 1, 2, 3] rfl)
abbrev rmX0_findTrain : Room := { frames := 3, cells := 0, slots := 0, locals := 82 }
theorem hdX0_findTrain : yX0_findTrain.cls ≠ "java/lang/invoke/MethodHandle" ∧ yX0_findTrain.cls ≠ "java/lang/invoke/VarHandle" ∧ (parseMethodDescriptor yX0_findTrain.desc).map (fun d => d.parameters.length) = some 2 := by decide +kernel
set_option maxHeartbeats 4000000 in
set_option maxRecDepth 100000 in
theorem c_X0_findTrain (l : Launch) (D : va_G) (h a0 a1 a2 a3 : Nat) (cA : ClassId) (H T E F : Int → Int) (cc gc w d v : Int) (sz : Nat) (hok : SOK H T E cc gc w d v) (p : Int) (q : Int) (hp : 1 ≤ p ∧ p ≤ 1000000) (hq : 1 ≤ q ∧ q ≤ 1000000) : MMI l yX0_findTrain wsX0_findTrain rmX0_findTrain [.ref h, jL p, jL q] D cA (XW h a0 a1 a2 a3 cA H T E F cc gc w d v) (fun u : Int → Int => XW h a0 a1 a2 a3 cA H T E u cc gc w d v) sz (fun rR u => (rR = 1 ∧ Tr gc T p q (u 0) (u 1) (u 2) (u 3)) ∨ (rR = 0 ∧ NoTr gc T p q)) := by
  refine MMI_of (cc := cX0_findTrain) (maxL := 5) (Or.inr rfl) (by decide) rfl (Nat.le_of_ble_eq_true rfl) ?_
  intro pP eE sS mM aA bL mT cC QQ ls A S hret hP hK hD hS hA hl
  obtain ⟨hcc, hgc, hw, hd, hv, hH, hT, hE⟩ := id hok
  have hin : ∀ w ∈ wsX00, w ∈ wsX0_findTrain := fun w hw => List.mem_cons_of_mem _ (List.mem_append_right _ hw)
  have hl : lv_has ls 5 [(0, .ref h), (1, jL p), (3, jL q)] := hl
  refine lv_aload_n S.1 S.2.1 dX0_findTrain_0 rfl (lv_at hl 0 rfl) ?_
  refine j_lload_n S dX0_findTrain_1 rfl (lv_at hl 1 rfl) ?_
  refine j_lload_n S dX0_findTrain_2 rfl (lv_at hl 2 rfl) ?_
  refine j_cvm [0, 1, 2, 3, 4] [] (wr := []) (As := [jL p, jL q]) (ci := 0) S (c_X0_findTwoGears l D h a0 a1 a2 a3 cA H T E F cc gc w d v _ hok p q (iv_w hp (by decide +kernel)) (iv_w hq (by decide +kernel))) (cwV 2 S.2.2.2.2 gX0_findTrain_X0_findTwoGears rfl rfl rfl ⟨rfl, hdX0_findTwoGears⟩ ⟨Nat.le_of_ble_eq_true rfl, Nat.le_of_ble_eq_true rfl⟩) hK hP hD hS hA rfl rfl rfl rfl (by decide) rfl rfl rfl [] rfl rfl hl.1 (Nat.le_of_ble_eq_true rfl) ⟨Nat.zero_le _, Nat.zero_le _⟩ dX0_findTrain_3 (fun i3 u3 Hp lc q3 hP hD hS => ?_)
  have hP : va_P D vwCl (XW h a0 a1 a2 a3 cA H T E u3 cc gc w d v) Hp := hP
  have hD : va_D A (XW h a0 a1 a2 a3 cA H T E u3 cc gc w d v) := hD
  have r1_ : 0 ≤ i3 ∧ i3 ≤ 1 := by rcases q3 with qq | qq <;> (have := qq.1; omega)
  refine j_if_ne (tgt := 18) S dX0_findTrain_6 (by decide) (iv_i r1_ (by decide +kernel)) (fun c6 => ?_) (fun c6 => ?_)
  · have r2_ : 1 ≤ i3 ∧ i3 ≤ 1 := by omega
    refine j_iconst S dX0_findTrain_18 ?_
    refine j_goto (tgt := 23) S dX0_findTrain_19 (by decide) ?_
    exact hret 1 u3 _ _ 23 _ (fun _ => Or.inr rfl) (by rcases q3 with q3 | q3; exact Or.inl ⟨rfl, Or.inl q3.2⟩; exact absurd q3.1 c6) hP hD hS dX0_findTrain_23
  · have r3_ : 0 ≤ i3 ∧ i3 ≤ 0 := by omega
    refine lv_aload_n S.1 S.2.1 dX0_findTrain_9 rfl (lv_at hl 0 rfl) ?_
    refine j_lload_n S dX0_findTrain_10 rfl (lv_at hl 1 rfl) ?_
    refine j_lload_n S dX0_findTrain_11 rfl (lv_at hl 2 rfl) ?_
    refine j_cvm [0, 1, 2, 3, 4] [] (wr := []) (As := [jL p, jL q]) (ci := 0) S (c_X0_findFourGears l D h a0 a1 a2 a3 cA H T E u3 cc gc w d v _ hok p q (iv_w hp (by decide +kernel)) (iv_w hq (by decide +kernel))) (cwV 2 S.2.2.2.2 gX0_findTrain_X0_findFourGears rfl rfl rfl ⟨rfl, hdX0_findFourGears⟩ ⟨Nat.le_of_ble_eq_true rfl, Nat.le_of_ble_eq_true rfl⟩) hK hP hD hS hA rfl rfl rfl rfl (by decide) rfl rfl rfl [] rfl rfl hl.1 (Nat.le_of_ble_eq_true rfl) ⟨Nat.zero_le _, Nat.zero_le _⟩ dX0_findTrain_12 (fun i12 u12 Hp lc q12 hP hD hS => ?_)
    have hP : va_P D vwCl (XW h a0 a1 a2 a3 cA H T E u12 cc gc w d v) Hp := hP
    have hD : va_D A (XW h a0 a1 a2 a3 cA H T E u12 cc gc w d v) := hD
    have r4_ : 0 ≤ i12 ∧ i12 ≤ 1 := by rcases q12 with qq | qq <;> (have := qq.1; omega)
    refine j_if_eq (tgt := 22) S dX0_findTrain_15 (by decide) (iv_i r4_ (by decide +kernel)) (fun c15 => ?_) (fun c15 => ?_)
    · have r5_ : 0 ≤ i12 ∧ i12 ≤ 0 := by omega
      refine j_iconst S dX0_findTrain_22 ?_
      exact hret 0 u12 _ _ 23 _ (fun _ => Or.inl rfl) (by rcases q3 with q3 | q3; exact absurd q3.1 (by omega); rcases q12 with q12 | q12; exact absurd q12.1 (by omega); exact Or.inr ⟨rfl, q3.2, q12.2⟩) hP hD hS dX0_findTrain_23
    · have r6_ : 1 ≤ i12 ∧ i12 ≤ 1 := by omega
      refine j_iconst S dX0_findTrain_18 ?_
      refine j_goto (tgt := 23) S dX0_findTrain_19 (by decide) ?_
      exact hret 1 u12 _ _ 23 _ (fun _ => Or.inr rfl) (by rcases q3 with q3 | q3; exact absurd q3.1 (by omega); rcases q12 with q12 | q12; exact Or.inl ⟨rfl, Or.inr ⟨q3.2, q12.2⟩⟩; exact absurd q12.1 c15) hP hD hS dX0_findTrain_23
abbrev rmX0_train : Room := { frames := 4, cells := 0, slots := 0, locals := 106 }
theorem hdX0_train : yX0_train.cls ≠ "java/lang/invoke/MethodHandle" ∧ yX0_train.cls ≠ "java/lang/invoke/VarHandle" ∧ (parseMethodDescriptor yX0_train.desc).map (fun d => d.parameters.length) = some 3 := by decide +kernel
set_option maxHeartbeats 4000000 in
set_option maxRecDepth 100000 in
theorem c_X0_train (l : Launch) (D : va_G) (h a0 a1 a2 a3 : Nat) (cA : ClassId) (H T E F : Int → Int) (cc gc w d v : Int) (sz : Nat) (hok : SOK H T E cc gc w d v) (p : Int) (q : Int) (what : Int) (hp : inI p) (hq : inI q) (hwhat : inI what) : MMI l yX0_train wsX0_train rmX0_train [.ref h, jI p, jI q, jI what] D cA (XW h a0 a1 a2 a3 cA H T E F cc gc w d v) (fun u : Int → Int => XW h a0 a1 a2 a3 cA H T E u cc gc w d v) sz (fun rR u => P_train gc T p q what rR) := by
  refine MMI_of (cc := cX0_train) (maxL := 4) (Or.inl rfl) (by decide) rfl (Nat.le_of_ble_eq_true rfl) ?_
  intro pP eE sS mM aA bL mT cC QQ ls A S hret hP hK hD hS hA hl
  obtain ⟨hcc, hgc, hw, hd, hv, hH, hT, hE⟩ := id hok
  have hin : ∀ w ∈ wsX00, w ∈ wsX0_train := fun w hw => List.mem_cons_of_mem _ (List.mem_append_right _ hw)
  have hl : lv_has ls 4 [(0, .ref h), (1, jI p), (2, jI q), (3, jI what)] := hl
  refine j_iload_n S dX0_train_0 rfl (lv_at hl 1 rfl) ?_
  refine j_iload_n S dX0_train_1 rfl (lv_at hl 2 rfl) ?_
  refine j_csi (As := [jI p, jI q]) S (c_X0_isNoShare l p q (iv_w hp (by decide +kernel)) (iv_w hq (by decide +kernel))) (va_cwS 2 S.2.2.2.2 gX0_train_X0_isNoShare rfl rfl rfl hdX0_isNoShare ⟨Nat.le_of_ble_eq_true rfl, Nat.le_of_ble_eq_true rfl⟩) [] rfl rfl hl.1 (Nat.le_of_ble_eq_true rfl) ⟨Nat.zero_le _, Nat.zero_le _⟩ dX0_train_2 (fun i2 q2 => ?_)
  subst q2
  refine j_ifb_ne (tgt := 17) S dX0_train_5 (by decide) (fun c5 => ?_) (fun c5 => ?_)
  · refine j_bipush S dX0_train_17 (by decide) ?_
    exact hret (-2) F _ _ 19 _ (fun q => by cases q) (Or.inl ⟨by omega, rfl⟩) hP hD hS dX0_train_19
  · have r1_ : 1 ≤ p ∧ p ≤ 1000000 := by omega
    have r2_ : 1 ≤ q ∧ q ≤ 1000000 := by omega
    refine j_iload_n S dX0_train_8 rfl (lv_at hl 3 rfl) ?_
    refine j_iconst S dX0_train_9 ?_
    refine j_iconst S dX0_train_10 ?_
    refine j_csi (As := [jI what, jI 0, jI 3]) S (c_X0_isOutside l what 0 3 (iv_w hwhat (by decide +kernel)) (iv_w (iv_n 0) (by decide +kernel)) (iv_w (iv_n 3) (by decide +kernel))) (va_cwS 3 S.2.2.2.2 gX0_train_X0_isOutside rfl rfl rfl hdX0_isOutside ⟨Nat.le_of_ble_eq_true rfl, Nat.le_of_ble_eq_true rfl⟩) [] rfl rfl hl.1 (Nat.le_of_ble_eq_true rfl) ⟨Nat.zero_le _, Nat.zero_le _⟩ dX0_train_11 (fun i11 q11 => ?_)
    subst q11
    refine j_ifb_eq (tgt := 20) S dX0_train_14 (by decide) (fun c14 => ?_) (fun c14 => ?_)
    · have r3_ : 0 ≤ what ∧ what ≤ 3 := by omega
      refine lv_aload_n S.1 S.2.1 dX0_train_20 rfl (lv_at hl 0 rfl) ?_
      refine j_iload_n S dX0_train_21 rfl (lv_at hl 1 rfl) ?_
      refine j_i2l S dX0_train_22 (iv_i r1_ (by decide +kernel)) ?_
      refine j_iload_n S dX0_train_23 rfl (lv_at hl 2 rfl) ?_
      refine j_i2l S dX0_train_24 (iv_i r2_ (by decide +kernel)) ?_
      refine j_cvm [0, 1, 2, 3, 4] [] (wr := []) (As := [jL p, jL q]) (ci := 0) S (c_X0_findTrain l D h a0 a1 a2 a3 cA H T E F cc gc w d v _ hok p q (iv_w r1_ (by decide +kernel)) (iv_w r2_ (by decide +kernel))) (cwV 2 S.2.2.2.2 gX0_train_X0_findTrain rfl rfl rfl ⟨rfl, hdX0_findTrain⟩ ⟨Nat.le_of_ble_eq_true rfl, Nat.le_of_ble_eq_true rfl⟩) hK hP hD hS hA rfl rfl rfl rfl (by decide) rfl rfl rfl [] rfl rfl hl.1 (Nat.le_of_ble_eq_true rfl) ⟨Nat.zero_le _, Nat.zero_le _⟩ dX0_train_25 (fun i25 u25 Hp lc q25 hP hD hS => ?_)
      have hP : va_P D vwCl (XW h a0 a1 a2 a3 cA H T E u25 cc gc w d v) Hp := hP
      have hD : va_D A (XW h a0 a1 a2 a3 cA H T E u25 cc gc w d v) := hD
      have r4_ : 0 ≤ i25 ∧ i25 ≤ 1 := by rcases q25 with qq | qq <;> (have := qq.1; omega)
      refine j_if_eq (tgt := 40) S dX0_train_28 (by decide) (iv_i r4_ (by decide +kernel)) (fun c28 => ?_) (fun c28 => ?_)
      · have r5_ : 0 ≤ i25 ∧ i25 ≤ 0 := by omega
        refine j_bipush S dX0_train_40 (by decide) ?_
        exact hret (-6) u25 _ _ 42 _ (fun q => by cases q) (by rcases q25 with qq | qq; exact absurd qq.1 (by omega); exact Or.inr (Or.inl ⟨by omega, qq.2, rfl⟩)) hP hD hS dX0_train_42
      · have r6_ : 1 ≤ i25 ∧ i25 ≤ 1 := by omega
        refine lv_aload_n S.1 S.2.1 dX0_train_31 rfl (lv_at hl 0 rfl) ?_
        refine j_get (v := .ref a3) S hin hK hP rfl rfl 3 (by decide) (List.mem_of_getElem? (i := 1) rfl) rfl dX0_train_32 ?_
        refine j_iload_n S dX0_train_35 rfl (lv_at hl 3 rfl) ?_
        refine j_iald S hK hP 4 0 rfl rfl (iv_ix (n := 4) r3_ (by decide +kernel)) dX0_train_36 ?_
        refine j_goto (tgt := 42) S dX0_train_37 (by decide) ?_
        exact hret (u25 what) u25 _ _ 42 _ (fun q => by cases q) (by rcases q25 with qq | qq; exact Or.inr (Or.inr ⟨by omega, _, _, _, _, qq.2, sel_eq (by omega)⟩); exact absurd qq.1 c28) hP hD hS dX0_train_42
    · refine j_bipush S dX0_train_17 (by decide) ?_
      exact hret (-2) F _ _ 19 _ (fun q => by cases q) (Or.inl ⟨by omega, rfl⟩) hP hD hS dX0_train_19
abbrev rmX0_standsIn : Room := { frames := 4, cells := 0, slots := 0, locals := 106 }
theorem hdX0_standsIn : yX0_standsIn.cls ≠ "java/lang/invoke/MethodHandle" ∧ yX0_standsIn.cls ≠ "java/lang/invoke/VarHandle" ∧ (parseMethodDescriptor yX0_standsIn.desc).map (fun d => d.parameters.length) = some 2 := by decide +kernel
set_option maxHeartbeats 4000000 in
set_option maxRecDepth 100000 in
theorem c_X0_standsIn (l : Launch) (D : va_G) (h a0 a1 a2 a3 : Nat) (cA : ClassId) (H T E F : Int → Int) (cc gc w d v : Int) (sz : Nat) (hok : SOK H T E cc gc w d v) (x : Int) (n : Int) (hx : inI x) (hn : 2 ≤ n ∧ n ≤ 1000) (hxn : -10 ≤ x - n ∧ x - n ≤ 10) (hne : ¬ x = n) : MMI l yX0_standsIn wsX0_standsIn rmX0_standsIn [.ref h, jI x, jI n] D cA (XW h a0 a1 a2 a3 cA H T E F cc gc w d v) (fun u : Int → Int => XW h a0 a1 a2 a3 cA H T E u cc gc w d v) sz (fun rR u => SI w cc H gc T x n rR u) := by
  refine MMI_of (cc := cX0_standsIn) (maxL := 3) (Or.inr rfl) (by decide) rfl (Nat.le_of_ble_eq_true rfl) ?_
  intro pP eE sS mM aA bL mT cC QQ ls A S hret hP hK hD hS hA hl
  obtain ⟨hcc, hgc, hw, hd, hv, hH, hT, hE⟩ := id hok
  have hin : ∀ w ∈ wsX00, w ∈ wsX0_standsIn := fun w hw => List.mem_cons_of_mem _ (List.mem_append_right _ hw)
  have hl : lv_has ls 3 [(0, .ref h), (1, jI x), (2, jI n)] := hl
  refine j_iload_n S dX0_standsIn_0 rfl (lv_at hl 1 rfl) ?_
  refine j_csi (As := [jI x]) S (c_X0_isNoNumberOfParts l x (iv_w hx (by decide +kernel))) (va_cwS 1 S.2.2.2.2 gX0_standsIn_X0_isNoNumberOfParts rfl rfl rfl hdX0_isNoNumberOfParts ⟨Nat.le_of_ble_eq_true rfl, Nat.le_of_ble_eq_true rfl⟩) [] rfl rfl hl.1 (Nat.le_of_ble_eq_true rfl) ⟨Nat.zero_le _, Nat.zero_le _⟩ dX0_standsIn_1 (fun i1 q1 => ?_)
  subst q1
  refine j_ifb_ne (tgt := 42) S dX0_standsIn_4 (by decide) (fun c4 => ?_) (fun c4 => ?_)
  · refine j_iconst S dX0_standsIn_42 ?_
    exact hret 0 F _ _ 43 _ (fun _ => Or.inl rfl) (Or.inr ⟨rfl, fun z9 => absurd z9.1.1 (by omega)⟩) hP hD hS dX0_standsIn_43
  · have r1_ : 2 ≤ x ∧ x ≤ 1000 := by omega
    refine lv_aload_n S.1 S.2.1 dX0_standsIn_7 rfl (lv_at hl 0 rfl) ?_
    refine j_iload_n S dX0_standsIn_8 rfl (lv_at hl 1 rfl) ?_
    refine j_cvi (As := [jI x]) (ci := 0) S (c_X0_plainCircle l D h a0 a1 a2 a3 cA H T E F cc gc w d v hok x (iv_w r1_ (by decide +kernel))) (cwV 1 S.2.2.2.2 gX0_standsIn_X0_plainCircle rfl rfl rfl ⟨rfl, hdX0_plainCircle⟩ ⟨Nat.le_of_ble_eq_true rfl, Nat.le_of_ble_eq_true rfl⟩) hK hP rfl rfl rfl [] rfl rfl hl.1 (Nat.le_of_ble_eq_true rfl) ⟨Nat.zero_le _, Nat.zero_le _⟩ dX0_standsIn_9 (fun i9 q9 => ?_)
    subst q9
    have r2_ : (-6) ≤ (sp_pl w H x cc) ∧ (sp_pl w H x cc) ≤ 7 := sp_pl_iv hcc
    refine j_bipush S dX0_standsIn_12 (by decide) ?_
    refine j_icmp_eq (tgt := 42) S dX0_standsIn_14 (by decide) (iv_i r2_ (by decide +kernel)) (iv_i (iv_n (-6)) (by decide +kernel)) (fun c14 => ?_) (fun c14 => ?_)
    · have r3_ : (-6) ≤ (sp_pl w H x cc) ∧ (sp_pl w H x cc) ≤ (-6) := by omega
      refine j_iconst S dX0_standsIn_42 ?_
      exact hret 0 F _ _ 43 _ (fun _ => Or.inl rfl) (Or.inr ⟨rfl, fun z9 => z9.1.2 c14⟩) hP hD hS dX0_standsIn_43
    · have r4_ : (-5) ≤ (sp_pl w H x cc) ∧ (sp_pl w H x cc) ≤ 7 := by omega
      refine lv_aload_n S.1 S.2.1 dX0_standsIn_17 rfl (lv_at hl 0 rfl) ?_
      refine j_iload_n S dX0_standsIn_18 rfl (lv_at hl 1 rfl) ?_
      refine j_iload_n S dX0_standsIn_19 rfl (lv_at hl 2 rfl) ?_
      refine j_isub S dX0_standsIn_20 ?_
      refine j_mabs S hl.1 (List.mem_of_getElem? (i := 1) rfl) (List.mem_of_getElem? (i := 2) rfl) (List.mem_of_getElem? (i := 3) rfl) (List.mem_of_getElem? (i := 4) rfl) (Nat.le_of_ble_eq_true rfl) (Nat.le_of_ble_eq_true rfl) ⟨Nat.zero_le _, Nat.zero_le _⟩ hxn (by decide +kernel) dX0_standsIn_21 ?_
      have t5_ : (-10) ≤ (x - n) ∧ (x - n) ≤ 10 := hxn
      have r6_ : 0 ≤ ((Int.natAbs (x - n) : Nat) : Int) ∧ ((Int.natAbs (x - n) : Nat) : Int) ≤ 10 := by omega
      have r7_ : 1 ≤ ((Int.natAbs (x - n) : Nat) : Int) ∧ ((Int.natAbs (x - n) : Nat) : Int) ≤ 10 := by omega
      refine lv_aload_n S.1 S.2.1 dX0_standsIn_24 rfl (lv_at hl 0 rfl) ?_
      refine j_get (v := jI w) S hin hK hP rfl rfl 6 (by decide) (List.mem_of_getElem? (i := 5) rfl) rfl dX0_standsIn_25 ?_
      refine j_imul S dX0_standsIn_28 ?_
      refine j_i2l S dX0_standsIn_29 (iv_i (iv_mulp (lo := 10) (hi := 2000) r7_ hw (by decide +kernel)) (by decide +kernel)) ?_
      refine j_iload_n S dX0_standsIn_30 rfl (lv_at hl 1 rfl) ?_
      refine j_i2l S dX0_standsIn_31 (iv_i r1_ (by decide +kernel)) ?_
      refine j_cvm [0, 1, 2, 3, 4] [] (wr := []) (As := [jL (((Int.natAbs (x - n) : Nat) : Int) * w), jL x]) (ci := 0) S (c_X0_findTrain l D h a0 a1 a2 a3 cA H T E F cc gc w d v _ hok (((Int.natAbs (x - n) : Nat) : Int) * w) x (iv_w (iv_mulp (lo := 10) (hi := 2000) r7_ hw (by decide +kernel)) (by decide +kernel)) (iv_w r1_ (by decide +kernel))) (cwV 2 S.2.2.2.2 gX0_standsIn_X0_findTrain rfl rfl rfl ⟨rfl, hdX0_findTrain⟩ ⟨Nat.le_of_ble_eq_true rfl, Nat.le_of_ble_eq_true rfl⟩) hK hP hD hS hA rfl rfl rfl rfl (by decide) rfl rfl rfl [] rfl rfl hl.1 (Nat.le_of_ble_eq_true rfl) ⟨Nat.zero_le _, Nat.zero_le _⟩ dX0_standsIn_32 (fun i32 u32 Hp lc q32 hP hD hS => ?_)
      have hP : va_P D vwCl (XW h a0 a1 a2 a3 cA H T E u32 cc gc w d v) Hp := hP
      have hD : va_D A (XW h a0 a1 a2 a3 cA H T E u32 cc gc w d v) := hD
      have r8_ : 0 ≤ i32 ∧ i32 ≤ 1 := by rcases q32 with qq | qq <;> (have := qq.1; omega)
      refine j_if_eq (tgt := 42) S dX0_standsIn_35 (by decide) (iv_i r8_ (by decide +kernel)) (fun c35 => ?_) (fun c35 => ?_)
      · have r9_ : 0 ≤ i32 ∧ i32 ≤ 0 := by omega
        refine j_iconst S dX0_standsIn_42 ?_
        exact hret 0 u32 _ _ 43 _ (fun _ => Or.inl rfl) (by rcases q32 with qq | qq; exact absurd qq.1 (by omega); exact Or.inr ⟨rfl, fun z9 => z9.2 qq.2⟩) hP hD hS dX0_standsIn_43
      · have r10_ : 1 ≤ i32 ∧ i32 ≤ 1 := by omega
        refine j_iconst S dX0_standsIn_38 ?_
        refine j_goto (tgt := 43) S dX0_standsIn_39 (by decide) ?_
        exact hret 1 u32 _ _ 43 _ (fun _ => Or.inr rfl) (by rcases q32 with qq | qq; exact Or.inl ⟨rfl, ⟨by omega, c14⟩, qq.2⟩; exact absurd qq.1 c35) hP hD hS dX0_standsIn_43
abbrev rmX0_partsBeside : Room := { frames := 5, cells := 0, slots := 0, locals := 128 }
theorem hdX0_partsBeside : yX0_partsBeside.cls ≠ "java/lang/invoke/MethodHandle" ∧ yX0_partsBeside.cls ≠ "java/lang/invoke/VarHandle" ∧ (parseMethodDescriptor yX0_partsBeside.desc).map (fun d => d.parameters.length) = some 1 := by decide +kernel
set_option maxHeartbeats 4000000 in
set_option maxRecDepth 100000 in
theorem c_X0_partsBeside (l : Launch) (D : va_G) (h a0 a1 a2 a3 : Nat) (cA : ClassId) (H T E F : Int → Int) (cc gc w d v : Int) (sz : Nat) (hok : SOK H T E cc gc w d v) (n : Int) (hn : 2 ≤ n ∧ n ≤ 1000) : MMI l yX0_partsBeside wsX0_partsBeside rmX0_partsBeside [.ref h, jI n] D cA (XW h a0 a1 a2 a3 cA H T E F cc gc w d v) (fun u : Int → Int => XW h a0 a1 a2 a3 cA H T E u cc gc w d v) sz (fun rR u => PB w cc H gc T n rR u) := by
  refine MMI_of (cc := cX0_partsBeside) (maxL := 3) (Or.inl rfl) (by decide) rfl (Nat.le_of_ble_eq_true rfl) ?_
  intro pP eE sS mM aA bL mT cC QQ ls A S hret hP hK hD hS hA hl
  obtain ⟨hcc, hgc, hw, hd, hv, hH, hT, hE⟩ := id hok
  have hin : ∀ w ∈ wsX00, w ∈ wsX0_partsBeside := fun w hw => List.mem_cons_of_mem _ (List.mem_append_right _ hw)
  have hl : lv_has ls 3 [(0, .ref h), (1, jI n)] := hl
  refine j_iconst S dX0_partsBeside_0 ?_
  refine j_istore_n (lv' := [(2, jI 1), (0, .ref h), (1, jI n)]) S dX0_partsBeside_1 rfl hl (by decide) rfl (fun ls hl => ?_)
  have loop2 : ∀ (N : Nat) (F : Int → Int) (Hp : Heap) (lc : List Loc) (hP : va_P D vwCl (XW h a0 a1 a2 a3 cA H T E F cc gc w d v) Hp) (hD : va_D A (XW h a0 a1 a2 a3 cA H T E F cc gc w d v)) (hS : va_S A sS.heap Hp lc) (k : Int) (ls : Array Slot), (1 ≤ k ∧ k ≤ 11) → (∀ j, 2 ≤ j → j < 2 * k → ¬ Gd w cc H gc T n j) → 11 - k < (N : Int) → lv_has ls 3 [(2, jI k), (0, .ref h), (1, jI n)] → W pP l eE rmX0_partsBeside sS mM aA bL mT cC Hp lc 0 0 QQ (F0 mM 2 ls []) := by
    intro N
    induction N with
    | zero =>
      intro F Hp lc hP hD hS k ls hk hz hN
      exact absurd hN (by omega)
    | succ N ih2 =>
      intro F Hp lc hP hD hS k ls hk hz hN hl
      refine j_iload_n S dX0_partsBeside_2 rfl (lv_at hl 0 rfl) ?_
      refine j_bipush S dX0_partsBeside_3 (by decide) ?_
      refine j_icmp_gt (tgt := 44) S dX0_partsBeside_5 (by decide) (iv_i hk (by decide +kernel)) (iv_i (iv_n 10) (by decide +kernel)) (fun c5 => ?_) (fun c5 => ?_)
      · have r1_ : 11 ≤ k ∧ k ≤ 11 := by omega
        refine j_bipush S dX0_partsBeside_44 (by decide) ?_
        exact hret (-6) F _ _ 46 _ (fun q => by cases q) (Or.inr ⟨fun j a b => hz j a (by omega), rfl⟩) hP hD hS dX0_partsBeside_46
      · have r2_ : 1 ≤ k ∧ k ≤ 10 := by omega
        refine lv_aload_n S.1 S.2.1 dX0_partsBeside_8 rfl (lv_at hl 1 rfl) ?_
        refine j_iload_n S dX0_partsBeside_9 rfl (lv_at hl 2 rfl) ?_
        refine j_iload_n S dX0_partsBeside_10 rfl (lv_at hl 0 rfl) ?_
        refine j_isub S dX0_partsBeside_11 ?_
        refine j_iload_n S dX0_partsBeside_12 rfl (lv_at hl 2 rfl) ?_
        refine j_cvm [0, 1, 2, 3, 4] [] (wr := []) (As := [jI (n - k), jI n]) (ci := 0) S (c_X0_standsIn l D h a0 a1 a2 a3 cA H T E F cc gc w d v _ hok (n - k) n (iv_w (iv_sub (lo := (-8)) (hi := 999) hn r2_ (by decide +kernel)) (by decide +kernel)) (iv_w hn (by decide +kernel)) (by omega) (by omega)) (cwV 2 S.2.2.2.2 gX0_partsBeside_X0_standsIn rfl rfl rfl ⟨rfl, hdX0_standsIn⟩ ⟨Nat.le_of_ble_eq_true rfl, Nat.le_of_ble_eq_true rfl⟩) hK hP hD hS hA rfl rfl rfl rfl (by decide) rfl rfl rfl [] rfl rfl hl.1 (Nat.le_of_ble_eq_true rfl) ⟨Nat.zero_le _, Nat.zero_le _⟩ dX0_partsBeside_13 (fun i13 u13 Hp lc q13 hP hD hS => ?_)
        have hP : va_P D vwCl (XW h a0 a1 a2 a3 cA H T E u13 cc gc w d v) Hp := hP
        have hD : va_D A (XW h a0 a1 a2 a3 cA H T E u13 cc gc w d v) := hD
        have r3_ : 0 ≤ i13 ∧ i13 ≤ 1 := by rcases q13 with qq | qq <;> (have := qq.1; omega)
        refine j_if_eq (tgt := 23) S dX0_partsBeside_16 (by decide) (iv_i r3_ (by decide +kernel)) (fun c16 => ?_) (fun c16 => ?_)
        · have r4_ : 0 ≤ i13 ∧ i13 ≤ 0 := by omega
          refine lv_aload_n S.1 S.2.1 dX0_partsBeside_23 rfl (lv_at hl 1 rfl) ?_
          refine j_iload_n S dX0_partsBeside_24 rfl (lv_at hl 2 rfl) ?_
          refine j_iload_n S dX0_partsBeside_25 rfl (lv_at hl 0 rfl) ?_
          refine j_iadd S dX0_partsBeside_26 ?_
          refine j_iload_n S dX0_partsBeside_27 rfl (lv_at hl 2 rfl) ?_
          refine j_cvm [0, 1, 2, 3, 4] [] (wr := []) (As := [jI (n + k), jI n]) (ci := 0) S (c_X0_standsIn l D h a0 a1 a2 a3 cA H T E u13 cc gc w d v _ hok (n + k) n (iv_w (iv_add (lo := 3) (hi := 1010) hn r2_ (by decide +kernel)) (by decide +kernel)) (iv_w hn (by decide +kernel)) (by omega) (by omega)) (cwV 2 S.2.2.2.2 gX0_partsBeside_X0_standsIn rfl rfl rfl ⟨rfl, hdX0_standsIn⟩ ⟨Nat.le_of_ble_eq_true rfl, Nat.le_of_ble_eq_true rfl⟩) hK hP hD hS hA rfl rfl rfl rfl (by decide) rfl rfl rfl [] rfl rfl hl.1 (Nat.le_of_ble_eq_true rfl) ⟨Nat.zero_le _, Nat.zero_le _⟩ dX0_partsBeside_28 (fun i28 u28 Hp lc q28 hP hD hS => ?_)
          have hP : va_P D vwCl (XW h a0 a1 a2 a3 cA H T E u28 cc gc w d v) Hp := hP
          have hD : va_D A (XW h a0 a1 a2 a3 cA H T E u28 cc gc w d v) := hD
          have r5_ : 0 ≤ i28 ∧ i28 ≤ 1 := by rcases q28 with qq | qq <;> (have := qq.1; omega)
          refine j_if_eq (tgt := 38) S dX0_partsBeside_31 (by decide) (iv_i r5_ (by decide +kernel)) (fun c31 => ?_) (fun c31 => ?_)
          · have r6_ : 0 ≤ i28 ∧ i28 ≤ 0 := by omega
            refine j_iinc (k := 0) (y := (k + 1)) (lv' := [(2, jI (k + 1)), (0, .ref h), (1, jI n)]) S dX0_partsBeside_38 hl rfl rfl (by decide) rfl (fun ls hl => ?_)
            refine j_goto (tgt := 2) S dX0_partsBeside_41 (by decide) ?_
            exact ih2 u28 Hp lc hP hD hS (k + 1) _ (by omega) (PB_s (by omega) hz q13 c16 q28 c31) (by omega) (lv_sub hl [0, 1, 2] rfl)
          · have r7_ : 1 ≤ i28 ∧ i28 ≤ 1 := by omega
            refine j_iload_n S dX0_partsBeside_34 rfl (lv_at hl 2 rfl) ?_
            refine j_iload_n S dX0_partsBeside_35 rfl (lv_at hl 0 rfl) ?_
            refine j_iadd S dX0_partsBeside_36 ?_
            exact hret (n + k) u28 _ _ 37 _ (fun q => by cases q) (PB_o (by omega) hz q13 c16 q28 c31) hP hD hS dX0_partsBeside_37
        · have r8_ : 1 ≤ i13 ∧ i13 ≤ 1 := by omega
          refine j_iload_n S dX0_partsBeside_19 rfl (lv_at hl 2 rfl) ?_
          refine j_iload_n S dX0_partsBeside_20 rfl (lv_at hl 0 rfl) ?_
          refine j_isub S dX0_partsBeside_21 ?_
          exact hret (n - k) u13 _ _ 22 _ (fun q => by cases q) (PB_e (by omega) hz q13 c16) hP hD hS dX0_partsBeside_22
  exact loop2 11 F sS.heap [] hP hD hS 1 _ (by omega) (fun j a1 a2 => absurd a2 (by omega)) (by omega) (lv_sub hl [0, 1, 2] rfl)
abbrev rmX0_differential : Room := { frames := 6, cells := 0, slots := 0, locals := 150 }
theorem hdX0_differential : yX0_differential.cls ≠ "java/lang/invoke/MethodHandle" ∧ yX0_differential.cls ≠ "java/lang/invoke/VarHandle" ∧ (parseMethodDescriptor yX0_differential.desc).map (fun d => d.parameters.length) = some 2 := by decide +kernel
set_option maxHeartbeats 4000000 in
set_option maxRecDepth 100000 in
theorem c_X0_differential (l : Launch) (D : va_G) (h a0 a1 a2 a3 : Nat) (cA : ClassId) (H T E F : Int → Int) (cc gc w d v : Int) (sz : Nat) (hok : SOK H T E cc gc w d v) (n : Int) (what : Int) (hn : inI n) (hwhat : inI what) : MMI l yX0_differential wsX0_differential rmX0_differential [.ref h, jI n, jI what] D cA (XW h a0 a1 a2 a3 cA H T E F cc gc w d v) (fun u : Int → Int => XW h a0 a1 a2 a3 cA H T E u cc gc w d v) sz (fun rR u => P_diff w cc H gc T n what rR) := by
  refine MMI_of (cc := cX0_differential) (maxL := 4) (Or.inl rfl) (by decide) rfl (Nat.le_of_ble_eq_true rfl) ?_
  intro pP eE sS mM aA bL mT cC QQ ls A S hret hP hK hD hS hA hl
  obtain ⟨hcc, hgc, hw, hd, hv, hH, hT, hE⟩ := id hok
  have hin : ∀ w ∈ wsX00, w ∈ wsX0_differential := fun w hw => List.mem_cons_of_mem _ (List.mem_append_right _ hw)
  have hl : lv_has ls 4 [(0, .ref h), (1, jI n), (2, jI what)] := hl
  refine j_iload_n S dX0_differential_0 rfl (lv_at hl 1 rfl) ?_
  refine j_csi (As := [jI n]) S (c_X0_isNoNumberOfParts l n (iv_w hn (by decide +kernel))) (va_cwS 1 S.2.2.2.2 gX0_differential_X0_isNoNumberOfParts rfl rfl rfl hdX0_isNoNumberOfParts ⟨Nat.le_of_ble_eq_true rfl, Nat.le_of_ble_eq_true rfl⟩) [] rfl rfl hl.1 (Nat.le_of_ble_eq_true rfl) ⟨Nat.zero_le _, Nat.zero_le _⟩ dX0_differential_1 (fun i1 q1 => ?_)
  subst q1
  refine j_ifb_ne (tgt := 17) S dX0_differential_4 (by decide) (fun c4 => ?_) (fun c4 => ?_)
  · refine j_bipush S dX0_differential_17 (by decide) ?_
    exact hret (-2) F _ _ 19 _ (fun q => by cases q) (Or.inl ⟨by omega, rfl⟩) hP hD hS dX0_differential_19
  · have r1_ : 2 ≤ n ∧ n ≤ 1000 := by omega
    refine j_iload_n S dX0_differential_7 rfl (lv_at hl 2 rfl) ?_
    refine j_iconst S dX0_differential_8 ?_
    refine j_bipush S dX0_differential_9 (by decide) ?_
    refine j_csi (As := [jI what, jI 0, jI 6]) S (c_X0_isOutside l what 0 6 (iv_w hwhat (by decide +kernel)) (iv_w (iv_n 0) (by decide +kernel)) (iv_w (iv_n 6) (by decide +kernel))) (va_cwS 3 S.2.2.2.2 gX0_differential_X0_isOutside rfl rfl rfl hdX0_isOutside ⟨Nat.le_of_ble_eq_true rfl, Nat.le_of_ble_eq_true rfl⟩) [] rfl rfl hl.1 (Nat.le_of_ble_eq_true rfl) ⟨Nat.zero_le _, Nat.zero_le _⟩ dX0_differential_11 (fun i11 q11 => ?_)
    subst q11
    refine j_ifb_eq (tgt := 20) S dX0_differential_14 (by decide) (fun c14 => ?_) (fun c14 => ?_)
    · have r2_ : 0 ≤ what ∧ what ≤ 6 := by omega
      refine lv_aload_n S.1 S.2.1 dX0_differential_20 rfl (lv_at hl 0 rfl) ?_
      refine j_iload_n S dX0_differential_21 rfl (lv_at hl 1 rfl) ?_
      refine j_cvm [0, 1, 2, 3, 4] [] (wr := []) (As := [jI n]) (ci := 0) S (c_X0_partsBeside l D h a0 a1 a2 a3 cA H T E F cc gc w d v _ hok n (iv_w r1_ (by decide +kernel))) (cwV 1 S.2.2.2.2 gX0_differential_X0_partsBeside rfl rfl rfl ⟨rfl, hdX0_partsBeside⟩ ⟨Nat.le_of_ble_eq_true rfl, Nat.le_of_ble_eq_true rfl⟩) hK hP hD hS hA rfl rfl rfl rfl (by decide) rfl rfl rfl [] rfl rfl hl.1 (Nat.le_of_ble_eq_true rfl) ⟨Nat.zero_le _, Nat.zero_le _⟩ dX0_differential_22 (fun i22 u22 Hp lc q22 hP hD hS => ?_)
      have hP : va_P D vwCl (XW h a0 a1 a2 a3 cA H T E u22 cc gc w d v) Hp := hP
      have hD : va_D A (XW h a0 a1 a2 a3 cA H T E u22 cc gc w d v) := hD
      have r3_ : (-6) ≤ i22 ∧ i22 ≤ 1000 := by rcases q22 with ⟨j, -, hg, -, -, e⟩ | ⟨-, e⟩; have := hg.1; omega; omega
      refine j_istore_n (lv' := [(3, jI i22), (0, .ref h), (1, jI n), (2, jI what)]) S dX0_differential_25 rfl hl (by decide) rfl (fun ls hl => ?_)
      refine j_iload_n S dX0_differential_26 rfl (lv_at hl 3 rfl) ?_
      refine j_if_eq (tgt := 36) S dX0_differential_27 (by decide) (iv_i r2_ (by decide +kernel)) (fun c27 => ?_) (fun c27 => ?_)
      · have r4_ : 0 ≤ what ∧ what ≤ 0 := by omega
        refine j_iload_n S dX0_differential_36 rfl (lv_at hl 0 rfl) ?_
        exact hret i22 u22 _ _ 37 _ (fun q => by cases q) (by rcases q22 with ⟨j, h1, h2, h3, h4, h5⟩ | ⟨h1, h2⟩; exact Or.inr (Or.inr ⟨by omega, j, _, _, _, _, h1, h2, h3, h4, by have := h2.1; unfold dsel; rw [if_pos (by omega), h5]⟩); exact Or.inr (Or.inl ⟨by omega, h1, h2⟩)) hP hD hS dX0_differential_37
      · have r5_ : 1 ≤ what ∧ what ≤ 6 := by omega
        refine j_iload_n S dX0_differential_30 rfl (lv_at hl 0 rfl) ?_
        refine j_bipush S dX0_differential_31 (by decide) ?_
        refine j_icmp_ne (tgt := 38) S dX0_differential_33 (by decide) (iv_i r3_ (by decide +kernel)) (iv_i (iv_n (-6)) (by decide +kernel)) (fun c33 => ?_) (fun c33 => ?_)
        · have r6_ : (-5) ≤ i22 ∧ i22 ≤ 1000 := by omega
          have r7_ : 2 ≤ i22 ∧ i22 ≤ 1000 := by rcases q22 with ⟨j, -, hg, -, -, e⟩ | ⟨-, e⟩; have := hg.1; omega; exact absurd e c33
          refine j_iload_n S dX0_differential_38 rfl (lv_at hl 3 rfl) ?_
          refine j_iconst S dX0_differential_39 ?_
          refine j_icmp_ne (tgt := 49) S dX0_differential_40 (by decide) (iv_i r5_ (by decide +kernel)) (iv_i (iv_n 1) (by decide +kernel)) (fun c40 => ?_) (fun c40 => ?_)
          · have r8_ : 2 ≤ what ∧ what ≤ 6 := by omega
            refine j_iload_n S dX0_differential_49 rfl (lv_at hl 3 rfl) ?_
            refine j_bipush S dX0_differential_50 (by decide) ?_
            refine j_icmp_ne (tgt := 66) S dX0_differential_52 (by decide) (iv_i r8_ (by decide +kernel)) (iv_i (iv_n 6) (by decide +kernel)) (fun c52 => ?_) (fun c52 => ?_)
            · have r9_ : 2 ≤ what ∧ what ≤ 5 := by omega
              refine lv_aload_n S.1 S.2.1 dX0_differential_66 rfl (lv_at hl 1 rfl) ?_
              refine j_get (v := .ref a3) S hin hK hP rfl rfl 3 (by decide) (List.mem_of_getElem? (i := 1) rfl) rfl dX0_differential_67 ?_
              refine j_iload_n S dX0_differential_70 rfl (lv_at hl 3 rfl) ?_
              refine j_iconst S dX0_differential_71 ?_
              refine j_isub S dX0_differential_72 ?_
              refine j_iald S hK hP 4 0 rfl rfl (iv_ix (n := 4) (iv_sub (lo := 0) (hi := 3) r9_ (iv_n 2) (by decide +kernel)) (by decide +kernel)) dX0_differential_73 ?_
              exact hret (u22 (what - 2)) u22 _ _ 74 _ (fun q => by cases q) (by rcases q22 with ⟨j, h1, h2, h3, h4, h5⟩ | ⟨h1, h2⟩; exact Or.inr (Or.inr ⟨by omega, j, _, _, _, _, h1, h2, h3, h4, by unfold dsel; rw [if_neg (by omega), if_neg (by omega), if_neg (by omega)]; exact sel_eq (by omega)⟩); exact absurd h2 c33) hP hD hS dX0_differential_74
            · have r10_ : 6 ≤ what ∧ what ≤ 6 := by omega
              refine j_iload_n S dX0_differential_55 rfl (lv_at hl 0 rfl) ?_
              refine j_iload_n S dX0_differential_56 rfl (lv_at hl 2 rfl) ?_
              refine j_icmp_le (tgt := 64) S dX0_differential_57 (by decide) (iv_i r7_ (by decide +kernel)) (iv_i r1_ (by decide +kernel)) (fun c57 => ?_) (fun c57 => ?_)
              · refine j_iconst S dX0_differential_64 ?_
                exact hret 0 u22 _ _ 65 _ (fun q => by cases q) (by rcases q22 with ⟨j, h1, h2, h3, h4, h5⟩ | ⟨h1, h2⟩; exact Or.inr (Or.inr ⟨by omega, j, _, _, _, _, h1, h2, h3, h4, by unfold dsel; rw [if_neg (by omega), if_neg (by omega), if_pos (by omega), ← h5, if_neg (by omega)]⟩); exact absurd h2 c33) hP hD hS dX0_differential_65
              · have r11_ : 2 ≤ n ∧ n ≤ 999 := by omega
                have r12_ : 3 ≤ i22 ∧ i22 ≤ 1000 := by omega
                refine j_iconst S dX0_differential_60 ?_
                refine j_goto (tgt := 65) S dX0_differential_61 (by decide) ?_
                exact hret 1 u22 _ _ 65 _ (fun q => by cases q) (by rcases q22 with ⟨j, h1, h2, h3, h4, h5⟩ | ⟨h1, h2⟩; exact Or.inr (Or.inr ⟨by omega, j, _, _, _, _, h1, h2, h3, h4, by unfold dsel; rw [if_neg (by omega), if_neg (by omega), if_pos (by omega), ← h5, if_pos (by omega)]⟩); exact absurd h2 c33) hP hD hS dX0_differential_65
          · have r13_ : 1 ≤ what ∧ what ≤ 1 := by omega
            refine lv_aload_n S.1 S.2.1 dX0_differential_43 rfl (lv_at hl 1 rfl) ?_
            refine j_iload_n S dX0_differential_44 rfl (lv_at hl 0 rfl) ?_
            refine j_cvi (As := [jI i22]) (ci := 0) S (c_X0_plainCircle l D h a0 a1 a2 a3 cA H T E u22 cc gc w d v hok i22 (iv_w r7_ (by decide +kernel))) (cwV 1 S.2.2.2.2 gX0_differential_X0_plainCircle rfl rfl rfl ⟨rfl, hdX0_plainCircle⟩ ⟨Nat.le_of_ble_eq_true rfl, Nat.le_of_ble_eq_true rfl⟩) hK hP rfl rfl rfl [] rfl rfl hl.1 (Nat.le_of_ble_eq_true rfl) ⟨Nat.zero_le _, Nat.zero_le _⟩ dX0_differential_45 (fun i45 q45 => ?_)
            subst q45
            have r14_ : (-6) ≤ (sp_pl w H i22 cc) ∧ (sp_pl w H i22 cc) ≤ 7 := sp_pl_iv hcc
            exact hret (sp_pl w H i22 cc) u22 _ _ 48 _ (fun q => by cases q) (by rcases q22 with ⟨j, h1, h2, h3, h4, h5⟩ | ⟨h1, h2⟩; exact Or.inr (Or.inr ⟨by omega, j, _, _, _, _, h1, h2, h3, h4, by unfold dsel; rw [if_neg (by omega), if_pos (by omega), ← h5]⟩); exact absurd h2 c33) hP hD hS dX0_differential_48
        · have r15_ : (-6) ≤ i22 ∧ i22 ≤ (-6) := by omega
          refine j_iload_n S dX0_differential_36 rfl (lv_at hl 0 rfl) ?_
          exact hret i22 u22 _ _ 37 _ (fun q => by cases q) (by rcases q22 with ⟨j, h1, h2, h3, h4, h5⟩ | ⟨h1, h2⟩; exact Or.inr (Or.inr ⟨by omega, j, _, _, _, _, h1, h2, h3, h4, by have := h2.1; unfold dsel; rw [if_pos (by omega), h5]⟩); exact Or.inr (Or.inl ⟨by omega, h1, h2⟩)) hP hD hS dX0_differential_37
    · refine j_bipush S dX0_differential_17 (by decide) ?_
      exact hret (-2) F _ _ 19 _ (fun q => by cases q) (Or.inl ⟨by omega, rfl⟩) hP hD hS dX0_differential_19
