abbrev rmX1_put : Room := { frames := 0, cells := 0, slots := 0, locals := 0 }
theorem hdX1_put : yX1_put.cls ≠ "java/lang/invoke/MethodHandle" ∧ yX1_put.cls ≠ "java/lang/invoke/VarHandle" ∧ (parseMethodDescriptor yX1_put.desc).map (fun d => d.parameters.length) = some 4 := by decide +kernel
set_option maxHeartbeats 4000000 in
set_option maxRecDepth 100000 in
theorem c_X1_put (l : Launch) (D : va_G) (h a0 a1 a2 a3 : Nat) (cA : ClassId) (H T E F : Int → Int) (cc gc w d v : Int) (sz : Nat) (hok : SOK H T E cc gc w d v) (g1 : Int) (g2 : Int) (g3 : Int) (g4 : Int) (hg1 : inI g1) (hg2 : inI g2) (hg3 : inI g3) (hg4 : inI g4) : MMV l yX1_put wsX1_put rmX1_put [.ref h, jI g1, jI g2, jI g3, jI g4] D cA (MW h a0 a1 a2 a3 cA H T E F cc gc w d v) (fun u : Int → Int => MW h a0 a1 a2 a3 cA H T E u cc gc w d v) sz (fun u => u 0 = g1 ∧ u 1 = g2 ∧ u 2 = g3 ∧ u 3 = g4) := by
  refine MMV_of (cc := cX1_put) (maxL := 5) (by decide) rfl (Nat.le_of_ble_eq_true rfl) ?_
  intro pP eE sS mM aA bL mT cC QQ ls A S hret hP hK hD hS hA hl
  obtain ⟨hcc, hgc, hw, hd, hv, hH, hT, hE⟩ := id hok
  have hin : ∀ w ∈ wsX10, w ∈ wsX1_put := fun w hw => List.mem_cons_of_mem _ (List.mem_append_right _ hw)
  have hl : lv_has ls 5 [(0, .ref h), (1, jI g1), (2, jI g2), (3, jI g3), (4, jI g4)] := hl
  refine lv_aload_n S.1 S.2.1 dX1_put_0 rfl (lv_at hl 0 rfl) ?_
  refine j_get (v := .ref a3) S hin hK hP rfl rfl 8 (by decide) (List.mem_of_getElem? (i := 1) rfl) rfl dX1_put_1 ?_
  refine j_iconst S dX1_put_4 ?_
  refine j_iload_n S dX1_put_5 rfl (lv_at hl 1 rfl) ?_
  refine j_iast (ws1 := (MW h a0 a1 a2 a3 cA H T E (jU F 0 g1) cc gc w d v)) S hK hP hD hS 4 0 rfl rfl (iv_ix (n := 4) (iv_n 0) (by decide +kernel)) rfl dX1_put_6 (fun Hp lc hP hD hS => ?_)
  refine lv_aload_n S.1 S.2.1 dX1_put_7 rfl (lv_at hl 0 rfl) ?_
  refine j_get (v := .ref a3) S hin hK hP rfl rfl 8 (by decide) (List.mem_of_getElem? (i := 1) rfl) rfl dX1_put_8 ?_
  refine j_iconst S dX1_put_11 ?_
  refine j_iload_n S dX1_put_12 rfl (lv_at hl 2 rfl) ?_
  refine j_iast (ws1 := (MW h a0 a1 a2 a3 cA H T E (jU (jU F 0 g1) 1 g2) cc gc w d v)) S hK hP hD hS 4 0 rfl rfl (iv_ix (n := 4) (iv_n 1) (by decide +kernel)) rfl dX1_put_13 (fun Hp lc hP hD hS => ?_)
  refine lv_aload_n S.1 S.2.1 dX1_put_14 rfl (lv_at hl 0 rfl) ?_
  refine j_get (v := .ref a3) S hin hK hP rfl rfl 8 (by decide) (List.mem_of_getElem? (i := 1) rfl) rfl dX1_put_15 ?_
  refine j_iconst S dX1_put_18 ?_
  refine j_iload_n S dX1_put_19 rfl (lv_at hl 3 rfl) ?_
  refine j_iast (ws1 := (MW h a0 a1 a2 a3 cA H T E (jU (jU (jU F 0 g1) 1 g2) 2 g3) cc gc w d v)) S hK hP hD hS 4 0 rfl rfl (iv_ix (n := 4) (iv_n 2) (by decide +kernel)) rfl dX1_put_20 (fun Hp lc hP hD hS => ?_)
  refine lv_aload_n S.1 S.2.1 dX1_put_21 rfl (lv_at hl 0 rfl) ?_
  refine j_get (v := .ref a3) S hin hK hP rfl rfl 8 (by decide) (List.mem_of_getElem? (i := 1) rfl) rfl dX1_put_22 ?_
  refine j_iconst S dX1_put_25 ?_
  refine j_iload S dX1_put_26 (lv_at hl 4 rfl) ?_
  refine j_iast (ws1 := (MW h a0 a1 a2 a3 cA H T E (jU (jU (jU (jU F 0 g1) 1 g2) 2 g3) 3 g4) cc gc w d v)) S hK hP hD hS 4 0 rfl rfl (iv_ix (n := 4) (iv_n 3) (by decide +kernel)) rfl dX1_put_28 (fun Hp lc hP hD hS => ?_)
  exact hret (jU (jU (jU (jU F 0 g1) 1 g2) 2 g3) 3 g4) _ _ 29 _ ⟨by simp [jU], by simp [jU], by simp [jU], by simp [jU]⟩ hP hD hS dX1_put_29
abbrev rmX1_isTrain : Room := { frames := 1, cells := 0, slots := 0, locals := 24 }
theorem hdX1_isTrain : yX1_isTrain.cls ≠ "java/lang/invoke/MethodHandle" ∧ yX1_isTrain.cls ≠ "java/lang/invoke/VarHandle" ∧ (parseMethodDescriptor yX1_isTrain.desc).map (fun d => d.parameters.length) = some 2 := by decide +kernel
set_option maxHeartbeats 4000000 in
set_option maxRecDepth 100000 in
theorem c_X1_isTrain (l : Launch) (D : va_G) (h a0 a1 a2 a3 : Nat) (cA : ClassId) (H T E F : Int → Int) (cc gc w d v : Int) (sz : Nat) (hok : SOK H T E cc gc w d v) (p : Int) (q : Int) (hp : 1 ≤ p ∧ p ≤ 1000000) (hq : 1 ≤ q ∧ q ≤ 1000000) : MMI l yX1_isTrain wsX1_isTrain rmX1_isTrain [.ref h, jL p, jL q] D cA (MW h a0 a1 a2 a3 cA H T E F cc gc w d v) (fun u : Int → Int => MW h a0 a1 a2 a3 cA H T E u cc gc w d v) sz (fun rR u => (rR = 1 ∧ Tr gc T p q (u 0) (u 1) (u 2) (u 3)) ∨ (rR = 0 ∧ NoTr gc T p q)) := by
  refine MMI_of (cc := cX1_isTrain) (maxL := 12) (Or.inr rfl) (by decide) rfl (Nat.le_of_ble_eq_true rfl) ?_
  intro pP eE sS mM aA bL mT cC QQ ls A S hret hP hK hD hS hA hl
  obtain ⟨hcc, hgc, hw, hd, hv, hH, hT, hE⟩ := id hok
  have hin : ∀ w ∈ wsX10, w ∈ wsX1_isTrain := fun w hw => List.mem_cons_of_mem _ (List.mem_append_right _ hw)
  have hl : lv_has ls 12 [(0, .ref h), (1, jL p), (3, jL q)] := hl
  refine j_iconst S dX1_isTrain_0 ?_
  refine j_istore (lv' := [(5, jI 0), (0, .ref h), (1, jL p), (3, jL q)]) S dX1_isTrain_1 hl (by decide) rfl (fun ls hl => ?_)
  have loop3 : ∀ (N : Nat) (x1 : Int) (ls : Array Slot), (0 ≤ x1 ∧ x1 ≤ 10) → (x1 ≤ gc) → (∀ a b, 0 ≤ a → a < x1 → 0 ≤ b → b < gc → ¬ Q2 T p q a b) → gc - x1 < (N : Int) → lv_has ls 12 [(5, jI x1), (0, .ref h), (1, jL p), (3, jL q)] → W pP l eE rmX1_isTrain sS mM aA bL mT cC sS.heap [] 0 0 QQ (F0 mM 3 ls []) := by
    intro N
    induction N with
    | zero =>
      intro x1 ls hx1 hx1c hz hN
      exact absurd hN (by omega)
    | succ N ih3 =>
      intro x1 ls hx1 hx1c hz hN hl
      refine j_iload S dX1_isTrain_3 (lv_at hl 0 rfl) ?_
      refine lv_aload_n S.1 S.2.1 dX1_isTrain_5 rfl (lv_at hl 1 rfl) ?_
      refine j_get (v := jI gc) S hin hK hP rfl rfl 3 (by decide) (List.mem_of_getElem? (i := 1) rfl) rfl dX1_isTrain_6 ?_
      refine j_icmp_ge (tgt := 81) S dX1_isTrain_9 (by decide) (iv_i hx1 (by decide +kernel)) (iv_i hgc (by decide +kernel)) (fun c9 => ?_) (fun c9 => ?_)
      · refine j_iconst S dX1_isTrain_81 ?_
        refine j_istore (lv' := [(5, jI 0), (0, .ref h), (1, jL p), (3, jL q)]) S dX1_isTrain_82 hl (by decide) rfl (fun ls hl => ?_)
        have loop84 : ∀ (N : Nat) (k : Int) (ls : Array Slot), (0 ≤ k ∧ k ≤ 10000) → (∀ a b c d, 0 ≤ a → a < gc → 0 ≤ b → b < gc → 0 ≤ c → c < gc → 0 ≤ d → d < gc → 1000 * a + 100 * b + 10 * c + d < k → ¬ Q4 T p q a b c d) → 10000 - k < (N : Int) → lv_has ls 12 [(5, jI k), (0, .ref h), (1, jL p), (3, jL q)] → W pP l eE rmX1_isTrain sS mM aA bL mT cC sS.heap [] 0 0 QQ (F0 mM 84 ls []) := by
          intro N
          induction N with
          | zero =>
            intro k ls hk hz4 hN
            exact absurd hN (by omega)
          | succ N ih84 =>
            intro k ls hk hz4 hN hl
            refine j_iload S dX1_isTrain_84 (lv_at hl 0 rfl) ?_
            refine j_sipush S dX1_isTrain_86 (by decide) ?_
            refine j_icmp_ge (tgt := 291) S dX1_isTrain_89 (by decide) (iv_i hk (by decide +kernel)) (iv_i (iv_n 10000) (by decide +kernel)) (fun c89 => ?_) (fun c89 => ?_)
            · have r1_ : 10000 ≤ k ∧ k ≤ 10000 := by omega
              refine j_iconst S dX1_isTrain_291 ?_
              exact hret 0 F _ _ 292 _ (fun _ => Or.inl rfl) (Or.inr ⟨rfl, (fun a b a1 a2 b1 b2 => hz a b a1 (by omega) b1 b2), (fun a b c d a1 a2 b1 b2 e1 e2 f1 f2 => hz4 a b c d a1 a2 b1 b2 e1 e2 f1 f2 (by omega))⟩) hP hD hS dX1_isTrain_292
            · have r2_ : 0 ≤ k ∧ k ≤ 9999 := by omega
              refine j_iload S dX1_isTrain_92 (lv_at hl 0 rfl) ?_
              refine j_sipush S dX1_isTrain_94 (by decide) ?_
              refine j_idivp S dX1_isTrain_97 (iv_i r2_ (by decide +kernel)) (iv_pi (iv_n 1000) (by decide +kernel)) (iv_nn r2_ (by decide +kernel)) ?_
              refine j_istore (lv' := [(6, jI (k / 1000)), (5, jI k), (0, .ref h), (1, jL p), (3, jL q)]) S dX1_isTrain_98 hl (by decide) rfl (fun ls hl => ?_)
              refine j_iload S dX1_isTrain_100 (lv_at hl 1 rfl) ?_
              refine j_bipush S dX1_isTrain_102 (by decide) ?_
              refine j_idivp S dX1_isTrain_104 (iv_i r2_ (by decide +kernel)) (iv_pi (iv_n 100) (by decide +kernel)) (iv_nn r2_ (by decide +kernel)) ?_
              refine j_bipush S dX1_isTrain_105 (by decide) ?_
              refine j_iremp S dX1_isTrain_107 (iv_i (iv_div (lo := 0) (hi := 9999) r2_ (by have := (iv_n 100); omega) (by decide +kernel)) (by decide +kernel)) (iv_pi (iv_n 10) (by decide +kernel)) (iv_nn (iv_div (lo := 0) (hi := 9999) r2_ (by have := (iv_n 100); omega) (by decide +kernel)) (by decide +kernel)) ?_
              refine j_istore (lv' := [(7, jI ((k / 100) % 10)), (6, jI (k / 1000)), (5, jI k), (0, .ref h), (1, jL p), (3, jL q)]) S dX1_isTrain_108 hl (by decide) rfl (fun ls hl => ?_)
              refine j_iload S dX1_isTrain_110 (lv_at hl 2 rfl) ?_
              refine j_bipush S dX1_isTrain_112 (by decide) ?_
              refine j_idivp S dX1_isTrain_114 (iv_i r2_ (by decide +kernel)) (iv_pi (iv_n 10) (by decide +kernel)) (iv_nn r2_ (by decide +kernel)) ?_
              refine j_bipush S dX1_isTrain_115 (by decide) ?_
              refine j_iremp S dX1_isTrain_117 (iv_i (iv_div (lo := 0) (hi := 9999) r2_ (by have := (iv_n 10); omega) (by decide +kernel)) (by decide +kernel)) (iv_pi (iv_n 10) (by decide +kernel)) (iv_nn (iv_div (lo := 0) (hi := 9999) r2_ (by have := (iv_n 10); omega) (by decide +kernel)) (by decide +kernel)) ?_
              refine j_istore (lv' := [(8, jI ((k / 10) % 10)), (7, jI ((k / 100) % 10)), (6, jI (k / 1000)), (5, jI k), (0, .ref h), (1, jL p), (3, jL q)]) S dX1_isTrain_118 hl (by decide) rfl (fun ls hl => ?_)
              refine j_iload S dX1_isTrain_120 (lv_at hl 3 rfl) ?_
              refine j_bipush S dX1_isTrain_122 (by decide) ?_
              refine j_iremp S dX1_isTrain_124 (iv_i r2_ (by decide +kernel)) (iv_pi (iv_n 10) (by decide +kernel)) (iv_nn r2_ (by decide +kernel)) ?_
              refine j_istore (lv' := [(9, jI (k % 10)), (8, jI ((k / 10) % 10)), (7, jI ((k / 100) % 10)), (6, jI (k / 1000)), (5, jI k), (0, .ref h), (1, jL p), (3, jL q)]) S dX1_isTrain_125 hl (by decide) rfl (fun ls hl => ?_)
              have cut127 : ∀ (x6 x7 x8 x9 : Int) (ls : Array Slot), (k = 1000 * x6 + 100 * x7 + 10 * x8 + x9) → (0 ≤ x6 ∧ x6 ≤ 9) → (0 ≤ x7 ∧ x7 ≤ 9) → (0 ≤ x8 ∧ x8 ≤ 9) → (0 ≤ x9 ∧ x9 ≤ 9) → lv_has ls 12 [(9, jI x9), (8, jI x8), (7, jI x7), (6, jI x6), (5, jI k), (0, .ref h), (1, jL p), (3, jL q)] → W pP l eE rmX1_isTrain sS mM aA bL mT cC sS.heap [] 0 0 QQ (F0 mM 127 ls []) := by
                intro x6 x7 x8 x9 ls hdg hx6 hx7 hx8 hx9 hl
                have cut174 : ∀ (z : Int) (ls : Array Slot), ((z = 1 ∧ (x6 ≠ x7 ∧ x6 ≠ x8 ∧ x6 ≠ x9 ∧ x7 ≠ x8 ∧ x7 ≠ x9 ∧ x8 ≠ x9)) ∨ (z = 0 ∧ ¬ (x6 ≠ x7 ∧ x6 ≠ x8 ∧ x6 ≠ x9 ∧ x7 ≠ x8 ∧ x7 ≠ x9 ∧ x8 ≠ x9))) → (0 ≤ z ∧ z ≤ 1) → lv_has ls 12 [(9, jI x9), (8, jI x8), (7, jI x7), (6, jI x6), (5, jI k), (0, .ref h), (1, jL p), (3, jL q)] → W pP l eE rmX1_isTrain sS mM aA bL mT cC sS.heap [] 0 0 QQ (F0 mM 174 ls [jI z]) := by
                  intro z ls hz174 hzi hl
                  refine j_istore (lv' := [(10, jI z), (9, jI x9), (8, jI x8), (7, jI x7), (6, jI x6), (5, jI k), (0, .ref h), (1, jL p), (3, jL q)]) S dX1_isTrain_174 hl (by decide) rfl (fun ls hl => ?_)
                  have cut217 : ∀ (y : Int) (ls : Array Slot), ((y = 1 ∧ (x6 < gc ∧ x7 < gc ∧ x8 < gc ∧ x9 < gc)) ∨ (y = 0 ∧ ¬ (x6 < gc ∧ x7 < gc ∧ x8 < gc ∧ x9 < gc))) → (0 ≤ y ∧ y ≤ 1) → lv_has ls 12 [(10, jI z), (9, jI x9), (8, jI x8), (7, jI x7), (6, jI x6), (5, jI k), (0, .ref h), (1, jL p), (3, jL q)] → W pP l eE rmX1_isTrain sS mM aA bL mT cC sS.heap [] 0 0 QQ (F0 mM 217 ls [jI y]) := by
                    intro y ls hy217 hyi hl
                    refine j_istore (lv' := [(11, jI y), (10, jI z), (9, jI x9), (8, jI x8), (7, jI x7), (6, jI x6), (5, jI k), (0, .ref h), (1, jL p), (3, jL q)]) S dX1_isTrain_217 hl (by decide) rfl (fun ls hl => ?_)
                    refine j_iload S dX1_isTrain_219 (lv_at hl 1 rfl) ?_
                    refine j_if_eq (tgt := 285) S dX1_isTrain_221 (by decide) (iv_i hzi (by decide +kernel)) (fun c221 => ?_) (fun c221 => ?_)
                    · have r3_ : 0 ≤ z ∧ z ≤ 0 := by omega
                      refine j_iinc (k := 6) (y := (k + 1)) (lv' := [(5, jI (k + 1)), (11, jI y), (10, jI z), (9, jI x9), (8, jI x8), (7, jI x7), (6, jI x6), (0, .ref h), (1, jL p), (3, jL q)]) S dX1_isTrain_285 hl rfl rfl (by decide) rfl (fun ls hl => ?_)
                      refine j_goto (tgt := 84) S dX1_isTrain_288 (by decide) ?_
                      exact ih84 (k + 1) _ (by omega) (m4_step (by omega) hdg hx6 hx7 hx8 hx9 hz4 (fun z9 => by rcases hz174 with hz174 | hz174; omega; exact hz174.2 z9.2.1)) (by omega) (lv_sub hl [0, 7, 8, 9] rfl)
                    · have r4_ : 1 ≤ z ∧ z ≤ 1 := by omega
                      refine j_iload S dX1_isTrain_224 (lv_at hl 0 rfl) ?_
                      refine j_if_eq (tgt := 285) S dX1_isTrain_226 (by decide) (iv_i hyi (by decide +kernel)) (fun c226 => ?_) (fun c226 => ?_)
                      · have r5_ : 0 ≤ y ∧ y ≤ 0 := by omega
                        refine j_iinc (k := 6) (y := (k + 1)) (lv' := [(5, jI (k + 1)), (11, jI y), (10, jI z), (9, jI x9), (8, jI x8), (7, jI x7), (6, jI x6), (0, .ref h), (1, jL p), (3, jL q)]) S dX1_isTrain_285 hl rfl rfl (by decide) rfl (fun ls hl => ?_)
                        refine j_goto (tgt := 84) S dX1_isTrain_288 (by decide) ?_
                        exact ih84 (k + 1) _ (by omega) (m4_step (by omega) hdg hx6 hx7 hx8 hx9 hz4 (fun z9 => by rcases hy217 with hy217 | hy217; omega; exact hy217.2 z9.1)) (by omega) (lv_sub hl [0, 7, 8, 9] rfl)
                      · have r6_ : 1 ≤ y ∧ y ≤ 1 := by omega
                        refine lv_aload_n S.1 S.2.1 dX1_isTrain_229 rfl (lv_at hl 7 rfl) ?_
                        refine j_get (v := .ref a1) S hin hK hP rfl rfl 4 (by decide) (List.mem_of_getElem? (i := 2) rfl) rfl dX1_isTrain_230 ?_
                        refine j_iload S dX1_isTrain_233 (lv_at hl 5 rfl) ?_
                        refine j_iald S hK hP 2 0 rfl rfl (iv_ix (n := 10) hx6 (by decide +kernel)) dX1_isTrain_235 ?_
                        have r7_ := hT x6 (by omega) (by omega)
                        refine j_i2l S dX1_isTrain_236 (iv_i r7_ (by decide +kernel)) ?_
                        refine lv_aload_n S.1 S.2.1 dX1_isTrain_237 rfl (lv_at hl 7 rfl) ?_
                        refine j_get (v := .ref a1) S hin hK hP rfl rfl 4 (by decide) (List.mem_of_getElem? (i := 2) rfl) rfl dX1_isTrain_238 ?_
                        refine j_iload S dX1_isTrain_241 (lv_at hl 3 rfl) ?_
                        refine j_iald S hK hP 2 0 rfl rfl (iv_ix (n := 10) hx8 (by decide +kernel)) dX1_isTrain_243 ?_
                        have r8_ := hT x8 (by omega) (by omega)
                        refine j_i2l S dX1_isTrain_244 (iv_i r8_ (by decide +kernel)) ?_
                        refine j_lmul S dX1_isTrain_245 ?_
                        refine j_lload_n S dX1_isTrain_246 rfl (lv_at hl 9 rfl) ?_
                        refine j_lmul S dX1_isTrain_247 ?_
                        refine lv_aload_n S.1 S.2.1 dX1_isTrain_248 rfl (lv_at hl 7 rfl) ?_
                        refine j_get (v := .ref a1) S hin hK hP rfl rfl 4 (by decide) (List.mem_of_getElem? (i := 2) rfl) rfl dX1_isTrain_249 ?_
                        refine j_iload S dX1_isTrain_252 (lv_at hl 4 rfl) ?_
                        refine j_iald S hK hP 2 0 rfl rfl (iv_ix (n := 10) hx7 (by decide +kernel)) dX1_isTrain_254 ?_
                        have r9_ := hT x7 (by omega) (by omega)
                        refine j_i2l S dX1_isTrain_255 (iv_i r9_ (by decide +kernel)) ?_
                        refine lv_aload_n S.1 S.2.1 dX1_isTrain_256 rfl (lv_at hl 7 rfl) ?_
                        refine j_get (v := .ref a1) S hin hK hP rfl rfl 4 (by decide) (List.mem_of_getElem? (i := 2) rfl) rfl dX1_isTrain_257 ?_
                        refine j_iload S dX1_isTrain_260 (lv_at hl 2 rfl) ?_
                        refine j_iald S hK hP 2 0 rfl rfl (iv_ix (n := 10) hx9 (by decide +kernel)) dX1_isTrain_262 ?_
                        have r10_ := hT x9 (by omega) (by omega)
                        refine j_i2l S dX1_isTrain_263 (iv_i r10_ (by decide +kernel)) ?_
                        refine j_lmul S dX1_isTrain_264 ?_
                        refine j_lload_n S dX1_isTrain_265 rfl (lv_at hl 8 rfl) ?_
                        refine j_lmul S dX1_isTrain_266 ?_
                        refine j_lcmp_ne (pc1 := 268) (tgt := 285) S rfl dX1_isTrain_267 dX1_isTrain_268 (by decide) (iv_l (iv_mulp (lo := 144) (hi := 14400000000) (iv_mulp (lo := 144) (hi := 14400) r7_ r8_ (by decide +kernel)) hq (by decide +kernel)) (by decide +kernel)) (iv_l (iv_mulp (lo := 144) (hi := 14400000000) (iv_mulp (lo := 144) (hi := 14400) r9_ r10_ (by decide +kernel)) hp (by decide +kernel)) (by decide +kernel)) (fun c267 => ?_) (fun c267 => ?_)
                        · refine j_iinc (k := 6) (y := (k + 1)) (lv' := [(5, jI (k + 1)), (11, jI y), (10, jI z), (9, jI x9), (8, jI x8), (7, jI x7), (6, jI x6), (0, .ref h), (1, jL p), (3, jL q)]) S dX1_isTrain_285 hl rfl rfl (by decide) rfl (fun ls hl => ?_)
                          refine j_goto (tgt := 84) S dX1_isTrain_288 (by decide) ?_
                          exact ih84 (k + 1) _ (by omega) (m4_step (by omega) hdg hx6 hx7 hx8 hx9 hz4 (fun z9 => c267 z9.2.2)) (by omega) (lv_sub hl [0, 7, 8, 9] rfl)
                        · refine lv_aload_n S.1 S.2.1 dX1_isTrain_271 rfl (lv_at hl 7 rfl) ?_
                          refine j_iload S dX1_isTrain_272 (lv_at hl 5 rfl) ?_
                          refine j_iload S dX1_isTrain_274 (lv_at hl 4 rfl) ?_
                          refine j_iload S dX1_isTrain_276 (lv_at hl 3 rfl) ?_
                          refine j_iload S dX1_isTrain_278 (lv_at hl 2 rfl) ?_
                          refine j_cvv [0, 1, 2, 3, 4] [] (wr := []) (As := [jI x6, jI x7, jI x8, jI x9]) (ci := 1) S (c_X1_put l D h a0 a1 a2 a3 cA H T E F cc gc w d v _ hok x6 x7 x8 x9 (iv_w hx6 (by decide +kernel)) (iv_w hx7 (by decide +kernel)) (iv_w hx8 (by decide +kernel)) (iv_w hx9 (by decide +kernel))) (cwV 4 S.2.2.2.2 gX1_isTrain_X1_put rfl rfl rfl ⟨rfl, hdX1_put⟩ ⟨Nat.le_of_ble_eq_true rfl, Nat.le_of_ble_eq_true rfl⟩) hK hP hD hS hA rfl rfl rfl rfl (by decide) rfl rfl rfl [] rfl rfl hl.1 (Nat.le_of_ble_eq_true rfl) ⟨Nat.zero_le _, Nat.zero_le _⟩ dX1_isTrain_280 (fun u280 Hp lc q280 hP hD hS => ?_)
                          have hP : va_P D vwCl (MW h a0 a1 a2 a3 cA H T E u280 cc gc w d v) Hp := hP
                          have hD : va_D A (MW h a0 a1 a2 a3 cA H T E u280 cc gc w d v) := hD
                          refine j_iconst S dX1_isTrain_283 ?_
                          exact hret 1 u280 _ _ 284 _ (fun _ => Or.inr rfl) (Or.inl ⟨rfl, Or.inr ⟨(fun a b a1 a2 b1 b2 => hz a b a1 (by omega) b1 b2), by rw [q280.1, q280.2.1, q280.2.2.1, q280.2.2.2]; rcases hz174 with hz174 | hz174; exact ⟨by omega, by omega, by omega, by omega, ⟨hz174.2, c267⟩, fun a b c d a1 a2 b1 b2 e1 e2 f1 f2 hlt => hz4 a b c d a1 a2 b1 b2 e1 e2 f1 f2 (by omega)⟩; exact absurd hz174.1 c221⟩⟩) hP hD hS dX1_isTrain_284
                  refine j_iload S dX1_isTrain_176 (lv_at hl 4 rfl) ?_
                  refine lv_aload_n S.1 S.2.1 dX1_isTrain_178 rfl (lv_at hl 6 rfl) ?_
                  refine j_get (v := jI gc) S hin hK hP rfl rfl 3 (by decide) (List.mem_of_getElem? (i := 1) rfl) rfl dX1_isTrain_179 ?_
                  refine j_icmp_ge (tgt := 216) S dX1_isTrain_182 (by decide) (iv_i hx6 (by decide +kernel)) (iv_i hgc (by decide +kernel)) (fun c182 => ?_) (fun c182 => ?_)
                  · have r11_ : 0 ≤ gc ∧ gc ≤ 9 := by omega
                    refine j_iconst S dX1_isTrain_216 ?_
                    exact cut217 0 _ (Or.inr ⟨rfl, by omega⟩) (by omega) (lv_sub hl [0, 1, 2, 3, 4, 5, 6, 7, 8] rfl)
                  · have r12_ : 1 ≤ gc ∧ gc ≤ 10 := by omega
                    refine j_iload S dX1_isTrain_185 (lv_at hl 3 rfl) ?_
                    refine lv_aload_n S.1 S.2.1 dX1_isTrain_187 rfl (lv_at hl 6 rfl) ?_
                    refine j_get (v := jI gc) S hin hK hP rfl rfl 3 (by decide) (List.mem_of_getElem? (i := 1) rfl) rfl dX1_isTrain_188 ?_
                    refine j_icmp_ge (tgt := 216) S dX1_isTrain_191 (by decide) (iv_i hx7 (by decide +kernel)) (iv_i r12_ (by decide +kernel)) (fun c191 => ?_) (fun c191 => ?_)
                    · have r13_ : 1 ≤ gc ∧ gc ≤ 9 := by omega
                      have r14_ : 1 ≤ x7 ∧ x7 ≤ 9 := by omega
                      refine j_iconst S dX1_isTrain_216 ?_
                      exact cut217 0 _ (Or.inr ⟨rfl, by omega⟩) (by omega) (lv_sub hl [0, 1, 2, 3, 4, 5, 6, 7, 8] rfl)
                    · refine j_iload S dX1_isTrain_194 (lv_at hl 2 rfl) ?_
                      refine lv_aload_n S.1 S.2.1 dX1_isTrain_196 rfl (lv_at hl 6 rfl) ?_
                      refine j_get (v := jI gc) S hin hK hP rfl rfl 3 (by decide) (List.mem_of_getElem? (i := 1) rfl) rfl dX1_isTrain_197 ?_
                      refine j_icmp_ge (tgt := 216) S dX1_isTrain_200 (by decide) (iv_i hx8 (by decide +kernel)) (iv_i r12_ (by decide +kernel)) (fun c200 => ?_) (fun c200 => ?_)
                      · have r15_ : 1 ≤ gc ∧ gc ≤ 9 := by omega
                        have r16_ : 1 ≤ x8 ∧ x8 ≤ 9 := by omega
                        refine j_iconst S dX1_isTrain_216 ?_
                        exact cut217 0 _ (Or.inr ⟨rfl, by omega⟩) (by omega) (lv_sub hl [0, 1, 2, 3, 4, 5, 6, 7, 8] rfl)
                      · refine j_iload S dX1_isTrain_203 (lv_at hl 1 rfl) ?_
                        refine lv_aload_n S.1 S.2.1 dX1_isTrain_205 rfl (lv_at hl 6 rfl) ?_
                        refine j_get (v := jI gc) S hin hK hP rfl rfl 3 (by decide) (List.mem_of_getElem? (i := 1) rfl) rfl dX1_isTrain_206 ?_
                        refine j_icmp_ge (tgt := 216) S dX1_isTrain_209 (by decide) (iv_i hx9 (by decide +kernel)) (iv_i r12_ (by decide +kernel)) (fun c209 => ?_) (fun c209 => ?_)
                        · have r17_ : 1 ≤ gc ∧ gc ≤ 9 := by omega
                          have r18_ : 1 ≤ x9 ∧ x9 ≤ 9 := by omega
                          refine j_iconst S dX1_isTrain_216 ?_
                          exact cut217 0 _ (Or.inr ⟨rfl, by omega⟩) (by omega) (lv_sub hl [0, 1, 2, 3, 4, 5, 6, 7, 8] rfl)
                        · refine j_iconst S dX1_isTrain_212 ?_
                          refine j_goto (tgt := 217) S dX1_isTrain_213 (by decide) ?_
                          exact cut217 1 _ (Or.inl ⟨rfl, by omega⟩) (by omega) (lv_sub hl [0, 1, 2, 3, 4, 5, 6, 7, 8] rfl)
                refine j_iload S dX1_isTrain_127 (lv_at hl 3 rfl) ?_
                refine j_iload S dX1_isTrain_129 (lv_at hl 2 rfl) ?_
                refine j_icmp_eq (tgt := 173) S dX1_isTrain_131 (by decide) (iv_i hx6 (by decide +kernel)) (iv_i hx7 (by decide +kernel)) (fun c131 => ?_) (fun c131 => ?_)
                · refine j_iconst S dX1_isTrain_173 ?_
                  exact cut174 0 _ (Or.inr ⟨rfl, by omega⟩) (by omega) (lv_sub hl [0, 1, 2, 3, 4, 5, 6, 7] rfl)
                · refine j_iload S dX1_isTrain_134 (lv_at hl 3 rfl) ?_
                  refine j_iload S dX1_isTrain_136 (lv_at hl 1 rfl) ?_
                  refine j_icmp_eq (tgt := 173) S dX1_isTrain_138 (by decide) (iv_i hx6 (by decide +kernel)) (iv_i hx8 (by decide +kernel)) (fun c138 => ?_) (fun c138 => ?_)
                  · refine j_iconst S dX1_isTrain_173 ?_
                    exact cut174 0 _ (Or.inr ⟨rfl, by omega⟩) (by omega) (lv_sub hl [0, 1, 2, 3, 4, 5, 6, 7] rfl)
                  · refine j_iload S dX1_isTrain_141 (lv_at hl 3 rfl) ?_
                    refine j_iload S dX1_isTrain_143 (lv_at hl 0 rfl) ?_
                    refine j_icmp_eq (tgt := 173) S dX1_isTrain_145 (by decide) (iv_i hx6 (by decide +kernel)) (iv_i hx9 (by decide +kernel)) (fun c145 => ?_) (fun c145 => ?_)
                    · refine j_iconst S dX1_isTrain_173 ?_
                      exact cut174 0 _ (Or.inr ⟨rfl, by omega⟩) (by omega) (lv_sub hl [0, 1, 2, 3, 4, 5, 6, 7] rfl)
                    · refine j_iload S dX1_isTrain_148 (lv_at hl 2 rfl) ?_
                      refine j_iload S dX1_isTrain_150 (lv_at hl 1 rfl) ?_
                      refine j_icmp_eq (tgt := 173) S dX1_isTrain_152 (by decide) (iv_i hx7 (by decide +kernel)) (iv_i hx8 (by decide +kernel)) (fun c152 => ?_) (fun c152 => ?_)
                      · refine j_iconst S dX1_isTrain_173 ?_
                        exact cut174 0 _ (Or.inr ⟨rfl, by omega⟩) (by omega) (lv_sub hl [0, 1, 2, 3, 4, 5, 6, 7] rfl)
                      · refine j_iload S dX1_isTrain_155 (lv_at hl 2 rfl) ?_
                        refine j_iload S dX1_isTrain_157 (lv_at hl 0 rfl) ?_
                        refine j_icmp_eq (tgt := 173) S dX1_isTrain_159 (by decide) (iv_i hx7 (by decide +kernel)) (iv_i hx9 (by decide +kernel)) (fun c159 => ?_) (fun c159 => ?_)
                        · refine j_iconst S dX1_isTrain_173 ?_
                          exact cut174 0 _ (Or.inr ⟨rfl, by omega⟩) (by omega) (lv_sub hl [0, 1, 2, 3, 4, 5, 6, 7] rfl)
                        · refine j_iload S dX1_isTrain_162 (lv_at hl 1 rfl) ?_
                          refine j_iload S dX1_isTrain_164 (lv_at hl 0 rfl) ?_
                          refine j_icmp_eq (tgt := 173) S dX1_isTrain_166 (by decide) (iv_i hx8 (by decide +kernel)) (iv_i hx9 (by decide +kernel)) (fun c166 => ?_) (fun c166 => ?_)
                          · refine j_iconst S dX1_isTrain_173 ?_
                            exact cut174 0 _ (Or.inr ⟨rfl, by omega⟩) (by omega) (lv_sub hl [0, 1, 2, 3, 4, 5, 6, 7] rfl)
                          · refine j_iconst S dX1_isTrain_169 ?_
                            refine j_goto (tgt := 174) S dX1_isTrain_170 (by decide) ?_
                            exact cut174 1 _ (Or.inl ⟨rfl, by omega⟩) (by omega) (lv_sub hl [0, 1, 2, 3, 4, 5, 6, 7] rfl)
              exact cut127 (k / 1000) ((k / 100) % 10) ((k / 10) % 10) (k % 10) _ (by omega) (by omega) (by omega) (by omega) (by omega) (lv_sub hl [0, 1, 2, 3, 4, 5, 6, 7] rfl)
        exact loop84 10001 0 _ (by omega) (fun a b c d a1 a2 b1 b2 e1 e2 f1 f2 hlt => absurd hlt (by omega)) (by omega) (lv_sub hl [0, 1, 2, 3] rfl)
      · have r19_ : 0 ≤ x1 ∧ x1 ≤ 9 := by omega
        have r20_ : 1 ≤ gc ∧ gc ≤ 10 := by omega
        refine j_iconst S dX1_isTrain_12 ?_
        refine j_istore (lv' := [(6, jI 0), (5, jI x1), (0, .ref h), (1, jL p), (3, jL q)]) S dX1_isTrain_13 hl (by decide) rfl (fun ls hl => ?_)
        have loop15 : ∀ (N : Nat) (x2 : Int) (ls : Array Slot), (0 ≤ x2 ∧ x2 ≤ 10) → (x2 ≤ gc) → (∀ b, 0 ≤ b → b < x2 → ¬ Q2 T p q x1 b) → gc - x2 < (N : Int) → lv_has ls 12 [(6, jI x2), (5, jI x1), (0, .ref h), (1, jL p), (3, jL q)] → W pP l eE rmX1_isTrain sS mM aA bL mT cC sS.heap [] 0 0 QQ (F0 mM 15 ls []) := by
          intro N
          induction N with
          | zero =>
            intro x2 ls hx2 hx2c hz2 hN
            exact absurd hN (by omega)
          | succ N ih15 =>
            intro x2 ls hx2 hx2c hz2 hN hl
            refine j_iload S dX1_isTrain_15 (lv_at hl 0 rfl) ?_
            refine lv_aload_n S.1 S.2.1 dX1_isTrain_17 rfl (lv_at hl 2 rfl) ?_
            refine j_get (v := jI gc) S hin hK hP rfl rfl 3 (by decide) (List.mem_of_getElem? (i := 1) rfl) rfl dX1_isTrain_18 ?_
            refine j_icmp_ge (tgt := 75) S dX1_isTrain_21 (by decide) (iv_i hx2 (by decide +kernel)) (iv_i r20_ (by decide +kernel)) (fun c21 => ?_) (fun c21 => ?_)
            · have r21_ : 1 ≤ x2 ∧ x2 ≤ 10 := by omega
              refine j_iinc (k := 1) (y := (x1 + 1)) (lv' := [(5, jI (x1 + 1)), (6, jI x2), (0, .ref h), (1, jL p), (3, jL q)]) S dX1_isTrain_75 hl rfl rfl (by decide) rfl (fun ls hl => ?_)
              refine j_goto (tgt := 3) S dX1_isTrain_78 (by decide) ?_
              exact ih3 (x1 + 1) _ (by omega) (by omega) (fun a b a1 a2 b1 b2 => by by_cases e : a = x1; rw [e]; exact hz2 b b1 (by omega); exact hz a b a1 (by omega) b1 b2) (by omega) (lv_sub hl [0, 2, 3, 4] rfl)
            · have r22_ : 0 ≤ x2 ∧ x2 ≤ 9 := by omega
              refine j_iload S dX1_isTrain_24 (lv_at hl 1 rfl) ?_
              refine j_iload S dX1_isTrain_26 (lv_at hl 0 rfl) ?_
              refine j_icmp_eq (tgt := 69) S dX1_isTrain_28 (by decide) (iv_i r19_ (by decide +kernel)) (iv_i r22_ (by decide +kernel)) (fun c28 => ?_) (fun c28 => ?_)
              · refine j_iinc (k := 0) (y := (x2 + 1)) (lv' := [(6, jI (x2 + 1)), (5, jI x1), (0, .ref h), (1, jL p), (3, jL q)]) S dX1_isTrain_69 hl rfl rfl (by decide) rfl (fun ls hl => ?_)
                refine j_goto (tgt := 15) S dX1_isTrain_72 (by decide) ?_
                exact ih15 (x2 + 1) _ (by omega) (by omega) (fun b b1 b2 => by by_cases e : b = x2; rw [e]; exact (fun z9 => z9.1 c28); exact hz2 b b1 (by omega)) (by omega) (lv_sub hl [0, 1, 2, 3, 4] rfl)
              · refine lv_aload_n S.1 S.2.1 dX1_isTrain_31 rfl (lv_at hl 2 rfl) ?_
                refine j_get (v := .ref a1) S hin hK hP rfl rfl 4 (by decide) (List.mem_of_getElem? (i := 2) rfl) rfl dX1_isTrain_32 ?_
                refine j_iload S dX1_isTrain_35 (lv_at hl 1 rfl) ?_
                refine j_iald S hK hP 2 0 rfl rfl (iv_ix (n := 10) r19_ (by decide +kernel)) dX1_isTrain_37 ?_
                have r23_ := hT x1 (by omega) (by omega)
                refine j_i2l S dX1_isTrain_38 (iv_i r23_ (by decide +kernel)) ?_
                refine j_lload_n S dX1_isTrain_39 rfl (lv_at hl 4 rfl) ?_
                refine j_lmul S dX1_isTrain_40 ?_
                refine lv_aload_n S.1 S.2.1 dX1_isTrain_41 rfl (lv_at hl 2 rfl) ?_
                refine j_get (v := .ref a1) S hin hK hP rfl rfl 4 (by decide) (List.mem_of_getElem? (i := 2) rfl) rfl dX1_isTrain_42 ?_
                refine j_iload S dX1_isTrain_45 (lv_at hl 0 rfl) ?_
                refine j_iald S hK hP 2 0 rfl rfl (iv_ix (n := 10) r22_ (by decide +kernel)) dX1_isTrain_47 ?_
                have r24_ := hT x2 (by omega) (by omega)
                refine j_i2l S dX1_isTrain_48 (iv_i r24_ (by decide +kernel)) ?_
                refine j_lload_n S dX1_isTrain_49 rfl (lv_at hl 3 rfl) ?_
                refine j_lmul S dX1_isTrain_50 ?_
                refine j_lcmp_ne (pc1 := 52) (tgt := 69) S rfl dX1_isTrain_51 dX1_isTrain_52 (by decide) (iv_l (iv_mulp (lo := 12) (hi := 120000000) r23_ hq (by decide +kernel)) (by decide +kernel)) (iv_l (iv_mulp (lo := 12) (hi := 120000000) r24_ hp (by decide +kernel)) (by decide +kernel)) (fun c51 => ?_) (fun c51 => ?_)
                · refine j_iinc (k := 0) (y := (x2 + 1)) (lv' := [(6, jI (x2 + 1)), (5, jI x1), (0, .ref h), (1, jL p), (3, jL q)]) S dX1_isTrain_69 hl rfl rfl (by decide) rfl (fun ls hl => ?_)
                  refine j_goto (tgt := 15) S dX1_isTrain_72 (by decide) ?_
                  exact ih15 (x2 + 1) _ (by omega) (by omega) (fun b b1 b2 => by by_cases e : b = x2; rw [e]; exact (fun z9 => c51 z9.2); exact hz2 b b1 (by omega)) (by omega) (lv_sub hl [0, 1, 2, 3, 4] rfl)
                · refine lv_aload_n S.1 S.2.1 dX1_isTrain_55 rfl (lv_at hl 2 rfl) ?_
                  refine j_iload S dX1_isTrain_56 (lv_at hl 1 rfl) ?_
                  refine j_iload S dX1_isTrain_58 (lv_at hl 0 rfl) ?_
                  refine j_bipush S dX1_isTrain_60 (by decide) ?_
                  refine j_bipush S dX1_isTrain_62 (by decide) ?_
                  refine j_cvv [0, 1, 2, 3, 4] [] (wr := []) (As := [jI x1, jI x2, jI (-6), jI (-6)]) (ci := 1) S (c_X1_put l D h a0 a1 a2 a3 cA H T E F cc gc w d v _ hok x1 x2 (-6) (-6) (iv_w r19_ (by decide +kernel)) (iv_w r22_ (by decide +kernel)) (iv_w (iv_n (-6)) (by decide +kernel)) (iv_w (iv_n (-6)) (by decide +kernel))) (cwV 4 S.2.2.2.2 gX1_isTrain_X1_put rfl rfl rfl ⟨rfl, hdX1_put⟩ ⟨Nat.le_of_ble_eq_true rfl, Nat.le_of_ble_eq_true rfl⟩) hK hP hD hS hA rfl rfl rfl rfl (by decide) rfl rfl rfl [] rfl rfl hl.1 (Nat.le_of_ble_eq_true rfl) ⟨Nat.zero_le _, Nat.zero_le _⟩ dX1_isTrain_64 (fun u64 Hp lc q64 hP hD hS => ?_)
                  have hP : va_P D vwCl (MW h a0 a1 a2 a3 cA H T E u64 cc gc w d v) Hp := hP
                  have hD : va_D A (MW h a0 a1 a2 a3 cA H T E u64 cc gc w d v) := hD
                  refine j_iconst S dX1_isTrain_67 ?_
                  exact hret 1 u64 _ _ 68 _ (fun _ => Or.inr rfl) (Or.inl ⟨rfl, Or.inl ⟨by rw [q64.1, q64.2.1]; exact ⟨by omega, by omega, ⟨c28, c51⟩, (fun a b a1 a2 b1 b2 hlt => by by_cases e : a < x1; exact hz a b a1 e b1 b2; rw [show a = x1 from by omega]; exact hz2 b b1 (by omega))⟩, q64.2.2.1, q64.2.2.2⟩⟩) hP hD hS dX1_isTrain_68
        exact loop15 11 0 _ (by omega) (by omega) (fun b a1 a2 => absurd a2 (by omega)) (by omega) (lv_sub hl [0, 1, 2, 3, 4] rfl)
  exact loop3 11 0 _ (by omega) (by omega) (fun a b a1 a2 => absurd a2 (by omega)) (by omega) (lv_sub hl [0, 1, 2, 3] rfl)
abbrev rmX1_train : Room := { frames := 2, cells := 0, slots := 0, locals := 55 }
theorem hdX1_train : yX1_train.cls ≠ "java/lang/invoke/MethodHandle" ∧ yX1_train.cls ≠ "java/lang/invoke/VarHandle" ∧ (parseMethodDescriptor yX1_train.desc).map (fun d => d.parameters.length) = some 3 := by decide +kernel
set_option maxHeartbeats 4000000 in
set_option maxRecDepth 100000 in
theorem c_X1_train (l : Launch) (D : va_G) (h a0 a1 a2 a3 : Nat) (cA : ClassId) (H T E F : Int → Int) (cc gc w d v : Int) (sz : Nat) (hok : SOK H T E cc gc w d v) (p : Int) (q : Int) (what : Int) (hp : inI p) (hq : inI q) (hwhat : inI what) : MMI l yX1_train wsX1_train rmX1_train [.ref h, jI p, jI q, jI what] D cA (MW h a0 a1 a2 a3 cA H T E F cc gc w d v) (fun u : Int → Int => MW h a0 a1 a2 a3 cA H T E u cc gc w d v) sz (fun rR u => P_train gc T p q what rR) := by
  refine MMI_of (cc := cX1_train) (maxL := 4) (Or.inl rfl) (by decide) rfl (Nat.le_of_ble_eq_true rfl) ?_
  intro pP eE sS mM aA bL mT cC QQ ls A S hret hP hK hD hS hA hl
  obtain ⟨hcc, hgc, hw, hd, hv, hH, hT, hE⟩ := id hok
  have hin : ∀ w ∈ wsX10, w ∈ wsX1_train := fun w hw => List.mem_cons_of_mem _ (List.mem_append_right _ hw)
  have hl : lv_has ls 4 [(0, .ref h), (1, jI p), (2, jI q), (3, jI what)] := hl
  refine j_iload_n S dX1_train_0 rfl (lv_at hl 1 rfl) ?_
  refine j_i2l S dX1_train_1 (iv_i hp (by decide +kernel)) ?_
  refine j_lconst (a := 1) S dX1_train_2 rfl ?_
  refine j_ldc2 (n := 1000000) S (S.2.2.2.2 _ (List.mem_of_getElem? (i := 1) rfl)) (by decide) dX1_train_3 ?_
  refine j_csi (As := [jL p, jL 1, jL 1000000]) S (c_X1_in l p 1 1000000 (iv_w hp (by decide +kernel)) (iv_w (iv_n 1) (by decide +kernel)) (iv_w (iv_n 1000000) (by decide +kernel))) (va_cwS 3 S.2.2.2.2 gX1_train_X1_in rfl rfl rfl hdX1_in ⟨Nat.le_of_ble_eq_true rfl, Nat.le_of_ble_eq_true rfl⟩) [] rfl rfl hl.1 (Nat.le_of_ble_eq_true rfl) ⟨Nat.zero_le _, Nat.zero_le _⟩ dX1_train_6 (fun i6 q6 => ?_)
  subst q6
  refine j_ifb_eq (tgt := 36) S dX1_train_9 (by decide) (fun c9 => ?_) (fun c9 => ?_)
  · refine j_bipush S dX1_train_36 (by decide) ?_
    exact hret (-2) F _ _ 38 _ (fun q => by cases q) (Or.inl ⟨by omega, rfl⟩) hP hD hS dX1_train_38
  · have r1_ : 1 ≤ p ∧ p ≤ 1000000 := by omega
    refine j_iload_n S dX1_train_12 rfl (lv_at hl 2 rfl) ?_
    refine j_i2l S dX1_train_13 (iv_i hq (by decide +kernel)) ?_
    refine j_lconst (a := 1) S dX1_train_14 rfl ?_
    refine j_ldc2 (n := 1000000) S (S.2.2.2.2 _ (List.mem_of_getElem? (i := 1) rfl)) (by decide) dX1_train_15 ?_
    refine j_csi (As := [jL q, jL 1, jL 1000000]) S (c_X1_in l q 1 1000000 (iv_w hq (by decide +kernel)) (iv_w (iv_n 1) (by decide +kernel)) (iv_w (iv_n 1000000) (by decide +kernel))) (va_cwS 3 S.2.2.2.2 gX1_train_X1_in rfl rfl rfl hdX1_in ⟨Nat.le_of_ble_eq_true rfl, Nat.le_of_ble_eq_true rfl⟩) [] rfl rfl hl.1 (Nat.le_of_ble_eq_true rfl) ⟨Nat.zero_le _, Nat.zero_le _⟩ dX1_train_18 (fun i18 q18 => ?_)
    subst q18
    refine j_ifb_eq (tgt := 36) S dX1_train_21 (by decide) (fun c21 => ?_) (fun c21 => ?_)
    · refine j_bipush S dX1_train_36 (by decide) ?_
      exact hret (-2) F _ _ 38 _ (fun q => by cases q) (Or.inl ⟨by omega, rfl⟩) hP hD hS dX1_train_38
    · have r2_ : 1 ≤ q ∧ q ≤ 1000000 := by omega
      refine j_iload_n S dX1_train_24 rfl (lv_at hl 3 rfl) ?_
      refine j_i2l S dX1_train_25 (iv_i hwhat (by decide +kernel)) ?_
      refine j_lconst (a := 0) S dX1_train_26 rfl ?_
      refine j_ldc2 (n := 3) S (S.2.2.2.2 _ (List.mem_of_getElem? (i := 2) rfl)) (by decide) dX1_train_27 ?_
      refine j_csi (As := [jL what, jL 0, jL 3]) S (c_X1_in l what 0 3 (iv_w hwhat (by decide +kernel)) (iv_w (iv_n 0) (by decide +kernel)) (iv_w (iv_n 3) (by decide +kernel))) (va_cwS 3 S.2.2.2.2 gX1_train_X1_in rfl rfl rfl hdX1_in ⟨Nat.le_of_ble_eq_true rfl, Nat.le_of_ble_eq_true rfl⟩) [] rfl rfl hl.1 (Nat.le_of_ble_eq_true rfl) ⟨Nat.zero_le _, Nat.zero_le _⟩ dX1_train_30 (fun i30 q30 => ?_)
      subst q30
      refine j_ifb_ne (tgt := 39) S dX1_train_33 (by decide) (fun c33 => ?_) (fun c33 => ?_)
      · have r3_ : 0 ≤ what ∧ what ≤ 3 := by omega
        refine lv_aload_n S.1 S.2.1 dX1_train_39 rfl (lv_at hl 0 rfl) ?_
        refine j_iload_n S dX1_train_40 rfl (lv_at hl 1 rfl) ?_
        refine j_i2l S dX1_train_41 (iv_i r1_ (by decide +kernel)) ?_
        refine j_iload_n S dX1_train_42 rfl (lv_at hl 2 rfl) ?_
        refine j_i2l S dX1_train_43 (iv_i r2_ (by decide +kernel)) ?_
        refine j_cvm [0, 1, 2, 3, 4] [] (wr := []) (As := [jL p, jL q]) (ci := 1) S (c_X1_isTrain l D h a0 a1 a2 a3 cA H T E F cc gc w d v _ hok p q (iv_w r1_ (by decide +kernel)) (iv_w r2_ (by decide +kernel))) (cwV 2 S.2.2.2.2 gX1_train_X1_isTrain rfl rfl rfl ⟨rfl, hdX1_isTrain⟩ ⟨Nat.le_of_ble_eq_true rfl, Nat.le_of_ble_eq_true rfl⟩) hK hP hD hS hA rfl rfl rfl rfl (by decide) rfl rfl rfl [] rfl rfl hl.1 (Nat.le_of_ble_eq_true rfl) ⟨Nat.zero_le _, Nat.zero_le _⟩ dX1_train_44 (fun i44 u44 Hp lc q44 hP hD hS => ?_)
        have hP : va_P D vwCl (MW h a0 a1 a2 a3 cA H T E u44 cc gc w d v) Hp := hP
        have hD : va_D A (MW h a0 a1 a2 a3 cA H T E u44 cc gc w d v) := hD
        have r4_ : 0 ≤ i44 ∧ i44 ≤ 1 := by rcases q44 with qq | qq <;> (have := qq.1; omega)
        refine j_if_eq (tgt := 59) S dX1_train_47 (by decide) (iv_i r4_ (by decide +kernel)) (fun c47 => ?_) (fun c47 => ?_)
        · have r5_ : 0 ≤ i44 ∧ i44 ≤ 0 := by omega
          refine j_bipush S dX1_train_59 (by decide) ?_
          exact hret (-6) u44 _ _ 61 _ (fun q => by cases q) (by rcases q44 with qq | qq; exact absurd qq.1 (by omega); exact Or.inr (Or.inl ⟨by omega, qq.2, rfl⟩)) hP hD hS dX1_train_61
        · have r6_ : 1 ≤ i44 ∧ i44 ≤ 1 := by omega
          refine lv_aload_n S.1 S.2.1 dX1_train_50 rfl (lv_at hl 0 rfl) ?_
          refine j_get (v := .ref a3) S hin hK hP rfl rfl 8 (by decide) (List.mem_of_getElem? (i := 3) rfl) rfl dX1_train_51 ?_
          refine j_iload_n S dX1_train_54 rfl (lv_at hl 3 rfl) ?_
          refine j_iald S hK hP 4 0 rfl rfl (iv_ix (n := 4) r3_ (by decide +kernel)) dX1_train_55 ?_
          refine j_goto (tgt := 61) S dX1_train_56 (by decide) ?_
          exact hret (u44 what) u44 _ _ 61 _ (fun q => by cases q) (by rcases q44 with qq | qq; exact Or.inr (Or.inr ⟨by omega, _, _, _, _, qq.2, sel_eq (by omega)⟩); exact absurd qq.1 c47) hP hD hS dX1_train_61
      · refine j_bipush S dX1_train_36 (by decide) ?_
        exact hret (-2) F _ _ 38 _ (fun q => by cases q) (Or.inl ⟨by omega, rfl⟩) hP hD hS dX1_train_38
abbrev rmX1_differential : Room := { frames := 2, cells := 0, slots := 0, locals := 55 }
theorem hdX1_differential : yX1_differential.cls ≠ "java/lang/invoke/MethodHandle" ∧ yX1_differential.cls ≠ "java/lang/invoke/VarHandle" ∧ (parseMethodDescriptor yX1_differential.desc).map (fun d => d.parameters.length) = some 2 := by decide +kernel
set_option maxHeartbeats 4000000 in
set_option maxRecDepth 100000 in
theorem c_X1_differential (l : Launch) (D : va_G) (h a0 a1 a2 a3 : Nat) (cA : ClassId) (H T E F : Int → Int) (cc gc w d v : Int) (sz : Nat) (hok : SOK H T E cc gc w d v) (n : Int) (what : Int) (hn : inI n) (hwhat : inI what) : MMI l yX1_differential wsX1_differential rmX1_differential [.ref h, jI n, jI what] D cA (MW h a0 a1 a2 a3 cA H T E F cc gc w d v) (fun u : Int → Int => MW h a0 a1 a2 a3 cA H T E u cc gc w d v) sz (fun rR u => P_diff w cc H gc T n what rR) := by
  refine MMI_of (cc := cX1_differential) (maxL := 6) (Or.inl rfl) (by decide) rfl (Nat.le_of_ble_eq_true rfl) ?_
  intro pP eE sS mM aA bL mT cC QQ ls A S hret hP hK hD hS hA hl
  obtain ⟨hcc, hgc, hw, hd, hv, hH, hT, hE⟩ := id hok
  have hin : ∀ w ∈ wsX10, w ∈ wsX1_differential := fun w hw => List.mem_cons_of_mem _ (List.mem_append_right _ hw)
  have hl : lv_has ls 6 [(0, .ref h), (1, jI n), (2, jI what)] := hl
  refine j_iload_n S dX1_differential_0 rfl (lv_at hl 1 rfl) ?_
  refine j_csi (As := [jI n]) S (c_X1_isParts l n (iv_w hn (by decide +kernel))) (va_cwS 1 S.2.2.2.2 gX1_differential_X1_isParts rfl rfl rfl hdX1_isParts ⟨Nat.le_of_ble_eq_true rfl, Nat.le_of_ble_eq_true rfl⟩) [] rfl rfl hl.1 (Nat.le_of_ble_eq_true rfl) ⟨Nat.zero_le _, Nat.zero_le _⟩ dX1_differential_1 (fun i1 q1 => ?_)
  subst q1
  refine j_ifb_eq (tgt := 19) S dX1_differential_4 (by decide) (fun c4 => ?_) (fun c4 => ?_)
  · refine j_bipush S dX1_differential_19 (by decide) ?_
    exact hret (-2) F _ _ 21 _ (fun q => by cases q) (Or.inl ⟨by omega, rfl⟩) hP hD hS dX1_differential_21
  · have r1_ : 2 ≤ n ∧ n ≤ 1000 := by omega
    refine j_iload_n S dX1_differential_7 rfl (lv_at hl 2 rfl) ?_
    refine j_i2l S dX1_differential_8 (iv_i hwhat (by decide +kernel)) ?_
    refine j_lconst (a := 0) S dX1_differential_9 rfl ?_
    refine j_ldc2 (n := 6) S (S.2.2.2.2 _ (List.mem_of_getElem? (i := 1) rfl)) (by decide) dX1_differential_10 ?_
    refine j_csi (As := [jL what, jL 0, jL 6]) S (c_X1_in l what 0 6 (iv_w hwhat (by decide +kernel)) (iv_w (iv_n 0) (by decide +kernel)) (iv_w (iv_n 6) (by decide +kernel))) (va_cwS 3 S.2.2.2.2 gX1_differential_X1_in rfl rfl rfl hdX1_in ⟨Nat.le_of_ble_eq_true rfl, Nat.le_of_ble_eq_true rfl⟩) [] rfl rfl hl.1 (Nat.le_of_ble_eq_true rfl) ⟨Nat.zero_le _, Nat.zero_le _⟩ dX1_differential_13 (fun i13 q13 => ?_)
    subst q13
    refine j_ifb_ne (tgt := 22) S dX1_differential_16 (by decide) (fun c16 => ?_) (fun c16 => ?_)
    · have r2_ : 0 ≤ what ∧ what ≤ 6 := by omega
      refine j_iconst S dX1_differential_22 ?_
      refine j_istore_n (lv' := [(3, jI 2), (0, .ref h), (1, jI n), (2, jI what)]) S dX1_differential_23 rfl hl (by decide) rfl (fun ls hl => ?_)
      have loop24 : ∀ (N : Nat) (F : Int → Int) (Hp : Heap) (lc : List Loc) (hP : va_P D vwCl (MW h a0 a1 a2 a3 cA H T E F cc gc w d v) Hp) (hD : va_D A (MW h a0 a1 a2 a3 cA H T E F cc gc w d v)) (hS : va_S A sS.heap Hp lc) (k : Int) (ls : Array Slot), (2 ≤ k ∧ k ≤ 22) → (∀ j, 2 ≤ j → j < k → ¬ Gd w cc H gc T n j) → 22 - k < (N : Int) → lv_has ls 6 [(3, jI k), (0, .ref h), (1, jI n), (2, jI what)] → W pP l eE rmX1_differential sS mM aA bL mT cC Hp lc 0 0 QQ (F0 mM 24 ls []) := by
        intro N
        induction N with
        | zero =>
          intro F Hp lc hP hD hS k ls hk hz hN
          exact absurd hN (by omega)
        | succ N ih24 =>
          intro F Hp lc hP hD hS k ls hk hz hN hl
          refine j_iload_n S dX1_differential_24 rfl (lv_at hl 0 rfl) ?_
          refine j_bipush S dX1_differential_25 (by decide) ?_
          refine j_icmp_ge (tgt := 148) S dX1_differential_27 (by decide) (iv_i hk (by decide +kernel)) (iv_i (iv_n 22) (by decide +kernel)) (fun c27 => ?_) (fun c27 => ?_)
          · have r3_ : 22 ≤ k ∧ k ≤ 22 := by omega
            refine j_bipush S dX1_differential_148 (by decide) ?_
            exact hret (-6) F _ _ 150 _ (fun q => by cases q) (Or.inr (Or.inl ⟨by omega, (fun j a b => hz j a (by omega)), rfl⟩)) hP hD hS dX1_differential_150
          · have r4_ : 2 ≤ k ∧ k ≤ 21 := by omega
            refine j_iload_n S dX1_differential_30 rfl (lv_at hl 0 rfl) ?_
            refine j_iconst S dX1_differential_31 ?_
            refine j_idivp S dX1_differential_32 (iv_i r4_ (by decide +kernel)) (iv_pi (iv_n 2) (by decide +kernel)) (iv_nn r4_ (by decide +kernel)) ?_
            have r5_ : 1 ≤ (k / 2) ∧ (k / 2) ≤ 10 := by omega
            refine j_istore (lv' := [(4, jI (k / 2)), (3, jI k), (0, .ref h), (1, jI n), (2, jI what)]) S dX1_differential_33 hl (by decide) rfl (fun ls hl => ?_)
            have cut52 : ∀ (mm : Int) (ls : Array Slot), (mm = mk n k) → (-10 ≤ mm ∧ mm ≤ 1010) → lv_has ls 6 [(4, jI (k / 2)), (3, jI k), (0, .ref h), (1, jI n), (2, jI what)] → W pP l eE rmX1_differential sS mM aA bL mT cC Hp lc 0 0 QQ (F0 mM 52 ls [jI mm]) := by
              intro mm ls hmm hmi hl
              refine j_istore (lv' := [(5, jI mm), (4, jI (k / 2)), (3, jI k), (0, .ref h), (1, jI n), (2, jI what)]) S dX1_differential_52 hl (by decide) rfl (fun ls hl => ?_)
              refine j_iload S dX1_differential_54 (lv_at hl 0 rfl) ?_
              refine j_csi (As := [jI mm]) S (c_X1_isParts l mm (iv_w hmi (by decide +kernel))) (va_cwS 1 S.2.2.2.2 gX1_differential_X1_isParts rfl rfl rfl hdX1_isParts ⟨Nat.le_of_ble_eq_true rfl, Nat.le_of_ble_eq_true rfl⟩) [] rfl rfl hl.1 (Nat.le_of_ble_eq_true rfl) ⟨Nat.zero_le _, Nat.zero_le _⟩ dX1_differential_56 (fun i56 q56 => ?_)
              subst q56
              refine j_ifb_eq (tgt := 142) S dX1_differential_59 (by decide) (fun c59 => ?_) (fun c59 => ?_)
              · refine j_iinc (k := 2) (y := (k + 1)) (lv' := [(3, jI (k + 1)), (5, jI mm), (4, jI (k / 2)), (0, .ref h), (1, jI n), (2, jI what)]) S dX1_differential_142 hl rfl rfl (by decide) rfl (fun ls hl => ?_)
                refine j_goto (tgt := 24) S dX1_differential_145 (by decide) ?_
                exact ih24 F Hp lc hP hD hS (k + 1) _ (by omega) (fun j a b => by by_cases e : j = k; rw [e]; exact (fun z9 => by have z8 := z9.1; rw [← hmm] at z8; omega); exact hz j a (by omega)) (by omega) (lv_sub hl [0, 3, 4, 5] rfl)
              · have r6_ : 2 ≤ mm ∧ mm ≤ 1000 := by omega
                refine lv_aload_n S.1 S.2.1 dX1_differential_62 rfl (lv_at hl 3 rfl) ?_
                refine j_iload S dX1_differential_63 (lv_at hl 0 rfl) ?_
                refine j_cvi (As := [jI mm]) (ci := 1) S (c_X1_plainOf l D h a0 a1 a2 a3 cA H T E F cc gc w d v hok mm (iv_w r6_ (by decide +kernel))) (cwV 1 S.2.2.2.2 gX1_differential_X1_plainOf rfl rfl rfl ⟨rfl, hdX1_plainOf⟩ ⟨Nat.le_of_ble_eq_true rfl, Nat.le_of_ble_eq_true rfl⟩) hK hP rfl rfl rfl [] rfl rfl hl.1 (Nat.le_of_ble_eq_true rfl) ⟨Nat.zero_le _, Nat.zero_le _⟩ dX1_differential_65 (fun i65 q65 => ?_)
                subst q65
                have r7_ : (-6) ≤ (sp_pl w H mm cc) ∧ (sp_pl w H mm cc) ≤ 7 := sp_pl_iv hcc
                have e65 := @sp_pl_rng w mm cc H hcc.1
                refine j_if_lt (tgt := 142) S dX1_differential_68 (by decide) (iv_i r7_ (by decide +kernel)) (fun c68 => ?_) (fun c68 => ?_)
                · have r8_ : (-6) ≤ (sp_pl w H mm cc) ∧ (sp_pl w H mm cc) ≤ (-1) := by omega
                  refine j_iinc (k := 2) (y := (k + 1)) (lv' := [(3, jI (k + 1)), (5, jI mm), (4, jI (k / 2)), (0, .ref h), (1, jI n), (2, jI what)]) S dX1_differential_142 hl rfl rfl (by decide) rfl (fun ls hl => ?_)
                  refine j_goto (tgt := 24) S dX1_differential_145 (by decide) ?_
                  exact ih24 F Hp lc hP hD hS (k + 1) _ (by omega) (fun j a b => by by_cases e : j = k; rw [e]; exact (fun z9 => by have z8 := z9.2.1; rw [← hmm] at z8; omega); exact hz j a (by omega)) (by omega) (lv_sub hl [0, 3, 4, 5] rfl)
                · have r9_ : 0 ≤ (sp_pl w H mm cc) ∧ (sp_pl w H mm cc) ≤ 7 := by omega
                  refine lv_aload_n S.1 S.2.1 dX1_differential_71 rfl (lv_at hl 3 rfl) ?_
                  refine j_iload S dX1_differential_72 (lv_at hl 1 rfl) ?_
                  refine j_i2l S dX1_differential_74 (iv_i r5_ (by decide +kernel)) ?_
                  refine lv_aload_n S.1 S.2.1 dX1_differential_75 rfl (lv_at hl 3 rfl) ?_
                  refine j_get (v := jI w) S hin hK hP rfl rfl 0 (by decide) (List.mem_of_getElem? (i := 2) rfl) rfl dX1_differential_76 ?_
                  refine j_i2l S dX1_differential_79 (iv_i hw (by decide +kernel)) ?_
                  refine j_lmul S dX1_differential_80 ?_
                  refine j_iload S dX1_differential_81 (lv_at hl 0 rfl) ?_
                  refine j_i2l S dX1_differential_83 (iv_i r6_ (by decide +kernel)) ?_
                  refine j_cvm [0, 1, 2, 3, 4] [] (wr := []) (As := [jL ((k / 2) * w), jL mm]) (ci := 1) S (c_X1_isTrain l D h a0 a1 a2 a3 cA H T E F cc gc w d v _ hok ((k / 2) * w) mm (iv_w (iv_mulp (lo := 10) (hi := 2000) r5_ hw (by decide +kernel)) (by decide +kernel)) (iv_w r6_ (by decide +kernel))) (cwV 2 S.2.2.2.2 gX1_differential_X1_isTrain rfl rfl rfl ⟨rfl, hdX1_isTrain⟩ ⟨Nat.le_of_ble_eq_true rfl, Nat.le_of_ble_eq_true rfl⟩) hK hP hD hS hA rfl rfl rfl rfl (by decide) rfl rfl rfl [] rfl rfl hl.1 (Nat.le_of_ble_eq_true rfl) ⟨Nat.zero_le _, Nat.zero_le _⟩ dX1_differential_84 (fun i84 u84 Hp lc q84 hP hD hS => ?_)
                  have hP : va_P D vwCl (MW h a0 a1 a2 a3 cA H T E u84 cc gc w d v) Hp := hP
                  have hD : va_D A (MW h a0 a1 a2 a3 cA H T E u84 cc gc w d v) := hD
                  have r10_ : 0 ≤ i84 ∧ i84 ≤ 1 := by rcases q84 with qq | qq <;> (have := qq.1; omega)
                  refine j_if_eq (tgt := 142) S dX1_differential_87 (by decide) (iv_i r10_ (by decide +kernel)) (fun c87 => ?_) (fun c87 => ?_)
                  · have r11_ : 0 ≤ i84 ∧ i84 ≤ 0 := by omega
                    refine j_iinc (k := 2) (y := (k + 1)) (lv' := [(3, jI (k + 1)), (5, jI mm), (4, jI (k / 2)), (0, .ref h), (1, jI n), (2, jI what)]) S dX1_differential_142 hl rfl rfl (by decide) rfl (fun ls hl => ?_)
                    refine j_goto (tgt := 24) S dX1_differential_145 (by decide) ?_
                    exact ih24 u84 Hp lc hP hD hS (k + 1) _ (by omega) (fun j a b => by by_cases e : j = k; rw [e]; exact (fun z9 => by have z8 := z9.2.2; rw [← hmm] at z8; rcases q84 with qq | qq; exact absurd qq.1 (by omega); exact z8 qq.2); exact hz j a (by omega)) (by omega) (lv_sub hl [0, 3, 4, 5] rfl)
                  · have r12_ : 1 ≤ i84 ∧ i84 ≤ 1 := by omega
                    refine j_iload_n S dX1_differential_90 rfl (lv_at hl 5 rfl) ?_
                    refine j_if_ne (tgt := 99) S dX1_differential_91 (by decide) (iv_i r2_ (by decide +kernel)) (fun c91 => ?_) (fun c91 => ?_)
                    · have r13_ : 1 ≤ what ∧ what ≤ 6 := by omega
                      refine j_iload_n S dX1_differential_99 rfl (lv_at hl 5 rfl) ?_
                      refine j_iconst S dX1_differential_100 ?_
                      refine j_icmp_ne (tgt := 113) S dX1_differential_101 (by decide) (iv_i r13_ (by decide +kernel)) (iv_i (iv_n 1) (by decide +kernel)) (fun c101 => ?_) (fun c101 => ?_)
                      · have r14_ : 2 ≤ what ∧ what ≤ 6 := by omega
                        refine j_iload_n S dX1_differential_113 rfl (lv_at hl 5 rfl) ?_
                        refine j_bipush S dX1_differential_114 (by decide) ?_
                        refine j_icmp_ne (tgt := 133) S dX1_differential_116 (by decide) (iv_i r14_ (by decide +kernel)) (iv_i (iv_n 6) (by decide +kernel)) (fun c116 => ?_) (fun c116 => ?_)
                        · have r15_ : 2 ≤ what ∧ what ≤ 5 := by omega
                          refine lv_aload_n S.1 S.2.1 dX1_differential_133 rfl (lv_at hl 3 rfl) ?_
                          refine j_get (v := .ref a3) S hin hK hP rfl rfl 8 (by decide) (List.mem_of_getElem? (i := 3) rfl) rfl dX1_differential_134 ?_
                          refine j_iload_n S dX1_differential_137 rfl (lv_at hl 5 rfl) ?_
                          refine j_iconst S dX1_differential_138 ?_
                          refine j_isub S dX1_differential_139 ?_
                          refine j_iald S hK hP 4 0 rfl rfl (iv_ix (n := 4) (iv_sub (lo := 0) (hi := 3) r15_ (iv_n 2) (by decide +kernel)) (by decide +kernel)) dX1_differential_140 ?_
                          exact hret (u84 (what - 2)) u84 _ _ 141 _ (fun q => by cases q) (by rcases q84 with qq | qq; exact Or.inr (Or.inr ⟨by omega, k, u84 0, u84 1, u84 2, u84 3, by omega, (by unfold Gd; rw [← hmm]; exact ⟨by omega, by omega, Tr_no qq.2⟩), hz, (by rw [← hmm]; exact qq.2), by unfold dsel; rw [if_neg (by omega), if_neg (by omega), if_neg (by omega)]; exact sel_eq (by omega)⟩); exact absurd qq.1 c87) hP hD hS dX1_differential_141
                        · have r16_ : 6 ≤ what ∧ what ≤ 6 := by omega
                          refine j_iload S dX1_differential_119 (lv_at hl 0 rfl) ?_
                          refine j_iload_n S dX1_differential_121 rfl (lv_at hl 4 rfl) ?_
                          refine j_icmp_le (tgt := 129) S dX1_differential_122 (by decide) (iv_i r6_ (by decide +kernel)) (iv_i r1_ (by decide +kernel)) (fun c122 => ?_) (fun c122 => ?_)
                          · refine j_iconst S dX1_differential_129 ?_
                            refine j_goto (tgt := 141) S dX1_differential_130 (by decide) ?_
                            exact hret 0 u84 _ _ 141 _ (fun q => by cases q) (by rcases q84 with qq | qq; exact Or.inr (Or.inr ⟨by omega, k, u84 0, u84 1, u84 2, u84 3, by omega, (by unfold Gd; rw [← hmm]; exact ⟨by omega, by omega, Tr_no qq.2⟩), hz, (by rw [← hmm]; exact qq.2), by unfold dsel; rw [if_neg (by omega), if_neg (by omega), if_pos (by omega), ← hmm, if_neg (by omega)]⟩); exact absurd qq.1 c87) hP hD hS dX1_differential_141
                          · have r17_ : 2 ≤ n ∧ n ≤ 999 := by omega
                            have r18_ : 3 ≤ mm ∧ mm ≤ 1000 := by omega
                            refine j_iconst S dX1_differential_125 ?_
                            refine j_goto (tgt := 141) S dX1_differential_126 (by decide) ?_
                            exact hret 1 u84 _ _ 141 _ (fun q => by cases q) (by rcases q84 with qq | qq; exact Or.inr (Or.inr ⟨by omega, k, u84 0, u84 1, u84 2, u84 3, by omega, (by unfold Gd; rw [← hmm]; exact ⟨by omega, by omega, Tr_no qq.2⟩), hz, (by rw [← hmm]; exact qq.2), by unfold dsel; rw [if_neg (by omega), if_neg (by omega), if_pos (by omega), ← hmm, if_pos (by omega)]⟩); exact absurd qq.1 c87) hP hD hS dX1_differential_141
                      · have r19_ : 1 ≤ what ∧ what ≤ 1 := by omega
                        refine lv_aload_n S.1 S.2.1 dX1_differential_104 rfl (lv_at hl 3 rfl) ?_
                        refine j_iload S dX1_differential_105 (lv_at hl 0 rfl) ?_
                        refine j_cvi (As := [jI mm]) (ci := 1) S (c_X1_plainOf l D h a0 a1 a2 a3 cA H T E u84 cc gc w d v hok mm (iv_w r6_ (by decide +kernel))) (cwV 1 S.2.2.2.2 gX1_differential_X1_plainOf rfl rfl rfl ⟨rfl, hdX1_plainOf⟩ ⟨Nat.le_of_ble_eq_true rfl, Nat.le_of_ble_eq_true rfl⟩) hK hP rfl rfl rfl [] rfl rfl hl.1 (Nat.le_of_ble_eq_true rfl) ⟨Nat.zero_le _, Nat.zero_le _⟩ dX1_differential_107 (fun i107 q107 => ?_)
                        subst q107
                        refine j_goto (tgt := 141) S dX1_differential_110 (by decide) ?_
                        exact hret (sp_pl w H mm cc) u84 _ _ 141 _ (fun q => by cases q) (by rcases q84 with qq | qq; exact Or.inr (Or.inr ⟨by omega, k, u84 0, u84 1, u84 2, u84 3, by omega, (by unfold Gd; rw [← hmm]; exact ⟨by omega, by omega, Tr_no qq.2⟩), hz, (by rw [← hmm]; exact qq.2), by unfold dsel; rw [if_neg (by omega), if_pos (by omega), ← hmm]⟩); exact absurd qq.1 c87) hP hD hS dX1_differential_141
                    · have r20_ : 0 ≤ what ∧ what ≤ 0 := by omega
                      refine j_iload S dX1_differential_94 (lv_at hl 0 rfl) ?_
                      refine j_goto (tgt := 141) S dX1_differential_96 (by decide) ?_
                      exact hret mm u84 _ _ 141 _ (fun q => by cases q) (by rcases q84 with qq | qq; exact Or.inr (Or.inr ⟨by omega, k, u84 0, u84 1, u84 2, u84 3, by omega, (by unfold Gd; rw [← hmm]; exact ⟨by omega, by omega, Tr_no qq.2⟩), hz, (by rw [← hmm]; exact qq.2), by unfold dsel; rw [if_pos (by omega)]; exact hmm⟩); exact absurd qq.1 c87) hP hD hS dX1_differential_141
            refine j_iload_n S dX1_differential_35 rfl (lv_at hl 1 rfl) ?_
            refine j_iconst S dX1_differential_36 ?_
            refine j_iremp S dX1_differential_37 (iv_i r4_ (by decide +kernel)) (iv_pi (iv_n 2) (by decide +kernel)) (iv_nn r4_ (by decide +kernel)) ?_
            refine j_if_ne (tgt := 48) S dX1_differential_38 (by decide) (iv_i (iv_mod (lo := 0) (hi := 1) (iv_n 2) (by decide +kernel)) (by decide +kernel)) (fun c38 => ?_) (fun c38 => ?_)
            · refine j_iload_n S dX1_differential_48 rfl (lv_at hl 3 rfl) ?_
              refine j_iload S dX1_differential_49 (lv_at hl 0 rfl) ?_
              refine j_iadd S dX1_differential_51 ?_
              exact cut52 (n + (k / 2)) _ (by unfold mk; rw [if_neg (by omega)]) (by omega) (lv_sub hl [0, 1, 2, 3, 4] rfl)
            · refine j_iload_n S dX1_differential_41 rfl (lv_at hl 3 rfl) ?_
              refine j_iload S dX1_differential_42 (lv_at hl 0 rfl) ?_
              refine j_isub S dX1_differential_44 ?_
              refine j_goto (tgt := 52) S dX1_differential_45 (by decide) ?_
              exact cut52 (n - (k / 2)) _ (by unfold mk; rw [if_pos (by omega)]) (by omega) (lv_sub hl [0, 1, 2, 3, 4] rfl)
      exact loop24 21 F sS.heap [] hP hD hS 2 _ (by omega) (fun j a1 a2 => absurd a2 (by omega)) (by omega) (lv_sub hl [0, 1, 2, 3] rfl)
    · refine j_bipush S dX1_differential_19 (by decide) ?_
      exact hret (-2) F _ _ 21 _ (fun q => by cases q) (Or.inl ⟨by omega, rfl⟩) hP hD hS dX1_differential_21
