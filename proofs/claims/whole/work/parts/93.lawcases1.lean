set_option maxHeartbeats 4000000 in
set_option maxRecDepth 100000 in
theorem law_case_0 {p : Program} {l : Launch} {e : Env} {s : State} {m : MethodId} {below : List Frame} {meth : Method} {c : Code} {b L : Nat} {xs : Nat → Int32} {D : va_G} {x x0 x1 x2 x3 y y0 y1 y2 y3 : Nat} {cA : ClassId} {A : Nat → Prop} (S : CallFix p m c code 4 s #[.ref b] wsL_law RL) (hX : va_X b L xs s s.heap) (hbl : b < s.heap.size) (hbA : ¬ A b) (hA : ∀ q, s.heap.size ≤ q → A q) (hK : va_K D vwCl [(cA, .int)] s) {H T E F G : Int → Int} {cc gc w d v : Int} {Hp : Heap} {lc : List Loc} (hI : LInv s D A x x0 x1 x2 x3 y y0 y1 y2 y3 cA H T E F G cc gc w d v Hp lc) {i : Int} (hi : 0 ≤ i ∧ i ≤ 2560 ∧ i + 5 ≤ (L : Int)) {ls : Array Slot} (hl : lv_has ls 4 (LLs b x y i)) (kk : ∀ (H T E F G : Int → Int) (cc gc w d v : Int) (Hp : Heap) (lc : List Loc), LInv s D A x x0 x1 x2 x3 y y0 y1 y2 y3 cA H T E F G cc gc w d v Hp lc → W p l e room_1 s m #[Value.ref b] below meth c Hp lc 10 78 (lw_Z below #[Value.ref b] s) (F0 m 895 ls [])) : W p l e room_1 s m #[Value.ref b] below meth c Hp lc 10 78 (lw_Z below #[Value.ref b] s) (F0 m 132 ls []) := by
  obtain ⟨hok, hP, hD, hS⟩ := hI
  refine lv_aload_n S.1 S.2.1 dL_law_132 rfl (lv_at hl 2 rfl) ?_
  refine lv_aload_n S.1 S.2.1 dL_law_133 rfl (lv_at hl 3 rfl) ?_
  refine j_iload_n S dL_law_134 rfl (lv_at hl 0 rfl) ?_
  refine j_iconst S dL_law_135 ?_
  refine j_iadd S dL_law_136 ?_
  refine j_sld S hX hbl hbA hS (a := (i + 1)) ⟨by omega, by omega, by omega⟩ dL_law_137 ?_
  refine j_cvm [0, 1, 2, 3, 4] [5, 6, 7, 8, 9] (wr := (MW y y0 y1 y2 y3 cA H T E G cc gc w d v)) (As := [jI (sx xs (i + 1))]) (ci := 0) S (c_X0_wheel l D x x0 x1 x2 x3 cA H T E F cc gc w d v _ hok (sx xs (i + 1)) sx_in) (cwV 1 S.2.2.2.2 gL_law_X0_wheel rfl rfl rfl ⟨rfl, hdX0_wheel⟩ ⟨Nat.le_of_ble_eq_true rfl, Nat.le_of_ble_eq_true rfl⟩) hK hP hD hS hA rfl rfl (by decide) (by decide) (by decide) rfl rfl rfl [] rfl rfl hl.1 (Nat.le_of_ble_eq_true rfl) ⟨Nat.le_of_ble_eq_true rfl, Nat.le_of_ble_eq_true rfl⟩ dL_law_138 (fun i1 u1 Hp lc q1 hP hD hS => ?_)
  have hP : va_P D vwCl ((MW y y0 y1 y2 y3 cA H T E G cc gc w d v) ++ (XW x x0 x1 x2 x3 cA H T E F cc gc u1 d v)) Hp := hP
  have hD : va_D A ((MW y y0 y1 y2 y3 cA H T E G cc gc w d v) ++ (XW x x0 x1 x2 x3 cA H T E F cc gc u1 d v)) := hD
  refine lv_aload_n S.1 S.2.1 dL_law_141 rfl (lv_at hl 1 rfl) ?_
  refine lv_aload_n S.1 S.2.1 dL_law_142 rfl (lv_at hl 3 rfl) ?_
  refine j_iload_n S dL_law_143 rfl (lv_at hl 0 rfl) ?_
  refine j_iconst S dL_law_144 ?_
  refine j_iadd S dL_law_145 ?_
  refine j_sld S hX hbl hbA hS (a := (i + 1)) ⟨by omega, by omega, by omega⟩ dL_law_146 ?_
  refine j_cvm [0, 1, 2, 3, 4] [5, 6, 7, 8, 9] (wr := (XW x x0 x1 x2 x3 cA H T E F cc gc u1 d v)) (As := [jI (sx xs (i + 1))]) (ci := 1) S (c_X1_wheel l D y y0 y1 y2 y3 cA H T E G cc gc w d v _ hok (sx xs (i + 1)) sx_in) (cwV 1 S.2.2.2.2 gL_law_X1_wheel rfl rfl rfl ⟨rfl, hdX1_wheel⟩ ⟨Nat.le_of_ble_eq_true rfl, Nat.le_of_ble_eq_true rfl⟩) hK hP hD hS hA rfl rfl (by decide) (by decide) (by decide) rfl rfl rfl [jI i1] rfl rfl hl.1 (Nat.le_of_ble_eq_true rfl) ⟨Nat.le_of_ble_eq_true rfl, Nat.le_of_ble_eq_true rfl⟩ dL_law_147 (fun i2 u2 Hp lc q2 hP hD hS => ?_)
  have hP : va_P D vwCl ((XW x x0 x1 x2 x3 cA H T E F cc gc u1 d v) ++ (MW y y0 y1 y2 y3 cA H T E G cc gc u2 d v)) Hp := hP
  have hD : va_D A ((XW x x0 x1 x2 x3 cA H T E F cc gc u1 d v) ++ (MW y y0 y1 y2 y3 cA H T E G cc gc u2 d v)) := hD
  have hdet := R_wheel_det q1 q2
  have he : i1 = i2 := hdet.1
  subst he
  refine lv_icmp_eq (tgt := 895) S.1 S.2.1 dL_law_150 (by decide) (fun _ => ?_) (fun z9 => absurd rfl z9)
  have hu : u1 = u2 := hdet.2
  subst hu
  exact kk H T E F G cc gc u1 d v _ _ ⟨ok_wheel hok q1, hP, hD, hS⟩
set_option maxHeartbeats 4000000 in
set_option maxRecDepth 100000 in
theorem law_case_1 {p : Program} {l : Launch} {e : Env} {s : State} {m : MethodId} {below : List Frame} {meth : Method} {c : Code} {b L : Nat} {xs : Nat → Int32} {D : va_G} {x x0 x1 x2 x3 y y0 y1 y2 y3 : Nat} {cA : ClassId} {A : Nat → Prop} (S : CallFix p m c code 4 s #[.ref b] wsL_law RL) (hX : va_X b L xs s s.heap) (hbl : b < s.heap.size) (hbA : ¬ A b) (hA : ∀ q, s.heap.size ≤ q → A q) (hK : va_K D vwCl [(cA, .int)] s) {H T E F G : Int → Int} {cc gc w d v : Int} {Hp : Heap} {lc : List Loc} (hI : LInv s D A x x0 x1 x2 x3 y y0 y1 y2 y3 cA H T E F G cc gc w d v Hp lc) {i : Int} (hi : 0 ≤ i ∧ i ≤ 2560 ∧ i + 5 ≤ (L : Int)) {ls : Array Slot} (hl : lv_has ls 4 (LLs b x y i)) (kk : ∀ (H T E F G : Int → Int) (cc gc w d v : Int) (Hp : Heap) (lc : List Loc), LInv s D A x x0 x1 x2 x3 y y0 y1 y2 y3 cA H T E F G cc gc w d v Hp lc → W p l e room_1 s m #[Value.ref b] below meth c Hp lc 10 78 (lw_Z below #[Value.ref b] s) (F0 m 895 ls [])) : W p l e room_1 s m #[Value.ref b] below meth c Hp lc 10 78 (lw_Z below #[Value.ref b] s) (F0 m 155 ls []) := by
  obtain ⟨hok, hP, hD, hS⟩ := hI
  refine lv_aload_n S.1 S.2.1 dL_law_155 rfl (lv_at hl 2 rfl) ?_
  refine lv_aload_n S.1 S.2.1 dL_law_156 rfl (lv_at hl 3 rfl) ?_
  refine j_iload_n S dL_law_157 rfl (lv_at hl 0 rfl) ?_
  refine j_iconst S dL_law_158 ?_
  refine j_iadd S dL_law_159 ?_
  refine j_sld S hX hbl hbA hS (a := (i + 1)) ⟨by omega, by omega, by omega⟩ dL_law_160 ?_
  refine j_cvm [0, 1, 2, 3, 4] [5, 6, 7, 8, 9] (wr := (MW y y0 y1 y2 y3 cA H T E G cc gc w d v)) (As := [jI (sx xs (i + 1))]) (ci := 0) S (c_X0_circle l D x x0 x1 x2 x3 cA H T E F cc gc w d v _ hok (sx xs (i + 1)) sx_in) (cwV 1 S.2.2.2.2 gL_law_X0_circle rfl rfl rfl ⟨rfl, hdX0_circle⟩ ⟨Nat.le_of_ble_eq_true rfl, Nat.le_of_ble_eq_true rfl⟩) hK hP hD hS hA rfl rfl (by decide) (by decide) (by decide) rfl rfl rfl [] rfl rfl hl.1 (Nat.le_of_ble_eq_true rfl) ⟨Nat.le_of_ble_eq_true rfl, Nat.le_of_ble_eq_true rfl⟩ dL_law_161 (fun i1 u1 Hp lc q1 hP hD hS => ?_)
  have hP : va_P D vwCl ((MW y y0 y1 y2 y3 cA H T E G cc gc w d v) ++ (XW x x0 x1 x2 x3 cA u1.2 T E F u1.1 gc w d v)) Hp := hP
  have hD : va_D A ((MW y y0 y1 y2 y3 cA H T E G cc gc w d v) ++ (XW x x0 x1 x2 x3 cA u1.2 T E F u1.1 gc w d v)) := hD
  refine lv_aload_n S.1 S.2.1 dL_law_164 rfl (lv_at hl 1 rfl) ?_
  refine lv_aload_n S.1 S.2.1 dL_law_165 rfl (lv_at hl 3 rfl) ?_
  refine j_iload_n S dL_law_166 rfl (lv_at hl 0 rfl) ?_
  refine j_iconst S dL_law_167 ?_
  refine j_iadd S dL_law_168 ?_
  refine j_sld S hX hbl hbA hS (a := (i + 1)) ⟨by omega, by omega, by omega⟩ dL_law_169 ?_
  refine j_cvm [0, 1, 2, 3, 4] [5, 6, 7, 8, 9] (wr := (XW x x0 x1 x2 x3 cA u1.2 T E F u1.1 gc w d v)) (As := [jI (sx xs (i + 1))]) (ci := 1) S (c_X1_circle l D y y0 y1 y2 y3 cA H T E G cc gc w d v _ hok (sx xs (i + 1)) sx_in) (cwV 1 S.2.2.2.2 gL_law_X1_circle rfl rfl rfl ⟨rfl, hdX1_circle⟩ ⟨Nat.le_of_ble_eq_true rfl, Nat.le_of_ble_eq_true rfl⟩) hK hP hD hS hA rfl rfl (by decide) (by decide) (by decide) rfl rfl rfl [jI i1] rfl rfl hl.1 (Nat.le_of_ble_eq_true rfl) ⟨Nat.le_of_ble_eq_true rfl, Nat.le_of_ble_eq_true rfl⟩ dL_law_170 (fun i2 u2 Hp lc q2 hP hD hS => ?_)
  have hP : va_P D vwCl ((XW x x0 x1 x2 x3 cA u1.2 T E F u1.1 gc w d v) ++ (MW y y0 y1 y2 y3 cA u2.2 T E G u2.1 gc w d v)) Hp := hP
  have hD : va_D A ((XW x x0 x1 x2 x3 cA u1.2 T E F u1.1 gc w d v) ++ (MW y y0 y1 y2 y3 cA u2.2 T E G u2.1 gc w d v)) := hD
  have hdet := R_circle_det q1 q2
  have he : i1 = i2 := hdet.1
  subst he
  refine lv_icmp_eq (tgt := 895) S.1 S.2.1 dL_law_173 (by decide) (fun _ => ?_) (fun z9 => absurd rfl z9)
  have hu : u1 = u2 := Prod.ext hdet.2.1 hdet.2.2
  subst hu
  exact kk u1.2 T E F G u1.1 gc w d v _ _ ⟨ok_circle hok q1, hP, hD, hS⟩
set_option maxHeartbeats 4000000 in
set_option maxRecDepth 100000 in
theorem law_case_2 {p : Program} {l : Launch} {e : Env} {s : State} {m : MethodId} {below : List Frame} {meth : Method} {c : Code} {b L : Nat} {xs : Nat → Int32} {D : va_G} {x x0 x1 x2 x3 y y0 y1 y2 y3 : Nat} {cA : ClassId} {A : Nat → Prop} (S : CallFix p m c code 4 s #[.ref b] wsL_law RL) (hX : va_X b L xs s s.heap) (hbl : b < s.heap.size) (hbA : ¬ A b) (hA : ∀ q, s.heap.size ≤ q → A q) (hK : va_K D vwCl [(cA, .int)] s) {H T E F G : Int → Int} {cc gc w d v : Int} {Hp : Heap} {lc : List Loc} (hI : LInv s D A x x0 x1 x2 x3 y y0 y1 y2 y3 cA H T E F G cc gc w d v Hp lc) {i : Int} (hi : 0 ≤ i ∧ i ≤ 2560 ∧ i + 5 ≤ (L : Int)) {ls : Array Slot} (hl : lv_has ls 4 (LLs b x y i)) (kk : ∀ (H T E F G : Int → Int) (cc gc w d v : Int) (Hp : Heap) (lc : List Loc), LInv s D A x x0 x1 x2 x3 y y0 y1 y2 y3 cA H T E F G cc gc w d v Hp lc → W p l e room_1 s m #[Value.ref b] below meth c Hp lc 10 78 (lw_Z below #[Value.ref b] s) (F0 m 895 ls [])) : W p l e room_1 s m #[Value.ref b] below meth c Hp lc 10 78 (lw_Z below #[Value.ref b] s) (F0 m 178 ls []) := by
  obtain ⟨hok, hP, hD, hS⟩ := hI
  refine lv_aload_n S.1 S.2.1 dL_law_178 rfl (lv_at hl 2 rfl) ?_
  refine lv_aload_n S.1 S.2.1 dL_law_179 rfl (lv_at hl 3 rfl) ?_
  refine j_iload_n S dL_law_180 rfl (lv_at hl 0 rfl) ?_
  refine j_iconst S dL_law_181 ?_
  refine j_iadd S dL_law_182 ?_
  refine j_sld S hX hbl hbA hS (a := (i + 1)) ⟨by omega, by omega, by omega⟩ dL_law_183 ?_
  refine j_cvi (As := [jI (sx xs (i + 1))]) (ci := 0) S (c_X0_holes l D x x0 x1 x2 x3 cA H T E F cc gc w d v hok (sx xs (i + 1)) sx_in) (cwV 1 S.2.2.2.2 gL_law_X0_holes rfl rfl rfl ⟨rfl, hdX0_holes⟩ ⟨Nat.le_of_ble_eq_true rfl, Nat.le_of_ble_eq_true rfl⟩) hK (hP.sub (ws' := (XW x x0 x1 x2 x3 cA H T E F cc gc w d v)) [0, 1, 2, 3, 4] rfl) rfl rfl rfl [] rfl rfl hl.1 (Nat.le_of_ble_eq_true rfl) ⟨Nat.le_of_ble_eq_true rfl, Nat.le_of_ble_eq_true rfl⟩ dL_law_184 (fun i1 q1 => ?_)
  refine lv_aload_n S.1 S.2.1 dL_law_187 rfl (lv_at hl 1 rfl) ?_
  refine lv_aload_n S.1 S.2.1 dL_law_188 rfl (lv_at hl 3 rfl) ?_
  refine j_iload_n S dL_law_189 rfl (lv_at hl 0 rfl) ?_
  refine j_iconst S dL_law_190 ?_
  refine j_iadd S dL_law_191 ?_
  refine j_sld S hX hbl hbA hS (a := (i + 1)) ⟨by omega, by omega, by omega⟩ dL_law_192 ?_
  refine j_cvi (As := [jI (sx xs (i + 1))]) (ci := 1) S (c_X1_holes l D y y0 y1 y2 y3 cA H T E G cc gc w d v hok (sx xs (i + 1)) sx_in) (cwV 1 S.2.2.2.2 gL_law_X1_holes rfl rfl rfl ⟨rfl, hdX1_holes⟩ ⟨Nat.le_of_ble_eq_true rfl, Nat.le_of_ble_eq_true rfl⟩) hK (hP.sub (ws' := (MW y y0 y1 y2 y3 cA H T E G cc gc w d v)) [5, 6, 7, 8, 9] rfl) rfl rfl rfl [jI i1] rfl rfl hl.1 (Nat.le_of_ble_eq_true rfl) ⟨Nat.le_of_ble_eq_true rfl, Nat.le_of_ble_eq_true rfl⟩ dL_law_193 (fun i2 q2 => ?_)
  have he : i1 = i2 := q1.trans q2.symm
  subst he
  refine lv_icmp_eq (tgt := 895) S.1 S.2.1 dL_law_196 (by decide) (fun _ => ?_) (fun z9 => absurd rfl z9)
  exact kk _ _ _ _ _ _ _ _ _ _ _ _ ⟨hok, hP, hD, hS⟩
set_option maxHeartbeats 4000000 in
set_option maxRecDepth 100000 in
theorem law_case_3 {p : Program} {l : Launch} {e : Env} {s : State} {m : MethodId} {below : List Frame} {meth : Method} {c : Code} {b L : Nat} {xs : Nat → Int32} {D : va_G} {x x0 x1 x2 x3 y y0 y1 y2 y3 : Nat} {cA : ClassId} {A : Nat → Prop} (S : CallFix p m c code 4 s #[.ref b] wsL_law RL) (hX : va_X b L xs s s.heap) (hbl : b < s.heap.size) (hbA : ¬ A b) (hA : ∀ q, s.heap.size ≤ q → A q) (hK : va_K D vwCl [(cA, .int)] s) {H T E F G : Int → Int} {cc gc w d v : Int} {Hp : Heap} {lc : List Loc} (hI : LInv s D A x x0 x1 x2 x3 y y0 y1 y2 y3 cA H T E F G cc gc w d v Hp lc) {i : Int} (hi : 0 ≤ i ∧ i ≤ 2560 ∧ i + 5 ≤ (L : Int)) {ls : Array Slot} (hl : lv_has ls 4 (LLs b x y i)) (kk : ∀ (H T E F G : Int → Int) (cc gc w d v : Int) (Hp : Heap) (lc : List Loc), LInv s D A x x0 x1 x2 x3 y y0 y1 y2 y3 cA H T E F G cc gc w d v Hp lc → W p l e room_1 s m #[Value.ref b] below meth c Hp lc 10 78 (lw_Z below #[Value.ref b] s) (F0 m 895 ls [])) : W p l e room_1 s m #[Value.ref b] below meth c Hp lc 10 78 (lw_Z below #[Value.ref b] s) (F0 m 201 ls []) := by
  obtain ⟨hok, hP, hD, hS⟩ := hI
  refine lv_aload_n S.1 S.2.1 dL_law_201 rfl (lv_at hl 2 rfl) ?_
  refine lv_aload_n S.1 S.2.1 dL_law_202 rfl (lv_at hl 3 rfl) ?_
  refine j_iload_n S dL_law_203 rfl (lv_at hl 0 rfl) ?_
  refine j_iconst S dL_law_204 ?_
  refine j_iadd S dL_law_205 ?_
  refine j_sld S hX hbl hbA hS (a := (i + 1)) ⟨by omega, by omega, by omega⟩ dL_law_206 ?_
  refine j_cvm [0, 1, 2, 3, 4] [5, 6, 7, 8, 9] (wr := (MW y y0 y1 y2 y3 cA H T E G cc gc w d v)) (As := [jI (sx xs (i + 1))]) (ci := 0) S (c_X0_gear l D x x0 x1 x2 x3 cA H T E F cc gc w d v _ hok (sx xs (i + 1)) sx_in) (cwV 1 S.2.2.2.2 gL_law_X0_gear rfl rfl rfl ⟨rfl, hdX0_gear⟩ ⟨Nat.le_of_ble_eq_true rfl, Nat.le_of_ble_eq_true rfl⟩) hK hP hD hS hA rfl rfl (by decide) (by decide) (by decide) rfl rfl rfl [] rfl rfl hl.1 (Nat.le_of_ble_eq_true rfl) ⟨Nat.le_of_ble_eq_true rfl, Nat.le_of_ble_eq_true rfl⟩ dL_law_207 (fun i1 u1 Hp lc q1 hP hD hS => ?_)
  have hP : va_P D vwCl ((MW y y0 y1 y2 y3 cA H T E G cc gc w d v) ++ (XW x x0 x1 x2 x3 cA H u1.2 E F cc u1.1 w d v)) Hp := hP
  have hD : va_D A ((MW y y0 y1 y2 y3 cA H T E G cc gc w d v) ++ (XW x x0 x1 x2 x3 cA H u1.2 E F cc u1.1 w d v)) := hD
  refine lv_aload_n S.1 S.2.1 dL_law_210 rfl (lv_at hl 1 rfl) ?_
  refine lv_aload_n S.1 S.2.1 dL_law_211 rfl (lv_at hl 3 rfl) ?_
  refine j_iload_n S dL_law_212 rfl (lv_at hl 0 rfl) ?_
  refine j_iconst S dL_law_213 ?_
  refine j_iadd S dL_law_214 ?_
  refine j_sld S hX hbl hbA hS (a := (i + 1)) ⟨by omega, by omega, by omega⟩ dL_law_215 ?_
  refine j_cvm [0, 1, 2, 3, 4] [5, 6, 7, 8, 9] (wr := (XW x x0 x1 x2 x3 cA H u1.2 E F cc u1.1 w d v)) (As := [jI (sx xs (i + 1))]) (ci := 1) S (c_X1_gear l D y y0 y1 y2 y3 cA H T E G cc gc w d v _ hok (sx xs (i + 1)) sx_in) (cwV 1 S.2.2.2.2 gL_law_X1_gear rfl rfl rfl ⟨rfl, hdX1_gear⟩ ⟨Nat.le_of_ble_eq_true rfl, Nat.le_of_ble_eq_true rfl⟩) hK hP hD hS hA rfl rfl (by decide) (by decide) (by decide) rfl rfl rfl [jI i1] rfl rfl hl.1 (Nat.le_of_ble_eq_true rfl) ⟨Nat.le_of_ble_eq_true rfl, Nat.le_of_ble_eq_true rfl⟩ dL_law_216 (fun i2 u2 Hp lc q2 hP hD hS => ?_)
  have hP : va_P D vwCl ((XW x x0 x1 x2 x3 cA H u1.2 E F cc u1.1 w d v) ++ (MW y y0 y1 y2 y3 cA H u2.2 E G cc u2.1 w d v)) Hp := hP
  have hD : va_D A ((XW x x0 x1 x2 x3 cA H u1.2 E F cc u1.1 w d v) ++ (MW y y0 y1 y2 y3 cA H u2.2 E G cc u2.1 w d v)) := hD
  have hdet := R_gear_det q1 q2
  have he : i1 = i2 := hdet.1
  subst he
  refine lv_icmp_eq (tgt := 895) S.1 S.2.1 dL_law_219 (by decide) (fun _ => ?_) (fun z9 => absurd rfl z9)
  have hu : u1 = u2 := Prod.ext hdet.2.1 hdet.2.2
  subst hu
  exact kk H u1.2 E F G cc u1.1 w d v _ _ ⟨ok_gear hok q1, hP, hD, hS⟩
set_option maxHeartbeats 4000000 in
set_option maxRecDepth 100000 in
theorem law_case_4 {p : Program} {l : Launch} {e : Env} {s : State} {m : MethodId} {below : List Frame} {meth : Method} {c : Code} {b L : Nat} {xs : Nat → Int32} {D : va_G} {x x0 x1 x2 x3 y y0 y1 y2 y3 : Nat} {cA : ClassId} {A : Nat → Prop} (S : CallFix p m c code 4 s #[.ref b] wsL_law RL) (hX : va_X b L xs s s.heap) (hbl : b < s.heap.size) (hbA : ¬ A b) (hA : ∀ q, s.heap.size ≤ q → A q) (hK : va_K D vwCl [(cA, .int)] s) {H T E F G : Int → Int} {cc gc w d v : Int} {Hp : Heap} {lc : List Loc} (hI : LInv s D A x x0 x1 x2 x3 y y0 y1 y2 y3 cA H T E F G cc gc w d v Hp lc) {i : Int} (hi : 0 ≤ i ∧ i ≤ 2560 ∧ i + 5 ≤ (L : Int)) {ls : Array Slot} (hl : lv_has ls 4 (LLs b x y i)) (kk : ∀ (H T E F G : Int → Int) (cc gc w d v : Int) (Hp : Heap) (lc : List Loc), LInv s D A x x0 x1 x2 x3 y y0 y1 y2 y3 cA H T E F G cc gc w d v Hp lc → W p l e room_1 s m #[Value.ref b] below meth c Hp lc 10 78 (lw_Z below #[Value.ref b] s) (F0 m 895 ls [])) : W p l e room_1 s m #[Value.ref b] below meth c Hp lc 10 78 (lw_Z below #[Value.ref b] s) (F0 m 224 ls []) := by
  obtain ⟨hok, hP, hD, hS⟩ := hI
  refine lv_aload_n S.1 S.2.1 dL_law_224 rfl (lv_at hl 2 rfl) ?_
  refine lv_aload_n S.1 S.2.1 dL_law_225 rfl (lv_at hl 3 rfl) ?_
  refine j_iload_n S dL_law_226 rfl (lv_at hl 0 rfl) ?_
  refine j_iconst S dL_law_227 ?_
  refine j_iadd S dL_law_228 ?_
  refine j_sld S hX hbl hbA hS (a := (i + 1)) ⟨by omega, by omega, by omega⟩ dL_law_229 ?_
  refine j_cvi (As := [jI (sx xs (i + 1))]) (ci := 0) S (c_X0_teeth l D x x0 x1 x2 x3 cA H T E F cc gc w d v hok (sx xs (i + 1)) sx_in) (cwV 1 S.2.2.2.2 gL_law_X0_teeth rfl rfl rfl ⟨rfl, hdX0_teeth⟩ ⟨Nat.le_of_ble_eq_true rfl, Nat.le_of_ble_eq_true rfl⟩) hK (hP.sub (ws' := (XW x x0 x1 x2 x3 cA H T E F cc gc w d v)) [0, 1, 2, 3, 4] rfl) rfl rfl rfl [] rfl rfl hl.1 (Nat.le_of_ble_eq_true rfl) ⟨Nat.le_of_ble_eq_true rfl, Nat.le_of_ble_eq_true rfl⟩ dL_law_230 (fun i1 q1 => ?_)
  refine lv_aload_n S.1 S.2.1 dL_law_233 rfl (lv_at hl 1 rfl) ?_
  refine lv_aload_n S.1 S.2.1 dL_law_234 rfl (lv_at hl 3 rfl) ?_
  refine j_iload_n S dL_law_235 rfl (lv_at hl 0 rfl) ?_
  refine j_iconst S dL_law_236 ?_
  refine j_iadd S dL_law_237 ?_
  refine j_sld S hX hbl hbA hS (a := (i + 1)) ⟨by omega, by omega, by omega⟩ dL_law_238 ?_
  refine j_cvi (As := [jI (sx xs (i + 1))]) (ci := 1) S (c_X1_teeth l D y y0 y1 y2 y3 cA H T E G cc gc w d v hok (sx xs (i + 1)) sx_in) (cwV 1 S.2.2.2.2 gL_law_X1_teeth rfl rfl rfl ⟨rfl, hdX1_teeth⟩ ⟨Nat.le_of_ble_eq_true rfl, Nat.le_of_ble_eq_true rfl⟩) hK (hP.sub (ws' := (MW y y0 y1 y2 y3 cA H T E G cc gc w d v)) [5, 6, 7, 8, 9] rfl) rfl rfl rfl [jI i1] rfl rfl hl.1 (Nat.le_of_ble_eq_true rfl) ⟨Nat.le_of_ble_eq_true rfl, Nat.le_of_ble_eq_true rfl⟩ dL_law_239 (fun i2 q2 => ?_)
  have he : i1 = i2 := q1.trans q2.symm
  subst he
  refine lv_icmp_eq (tgt := 895) S.1 S.2.1 dL_law_242 (by decide) (fun _ => ?_) (fun z9 => absurd rfl z9)
  exact kk _ _ _ _ _ _ _ _ _ _ _ _ ⟨hok, hP, hD, hS⟩
set_option maxHeartbeats 4000000 in
set_option maxRecDepth 100000 in
theorem law_case_5 {p : Program} {l : Launch} {e : Env} {s : State} {m : MethodId} {below : List Frame} {meth : Method} {c : Code} {b L : Nat} {xs : Nat → Int32} {D : va_G} {x x0 x1 x2 x3 y y0 y1 y2 y3 : Nat} {cA : ClassId} {A : Nat → Prop} (S : CallFix p m c code 4 s #[.ref b] wsL_law RL) (hX : va_X b L xs s s.heap) (hbl : b < s.heap.size) (hbA : ¬ A b) (hA : ∀ q, s.heap.size ≤ q → A q) (hK : va_K D vwCl [(cA, .int)] s) {H T E F G : Int → Int} {cc gc w d v : Int} {Hp : Heap} {lc : List Loc} (hI : LInv s D A x x0 x1 x2 x3 y y0 y1 y2 y3 cA H T E F G cc gc w d v Hp lc) {i : Int} (hi : 0 ≤ i ∧ i ≤ 2560 ∧ i + 5 ≤ (L : Int)) {ls : Array Slot} (hl : lv_has ls 4 (LLs b x y i)) (kk : ∀ (H T E F G : Int → Int) (cc gc w d v : Int) (Hp : Heap) (lc : List Loc), LInv s D A x x0 x1 x2 x3 y y0 y1 y2 y3 cA H T E F G cc gc w d v Hp lc → W p l e room_1 s m #[Value.ref b] below meth c Hp lc 10 78 (lw_Z below #[Value.ref b] s) (F0 m 895 ls [])) : W p l e room_1 s m #[Value.ref b] below meth c Hp lc 10 78 (lw_Z below #[Value.ref b] s) (F0 m 247 ls []) := by
  obtain ⟨hok, hP, hD, hS⟩ := hI
  refine lv_aload_n S.1 S.2.1 dL_law_247 rfl (lv_at hl 2 rfl) ?_
  refine lv_aload_n S.1 S.2.1 dL_law_248 rfl (lv_at hl 3 rfl) ?_
  refine j_iload_n S dL_law_249 rfl (lv_at hl 0 rfl) ?_
  refine j_iconst S dL_law_250 ?_
  refine j_iadd S dL_law_251 ?_
  refine j_sld S hX hbl hbA hS (a := (i + 1)) ⟨by omega, by omega, by omega⟩ dL_law_252 ?_
  refine lv_aload_n S.1 S.2.1 dL_law_253 rfl (lv_at hl 3 rfl) ?_
  refine j_iload_n S dL_law_254 rfl (lv_at hl 0 rfl) ?_
  refine j_iconst S dL_law_255 ?_
  refine j_iadd S dL_law_256 ?_
  refine j_sld S hX hbl hbA hS (a := (i + 2)) ⟨by omega, by omega, by omega⟩ dL_law_257 ?_
  refine j_cvi (As := [jI (sx xs (i + 1)), jI (sx xs (i + 2))]) (ci := 0) S (c_X0_plain l D x x0 x1 x2 x3 cA H T E F cc gc w d v hok (sx xs (i + 1)) (sx xs (i + 2)) sx_in sx_in) (cwV 2 S.2.2.2.2 gL_law_X0_plain rfl rfl rfl ⟨rfl, hdX0_plain⟩ ⟨Nat.le_of_ble_eq_true rfl, Nat.le_of_ble_eq_true rfl⟩) hK (hP.sub (ws' := (XW x x0 x1 x2 x3 cA H T E F cc gc w d v)) [0, 1, 2, 3, 4] rfl) rfl rfl rfl [] rfl rfl hl.1 (Nat.le_of_ble_eq_true rfl) ⟨Nat.le_of_ble_eq_true rfl, Nat.le_of_ble_eq_true rfl⟩ dL_law_258 (fun i1 q1 => ?_)
  refine lv_aload_n S.1 S.2.1 dL_law_261 rfl (lv_at hl 1 rfl) ?_
  refine lv_aload_n S.1 S.2.1 dL_law_262 rfl (lv_at hl 3 rfl) ?_
  refine j_iload_n S dL_law_263 rfl (lv_at hl 0 rfl) ?_
  refine j_iconst S dL_law_264 ?_
  refine j_iadd S dL_law_265 ?_
  refine j_sld S hX hbl hbA hS (a := (i + 1)) ⟨by omega, by omega, by omega⟩ dL_law_266 ?_
  refine lv_aload_n S.1 S.2.1 dL_law_267 rfl (lv_at hl 3 rfl) ?_
  refine j_iload_n S dL_law_268 rfl (lv_at hl 0 rfl) ?_
  refine j_iconst S dL_law_269 ?_
  refine j_iadd S dL_law_270 ?_
  refine j_sld S hX hbl hbA hS (a := (i + 2)) ⟨by omega, by omega, by omega⟩ dL_law_271 ?_
  refine j_cvi (As := [jI (sx xs (i + 1)), jI (sx xs (i + 2))]) (ci := 1) S (c_X1_plain l D y y0 y1 y2 y3 cA H T E G cc gc w d v hok (sx xs (i + 1)) (sx xs (i + 2)) sx_in sx_in) (cwV 2 S.2.2.2.2 gL_law_X1_plain rfl rfl rfl ⟨rfl, hdX1_plain⟩ ⟨Nat.le_of_ble_eq_true rfl, Nat.le_of_ble_eq_true rfl⟩) hK (hP.sub (ws' := (MW y y0 y1 y2 y3 cA H T E G cc gc w d v)) [5, 6, 7, 8, 9] rfl) rfl rfl rfl [jI i1] rfl rfl hl.1 (Nat.le_of_ble_eq_true rfl) ⟨Nat.le_of_ble_eq_true rfl, Nat.le_of_ble_eq_true rfl⟩ dL_law_272 (fun i2 q2 => ?_)
  have he : i1 = i2 := q1.trans q2.symm
  subst he
  refine lv_icmp_eq (tgt := 895) S.1 S.2.1 dL_law_275 (by decide) (fun _ => ?_) (fun z9 => absurd rfl z9)
  exact kk _ _ _ _ _ _ _ _ _ _ _ _ ⟨hok, hP, hD, hS⟩
set_option maxHeartbeats 4000000 in
set_option maxRecDepth 100000 in
theorem law_case_6 {p : Program} {l : Launch} {e : Env} {s : State} {m : MethodId} {below : List Frame} {meth : Method} {c : Code} {b L : Nat} {xs : Nat → Int32} {D : va_G} {x x0 x1 x2 x3 y y0 y1 y2 y3 : Nat} {cA : ClassId} {A : Nat → Prop} (S : CallFix p m c code 4 s #[.ref b] wsL_law RL) (hX : va_X b L xs s s.heap) (hbl : b < s.heap.size) (hbA : ¬ A b) (hA : ∀ q, s.heap.size ≤ q → A q) (hK : va_K D vwCl [(cA, .int)] s) {H T E F G : Int → Int} {cc gc w d v : Int} {Hp : Heap} {lc : List Loc} (hI : LInv s D A x x0 x1 x2 x3 y y0 y1 y2 y3 cA H T E F G cc gc w d v Hp lc) {i : Int} (hi : 0 ≤ i ∧ i ≤ 2560 ∧ i + 5 ≤ (L : Int)) {ls : Array Slot} (hl : lv_has ls 4 (LLs b x y i)) (kk : ∀ (H T E F G : Int → Int) (cc gc w d v : Int) (Hp : Heap) (lc : List Loc), LInv s D A x x0 x1 x2 x3 y y0 y1 y2 y3 cA H T E F G cc gc w d v Hp lc → W p l e room_1 s m #[Value.ref b] below meth c Hp lc 10 78 (lw_Z below #[Value.ref b] s) (F0 m 895 ls [])) : W p l e room_1 s m #[Value.ref b] below meth c Hp lc 10 78 (lw_Z below #[Value.ref b] s) (F0 m 280 ls []) := by
  obtain ⟨hok, hP, hD, hS⟩ := hI
  refine lv_aload_n S.1 S.2.1 dL_law_280 rfl (lv_at hl 2 rfl) ?_
  refine lv_aload_n S.1 S.2.1 dL_law_281 rfl (lv_at hl 3 rfl) ?_
  refine j_iload_n S dL_law_282 rfl (lv_at hl 0 rfl) ?_
  refine j_iconst S dL_law_283 ?_
  refine j_iadd S dL_law_284 ?_
  refine j_sld S hX hbl hbA hS (a := (i + 1)) ⟨by omega, by omega, by omega⟩ dL_law_285 ?_
  refine lv_aload_n S.1 S.2.1 dL_law_286 rfl (lv_at hl 3 rfl) ?_
  refine j_iload_n S dL_law_287 rfl (lv_at hl 0 rfl) ?_
  refine j_iconst S dL_law_288 ?_
  refine j_iadd S dL_law_289 ?_
  refine j_sld S hX hbl hbA hS (a := (i + 2)) ⟨by omega, by omega, by omega⟩ dL_law_290 ?_
  refine j_cvi (As := [jI (sx xs (i + 1)), jI (sx xs (i + 2))]) (ci := 0) S (c_X0_compound l D x x0 x1 x2 x3 cA H T E F cc gc w d v hok (sx xs (i + 1)) (sx xs (i + 2)) sx_in sx_in) (cwV 2 S.2.2.2.2 gL_law_X0_compound rfl rfl rfl ⟨rfl, hdX0_compound⟩ ⟨Nat.le_of_ble_eq_true rfl, Nat.le_of_ble_eq_true rfl⟩) hK (hP.sub (ws' := (XW x x0 x1 x2 x3 cA H T E F cc gc w d v)) [0, 1, 2, 3, 4] rfl) rfl rfl rfl [] rfl rfl hl.1 (Nat.le_of_ble_eq_true rfl) ⟨Nat.le_of_ble_eq_true rfl, Nat.le_of_ble_eq_true rfl⟩ dL_law_291 (fun i1 q1 => ?_)
  refine lv_aload_n S.1 S.2.1 dL_law_294 rfl (lv_at hl 1 rfl) ?_
  refine lv_aload_n S.1 S.2.1 dL_law_295 rfl (lv_at hl 3 rfl) ?_
  refine j_iload_n S dL_law_296 rfl (lv_at hl 0 rfl) ?_
  refine j_iconst S dL_law_297 ?_
  refine j_iadd S dL_law_298 ?_
  refine j_sld S hX hbl hbA hS (a := (i + 1)) ⟨by omega, by omega, by omega⟩ dL_law_299 ?_
  refine lv_aload_n S.1 S.2.1 dL_law_300 rfl (lv_at hl 3 rfl) ?_
  refine j_iload_n S dL_law_301 rfl (lv_at hl 0 rfl) ?_
  refine j_iconst S dL_law_302 ?_
  refine j_iadd S dL_law_303 ?_
  refine j_sld S hX hbl hbA hS (a := (i + 2)) ⟨by omega, by omega, by omega⟩ dL_law_304 ?_
  refine j_cvi (As := [jI (sx xs (i + 1)), jI (sx xs (i + 2))]) (ci := 1) S (c_X1_compound l D y y0 y1 y2 y3 cA H T E G cc gc w d v hok (sx xs (i + 1)) (sx xs (i + 2)) sx_in sx_in) (cwV 2 S.2.2.2.2 gL_law_X1_compound rfl rfl rfl ⟨rfl, hdX1_compound⟩ ⟨Nat.le_of_ble_eq_true rfl, Nat.le_of_ble_eq_true rfl⟩) hK (hP.sub (ws' := (MW y y0 y1 y2 y3 cA H T E G cc gc w d v)) [5, 6, 7, 8, 9] rfl) rfl rfl rfl [jI i1] rfl rfl hl.1 (Nat.le_of_ble_eq_true rfl) ⟨Nat.le_of_ble_eq_true rfl, Nat.le_of_ble_eq_true rfl⟩ dL_law_305 (fun i2 q2 => ?_)
  have he : i1 = i2 := P_compound_det q1 q2
  subst he
  refine lv_icmp_eq (tgt := 895) S.1 S.2.1 dL_law_308 (by decide) (fun _ => ?_) (fun z9 => absurd rfl z9)
  exact kk _ _ _ _ _ _ _ _ _ _ _ _ ⟨hok, hP, hD, hS⟩
set_option maxHeartbeats 4000000 in
set_option maxRecDepth 100000 in
theorem law_case_7 {p : Program} {l : Launch} {e : Env} {s : State} {m : MethodId} {below : List Frame} {meth : Method} {c : Code} {b L : Nat} {xs : Nat → Int32} {D : va_G} {x x0 x1 x2 x3 y y0 y1 y2 y3 : Nat} {cA : ClassId} {A : Nat → Prop} (S : CallFix p m c code 4 s #[.ref b] wsL_law RL) (hX : va_X b L xs s s.heap) (hbl : b < s.heap.size) (hbA : ¬ A b) (hA : ∀ q, s.heap.size ≤ q → A q) (hK : va_K D vwCl [(cA, .int)] s) {H T E F G : Int → Int} {cc gc w d v : Int} {Hp : Heap} {lc : List Loc} (hI : LInv s D A x x0 x1 x2 x3 y y0 y1 y2 y3 cA H T E F G cc gc w d v Hp lc) {i : Int} (hi : 0 ≤ i ∧ i ≤ 2560 ∧ i + 5 ≤ (L : Int)) {ls : Array Slot} (hl : lv_has ls 4 (LLs b x y i)) (kk : ∀ (H T E F G : Int → Int) (cc gc w d v : Int) (Hp : Heap) (lc : List Loc), LInv s D A x x0 x1 x2 x3 y y0 y1 y2 y3 cA H T E F G cc gc w d v Hp lc → W p l e room_1 s m #[Value.ref b] below meth c Hp lc 10 78 (lw_Z below #[Value.ref b] s) (F0 m 895 ls [])) : W p l e room_1 s m #[Value.ref b] below meth c Hp lc 10 78 (lw_Z below #[Value.ref b] s) (F0 m 313 ls []) := by
  obtain ⟨hok, hP, hD, hS⟩ := hI
  refine lv_aload_n S.1 S.2.1 dL_law_313 rfl (lv_at hl 2 rfl) ?_
  refine lv_aload_n S.1 S.2.1 dL_law_314 rfl (lv_at hl 3 rfl) ?_
  refine j_iload_n S dL_law_315 rfl (lv_at hl 0 rfl) ?_
  refine j_iconst S dL_law_316 ?_
  refine j_iadd S dL_law_317 ?_
  refine j_sld S hX hbl hbA hS (a := (i + 1)) ⟨by omega, by omega, by omega⟩ dL_law_318 ?_
  refine lv_aload_n S.1 S.2.1 dL_law_319 rfl (lv_at hl 3 rfl) ?_
  refine j_iload_n S dL_law_320 rfl (lv_at hl 0 rfl) ?_
  refine j_iconst S dL_law_321 ?_
  refine j_iadd S dL_law_322 ?_
  refine j_sld S hX hbl hbA hS (a := (i + 2)) ⟨by omega, by omega, by omega⟩ dL_law_323 ?_
  refine j_cvm [0, 1, 2, 3, 4] [5, 6, 7, 8, 9] (wr := (MW y y0 y1 y2 y3 cA H T E G cc gc w d v)) (As := [jI (sx xs (i + 1)), jI (sx xs (i + 2))]) (ci := 0) S (c_X0_differential l D x x0 x1 x2 x3 cA H T E F cc gc w d v _ hok (sx xs (i + 1)) (sx xs (i + 2)) sx_in sx_in) (cwV 2 S.2.2.2.2 gL_law_X0_differential rfl rfl rfl ⟨rfl, hdX0_differential⟩ ⟨Nat.le_of_ble_eq_true rfl, Nat.le_of_ble_eq_true rfl⟩) hK hP hD hS hA rfl rfl (by decide) (by decide) (by decide) rfl rfl rfl [] rfl rfl hl.1 (Nat.le_of_ble_eq_true rfl) ⟨Nat.le_of_ble_eq_true rfl, Nat.le_of_ble_eq_true rfl⟩ dL_law_324 (fun i1 u1 Hp lc q1 hP hD hS => ?_)
  have hP : va_P D vwCl ((MW y y0 y1 y2 y3 cA H T E G cc gc w d v) ++ (XW x x0 x1 x2 x3 cA H T E u1 cc gc w d v)) Hp := hP
  have hD : va_D A ((MW y y0 y1 y2 y3 cA H T E G cc gc w d v) ++ (XW x x0 x1 x2 x3 cA H T E u1 cc gc w d v)) := hD
  refine lv_aload_n S.1 S.2.1 dL_law_327 rfl (lv_at hl 1 rfl) ?_
  refine lv_aload_n S.1 S.2.1 dL_law_328 rfl (lv_at hl 3 rfl) ?_
  refine j_iload_n S dL_law_329 rfl (lv_at hl 0 rfl) ?_
  refine j_iconst S dL_law_330 ?_
  refine j_iadd S dL_law_331 ?_
  refine j_sld S hX hbl hbA hS (a := (i + 1)) ⟨by omega, by omega, by omega⟩ dL_law_332 ?_
  refine lv_aload_n S.1 S.2.1 dL_law_333 rfl (lv_at hl 3 rfl) ?_
  refine j_iload_n S dL_law_334 rfl (lv_at hl 0 rfl) ?_
  refine j_iconst S dL_law_335 ?_
  refine j_iadd S dL_law_336 ?_
  refine j_sld S hX hbl hbA hS (a := (i + 2)) ⟨by omega, by omega, by omega⟩ dL_law_337 ?_
  refine j_cvm [0, 1, 2, 3, 4] [5, 6, 7, 8, 9] (wr := (XW x x0 x1 x2 x3 cA H T E u1 cc gc w d v)) (As := [jI (sx xs (i + 1)), jI (sx xs (i + 2))]) (ci := 1) S (c_X1_differential l D y y0 y1 y2 y3 cA H T E G cc gc w d v _ hok (sx xs (i + 1)) (sx xs (i + 2)) sx_in sx_in) (cwV 2 S.2.2.2.2 gL_law_X1_differential rfl rfl rfl ⟨rfl, hdX1_differential⟩ ⟨Nat.le_of_ble_eq_true rfl, Nat.le_of_ble_eq_true rfl⟩) hK hP hD hS hA rfl rfl (by decide) (by decide) (by decide) rfl rfl rfl [jI i1] rfl rfl hl.1 (Nat.le_of_ble_eq_true rfl) ⟨Nat.le_of_ble_eq_true rfl, Nat.le_of_ble_eq_true rfl⟩ dL_law_338 (fun i2 u2 Hp lc q2 hP hD hS => ?_)
  have hP : va_P D vwCl ((XW x x0 x1 x2 x3 cA H T E u1 cc gc w d v) ++ (MW y y0 y1 y2 y3 cA H T E u2 cc gc w d v)) Hp := hP
  have hD : va_D A ((XW x x0 x1 x2 x3 cA H T E u1 cc gc w d v) ++ (MW y y0 y1 y2 y3 cA H T E u2 cc gc w d v)) := hD
  have he : i1 = i2 := P_diff_det (by have := hok.2.1; omega) q1 q2
  subst he
  refine lv_icmp_eq (tgt := 895) S.1 S.2.1 dL_law_341 (by decide) (fun _ => ?_) (fun z9 => absurd rfl z9)
  exact kk H T E u1 u2 cc gc w d v _ _ ⟨hok, hP, hD, hS⟩
