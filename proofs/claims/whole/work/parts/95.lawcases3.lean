set_option maxHeartbeats 4000000 in
set_option maxRecDepth 100000 in
theorem law_case_15 {p : Program} {l : Launch} {e : Env} {s : State} {m : MethodId} {below : List Frame} {meth : Method} {c : Code} {b L : Nat} {xs : Nat → Int32} {D : va_G} {x x0 x1 x2 x3 y y0 y1 y2 y3 : Nat} {cA : ClassId} {A : Nat → Prop} (S : CallFix p m c code 4 s #[.ref b] wsL_law RL) (hX : va_X b L xs s s.heap) (hbl : b < s.heap.size) (hbA : ¬ A b) (hA : ∀ q, s.heap.size ≤ q → A q) (hK : va_K D vwCl [(cA, .int)] s) {H T E F G : Int → Int} {cc gc w d v : Int} {Hp : Heap} {lc : List Loc} (hI : LInv s D A x x0 x1 x2 x3 y y0 y1 y2 y3 cA H T E F G cc gc w d v Hp lc) {i : Int} (hi : 0 ≤ i ∧ i ≤ 2560 ∧ i + 5 ≤ (L : Int)) {ls : Array Slot} (hl : lv_has ls 4 (LLs b x y i)) (kk : ∀ (H T E F G : Int → Int) (cc gc w d v : Int) (Hp : Heap) (lc : List Loc), LInv s D A x x0 x1 x2 x3 y y0 y1 y2 y3 cA H T E F G cc gc w d v Hp lc → W p l e room_1 s m #[Value.ref b] below meth c Hp lc 10 78 (lw_Z below #[Value.ref b] s) (F0 m 895 ls [])) : W p l e room_1 s m #[Value.ref b] below meth c Hp lc 10 78 (lw_Z below #[Value.ref b] s) (F0 m 637 ls []) := by
  obtain ⟨hok, hP, hD, hS⟩ := hI
  refine lv_aload_n S.1 S.2.1 dL_law_637 rfl (lv_at hl 2 rfl) ?_
  refine lv_aload_n S.1 S.2.1 dL_law_638 rfl (lv_at hl 3 rfl) ?_
  refine j_iload_n S dL_law_639 rfl (lv_at hl 0 rfl) ?_
  refine j_iconst S dL_law_640 ?_
  refine j_iadd S dL_law_641 ?_
  refine j_sld S hX hbl hbA hS (a := (i + 1)) ⟨by omega, by omega, by omega⟩ dL_law_642 ?_
  refine lv_aload_n S.1 S.2.1 dL_law_643 rfl (lv_at hl 3 rfl) ?_
  refine j_iload_n S dL_law_644 rfl (lv_at hl 0 rfl) ?_
  refine j_iconst S dL_law_645 ?_
  refine j_iadd S dL_law_646 ?_
  refine j_sld S hX hbl hbA hS (a := (i + 2)) ⟨by omega, by omega, by omega⟩ dL_law_647 ?_
  refine lv_aload_n S.1 S.2.1 dL_law_648 rfl (lv_at hl 3 rfl) ?_
  refine j_iload_n S dL_law_649 rfl (lv_at hl 0 rfl) ?_
  refine j_iconst S dL_law_650 ?_
  refine j_iadd S dL_law_651 ?_
  refine j_sld S hX hbl hbA hS (a := (i + 3)) ⟨by omega, by omega, by omega⟩ dL_law_652 ?_
  refine lv_aload_n S.1 S.2.1 dL_law_653 rfl (lv_at hl 3 rfl) ?_
  refine j_iload_n S dL_law_654 rfl (lv_at hl 0 rfl) ?_
  refine j_iconst S dL_law_655 ?_
  refine j_iadd S dL_law_656 ?_
  refine j_sld S hX hbl hbA hS (a := (i + 4)) ⟨by omega, by omega, by omega⟩ dL_law_657 ?_
  refine j_cvi (As := [jI (sx xs (i + 1)), jI (sx xs (i + 2)), jI (sx xs (i + 3)), jI (sx xs (i + 4))]) (ci := 0) S (c_X0_extreme l D x x0 x1 x2 x3 cA H T E F cc gc w d v hok (sx xs (i + 1)) (sx xs (i + 2)) (sx xs (i + 3)) (sx xs (i + 4)) sx_in sx_in sx_in sx_in) (cwV 4 S.2.2.2.2 gL_law_X0_extreme rfl rfl rfl ⟨rfl, hdX0_extreme⟩ ⟨Nat.le_of_ble_eq_true rfl, Nat.le_of_ble_eq_true rfl⟩) hK (hP.sub (ws' := (XW x x0 x1 x2 x3 cA H T E F cc gc w d v)) [0, 1, 2, 3, 4] rfl) rfl rfl rfl [] rfl rfl hl.1 (Nat.le_of_ble_eq_true rfl) ⟨Nat.le_of_ble_eq_true rfl, Nat.le_of_ble_eq_true rfl⟩ dL_law_658 (fun i1 q1 => ?_)
  refine lv_aload_n S.1 S.2.1 dL_law_661 rfl (lv_at hl 1 rfl) ?_
  refine lv_aload_n S.1 S.2.1 dL_law_662 rfl (lv_at hl 3 rfl) ?_
  refine j_iload_n S dL_law_663 rfl (lv_at hl 0 rfl) ?_
  refine j_iconst S dL_law_664 ?_
  refine j_iadd S dL_law_665 ?_
  refine j_sld S hX hbl hbA hS (a := (i + 1)) ⟨by omega, by omega, by omega⟩ dL_law_666 ?_
  refine lv_aload_n S.1 S.2.1 dL_law_667 rfl (lv_at hl 3 rfl) ?_
  refine j_iload_n S dL_law_668 rfl (lv_at hl 0 rfl) ?_
  refine j_iconst S dL_law_669 ?_
  refine j_iadd S dL_law_670 ?_
  refine j_sld S hX hbl hbA hS (a := (i + 2)) ⟨by omega, by omega, by omega⟩ dL_law_671 ?_
  refine lv_aload_n S.1 S.2.1 dL_law_672 rfl (lv_at hl 3 rfl) ?_
  refine j_iload_n S dL_law_673 rfl (lv_at hl 0 rfl) ?_
  refine j_iconst S dL_law_674 ?_
  refine j_iadd S dL_law_675 ?_
  refine j_sld S hX hbl hbA hS (a := (i + 3)) ⟨by omega, by omega, by omega⟩ dL_law_676 ?_
  refine lv_aload_n S.1 S.2.1 dL_law_677 rfl (lv_at hl 3 rfl) ?_
  refine j_iload_n S dL_law_678 rfl (lv_at hl 0 rfl) ?_
  refine j_iconst S dL_law_679 ?_
  refine j_iadd S dL_law_680 ?_
  refine j_sld S hX hbl hbA hS (a := (i + 4)) ⟨by omega, by omega, by omega⟩ dL_law_681 ?_
  refine j_cvi (As := [jI (sx xs (i + 1)), jI (sx xs (i + 2)), jI (sx xs (i + 3)), jI (sx xs (i + 4))]) (ci := 1) S (c_X1_extreme l D y y0 y1 y2 y3 cA H T E G cc gc w d v hok (sx xs (i + 1)) (sx xs (i + 2)) (sx xs (i + 3)) (sx xs (i + 4)) sx_in sx_in sx_in sx_in) (cwV 4 S.2.2.2.2 gL_law_X1_extreme rfl rfl rfl ⟨rfl, hdX1_extreme⟩ ⟨Nat.le_of_ble_eq_true rfl, Nat.le_of_ble_eq_true rfl⟩) hK (hP.sub (ws' := (MW y y0 y1 y2 y3 cA H T E G cc gc w d v)) [5, 6, 7, 8, 9] rfl) rfl rfl rfl [jI i1] rfl rfl hl.1 (Nat.le_of_ble_eq_true rfl) ⟨Nat.le_of_ble_eq_true rfl, Nat.le_of_ble_eq_true rfl⟩ dL_law_682 (fun i2 q2 => ?_)
  have he : i1 = i2 := q1.trans q2.symm
  subst he
  refine lv_icmp_eq (tgt := 895) S.1 S.2.1 dL_law_685 (by decide) (fun _ => ?_) (fun z9 => absurd rfl z9)
  exact kk _ _ _ _ _ _ _ _ _ _ _ _ ⟨hok, hP, hD, hS⟩
set_option maxHeartbeats 4000000 in
set_option maxRecDepth 100000 in
theorem law_case_16 {p : Program} {l : Launch} {e : Env} {s : State} {m : MethodId} {below : List Frame} {meth : Method} {c : Code} {b L : Nat} {xs : Nat → Int32} {D : va_G} {x x0 x1 x2 x3 y y0 y1 y2 y3 : Nat} {cA : ClassId} {A : Nat → Prop} (S : CallFix p m c code 4 s #[.ref b] wsL_law RL) (hX : va_X b L xs s s.heap) (hbl : b < s.heap.size) (hbA : ¬ A b) (hA : ∀ q, s.heap.size ≤ q → A q) (hK : va_K D vwCl [(cA, .int)] s) {H T E F G : Int → Int} {cc gc w d v : Int} {Hp : Heap} {lc : List Loc} (hI : LInv s D A x x0 x1 x2 x3 y y0 y1 y2 y3 cA H T E F G cc gc w d v Hp lc) {i : Int} (hi : 0 ≤ i ∧ i ≤ 2560 ∧ i + 5 ≤ (L : Int)) {ls : Array Slot} (hl : lv_has ls 4 (LLs b x y i)) (kk : ∀ (H T E F G : Int → Int) (cc gc w d v : Int) (Hp : Heap) (lc : List Loc), LInv s D A x x0 x1 x2 x3 y y0 y1 y2 y3 cA H T E F G cc gc w d v Hp lc → W p l e room_1 s m #[Value.ref b] below meth c Hp lc 10 78 (lw_Z below #[Value.ref b] s) (F0 m 895 ls [])) : W p l e room_1 s m #[Value.ref b] below meth c Hp lc 10 78 (lw_Z below #[Value.ref b] s) (F0 m 690 ls []) := by
  obtain ⟨hok, hP, hD, hS⟩ := hI
  refine lv_aload_n S.1 S.2.1 dL_law_690 rfl (lv_at hl 2 rfl) ?_
  refine lv_aload_n S.1 S.2.1 dL_law_691 rfl (lv_at hl 3 rfl) ?_
  refine j_iload_n S dL_law_692 rfl (lv_at hl 0 rfl) ?_
  refine j_iconst S dL_law_693 ?_
  refine j_iadd S dL_law_694 ?_
  refine j_sld S hX hbl hbA hS (a := (i + 1)) ⟨by omega, by omega, by omega⟩ dL_law_695 ?_
  refine lv_aload_n S.1 S.2.1 dL_law_696 rfl (lv_at hl 3 rfl) ?_
  refine j_iload_n S dL_law_697 rfl (lv_at hl 0 rfl) ?_
  refine j_iconst S dL_law_698 ?_
  refine j_iadd S dL_law_699 ?_
  refine j_sld S hX hbl hbA hS (a := (i + 2)) ⟨by omega, by omega, by omega⟩ dL_law_700 ?_
  refine lv_aload_n S.1 S.2.1 dL_law_701 rfl (lv_at hl 3 rfl) ?_
  refine j_iload_n S dL_law_702 rfl (lv_at hl 0 rfl) ?_
  refine j_iconst S dL_law_703 ?_
  refine j_iadd S dL_law_704 ?_
  refine j_sld S hX hbl hbA hS (a := (i + 3)) ⟨by omega, by omega, by omega⟩ dL_law_705 ?_
  refine lv_aload_n S.1 S.2.1 dL_law_706 rfl (lv_at hl 3 rfl) ?_
  refine j_iload_n S dL_law_707 rfl (lv_at hl 0 rfl) ?_
  refine j_iconst S dL_law_708 ?_
  refine j_iadd S dL_law_709 ?_
  refine j_sld S hX hbl hbA hS (a := (i + 4)) ⟨by omega, by omega, by omega⟩ dL_law_710 ?_
  refine j_cvi (As := [jI (sx xs (i + 1)), jI (sx xs (i + 2)), jI (sx xs (i + 3)), jI (sx xs (i + 4))]) (ci := 0) S (c_X0_near l D x x0 x1 x2 x3 cA H T E F cc gc w d v hok (sx xs (i + 1)) (sx xs (i + 2)) (sx xs (i + 3)) (sx xs (i + 4)) sx_in sx_in sx_in sx_in) (cwV 4 S.2.2.2.2 gL_law_X0_near rfl rfl rfl ⟨rfl, hdX0_near⟩ ⟨Nat.le_of_ble_eq_true rfl, Nat.le_of_ble_eq_true rfl⟩) hK (hP.sub (ws' := (XW x x0 x1 x2 x3 cA H T E F cc gc w d v)) [0, 1, 2, 3, 4] rfl) rfl rfl rfl [] rfl rfl hl.1 (Nat.le_of_ble_eq_true rfl) ⟨Nat.le_of_ble_eq_true rfl, Nat.le_of_ble_eq_true rfl⟩ dL_law_711 (fun i1 q1 => ?_)
  refine lv_aload_n S.1 S.2.1 dL_law_714 rfl (lv_at hl 1 rfl) ?_
  refine lv_aload_n S.1 S.2.1 dL_law_715 rfl (lv_at hl 3 rfl) ?_
  refine j_iload_n S dL_law_716 rfl (lv_at hl 0 rfl) ?_
  refine j_iconst S dL_law_717 ?_
  refine j_iadd S dL_law_718 ?_
  refine j_sld S hX hbl hbA hS (a := (i + 1)) ⟨by omega, by omega, by omega⟩ dL_law_719 ?_
  refine lv_aload_n S.1 S.2.1 dL_law_720 rfl (lv_at hl 3 rfl) ?_
  refine j_iload_n S dL_law_721 rfl (lv_at hl 0 rfl) ?_
  refine j_iconst S dL_law_722 ?_
  refine j_iadd S dL_law_723 ?_
  refine j_sld S hX hbl hbA hS (a := (i + 2)) ⟨by omega, by omega, by omega⟩ dL_law_724 ?_
  refine lv_aload_n S.1 S.2.1 dL_law_725 rfl (lv_at hl 3 rfl) ?_
  refine j_iload_n S dL_law_726 rfl (lv_at hl 0 rfl) ?_
  refine j_iconst S dL_law_727 ?_
  refine j_iadd S dL_law_728 ?_
  refine j_sld S hX hbl hbA hS (a := (i + 3)) ⟨by omega, by omega, by omega⟩ dL_law_729 ?_
  refine lv_aload_n S.1 S.2.1 dL_law_730 rfl (lv_at hl 3 rfl) ?_
  refine j_iload_n S dL_law_731 rfl (lv_at hl 0 rfl) ?_
  refine j_iconst S dL_law_732 ?_
  refine j_iadd S dL_law_733 ?_
  refine j_sld S hX hbl hbA hS (a := (i + 4)) ⟨by omega, by omega, by omega⟩ dL_law_734 ?_
  refine j_cvi (As := [jI (sx xs (i + 1)), jI (sx xs (i + 2)), jI (sx xs (i + 3)), jI (sx xs (i + 4))]) (ci := 1) S (c_X1_near l D y y0 y1 y2 y3 cA H T E G cc gc w d v hok (sx xs (i + 1)) (sx xs (i + 2)) (sx xs (i + 3)) (sx xs (i + 4)) sx_in sx_in sx_in sx_in) (cwV 4 S.2.2.2.2 gL_law_X1_near rfl rfl rfl ⟨rfl, hdX1_near⟩ ⟨Nat.le_of_ble_eq_true rfl, Nat.le_of_ble_eq_true rfl⟩) hK (hP.sub (ws' := (MW y y0 y1 y2 y3 cA H T E G cc gc w d v)) [5, 6, 7, 8, 9] rfl) rfl rfl rfl [jI i1] rfl rfl hl.1 (Nat.le_of_ble_eq_true rfl) ⟨Nat.le_of_ble_eq_true rfl, Nat.le_of_ble_eq_true rfl⟩ dL_law_735 (fun i2 q2 => ?_)
  have he : i1 = i2 := q1.trans q2.symm
  subst he
  refine lv_icmp_eq (tgt := 895) S.1 S.2.1 dL_law_738 (by decide) (fun _ => ?_) (fun z9 => absurd rfl z9)
  exact kk _ _ _ _ _ _ _ _ _ _ _ _ ⟨hok, hP, hD, hS⟩
set_option maxHeartbeats 4000000 in
set_option maxRecDepth 100000 in
theorem law_case_17 {p : Program} {l : Launch} {e : Env} {s : State} {m : MethodId} {below : List Frame} {meth : Method} {c : Code} {b L : Nat} {xs : Nat → Int32} {D : va_G} {x x0 x1 x2 x3 y y0 y1 y2 y3 : Nat} {cA : ClassId} {A : Nat → Prop} (S : CallFix p m c code 4 s #[.ref b] wsL_law RL) (hX : va_X b L xs s s.heap) (hbl : b < s.heap.size) (hbA : ¬ A b) (hA : ∀ q, s.heap.size ≤ q → A q) (hK : va_K D vwCl [(cA, .int)] s) {H T E F G : Int → Int} {cc gc w d v : Int} {Hp : Heap} {lc : List Loc} (hI : LInv s D A x x0 x1 x2 x3 y y0 y1 y2 y3 cA H T E F G cc gc w d v Hp lc) {i : Int} (hi : 0 ≤ i ∧ i ≤ 2560 ∧ i + 5 ≤ (L : Int)) {ls : Array Slot} (hl : lv_has ls 4 (LLs b x y i)) (kk : ∀ (H T E F G : Int → Int) (cc gc w d v : Int) (Hp : Heap) (lc : List Loc), LInv s D A x x0 x1 x2 x3 y y0 y1 y2 y3 cA H T E F G cc gc w d v Hp lc → W p l e room_1 s m #[Value.ref b] below meth c Hp lc 10 78 (lw_Z below #[Value.ref b] s) (F0 m 895 ls [])) : W p l e room_1 s m #[Value.ref b] below meth c Hp lc 10 78 (lw_Z below #[Value.ref b] s) (F0 m 743 ls []) := by
  obtain ⟨hok, hP, hD, hS⟩ := hI
  refine lv_aload_n S.1 S.2.1 dL_law_743 rfl (lv_at hl 2 rfl) ?_
  refine lv_aload_n S.1 S.2.1 dL_law_744 rfl (lv_at hl 3 rfl) ?_
  refine j_iload_n S dL_law_745 rfl (lv_at hl 0 rfl) ?_
  refine j_iconst S dL_law_746 ?_
  refine j_iadd S dL_law_747 ?_
  refine j_sld S hX hbl hbA hS (a := (i + 1)) ⟨by omega, by omega, by omega⟩ dL_law_748 ?_
  refine lv_aload_n S.1 S.2.1 dL_law_749 rfl (lv_at hl 3 rfl) ?_
  refine j_iload_n S dL_law_750 rfl (lv_at hl 0 rfl) ?_
  refine j_iconst S dL_law_751 ?_
  refine j_iadd S dL_law_752 ?_
  refine j_sld S hX hbl hbA hS (a := (i + 2)) ⟨by omega, by omega, by omega⟩ dL_law_753 ?_
  refine j_cvm [0, 1, 2, 3, 4] [5, 6, 7, 8, 9] (wr := (MW y y0 y1 y2 y3 cA H T E G cc gc w d v)) (As := [jI (sx xs (i + 1)), jI (sx xs (i + 2))]) (ci := 0) S (c_X0_vernier l D x x0 x1 x2 x3 cA H T E F cc gc w d v _ hok (sx xs (i + 1)) (sx xs (i + 2)) sx_in sx_in) (cwV 2 S.2.2.2.2 gL_law_X0_vernier rfl rfl rfl ⟨rfl, hdX0_vernier⟩ ⟨Nat.le_of_ble_eq_true rfl, Nat.le_of_ble_eq_true rfl⟩) hK hP hD hS hA rfl rfl (by decide) (by decide) (by decide) rfl rfl rfl [] rfl rfl hl.1 (Nat.le_of_ble_eq_true rfl) ⟨Nat.le_of_ble_eq_true rfl, Nat.le_of_ble_eq_true rfl⟩ dL_law_754 (fun i1 u1 Hp lc q1 hP hD hS => ?_)
  have hP : va_P D vwCl ((MW y y0 y1 y2 y3 cA H T E G cc gc w d v) ++ (XW x x0 x1 x2 x3 cA H T E F cc gc w u1.1 u1.2)) Hp := hP
  have hD : va_D A ((MW y y0 y1 y2 y3 cA H T E G cc gc w d v) ++ (XW x x0 x1 x2 x3 cA H T E F cc gc w u1.1 u1.2)) := hD
  refine lv_aload_n S.1 S.2.1 dL_law_757 rfl (lv_at hl 1 rfl) ?_
  refine lv_aload_n S.1 S.2.1 dL_law_758 rfl (lv_at hl 3 rfl) ?_
  refine j_iload_n S dL_law_759 rfl (lv_at hl 0 rfl) ?_
  refine j_iconst S dL_law_760 ?_
  refine j_iadd S dL_law_761 ?_
  refine j_sld S hX hbl hbA hS (a := (i + 1)) ⟨by omega, by omega, by omega⟩ dL_law_762 ?_
  refine lv_aload_n S.1 S.2.1 dL_law_763 rfl (lv_at hl 3 rfl) ?_
  refine j_iload_n S dL_law_764 rfl (lv_at hl 0 rfl) ?_
  refine j_iconst S dL_law_765 ?_
  refine j_iadd S dL_law_766 ?_
  refine j_sld S hX hbl hbA hS (a := (i + 2)) ⟨by omega, by omega, by omega⟩ dL_law_767 ?_
  refine j_cvm [0, 1, 2, 3, 4] [5, 6, 7, 8, 9] (wr := (XW x x0 x1 x2 x3 cA H T E F cc gc w u1.1 u1.2)) (As := [jI (sx xs (i + 1)), jI (sx xs (i + 2))]) (ci := 1) S (c_X1_vernier l D y y0 y1 y2 y3 cA H T E G cc gc w d v _ hok (sx xs (i + 1)) (sx xs (i + 2)) sx_in sx_in) (cwV 2 S.2.2.2.2 gL_law_X1_vernier rfl rfl rfl ⟨rfl, hdX1_vernier⟩ ⟨Nat.le_of_ble_eq_true rfl, Nat.le_of_ble_eq_true rfl⟩) hK hP hD hS hA rfl rfl (by decide) (by decide) (by decide) rfl rfl rfl [jI i1] rfl rfl hl.1 (Nat.le_of_ble_eq_true rfl) ⟨Nat.le_of_ble_eq_true rfl, Nat.le_of_ble_eq_true rfl⟩ dL_law_768 (fun i2 u2 Hp lc q2 hP hD hS => ?_)
  have hP : va_P D vwCl ((XW x x0 x1 x2 x3 cA H T E F cc gc w u1.1 u1.2) ++ (MW y y0 y1 y2 y3 cA H T E G cc gc w u2.1 u2.2)) Hp := hP
  have hD : va_D A ((XW x x0 x1 x2 x3 cA H T E F cc gc w u1.1 u1.2) ++ (MW y y0 y1 y2 y3 cA H T E G cc gc w u2.1 u2.2)) := hD
  have hdet := R_vernier_det q1 q2
  have he : i1 = i2 := hdet.1
  subst he
  refine lv_icmp_eq (tgt := 895) S.1 S.2.1 dL_law_771 (by decide) (fun _ => ?_) (fun z9 => absurd rfl z9)
  have hu : u1 = u2 := Prod.ext hdet.2.1 hdet.2.2
  subst hu
  exact kk H T E F G cc gc w u1.1 u1.2 _ _ ⟨ok_vernier hok q1, hP, hD, hS⟩
set_option maxHeartbeats 4000000 in
set_option maxRecDepth 100000 in
theorem law_case_18 {p : Program} {l : Launch} {e : Env} {s : State} {m : MethodId} {below : List Frame} {meth : Method} {c : Code} {b L : Nat} {xs : Nat → Int32} {D : va_G} {x x0 x1 x2 x3 y y0 y1 y2 y3 : Nat} {cA : ClassId} {A : Nat → Prop} (S : CallFix p m c code 4 s #[.ref b] wsL_law RL) (hX : va_X b L xs s s.heap) (hbl : b < s.heap.size) (hbA : ¬ A b) (hA : ∀ q, s.heap.size ≤ q → A q) (hK : va_K D vwCl [(cA, .int)] s) {H T E F G : Int → Int} {cc gc w d v : Int} {Hp : Heap} {lc : List Loc} (hI : LInv s D A x x0 x1 x2 x3 y y0 y1 y2 y3 cA H T E F G cc gc w d v Hp lc) {i : Int} (hi : 0 ≤ i ∧ i ≤ 2560 ∧ i + 5 ≤ (L : Int)) {ls : Array Slot} (hl : lv_has ls 4 (LLs b x y i)) (kk : ∀ (H T E F G : Int → Int) (cc gc w d v : Int) (Hp : Heap) (lc : List Loc), LInv s D A x x0 x1 x2 x3 y y0 y1 y2 y3 cA H T E F G cc gc w d v Hp lc → W p l e room_1 s m #[Value.ref b] below meth c Hp lc 10 78 (lw_Z below #[Value.ref b] s) (F0 m 895 ls [])) : W p l e room_1 s m #[Value.ref b] below meth c Hp lc 10 78 (lw_Z below #[Value.ref b] s) (F0 m 776 ls []) := by
  obtain ⟨hok, hP, hD, hS⟩ := hI
  refine lv_aload_n S.1 S.2.1 dL_law_776 rfl (lv_at hl 2 rfl) ?_
  refine lv_aload_n S.1 S.2.1 dL_law_777 rfl (lv_at hl 3 rfl) ?_
  refine j_iload_n S dL_law_778 rfl (lv_at hl 0 rfl) ?_
  refine j_iconst S dL_law_779 ?_
  refine j_iadd S dL_law_780 ?_
  refine j_sld S hX hbl hbA hS (a := (i + 1)) ⟨by omega, by omega, by omega⟩ dL_law_781 ?_
  refine lv_aload_n S.1 S.2.1 dL_law_782 rfl (lv_at hl 3 rfl) ?_
  refine j_iload_n S dL_law_783 rfl (lv_at hl 0 rfl) ?_
  refine j_iconst S dL_law_784 ?_
  refine j_iadd S dL_law_785 ?_
  refine j_sld S hX hbl hbA hS (a := (i + 2)) ⟨by omega, by omega, by omega⟩ dL_law_786 ?_
  refine lv_aload_n S.1 S.2.1 dL_law_787 rfl (lv_at hl 3 rfl) ?_
  refine j_iload_n S dL_law_788 rfl (lv_at hl 0 rfl) ?_
  refine j_iconst S dL_law_789 ?_
  refine j_iadd S dL_law_790 ?_
  refine j_sld S hX hbl hbA hS (a := (i + 3)) ⟨by omega, by omega, by omega⟩ dL_law_791 ?_
  refine j_cvi (As := [jI (sx xs (i + 1)), jI (sx xs (i + 2)), jI (sx xs (i + 3))]) (ci := 0) S (c_X0_read l D x x0 x1 x2 x3 cA H T E F cc gc w d v hok (sx xs (i + 1)) (sx xs (i + 2)) (sx xs (i + 3)) sx_in sx_in sx_in) (cwV 3 S.2.2.2.2 gL_law_X0_read rfl rfl rfl ⟨rfl, hdX0_read⟩ ⟨Nat.le_of_ble_eq_true rfl, Nat.le_of_ble_eq_true rfl⟩) hK (hP.sub (ws' := (XW x x0 x1 x2 x3 cA H T E F cc gc w d v)) [0, 1, 2, 3, 4] rfl) rfl rfl rfl [] rfl rfl hl.1 (Nat.le_of_ble_eq_true rfl) ⟨Nat.le_of_ble_eq_true rfl, Nat.le_of_ble_eq_true rfl⟩ dL_law_792 (fun i1 q1 => ?_)
  refine lv_aload_n S.1 S.2.1 dL_law_795 rfl (lv_at hl 1 rfl) ?_
  refine lv_aload_n S.1 S.2.1 dL_law_796 rfl (lv_at hl 3 rfl) ?_
  refine j_iload_n S dL_law_797 rfl (lv_at hl 0 rfl) ?_
  refine j_iconst S dL_law_798 ?_
  refine j_iadd S dL_law_799 ?_
  refine j_sld S hX hbl hbA hS (a := (i + 1)) ⟨by omega, by omega, by omega⟩ dL_law_800 ?_
  refine lv_aload_n S.1 S.2.1 dL_law_801 rfl (lv_at hl 3 rfl) ?_
  refine j_iload_n S dL_law_802 rfl (lv_at hl 0 rfl) ?_
  refine j_iconst S dL_law_803 ?_
  refine j_iadd S dL_law_804 ?_
  refine j_sld S hX hbl hbA hS (a := (i + 2)) ⟨by omega, by omega, by omega⟩ dL_law_805 ?_
  refine lv_aload_n S.1 S.2.1 dL_law_806 rfl (lv_at hl 3 rfl) ?_
  refine j_iload_n S dL_law_807 rfl (lv_at hl 0 rfl) ?_
  refine j_iconst S dL_law_808 ?_
  refine j_iadd S dL_law_809 ?_
  refine j_sld S hX hbl hbA hS (a := (i + 3)) ⟨by omega, by omega, by omega⟩ dL_law_810 ?_
  refine j_cvi (As := [jI (sx xs (i + 1)), jI (sx xs (i + 2)), jI (sx xs (i + 3))]) (ci := 1) S (c_X1_read l D y y0 y1 y2 y3 cA H T E G cc gc w d v hok (sx xs (i + 1)) (sx xs (i + 2)) (sx xs (i + 3)) sx_in sx_in sx_in) (cwV 3 S.2.2.2.2 gL_law_X1_read rfl rfl rfl ⟨rfl, hdX1_read⟩ ⟨Nat.le_of_ble_eq_true rfl, Nat.le_of_ble_eq_true rfl⟩) hK (hP.sub (ws' := (MW y y0 y1 y2 y3 cA H T E G cc gc w d v)) [5, 6, 7, 8, 9] rfl) rfl rfl rfl [jI i1] rfl rfl hl.1 (Nat.le_of_ble_eq_true rfl) ⟨Nat.le_of_ble_eq_true rfl, Nat.le_of_ble_eq_true rfl⟩ dL_law_811 (fun i2 q2 => ?_)
  have he : i1 = i2 := q1.trans q2.symm
  subst he
  refine lv_icmp_eq (tgt := 895) S.1 S.2.1 dL_law_814 (by decide) (fun _ => ?_) (fun z9 => absurd rfl z9)
  exact kk _ _ _ _ _ _ _ _ _ _ _ _ ⟨hok, hP, hD, hS⟩
set_option maxHeartbeats 4000000 in
set_option maxRecDepth 100000 in
theorem law_case_19 {p : Program} {l : Launch} {e : Env} {s : State} {m : MethodId} {below : List Frame} {meth : Method} {c : Code} {b L : Nat} {xs : Nat → Int32} {D : va_G} {x x0 x1 x2 x3 y y0 y1 y2 y3 : Nat} {cA : ClassId} {A : Nat → Prop} (S : CallFix p m c code 4 s #[.ref b] wsL_law RL) (hX : va_X b L xs s s.heap) (hbl : b < s.heap.size) (hbA : ¬ A b) (hA : ∀ q, s.heap.size ≤ q → A q) (hK : va_K D vwCl [(cA, .int)] s) {H T E F G : Int → Int} {cc gc w d v : Int} {Hp : Heap} {lc : List Loc} (hI : LInv s D A x x0 x1 x2 x3 y y0 y1 y2 y3 cA H T E F G cc gc w d v Hp lc) {i : Int} (hi : 0 ≤ i ∧ i ≤ 2560 ∧ i + 5 ≤ (L : Int)) {ls : Array Slot} (hl : lv_has ls 4 (LLs b x y i)) (kk : ∀ (H T E F G : Int → Int) (cc gc w d v : Int) (Hp : Heap) (lc : List Loc), LInv s D A x x0 x1 x2 x3 y y0 y1 y2 y3 cA H T E F G cc gc w d v Hp lc → W p l e room_1 s m #[Value.ref b] below meth c Hp lc 10 78 (lw_Z below #[Value.ref b] s) (F0 m 895 ls [])) : W p l e room_1 s m #[Value.ref b] below meth c Hp lc 10 78 (lw_Z below #[Value.ref b] s) (F0 m 819 ls []) := by
  obtain ⟨hok, hP, hD, hS⟩ := hI
  refine lv_aload_n S.1 S.2.1 dL_law_819 rfl (lv_at hl 2 rfl) ?_
  refine lv_aload_n S.1 S.2.1 dL_law_820 rfl (lv_at hl 3 rfl) ?_
  refine j_iload_n S dL_law_821 rfl (lv_at hl 0 rfl) ?_
  refine j_iconst S dL_law_822 ?_
  refine j_iadd S dL_law_823 ?_
  refine j_sld S hX hbl hbA hS (a := (i + 1)) ⟨by omega, by omega, by omega⟩ dL_law_824 ?_
  refine lv_aload_n S.1 S.2.1 dL_law_825 rfl (lv_at hl 3 rfl) ?_
  refine j_iload_n S dL_law_826 rfl (lv_at hl 0 rfl) ?_
  refine j_iconst S dL_law_827 ?_
  refine j_iadd S dL_law_828 ?_
  refine j_sld S hX hbl hbA hS (a := (i + 2)) ⟨by omega, by omega, by omega⟩ dL_law_829 ?_
  refine lv_aload_n S.1 S.2.1 dL_law_830 rfl (lv_at hl 3 rfl) ?_
  refine j_iload_n S dL_law_831 rfl (lv_at hl 0 rfl) ?_
  refine j_iconst S dL_law_832 ?_
  refine j_iadd S dL_law_833 ?_
  refine j_sld S hX hbl hbA hS (a := (i + 3)) ⟨by omega, by omega, by omega⟩ dL_law_834 ?_
  refine lv_aload_n S.1 S.2.1 dL_law_835 rfl (lv_at hl 3 rfl) ?_
  refine j_iload_n S dL_law_836 rfl (lv_at hl 0 rfl) ?_
  refine j_iconst S dL_law_837 ?_
  refine j_iadd S dL_law_838 ?_
  refine j_sld S hX hbl hbA hS (a := (i + 4)) ⟨by omega, by omega, by omega⟩ dL_law_839 ?_
  refine j_cvi (As := [jI (sx xs (i + 1)), jI (sx xs (i + 2)), jI (sx xs (i + 3)), jI (sx xs (i + 4))]) (ci := 0) S (c_X0_two l D x x0 x1 x2 x3 cA H T E F cc gc w d v hok (sx xs (i + 1)) (sx xs (i + 2)) (sx xs (i + 3)) (sx xs (i + 4)) sx_in sx_in sx_in sx_in) (cwV 4 S.2.2.2.2 gL_law_X0_two rfl rfl rfl ⟨rfl, hdX0_two⟩ ⟨Nat.le_of_ble_eq_true rfl, Nat.le_of_ble_eq_true rfl⟩) hK (hP.sub (ws' := (XW x x0 x1 x2 x3 cA H T E F cc gc w d v)) [0, 1, 2, 3, 4] rfl) rfl rfl rfl [] rfl rfl hl.1 (Nat.le_of_ble_eq_true rfl) ⟨Nat.le_of_ble_eq_true rfl, Nat.le_of_ble_eq_true rfl⟩ dL_law_840 (fun i1 q1 => ?_)
  refine lv_aload_n S.1 S.2.1 dL_law_843 rfl (lv_at hl 1 rfl) ?_
  refine lv_aload_n S.1 S.2.1 dL_law_844 rfl (lv_at hl 3 rfl) ?_
  refine j_iload_n S dL_law_845 rfl (lv_at hl 0 rfl) ?_
  refine j_iconst S dL_law_846 ?_
  refine j_iadd S dL_law_847 ?_
  refine j_sld S hX hbl hbA hS (a := (i + 1)) ⟨by omega, by omega, by omega⟩ dL_law_848 ?_
  refine lv_aload_n S.1 S.2.1 dL_law_849 rfl (lv_at hl 3 rfl) ?_
  refine j_iload_n S dL_law_850 rfl (lv_at hl 0 rfl) ?_
  refine j_iconst S dL_law_851 ?_
  refine j_iadd S dL_law_852 ?_
  refine j_sld S hX hbl hbA hS (a := (i + 2)) ⟨by omega, by omega, by omega⟩ dL_law_853 ?_
  refine lv_aload_n S.1 S.2.1 dL_law_854 rfl (lv_at hl 3 rfl) ?_
  refine j_iload_n S dL_law_855 rfl (lv_at hl 0 rfl) ?_
  refine j_iconst S dL_law_856 ?_
  refine j_iadd S dL_law_857 ?_
  refine j_sld S hX hbl hbA hS (a := (i + 3)) ⟨by omega, by omega, by omega⟩ dL_law_858 ?_
  refine lv_aload_n S.1 S.2.1 dL_law_859 rfl (lv_at hl 3 rfl) ?_
  refine j_iload_n S dL_law_860 rfl (lv_at hl 0 rfl) ?_
  refine j_iconst S dL_law_861 ?_
  refine j_iadd S dL_law_862 ?_
  refine j_sld S hX hbl hbA hS (a := (i + 4)) ⟨by omega, by omega, by omega⟩ dL_law_863 ?_
  refine j_cvi (As := [jI (sx xs (i + 1)), jI (sx xs (i + 2)), jI (sx xs (i + 3)), jI (sx xs (i + 4))]) (ci := 1) S (c_X1_two l D y y0 y1 y2 y3 cA H T E G cc gc w d v hok (sx xs (i + 1)) (sx xs (i + 2)) (sx xs (i + 3)) (sx xs (i + 4)) sx_in sx_in sx_in sx_in) (cwV 4 S.2.2.2.2 gL_law_X1_two rfl rfl rfl ⟨rfl, hdX1_two⟩ ⟨Nat.le_of_ble_eq_true rfl, Nat.le_of_ble_eq_true rfl⟩) hK (hP.sub (ws' := (MW y y0 y1 y2 y3 cA H T E G cc gc w d v)) [5, 6, 7, 8, 9] rfl) rfl rfl rfl [jI i1] rfl rfl hl.1 (Nat.le_of_ble_eq_true rfl) ⟨Nat.le_of_ble_eq_true rfl, Nat.le_of_ble_eq_true rfl⟩ dL_law_864 (fun i2 q2 => ?_)
  have he : i1 = i2 := q1.trans q2.symm
  subst he
  refine lv_icmp_eq (tgt := 895) S.1 S.2.1 dL_law_867 (by decide) (fun _ => ?_) (fun z9 => absurd rfl z9)
  exact kk _ _ _ _ _ _ _ _ _ _ _ _ ⟨hok, hP, hD, hS⟩
set_option maxHeartbeats 4000000 in
set_option maxRecDepth 100000 in
theorem law_case_20 {p : Program} {l : Launch} {e : Env} {s : State} {m : MethodId} {below : List Frame} {meth : Method} {c : Code} {b L : Nat} {xs : Nat → Int32} {D : va_G} {x x0 x1 x2 x3 y y0 y1 y2 y3 : Nat} {cA : ClassId} {A : Nat → Prop} (S : CallFix p m c code 4 s #[.ref b] wsL_law RL) (hX : va_X b L xs s s.heap) (hbl : b < s.heap.size) (hbA : ¬ A b) (hA : ∀ q, s.heap.size ≤ q → A q) (hK : va_K D vwCl [(cA, .int)] s) {H T E F G : Int → Int} {cc gc w d v : Int} {Hp : Heap} {lc : List Loc} (hI : LInv s D A x x0 x1 x2 x3 y y0 y1 y2 y3 cA H T E F G cc gc w d v Hp lc) {i : Int} (hi : 0 ≤ i ∧ i ≤ 2560 ∧ i + 5 ≤ (L : Int)) {ls : Array Slot} (hl : lv_has ls 4 (LLs b x y i)) (kk : ∀ (H T E F G : Int → Int) (cc gc w d v : Int) (Hp : Heap) (lc : List Loc), LInv s D A x x0 x1 x2 x3 y y0 y1 y2 y3 cA H T E F G cc gc w d v Hp lc → W p l e room_1 s m #[Value.ref b] below meth c Hp lc 10 78 (lw_Z below #[Value.ref b] s) (F0 m 895 ls [])) : W p l e room_1 s m #[Value.ref b] below meth c Hp lc 10 78 (lw_Z below #[Value.ref b] s) (F0 m 872 ls []) := by
  obtain ⟨hok, hP, hD, hS⟩ := hI
  refine lv_aload_n S.1 S.2.1 dL_law_872 rfl (lv_at hl 2 rfl) ?_
  refine lv_aload_n S.1 S.2.1 dL_law_873 rfl (lv_at hl 3 rfl) ?_
  refine j_iload_n S dL_law_874 rfl (lv_at hl 0 rfl) ?_
  refine j_iconst S dL_law_875 ?_
  refine j_iadd S dL_law_876 ?_
  refine j_sld S hX hbl hbA hS (a := (i + 1)) ⟨by omega, by omega, by omega⟩ dL_law_877 ?_
  refine j_cvi (As := [jI (sx xs (i + 1))]) (ci := 0) S (c_X0_told l D x x0 x1 x2 x3 cA H T E F cc gc w d v hok (sx xs (i + 1)) sx_in) (cwV 1 S.2.2.2.2 gL_law_X0_told rfl rfl rfl ⟨rfl, hdX0_told⟩ ⟨Nat.le_of_ble_eq_true rfl, Nat.le_of_ble_eq_true rfl⟩) hK (hP.sub (ws' := (XW x x0 x1 x2 x3 cA H T E F cc gc w d v)) [0, 1, 2, 3, 4] rfl) rfl rfl rfl [] rfl rfl hl.1 (Nat.le_of_ble_eq_true rfl) ⟨Nat.le_of_ble_eq_true rfl, Nat.le_of_ble_eq_true rfl⟩ dL_law_878 (fun i1 q1 => ?_)
  refine lv_aload_n S.1 S.2.1 dL_law_881 rfl (lv_at hl 1 rfl) ?_
  refine lv_aload_n S.1 S.2.1 dL_law_882 rfl (lv_at hl 3 rfl) ?_
  refine j_iload_n S dL_law_883 rfl (lv_at hl 0 rfl) ?_
  refine j_iconst S dL_law_884 ?_
  refine j_iadd S dL_law_885 ?_
  refine j_sld S hX hbl hbA hS (a := (i + 1)) ⟨by omega, by omega, by omega⟩ dL_law_886 ?_
  refine j_cvi (As := [jI (sx xs (i + 1))]) (ci := 1) S (c_X1_told l D y y0 y1 y2 y3 cA H T E G cc gc w d v hok (sx xs (i + 1)) sx_in) (cwV 1 S.2.2.2.2 gL_law_X1_told rfl rfl rfl ⟨rfl, hdX1_told⟩ ⟨Nat.le_of_ble_eq_true rfl, Nat.le_of_ble_eq_true rfl⟩) hK (hP.sub (ws' := (MW y y0 y1 y2 y3 cA H T E G cc gc w d v)) [5, 6, 7, 8, 9] rfl) rfl rfl rfl [jI i1] rfl rfl hl.1 (Nat.le_of_ble_eq_true rfl) ⟨Nat.le_of_ble_eq_true rfl, Nat.le_of_ble_eq_true rfl⟩ dL_law_887 (fun i2 q2 => ?_)
  have he : i1 = i2 := q1.trans q2.symm
  subst he
  refine lv_icmp_eq (tgt := 895) S.1 S.2.1 dL_law_890 (by decide) (fun _ => ?_) (fun z9 => absurd rfl z9)
  exact kk _ _ _ _ _ _ _ _ _ _ _ _ ⟨hok, hP, hD, hS⟩
