set_option maxHeartbeats 4000000 in
set_option maxRecDepth 100000 in
theorem law_loop {p : Program} {l : Launch} {e : Env} {s : State} {m : MethodId} {below : List Frame} {meth : Method} {c : Code} {b L : Nat} {xs : Nat → Int32} {D : va_G} {x x0 x1 x2 x3 y y0 y1 y2 y3 : Nat} {cA : ClassId} {A : Nat → Prop} (S : CallFix p m c code 4 s #[.ref b] wsL_law RL) (hX : va_X b L xs s s.heap) (hbl : b < s.heap.size) (hbA : ¬ A b) (hA : ∀ q, s.heap.size ≤ q → A q) (hK : va_K D vwCl [(cA, .int)] s) (hL : L ≤ 2560) (hr : meth.sig.returnType = ret) (hlocks : meth.locks = false) (hA2 : ∀ q, A q → s.heap.size ≤ q) : ∀ (N : Nat) (i : Int) (H T E F G : Int → Int) (cc gc w d v : Int) (Hp : Heap) (lc : List Loc) (ls : Array Slot), LInv s D A x x0 x1 x2 x3 y y0 y1 y2 y3 cA H T E F G cc gc w d v Hp lc → (0 ≤ i ∧ i ≤ 2560) → 2560 - i < (N : Int) → lv_has ls 4 (LLs b x y i) → W p l e room_1 s m #[Value.ref b] below meth c Hp lc 10 78 (lw_Z below #[Value.ref b] s) (F0 m 18 ls []) := by
  intro N
  induction N with
  | zero =>
    intro i H T E F G cc gc w d v Hp lc ls hI hi hN
    exact absurd hN (by omega)
  | succ N ih =>
    intro i H T E F G cc gc w d v Hp lc ls hI hi hN hl
    have hS := hI.2.2.2
    refine j_iload_n S dL_law_18 rfl (lv_at hl 0 rfl) ?_
    refine lv_aload_n S.1 S.2.1 dL_law_19 rfl (lv_at hl 3 rfl) ?_
    refine j_slen S hX hbl hbA hS dL_law_20 ?_
    refine j_iconst S dL_law_21 ?_
    refine j_isub S dL_law_22 ?_
    refine j_icmp_gt (tgt := 901) S dL_law_23 (by decide) (by omega) (by omega) (fun c23 => ?_) (fun c23 => ?_)
    · refine va_forget (fun q hq => hA2 _ (hS.2.2 q hq)) ?_
      refine lv_iconst (v := 1) S.1 S.2.1 dL_law_901 (by decide) ?_
      exact lw_ret S.1 S.2.1 hr hlocks dL_law_902
    · have hi5 : 0 ≤ i ∧ i ≤ 2560 ∧ i + 5 ≤ (L : Int) := by omega
      have kk : ∀ (H T E F G : Int → Int) (cc gc w d v : Int) (Hp : Heap) (lc : List Loc), LInv s D A x x0 x1 x2 x3 y y0 y1 y2 y3 cA H T E F G cc gc w d v Hp lc → W p l e room_1 s m #[Value.ref b] below meth c Hp lc 10 78 (lw_Z below #[Value.ref b] s) (F0 m 895 ls []) := by
        intro H T E F G cc gc w d v Hp lc hI
        refine j_iinc (k := 0) (y := (i + 5)) (lv' := LLs b x y (i + 5)) S dL_law_895 hl rfl rfl (by decide) rfl (fun ls hl => ?_)
        refine j_goto (tgt := 18) S dL_law_898 (by decide) ?_
        exact ih (i + 5) H T E F G cc gc w d v Hp lc ls hI (by omega) (by omega) hl
      refine lv_aload_n S.1 S.2.1 dL_law_26 rfl (lv_at hl 3 rfl) ?_
      refine j_iload_n S dL_law_27 rfl (lv_at hl 0 rfl) ?_
      refine j_sld S hX hbl hbA hS (a := i) ⟨by omega, by omega, by omega⟩ dL_law_28 ?_
      refine j_bipush S dL_law_29 (by decide) ?_
      refine j_iandz S dL_law_31 (fun z hz => ?_)
      by_cases k0 : z = 0
      · refine lv_tableIn (tgt := 132) S.1 S.2.1 dL_law_32 (by rw [tI hz]; omega) (by rw [tI hz]; omega) (by rw [tI hz, k0]; rfl) (by decide) ?_
        exact law_case_0 S hX hbl hbA hA hK hI hi5 hl kk
      by_cases k1 : z = 1
      · refine lv_tableIn (tgt := 155) S.1 S.2.1 dL_law_32 (by rw [tI hz]; omega) (by rw [tI hz]; omega) (by rw [tI hz, k1]; rfl) (by decide) ?_
        exact law_case_1 S hX hbl hbA hA hK hI hi5 hl kk
      by_cases k2 : z = 2
      · refine lv_tableIn (tgt := 178) S.1 S.2.1 dL_law_32 (by rw [tI hz]; omega) (by rw [tI hz]; omega) (by rw [tI hz, k2]; rfl) (by decide) ?_
        exact law_case_2 S hX hbl hbA hA hK hI hi5 hl kk
      by_cases k3 : z = 3
      · refine lv_tableIn (tgt := 201) S.1 S.2.1 dL_law_32 (by rw [tI hz]; omega) (by rw [tI hz]; omega) (by rw [tI hz, k3]; rfl) (by decide) ?_
        exact law_case_3 S hX hbl hbA hA hK hI hi5 hl kk
      by_cases k4 : z = 4
      · refine lv_tableIn (tgt := 224) S.1 S.2.1 dL_law_32 (by rw [tI hz]; omega) (by rw [tI hz]; omega) (by rw [tI hz, k4]; rfl) (by decide) ?_
        exact law_case_4 S hX hbl hbA hA hK hI hi5 hl kk
      by_cases k5 : z = 5
      · refine lv_tableIn (tgt := 247) S.1 S.2.1 dL_law_32 (by rw [tI hz]; omega) (by rw [tI hz]; omega) (by rw [tI hz, k5]; rfl) (by decide) ?_
        exact law_case_5 S hX hbl hbA hA hK hI hi5 hl kk
      by_cases k6 : z = 6
      · refine lv_tableIn (tgt := 280) S.1 S.2.1 dL_law_32 (by rw [tI hz]; omega) (by rw [tI hz]; omega) (by rw [tI hz, k6]; rfl) (by decide) ?_
        exact law_case_6 S hX hbl hbA hA hK hI hi5 hl kk
      by_cases k7 : z = 7
      · refine lv_tableIn (tgt := 313) S.1 S.2.1 dL_law_32 (by rw [tI hz]; omega) (by rw [tI hz]; omega) (by rw [tI hz, k7]; rfl) (by decide) ?_
        exact law_case_7 S hX hbl hbA hA hK hI hi5 hl kk
      by_cases k8 : z = 8
      · refine lv_tableIn (tgt := 346) S.1 S.2.1 dL_law_32 (by rw [tI hz]; omega) (by rw [tI hz]; omega) (by rw [tI hz, k8]; rfl) (by decide) ?_
        exact law_case_8 S hX hbl hbA hA hK hI hi5 hl kk
      by_cases k9 : z = 9
      · refine lv_tableIn (tgt := 389) S.1 S.2.1 dL_law_32 (by rw [tI hz]; omega) (by rw [tI hz]; omega) (by rw [tI hz, k9]; rfl) (by decide) ?_
        exact law_case_9 S hX hbl hbA hA hK hI hi5 hl kk
      by_cases k10 : z = 10
      · refine lv_tableIn (tgt := 432) S.1 S.2.1 dL_law_32 (by rw [tI hz]; omega) (by rw [tI hz]; omega) (by rw [tI hz, k10]; rfl) (by decide) ?_
        exact law_case_10 S hX hbl hbA hA hK hI hi5 hl kk
      by_cases k11 : z = 11
      · refine lv_tableIn (tgt := 485) S.1 S.2.1 dL_law_32 (by rw [tI hz]; omega) (by rw [tI hz]; omega) (by rw [tI hz, k11]; rfl) (by decide) ?_
        exact law_case_11 S hX hbl hbA hA hK hI hi5 hl kk
      by_cases k12 : z = 12
      · refine lv_tableIn (tgt := 528) S.1 S.2.1 dL_law_32 (by rw [tI hz]; omega) (by rw [tI hz]; omega) (by rw [tI hz, k12]; rfl) (by decide) ?_
        exact law_case_12 S hX hbl hbA hA hK hI hi5 hl kk
      by_cases k13 : z = 13
      · refine lv_tableIn (tgt := 551) S.1 S.2.1 dL_law_32 (by rw [tI hz]; omega) (by rw [tI hz]; omega) (by rw [tI hz, k13]; rfl) (by decide) ?_
        exact law_case_13 S hX hbl hbA hA hK hI hi5 hl kk
      by_cases k14 : z = 14
      · refine lv_tableIn (tgt := 584) S.1 S.2.1 dL_law_32 (by rw [tI hz]; omega) (by rw [tI hz]; omega) (by rw [tI hz, k14]; rfl) (by decide) ?_
        exact law_case_14 S hX hbl hbA hA hK hI hi5 hl kk
      by_cases k15 : z = 15
      · refine lv_tableIn (tgt := 637) S.1 S.2.1 dL_law_32 (by rw [tI hz]; omega) (by rw [tI hz]; omega) (by rw [tI hz, k15]; rfl) (by decide) ?_
        exact law_case_15 S hX hbl hbA hA hK hI hi5 hl kk
      by_cases k16 : z = 16
      · refine lv_tableIn (tgt := 690) S.1 S.2.1 dL_law_32 (by rw [tI hz]; omega) (by rw [tI hz]; omega) (by rw [tI hz, k16]; rfl) (by decide) ?_
        exact law_case_16 S hX hbl hbA hA hK hI hi5 hl kk
      by_cases k17 : z = 17
      · refine lv_tableIn (tgt := 743) S.1 S.2.1 dL_law_32 (by rw [tI hz]; omega) (by rw [tI hz]; omega) (by rw [tI hz, k17]; rfl) (by decide) ?_
        exact law_case_17 S hX hbl hbA hA hK hI hi5 hl kk
      by_cases k18 : z = 18
      · refine lv_tableIn (tgt := 776) S.1 S.2.1 dL_law_32 (by rw [tI hz]; omega) (by rw [tI hz]; omega) (by rw [tI hz, k18]; rfl) (by decide) ?_
        exact law_case_18 S hX hbl hbA hA hK hI hi5 hl kk
      by_cases k19 : z = 19
      · refine lv_tableIn (tgt := 819) S.1 S.2.1 dL_law_32 (by rw [tI hz]; omega) (by rw [tI hz]; omega) (by rw [tI hz, k19]; rfl) (by decide) ?_
        exact law_case_19 S hX hbl hbA hA hK hI hi5 hl kk
      by_cases k20 : z = 20
      · refine lv_tableIn (tgt := 872) S.1 S.2.1 dL_law_32 (by rw [tI hz]; omega) (by rw [tI hz]; omega) (by rw [tI hz, k20]; rfl) (by decide) ?_
        exact law_case_20 S hX hbl hbA hA hK hI hi5 hl kk
      refine lv_tableOut (tgt := 895) S.1 S.2.1 dL_law_32 (by rw [tI hz]; omega) (by decide) ?_
      exact kk _ _ _ _ _ _ _ _ _ _ _ _ hI
set_option maxHeartbeats 4000000 in
set_option maxRecDepth 100000 in
/-- THE LAW, from its entry -/
theorem whole_start {p : Program} {e : Env} {s : State} {m : MethodId} {below : List Frame} {meth : Method} {c : Code} (l : Launch) (_hflags : l.flags = flags0) {b L : Nat} {xs : Nat → Int32} (hL : L ≤ 2560) (C0 : lw_At p s m meth c b L xs) : W p l e room_1 s m #[Value.ref b] below meth c s.heap [] 0 0 (lw_Z below #[Value.ref b] s) (entryFrame m ([Value.ref b] : List Value).toArray 4) := by
  obtain ⟨hx, hb, hr, hml, hown, hts0, hX, hbl, hlocks, hgv⟩ := id C0
  have hts : ∀ w ∈ wsL_law, w.before #[Value.ref b] s = true := fun w hw => hts0 w (wsL_law_in w hw)
  have S : CallFix p m c code 4 s #[.ref b] wsL_law RL := ⟨hx, hb, hml, hown, hts⟩
  have hinX : ∀ w ∈ wsX00, w ∈ wsL_law := fun _ h => List.mem_append_left _ (List.mem_append_left _ (List.mem_append_right _ h))
  have hinM : ∀ w ∈ wsX10, w ∈ wsL_law := fun _ h => List.mem_append_left _ (List.mem_append_right _ h)
  have hA : ∀ q : Nat, s.heap.size ≤ q → (fun q : Nat => s.heap.size ≤ q) q := fun _ h => h
  have hbA : ¬ (fun q : Nat => s.heap.size ≤ q) b := Nat.not_le.mpr hbl
  obtain ⟨c0, iS0, hKn0⟩ := u_known (C := RX0) (T := TX0) (N := 9) (n := 9) hts hinX (hts _ (List.mem_of_getElem? (i := 1) rfl))
  obtain ⟨c1, iS1, hKn1⟩ := u_known (C := RX1) (T := TX1) (N := 9) (n := 9) hts hinM (hts _ (List.mem_of_getElem? (i := 4) rfl))
  obtain ⟨D, hKc⟩ : ∃ (D : va_G), ∀ (k : Nat) (q : vw_C), vwCl[k]? = some q → u_Kn s q.1 q.2.1 q.2.2 (D.1 k) (D.2 k) := by
    refine ⟨(fun k => if k = 0 then c0 else c1, fun k => if k = 0 then iS0 else iS1), ?_⟩
    intro k q hq
    match k, hq with
    | 0, hq => cases hq; exact hKn0
    | 1, hq => cases hq; exact hKn1
    | k + 2, hq => simp [vwCl] at hq
  have hS : va_S (fun q : Nat => s.heap.size ≤ q) s.heap s.heap [] := va_S.rf
  have hK : va_K D vwCl [] s := ⟨hKc, fun k q h => by simp at h⟩
  have hP : va_P D vwCl [] s.heap := fun k q h => by simp at h
  have hD : va_D (fun q : Nat => s.heap.size ≤ q) [] := ⟨fun i j p q h => by simp at h, fun k q h => by simp at h⟩
  have hl := lv_entry ([.ref b]) (n := 4) (Nat.le_of_ble_eq_true rfl)
  rw [lg_entry_eq]
  generalize (lg_sl ([.ref b]) ++ List.replicate (4 - (lg_sl ([.ref b])).length) Slot.unset).toArray = ls at hl ⊢
  have hl : lv_has ls 4 [(0, .ref b)] := hl
  refine va_new (ci := 0) (fs := [.null, .null, .null, .null, jI 0, jI 0, jI 0, jI 0, jI 0]) (C := RX0) (T := TX0) (N := 9) hx hb hts hinX tyX0 tyX0_ok hown (hts _ (List.mem_of_getElem? (i := 0) rfl)) (hts _ (List.mem_of_getElem? (i := 1) rfl)) (hts _ (List.mem_of_getElem? (i := 2) rfl)) hK hP hD hS hA rfl (fun j hj => by rcases (show j = 0 ∨ j = 1 ∨ j = 2 ∨ j = 3 ∨ j = 4 ∨ j = 5 ∨ j = 6 ∨ j = 7 ∨ j = 8 by omega) with rfl | rfl | rfl | rfl | rfl | rfl | rfl | rfl | rfl <;> rfl) (Nat.le_of_ble_eq_true rfl) (Nat.le_of_ble_eq_true rfl) dL_law_0 (fun x Hp hP hD hS => ?_)
  have hP : va_P D vwCl (XN x) Hp := hP
  have hD : va_D (fun q : Nat => s.heap.size ≤ q) (XN x) := hD
  refine W.widen (k := 1) (n := 9) (by omega) (by omega) ?_
  refine lv_dup hx hb dL_law_3 rfl ?_
  have hFc := va_free (wc := XN x) hD hS hA [0] rfl
  refine va_callv (va_runI (As := []) (rest := [.ref x]) S (c_X0_init l D x Hp.size) (cwI 0 hts gL_law_X0_init rfl rfl rfl (hts _ (List.mem_of_getElem? (i := 2) rfl)) (hts _ (List.mem_of_getElem? (i := 6) rfl)) (hts _ (List.mem_of_getElem? (i := 7) rfl)) rfl (by decide +kernel) ⟨Nat.le_of_ble_eq_true rfl, Nat.le_of_ble_eq_true rfl⟩) ⟨WN_blind, fun U hU hW => ⟨rfl, by rw [hU], by rw [hU]; exact hP, va_K.moved hW.alike hK, hD.weaken (fun _ _ _ _ => trivial)⟩⟩ rfl rfl hl.1 rfl (lv_room (Nat.le_of_ble_eq_true rfl)) dL_law_4 ⟨Nat.le_of_ble_eq_true rfl, Nat.le_of_ble_eq_true rfl⟩) hS (fun q _ h => hFc q h) hFc (fun u t H1 locs ht hvm hw hB hz1 hk1 hS => ?_)
  obtain ⟨x0, x1, x2, x3, cA, hP1, hK1, hD1⟩ := hB
  rw [ht] at hP1
  have hK1 := va_K.moved hvm.symm hK1
  obtain ⟨hP, hD⟩ := va_join (wr := []) (w1 := XW x x0 x1 x2 x3 cA jZ jZ jZ jZ 0 0 40 360 10) hP hD [0] [] rfl rfl (by decide) (by decide) hk1 hFc hP1 hD1
  generalize H1 = Hp at hP hS ⊢
  have hP : va_P D vwCl (XW x x0 x1 x2 x3 cA jZ jZ jZ jZ 0 0 40 360 10) Hp := hP
  have hD : va_D (fun q : Nat => s.heap.size ≤ q) (XW x x0 x1 x2 x3 cA jZ jZ jZ jZ 0 0 40 360 10) := hD
  have hKx : va_K D vwCl [(cA, .int)] s := hK1
  refine W.widen (k := 5) (n := 39) (by omega) (by omega) ?_
  refine lv_astore_n (lv' := [(1, .ref x), (0, .ref b)]) hx hb dL_law_7 rfl hl (by decide) rfl (fun ls hl => ?_)
  refine va_new (ci := 1) (fs := [jI 0, jI 0, .null, jI 0, .null, .null, jI 0, jI 0, .null]) (C := RX1) (T := TX1) (N := 9) hx hb hts hinM tyX1 tyX1_ok hown (hts _ (List.mem_of_getElem? (i := 3) rfl)) (hts _ (List.mem_of_getElem? (i := 4) rfl)) (hts _ (List.mem_of_getElem? (i := 5) rfl)) hKx hP hD hS hA rfl (fun j hj => by rcases (show j = 0 ∨ j = 1 ∨ j = 2 ∨ j = 3 ∨ j = 4 ∨ j = 5 ∨ j = 6 ∨ j = 7 ∨ j = 8 by omega) with rfl | rfl | rfl | rfl | rfl | rfl | rfl | rfl | rfl <;> rfl) (Nat.le_of_ble_eq_true rfl) (Nat.le_of_ble_eq_true rfl) dL_law_8 (fun y Hp hP hD hS => ?_)
  have hP : va_P D vwCl (XW x x0 x1 x2 x3 cA jZ jZ jZ jZ 0 0 40 360 10 ++ MN y) Hp := hP
  have hD : va_D (fun q : Nat => s.heap.size ≤ q) (XW x x0 x1 x2 x3 cA jZ jZ jZ jZ 0 0 40 360 10 ++ MN y) := hD
  refine W.widen (k := 6) (n := 48) (by omega) (by omega) ?_
  refine lv_dup hx hb dL_law_11 rfl ?_
  have hPc : va_P D vwCl (MN y) Hp := hP.sub [5] rfl
  have hDc : va_D (fun q : Nat => s.heap.size ≤ q) (MN y) := hD.sub [5] (by decide) rfl
  have hFc := va_free (wc := MN y) hD hS hA [5] rfl
  refine va_callv (va_runI (As := []) (rest := [.ref y]) S (c_X1_init l D y Hp.size) (cwI 0 hts gL_law_X1_init rfl rfl rfl (hts _ (List.mem_of_getElem? (i := 5) rfl)) (hts _ (List.mem_of_getElem? (i := 20) rfl)) (hts _ (List.mem_of_getElem? (i := 21) rfl)) rfl (by decide +kernel) ⟨Nat.le_of_ble_eq_true rfl, Nat.le_of_ble_eq_true rfl⟩) ⟨WN_blind, fun U hU hW => ⟨rfl, by rw [hU], by rw [hU]; exact hPc, va_K.moved hW.alike hK, hDc.weaken (fun _ _ _ _ => trivial)⟩⟩ rfl rfl hl.1 rfl (lv_room (Nat.le_of_ble_eq_true rfl)) dL_law_12 ⟨Nat.le_of_ble_eq_true rfl, Nat.le_of_ble_eq_true rfl⟩) hS (fun q _ h => hFc q h) hFc (fun u t H1 locs ht hvm hw hB hz1 hk1 hS => ?_)
  obtain ⟨y0, y1, y2, y3, cB, hP1, hK1, hD1⟩ := hB
  rw [ht] at hP1
  have hK1 := va_K.moved hvm.symm hK1
  have hce : cA = cB := kk_eq (hKx.app hK1)
  subst hce
  obtain ⟨hP, hD⟩ := va_join (wr := XW x x0 x1 x2 x3 cA jZ jZ jZ jZ 0 0 40 360 10) (w1 := MW y y0 y1 y2 y3 cA jZ jZ jZ jZ 0 0 40 360 10) hP hD [5] [0, 1, 2, 3, 4] rfl rfl (by decide) (by decide) hk1 hFc hP1 hD1
  generalize H1 = Hp at hP hS ⊢
  refine W.widen (k := 10) (n := 78) (by omega) (by omega) ?_
  refine lv_astore_n (lv' := [(2, .ref y), (1, .ref x), (0, .ref b)]) hx hb dL_law_15 rfl hl (by decide) rfl (fun ls hl => ?_)
  refine j_iconst S dL_law_16 ?_
  refine j_istore_n (lv' := [(3, jI 0), (2, .ref y), (1, .ref x), (0, .ref b)]) S dL_law_17 rfl hl (by decide) rfl (fun ls hl => ?_)
  exact law_loop S hX hbl hbA hA hKx hL hr hlocks (fun _ h => h) 2561 0 jZ jZ jZ jZ jZ 0 0 40 360 10 Hp _ ls ⟨⟨by decide, by decide, by decide, by decide, by decide, fun j a b => absurd b (by omega), fun j a b => absurd b (by omega), fun j a b => (show -100 ≤ (0 : Int) ∧ (0 : Int) ≤ 100 from by decide)⟩, hP, hD, hS⟩ (by decide) (by decide) hl
