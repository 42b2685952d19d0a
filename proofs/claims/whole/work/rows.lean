section
-- ===== PART A: goes FIRST, ahead of the names: the tables' words, and 'selects' of the private methods out of them =====
/-- a private method of a class that the tables say can be made, by its rows of tables_1 -/
def lw_okq (q : MethodName × Nat) : Prop := (q.1.cls ≠ "java/lang/invoke/MethodHandle" ∧ q.1.cls ≠ "java/lang/invoke/VarHandle") ∧ Cond.instantiable q.1.cls q.2 ∈ tables_1 ∧ Cond.privateMethod q.1 ∈ tables_1 ∧ Cond.instanceMethod q.1 ∈ tables_1
theorem lw_p0 : lw_okq (⟨"DividingHead", "hasCircleOf", "(I)Z"⟩, 9) := ⟨⟨by decide +kernel, by decide +kernel⟩, List.mem_of_getElem? (i := 5) (by decide +kernel), List.mem_of_getElem? (i := 53) (by decide +kernel), List.mem_of_getElem? (i := 54) (by decide +kernel)⟩
theorem lw_p1 : lw_okq (⟨"DividingHead", "holesAt", "(I)I"⟩, 9) := ⟨⟨by decide +kernel, by decide +kernel⟩, List.mem_of_getElem? (i := 5) (by decide +kernel), List.mem_of_getElem? (i := 61) (by decide +kernel), List.mem_of_getElem? (i := 62) (by decide +kernel)⟩
theorem lw_p2 : lw_okq (⟨"DividingHead", "plainCircle", "(I)I"⟩, 9) := ⟨⟨by decide +kernel, by decide +kernel⟩, List.mem_of_getElem? (i := 5) (by decide +kernel), List.mem_of_getElem? (i := 80) (by decide +kernel), List.mem_of_getElem? (i := 81) (by decide +kernel)⟩
theorem lw_p3 : lw_okq (⟨"DividingHead", "secondStep", "(III)I"⟩, 9) := ⟨⟨by decide +kernel, by decide +kernel⟩, List.mem_of_getElem? (i := 5) (by decide +kernel), List.mem_of_getElem? (i := 92) (by decide +kernel), List.mem_of_getElem? (i := 93) (by decide +kernel)⟩
theorem lw_p4 : lw_okq (⟨"DividingHead", "firstStep", "(IIII)I"⟩, 9) := ⟨⟨by decide +kernel, by decide +kernel⟩, List.mem_of_getElem? (i := 5) (by decide +kernel), List.mem_of_getElem? (i := 96) (by decide +kernel), List.mem_of_getElem? (i := 97) (by decide +kernel)⟩
theorem lw_p5 : lw_okq (⟨"DividingHead", "compoundTerm", "(IIIII)I"⟩, 9) := ⟨⟨by decide +kernel, by decide +kernel⟩, List.mem_of_getElem? (i := 5) (by decide +kernel), List.mem_of_getElem? (i := 100) (by decide +kernel), List.mem_of_getElem? (i := 101) (by decide +kernel)⟩
theorem lw_p6 : lw_okq (⟨"DividingHead", "partsBeside", "(I)I"⟩, 9) := ⟨⟨by decide +kernel, by decide +kernel⟩, List.mem_of_getElem? (i := 5) (by decide +kernel), List.mem_of_getElem? (i := 109) (by decide +kernel), List.mem_of_getElem? (i := 110) (by decide +kernel)⟩
theorem lw_p7 : lw_okq (⟨"DividingHead", "standsIn", "(II)Z"⟩, 9) := ⟨⟨by decide +kernel, by decide +kernel⟩, List.mem_of_getElem? (i := 5) (by decide +kernel), List.mem_of_getElem? (i := 113) (by decide +kernel), List.mem_of_getElem? (i := 114) (by decide +kernel)⟩
theorem lw_p8 : lw_okq (⟨"DividingHead", "findTrain", "(JJ)Z"⟩, 9) := ⟨⟨by decide +kernel, by decide +kernel⟩, List.mem_of_getElem? (i := 5) (by decide +kernel), List.mem_of_getElem? (i := 120) (by decide +kernel), List.mem_of_getElem? (i := 121) (by decide +kernel)⟩
theorem lw_p9 : lw_okq (⟨"DividingHead", "findTwoGears", "(JJ)Z"⟩, 9) := ⟨⟨by decide +kernel, by decide +kernel⟩, List.mem_of_getElem? (i := 5) (by decide +kernel), List.mem_of_getElem? (i := 124) (by decide +kernel), List.mem_of_getElem? (i := 125) (by decide +kernel)⟩
theorem lw_p10 : lw_okq (⟨"DividingHead", "gearWith", "(JIII)I"⟩, 9) := ⟨⟨by decide +kernel, by decide +kernel⟩, List.mem_of_getElem? (i := 5) (by decide +kernel), List.mem_of_getElem? (i := 128) (by decide +kernel), List.mem_of_getElem? (i := 129) (by decide +kernel)⟩
theorem lw_p11 : lw_okq (⟨"DividingHead", "keepTrain", "(IIII)Z"⟩, 9) := ⟨⟨by decide +kernel, by decide +kernel⟩, List.mem_of_getElem? (i := 5) (by decide +kernel), List.mem_of_getElem? (i := 132) (by decide +kernel), List.mem_of_getElem? (i := 133) (by decide +kernel)⟩
theorem lw_p12 : lw_okq (⟨"DividingHead", "findFourGears", "(JJ)Z"⟩, 9) := ⟨⟨by decide +kernel, by decide +kernel⟩, List.mem_of_getElem? (i := 5) (by decide +kernel), List.mem_of_getElem? (i := 136) (by decide +kernel), List.mem_of_getElem? (i := 137) (by decide +kernel)⟩
theorem lw_p13 : lw_okq (⟨"DividingHead", "findSecondPair", "(IIJJ)Z"⟩, 9) := ⟨⟨by decide +kernel, by decide +kernel⟩, List.mem_of_getElem? (i := 5) (by decide +kernel), List.mem_of_getElem? (i := 140) (by decide +kernel), List.mem_of_getElem? (i := 141) (by decide +kernel)⟩
theorem lw_p14 : lw_okq (⟨"DividingHead", "nearestHole", "(III)I"⟩, 9) := ⟨⟨by decide +kernel, by decide +kernel⟩, List.mem_of_getElem? (i := 5) (by decide +kernel), List.mem_of_getElem? (i := 156) (by decide +kernel), List.mem_of_getElem? (i := 157) (by decide +kernel)⟩
theorem lw_p15 : lw_okq (⟨"DividingHead", "missUpper", "(III)I"⟩, 9) := ⟨⟨by decide +kernel, by decide +kernel⟩, List.mem_of_getElem? (i := 5) (by decide +kernel), List.mem_of_getElem? (i := 169) (by decide +kernel), List.mem_of_getElem? (i := 170) (by decide +kernel)⟩
def lw_privs_1 : List (MethodName × Nat) := [(⟨"DividingHead", "hasCircleOf", "(I)Z"⟩, 9), (⟨"DividingHead", "holesAt", "(I)I"⟩, 9), (⟨"DividingHead", "plainCircle", "(I)I"⟩, 9), (⟨"DividingHead", "secondStep", "(III)I"⟩, 9), (⟨"DividingHead", "firstStep", "(IIII)I"⟩, 9), (⟨"DividingHead", "compoundTerm", "(IIIII)I"⟩, 9), (⟨"DividingHead", "partsBeside", "(I)I"⟩, 9), (⟨"DividingHead", "standsIn", "(II)Z"⟩, 9), (⟨"DividingHead", "findTrain", "(JJ)Z"⟩, 9), (⟨"DividingHead", "findTwoGears", "(JJ)Z"⟩, 9), (⟨"DividingHead", "gearWith", "(JIII)I"⟩, 9), (⟨"DividingHead", "keepTrain", "(IIII)Z"⟩, 9), (⟨"DividingHead", "findFourGears", "(JJ)Z"⟩, 9), (⟨"DividingHead", "findSecondPair", "(IIJJ)Z"⟩, 9), (⟨"DividingHead", "nearestHole", "(III)I"⟩, 9), (⟨"DividingHead", "missUpper", "(III)I"⟩, 9)]
theorem lw_r1 : ∀ q ∈ lw_privs_1, lw_okq q := List.forall_mem_cons.mpr ⟨lw_p0, List.forall_mem_cons.mpr ⟨lw_p1, List.forall_mem_cons.mpr ⟨lw_p2, List.forall_mem_cons.mpr ⟨lw_p3, List.forall_mem_cons.mpr ⟨lw_p4, List.forall_mem_cons.mpr ⟨lw_p5, List.forall_mem_cons.mpr ⟨lw_p6, List.forall_mem_cons.mpr ⟨lw_p7, List.forall_mem_cons.mpr ⟨lw_p8, List.forall_mem_cons.mpr ⟨lw_p9, List.forall_mem_cons.mpr ⟨lw_p10, List.forall_mem_cons.mpr ⟨lw_p11, List.forall_mem_cons.mpr ⟨lw_p12, List.forall_mem_cons.mpr ⟨lw_p13, List.forall_mem_cons.mpr ⟨lw_p14, List.forall_mem_cons.mpr ⟨lw_p15, fun _ h => absurd h List.not_mem_nil⟩⟩⟩⟩⟩⟩⟩⟩⟩⟩⟩⟩⟩⟩⟩⟩
theorem lw_p16 : lw_okq (⟨"DividingHead", "exactCuts", "(II)I"⟩, 9) := ⟨⟨by decide +kernel, by decide +kernel⟩, List.mem_of_getElem? (i := 5) (by decide +kernel), List.mem_of_getElem? (i := 186) (by decide +kernel), List.mem_of_getElem? (i := 187) (by decide +kernel)⟩
theorem lw_p17 : lw_okq (⟨"DividingHead", "worstUpper", "(II)I"⟩, 9) := ⟨⟨by decide +kernel, by decide +kernel⟩, List.mem_of_getElem? (i := 5) (by decide +kernel), List.mem_of_getElem? (i := 190) (by decide +kernel), List.mem_of_getElem? (i := 191) (by decide +kernel)⟩
theorem lw_p18 : lw_okq (⟨"DividingHead", "errorUpper", "(III)I"⟩, 9) := ⟨⟨by decide +kernel, by decide +kernel⟩, List.mem_of_getElem? (i := 5) (by decide +kernel), List.mem_of_getElem? (i := 213) (by decide +kernel), List.mem_of_getElem? (i := 214) (by decide +kernel)⟩
theorem lw_p19 : lw_okq (⟨"DividingHead", "mainMark", "(JJ)J"⟩, 9) := ⟨⟨by decide +kernel, by decide +kernel⟩, List.mem_of_getElem? (i := 5) (by decide +kernel), List.mem_of_getElem? (i := 245) (by decide +kernel), List.mem_of_getElem? (i := 246) (by decide +kernel)⟩
theorem lw_p20 : lw_okq (⟨"DividingHead", "vernierLine", "(JJ)J"⟩, 9) := ⟨⟨by decide +kernel, by decide +kernel⟩, List.mem_of_getElem? (i := 5) (by decide +kernel), List.mem_of_getElem? (i := 249) (by decide +kernel), List.mem_of_getElem? (i := 250) (by decide +kernel)⟩
theorem lw_p21 : lw_okq (⟨"DividingHead", "readParts", "(JJ)J"⟩, 9) := ⟨⟨by decide +kernel, by decide +kernel⟩, List.mem_of_getElem? (i := 5) (by decide +kernel), List.mem_of_getElem? (i := 253) (by decide +kernel), List.mem_of_getElem? (i := 254) (by decide +kernel)⟩
theorem lw_p22 : lw_okq (⟨"DividingHeadModel", "isCircle", "(I)Z"⟩, 9) := ⟨⟨by decide +kernel, by decide +kernel⟩, List.mem_of_getElem? (i := 270) (by decide +kernel), List.mem_of_getElem? (i := 323) (by decide +kernel), List.mem_of_getElem? (i := 324) (by decide +kernel)⟩
theorem lw_p23 : lw_okq (⟨"DividingHeadModel", "isGear", "(I)Z"⟩, 9) := ⟨⟨by decide +kernel, by decide +kernel⟩, List.mem_of_getElem? (i := 270) (by decide +kernel), List.mem_of_getElem? (i := 336) (by decide +kernel), List.mem_of_getElem? (i := 337) (by decide +kernel)⟩
theorem lw_p24 : lw_okq (⟨"DividingHeadModel", "plainOf", "(I)I"⟩, 9) := ⟨⟨by decide +kernel, by decide +kernel⟩, List.mem_of_getElem? (i := 270) (by decide +kernel), List.mem_of_getElem? (i := 349) (by decide +kernel), List.mem_of_getElem? (i := 350) (by decide +kernel)⟩
theorem lw_p25 : lw_okq (⟨"DividingHeadModel", "stepBeside", "(IIII)I"⟩, 9) := ⟨⟨by decide +kernel, by decide +kernel⟩, List.mem_of_getElem? (i := 270) (by decide +kernel), List.mem_of_getElem? (i := 359) (by decide +kernel), List.mem_of_getElem? (i := 360) (by decide +kernel)⟩
theorem lw_p26 : lw_okq (⟨"DividingHeadModel", "isTrain", "(JJ)Z"⟩, 9) := ⟨⟨by decide +kernel, by decide +kernel⟩, List.mem_of_getElem? (i := 270) (by decide +kernel), List.mem_of_getElem? (i := 369) (by decide +kernel), List.mem_of_getElem? (i := 370) (by decide +kernel)⟩
theorem lw_p27 : lw_okq (⟨"DividingHeadModel", "put", "(IIII)V"⟩, 9) := ⟨⟨by decide +kernel, by decide +kernel⟩, List.mem_of_getElem? (i := 270) (by decide +kernel), List.mem_of_getElem? (i := 373) (by decide +kernel), List.mem_of_getElem? (i := 374) (by decide +kernel)⟩
theorem lw_p28 : lw_okq (⟨"DividingHeadModel", "holeOf", "(III)J"⟩, 9) := ⟨⟨by decide +kernel, by decide +kernel⟩, List.mem_of_getElem? (i := 270) (by decide +kernel), List.mem_of_getElem? (i := 389) (by decide +kernel), List.mem_of_getElem? (i := 390) (by decide +kernel)⟩
theorem lw_p29 : lw_okq (⟨"DividingHeadModel", "missOf", "(III)J"⟩, 9) := ⟨⟨by decide +kernel, by decide +kernel⟩, List.mem_of_getElem? (i := 270) (by decide +kernel), List.mem_of_getElem? (i := 398) (by decide +kernel), List.mem_of_getElem? (i := 399) (by decide +kernel)⟩
theorem lw_p30 : lw_okq (⟨"DividingHeadModel", "exact", "(II)I"⟩, 9) := ⟨⟨by decide +kernel, by decide +kernel⟩, List.mem_of_getElem? (i := 270) (by decide +kernel), List.mem_of_getElem? (i := 412) (by decide +kernel), List.mem_of_getElem? (i := 413) (by decide +kernel)⟩
theorem lw_p31 : lw_okq (⟨"DividingHeadModel", "worstOf", "(II)J"⟩, 9) := ⟨⟨by decide +kernel, by decide +kernel⟩, List.mem_of_getElem? (i := 270) (by decide +kernel), List.mem_of_getElem? (i := 416) (by decide +kernel), List.mem_of_getElem? (i := 417) (by decide +kernel)⟩
def lw_privs_2 : List (MethodName × Nat) := [(⟨"DividingHead", "exactCuts", "(II)I"⟩, 9), (⟨"DividingHead", "worstUpper", "(II)I"⟩, 9), (⟨"DividingHead", "errorUpper", "(III)I"⟩, 9), (⟨"DividingHead", "mainMark", "(JJ)J"⟩, 9), (⟨"DividingHead", "vernierLine", "(JJ)J"⟩, 9), (⟨"DividingHead", "readParts", "(JJ)J"⟩, 9), (⟨"DividingHeadModel", "isCircle", "(I)Z"⟩, 9), (⟨"DividingHeadModel", "isGear", "(I)Z"⟩, 9), (⟨"DividingHeadModel", "plainOf", "(I)I"⟩, 9), (⟨"DividingHeadModel", "stepBeside", "(IIII)I"⟩, 9), (⟨"DividingHeadModel", "isTrain", "(JJ)Z"⟩, 9), (⟨"DividingHeadModel", "put", "(IIII)V"⟩, 9), (⟨"DividingHeadModel", "holeOf", "(III)J"⟩, 9), (⟨"DividingHeadModel", "missOf", "(III)J"⟩, 9), (⟨"DividingHeadModel", "exact", "(II)I"⟩, 9), (⟨"DividingHeadModel", "worstOf", "(II)J"⟩, 9)]
theorem lw_r2 : ∀ q ∈ lw_privs_2, lw_okq q := List.forall_mem_cons.mpr ⟨lw_p16, List.forall_mem_cons.mpr ⟨lw_p17, List.forall_mem_cons.mpr ⟨lw_p18, List.forall_mem_cons.mpr ⟨lw_p19, List.forall_mem_cons.mpr ⟨lw_p20, List.forall_mem_cons.mpr ⟨lw_p21, List.forall_mem_cons.mpr ⟨lw_p22, List.forall_mem_cons.mpr ⟨lw_p23, List.forall_mem_cons.mpr ⟨lw_p24, List.forall_mem_cons.mpr ⟨lw_p25, List.forall_mem_cons.mpr ⟨lw_p26, List.forall_mem_cons.mpr ⟨lw_p27, List.forall_mem_cons.mpr ⟨lw_p28, List.forall_mem_cons.mpr ⟨lw_p29, List.forall_mem_cons.mpr ⟨lw_p30, List.forall_mem_cons.mpr ⟨lw_p31, fun _ h => absurd h List.not_mem_nil⟩⟩⟩⟩⟩⟩⟩⟩⟩⟩⟩⟩⟩⟩⟩⟩
theorem lw_p32 : lw_okq (⟨"DividingHeadModel", "errorAt", "(III)J"⟩, 9) := ⟨⟨by decide +kernel, by decide +kernel⟩, List.mem_of_getElem? (i := 270) (by decide +kernel), List.mem_of_getElem? (i := 440) (by decide +kernel), List.mem_of_getElem? (i := 441) (by decide +kernel)⟩
theorem lw_p33 : lw_okq (⟨"DividingHeadModel", "mainOf", "(JJ)J"⟩, 9) := ⟨⟨by decide +kernel, by decide +kernel⟩, List.mem_of_getElem? (i := 270) (by decide +kernel), List.mem_of_getElem? (i := 466) (by decide +kernel), List.mem_of_getElem? (i := 467) (by decide +kernel)⟩
theorem lw_p34 : lw_okq (⟨"DividingHeadModel", "lineOf", "(JJ)J"⟩, 9) := ⟨⟨by decide +kernel, by decide +kernel⟩, List.mem_of_getElem? (i := 270) (by decide +kernel), List.mem_of_getElem? (i := 470) (by decide +kernel), List.mem_of_getElem? (i := 471) (by decide +kernel)⟩
theorem lw_p35 : lw_okq (⟨"DividingHeadModel", "readOf", "(JJ)J"⟩, 9) := ⟨⟨by decide +kernel, by decide +kernel⟩, List.mem_of_getElem? (i := 270) (by decide +kernel), List.mem_of_getElem? (i := 474) (by decide +kernel), List.mem_of_getElem? (i := 475) (by decide +kernel)⟩
def lw_privs_3 : List (MethodName × Nat) := [(⟨"DividingHeadModel", "errorAt", "(III)J"⟩, 9), (⟨"DividingHeadModel", "mainOf", "(JJ)J"⟩, 9), (⟨"DividingHeadModel", "lineOf", "(JJ)J"⟩, 9), (⟨"DividingHeadModel", "readOf", "(JJ)J"⟩, 9)]
theorem lw_r3 : ∀ q ∈ lw_privs_3, lw_okq q := List.forall_mem_cons.mpr ⟨lw_p32, List.forall_mem_cons.mpr ⟨lw_p33, List.forall_mem_cons.mpr ⟨lw_p34, List.forall_mem_cons.mpr ⟨lw_p35, fun _ h => absurd h List.not_mem_nil⟩⟩⟩⟩
def lw_privs : List (MethodName × Nat) := lw_privs_1 ++ (lw_privs_2 ++ (lw_privs_3))
def lw_tbl : List Cond := k2_sels lw_privs ++ tables_1
theorem lw_privs_ok : ∀ q ∈ lw_privs, lw_okq q := by
  show ∀ q ∈ lw_privs_1 ++ (lw_privs_2 ++ (lw_privs_3)), lw_okq q
  exact List.forall_mem_append.mpr ⟨lw_r1, List.forall_mem_append.mpr ⟨lw_r2, lw_r3⟩⟩
-- ===== end of PART A; then your names; then what follows =====
end
section
/-! ===== BEGIN words of one list among another's, by their places ===== -/
theorem goodIn_r {big : List Cond} (ws : List Cond) (ps : List Nat) (hp : ws = ps.filterMap (fun i => big[i]?)) (h : ws.all goodWord = true) : GoodIn big ws := by
  intro w hw
  have h1 := List.all_eq_true.mp h w hw
  rw [hp] at hw
  obtain ⟨i, -, hi⟩ := List.mem_filterMap.mp hw
  have hm : w ∈ big := by first | exact List.mem_of_getElem? hi | exact List.getElem?_mem hi
  exact ⟨hm, good_of_word h1⟩
theorem goodIn_app {big a b : List Cond} (ha : GoodIn big a) (hb : GoodIn big b) : GoodIn big (a ++ b) := fun w h => (List.mem_append.mp h).elim (ha w) (hb w)
theorem goodIn_ca {big a b : List Cond} {c : Cond} (ha : GoodIn big (c :: a)) (hb : GoodIn big b) : GoodIn big (c :: (a ++ b)) := fun w h => (List.mem_cons.mp h).elim (fun e => ha w (List.mem_cons.mpr (Or.inl e))) (fun h => (List.mem_append.mp h).elim (fun h => ha w (List.mem_cons.mpr (Or.inr h))) (hb w))
theorem goodIn_sub {big ws : List Cond} (hm : ∀ w ∈ ws, w ∈ big) (h : ws.all goodWord = true) : GoodIn big ws := fun w hw => ⟨hm w hw, good_of_word (List.all_eq_true.mp h w hw)⟩
/-! ===== END ===== -/

/-! ===== BEGIN printed: names, fields, word lists, decode rows ===== -/
def RX0 : String := "DividingHead"
def TX0 : u_T := fun k => match k with
  | 0 => ("DividingHead", "circleHoles", "[I", true)
  | 1 => ("DividingHead", "gearTeeth", "[I", true)
  | 2 => ("DividingHead", "wormErrors", "[I", true)
  | 3 => ("DividingHead", "trainGears", "[I", true)
  | 4 => ("DividingHead", "circleCount", "I", false)
  | 5 => ("DividingHead", "gearCount", "I", false)
  | 6 => ("DividingHead", "wheelTeeth", "I", false)
  | 7 => ("DividingHead", "circleMarks", "I", false)
  | _ => ("DividingHead", "vernierParts", "I", false)
def tyX0 : Nat → FieldType := fun k => match k with
  | 0 => .array .int
  | 1 => .array .int
  | 2 => .array .int
  | 3 => .array .int
  | 4 => .int
  | 5 => .int
  | 6 => .int
  | 7 => .int
  | _ => .int
abbrev wsX00 : List Cond := u_ws RX0 TX0 9
theorem nmX0 : ∀ a, a < 9 → ∀ b, b < 9 → a ≠ b → (TX0 a).2.1 ≠ (TX0 b).2.1 := by decide +kernel
theorem tyX0_ok : ∀ k, k < 9 → parseFieldDescriptor (TX0 k).2.2.1 = some (tyX0 k) := by decide +kernel
abbrev cX0_init : ByteArray := prog_1_method_1_code
def yX0_init : MethodName := ⟨RX0, "<init>", "()V"⟩
abbrev cX0_wheel : ByteArray := prog_1_method_2_code
def yX0_wheel : MethodName := ⟨RX0, "wheel", "(I)I"⟩
abbrev cX0_circle : ByteArray := prog_1_method_3_code
def yX0_circle : MethodName := ⟨RX0, "circle", "(I)I"⟩
abbrev cX0_holes : ByteArray := prog_1_method_4_code
def yX0_holes : MethodName := ⟨RX0, "holes", "(I)I"⟩
abbrev cX0_gear : ByteArray := prog_1_method_5_code
def yX0_gear : MethodName := ⟨RX0, "gear", "(I)I"⟩
abbrev cX0_teeth : ByteArray := prog_1_method_6_code
def yX0_teeth : MethodName := ⟨RX0, "teeth", "(I)I"⟩
abbrev cX0_plain : ByteArray := prog_1_method_7_code
def yX0_plain : MethodName := ⟨RX0, "plain", "(II)I"⟩
abbrev cX0_compound : ByteArray := prog_1_method_8_code
def yX0_compound : MethodName := ⟨RX0, "compound", "(II)I"⟩
abbrev cX0_differential : ByteArray := prog_1_method_9_code
def yX0_differential : MethodName := ⟨RX0, "differential", "(II)I"⟩
abbrev cX0_train : ByteArray := prog_1_method_10_code
def yX0_train : MethodName := ⟨RX0, "train", "(III)I"⟩
abbrev cX0_hole : ByteArray := prog_1_method_11_code
def yX0_hole : MethodName := ⟨RX0, "hole", "(III)I"⟩
abbrev cX0_miss : ByteArray := prog_1_method_12_code
def yX0_miss : MethodName := ⟨RX0, "miss", "(IIII)I"⟩
abbrev cX0_worst : ByteArray := prog_1_method_13_code
def yX0_worst : MethodName := ⟨RX0, "worst", "(III)I"⟩
abbrev cX0_best : ByteArray := prog_1_method_14_code
def yX0_best : MethodName := ⟨RX0, "best", "(I)I"⟩
abbrev cX0_error : ByteArray := prog_1_method_15_code
def yX0_error : MethodName := ⟨RX0, "error", "(II)I"⟩
abbrev cX0_spoilt : ByteArray := prog_1_method_16_code
def yX0_spoilt : MethodName := ⟨RX0, "spoilt", "(IIII)I"⟩
abbrev cX0_extreme : ByteArray := prog_1_method_17_code
def yX0_extreme : MethodName := ⟨RX0, "extreme", "(IIII)I"⟩
abbrev cX0_near : ByteArray := prog_1_method_18_code
def yX0_near : MethodName := ⟨RX0, "near", "(IIII)I"⟩
abbrev cX0_vernier : ByteArray := prog_1_method_19_code
def yX0_vernier : MethodName := ⟨RX0, "vernier", "(II)I"⟩
abbrev cX0_read : ByteArray := prog_1_method_20_code
def yX0_read : MethodName := ⟨RX0, "read", "(III)I"⟩
abbrev cX0_two : ByteArray := prog_1_method_21_code
def yX0_two : MethodName := ⟨RX0, "two", "(IIII)I"⟩
abbrev cX0_told : ByteArray := prog_1_method_22_code
def yX0_told : MethodName := ⟨RX0, "told", "(I)I"⟩
abbrev cX0_isOutside : ByteArray := prog_1_method_23_code
def yX0_isOutside : MethodName := ⟨RX0, "isOutside", "(III)Z"⟩
abbrev cX0_isNoNumberOfParts : ByteArray := prog_1_method_24_code
def yX0_isNoNumberOfParts : MethodName := ⟨RX0, "isNoNumberOfParts", "(I)Z"⟩
abbrev cX0_isNoShare : ByteArray := prog_1_method_25_code
def yX0_isNoShare : MethodName := ⟨RX0, "isNoShare", "(II)Z"⟩
abbrev cX0_isNoPlace : ByteArray := prog_1_method_26_code
def yX0_isNoPlace : MethodName := ⟨RX0, "isNoPlace", "(II)Z"⟩
abbrev cX0_isNoStep : ByteArray := prog_1_method_27_code
def yX0_isNoStep : MethodName := ⟨RX0, "isNoStep", "(I)Z"⟩
abbrev cX0_holesAt : ByteArray := prog_1_method_28_code
def yX0_holesAt : MethodName := ⟨RX0, "holesAt", "(I)I"⟩
abbrev cX0_hasCircleOf : ByteArray := prog_1_method_29_code
def yX0_hasCircleOf : MethodName := ⟨RX0, "hasCircleOf", "(I)Z"⟩
abbrev cX0_plainCircle : ByteArray := prog_1_method_30_code
def yX0_plainCircle : MethodName := ⟨RX0, "plainCircle", "(I)I"⟩
abbrev cX0_secondStep : ByteArray := prog_1_method_31_code
def yX0_secondStep : MethodName := ⟨RX0, "secondStep", "(III)I"⟩
abbrev cX0_firstStep : ByteArray := prog_1_method_32_code
def yX0_firstStep : MethodName := ⟨RX0, "firstStep", "(IIII)I"⟩
abbrev cX0_compoundTerm : ByteArray := prog_1_method_33_code
def yX0_compoundTerm : MethodName := ⟨RX0, "compoundTerm", "(IIIII)I"⟩
abbrev cX0_partsBeside : ByteArray := prog_1_method_34_code
def yX0_partsBeside : MethodName := ⟨RX0, "partsBeside", "(I)I"⟩
abbrev cX0_standsIn : ByteArray := prog_1_method_35_code
def yX0_standsIn : MethodName := ⟨RX0, "standsIn", "(II)Z"⟩
abbrev cX0_findTrain : ByteArray := prog_1_method_36_code
def yX0_findTrain : MethodName := ⟨RX0, "findTrain", "(JJ)Z"⟩
abbrev cX0_findTwoGears : ByteArray := prog_1_method_37_code
def yX0_findTwoGears : MethodName := ⟨RX0, "findTwoGears", "(JJ)Z"⟩
abbrev cX0_findFourGears : ByteArray := prog_1_method_38_code
def yX0_findFourGears : MethodName := ⟨RX0, "findFourGears", "(JJ)Z"⟩
abbrev cX0_findSecondPair : ByteArray := prog_1_method_39_code
def yX0_findSecondPair : MethodName := ⟨RX0, "findSecondPair", "(IIJJ)Z"⟩
abbrev cX0_gearWith : ByteArray := prog_1_method_40_code
def yX0_gearWith : MethodName := ⟨RX0, "gearWith", "(JIII)I"⟩
abbrev cX0_keepTrain : ByteArray := prog_1_method_41_code
def yX0_keepTrain : MethodName := ⟨RX0, "keepTrain", "(IIII)Z"⟩
abbrev cX0_nearestHole : ByteArray := prog_1_method_42_code
def yX0_nearestHole : MethodName := ⟨RX0, "nearestHole", "(III)I"⟩
abbrev cX0_missUpper : ByteArray := prog_1_method_43_code
def yX0_missUpper : MethodName := ⟨RX0, "missUpper", "(III)I"⟩
abbrev cX0_worstUpper : ByteArray := prog_1_method_44_code
def yX0_worstUpper : MethodName := ⟨RX0, "worstUpper", "(II)I"⟩
abbrev cX0_exactCuts : ByteArray := prog_1_method_45_code
def yX0_exactCuts : MethodName := ⟨RX0, "exactCuts", "(II)I"⟩
abbrev cX0_errorUpper : ByteArray := prog_1_method_46_code
def yX0_errorUpper : MethodName := ⟨RX0, "errorUpper", "(III)I"⟩
abbrev cX0_nearestLower : ByteArray := prog_1_method_47_code
def yX0_nearestLower : MethodName := ⟨RX0, "nearestLower", "(III)I"⟩
abbrev cX0_gapUpper : ByteArray := prog_1_method_48_code
def yX0_gapUpper : MethodName := ⟨RX0, "gapUpper", "(III)J"⟩
abbrev cX0_mainMark : ByteArray := prog_1_method_49_code
def yX0_mainMark : MethodName := ⟨RX0, "mainMark", "(JJ)J"⟩
abbrev cX0_vernierLine : ByteArray := prog_1_method_50_code
def yX0_vernierLine : MethodName := ⟨RX0, "vernierLine", "(JJ)J"⟩
abbrev cX0_readParts : ByteArray := prog_1_method_51_code
def yX0_readParts : MethodName := ⟨RX0, "readParts", "(JJ)J"⟩
abbrev cX0_nearestOrLesser : ByteArray := prog_1_method_52_code
def yX0_nearestOrLesser : MethodName := ⟨RX0, "nearestOrLesser", "(JJ)J"⟩
abbrev cX0_nearestOrGreater : ByteArray := prog_1_method_53_code
def yX0_nearestOrGreater : MethodName := ⟨RX0, "nearestOrGreater", "(JJ)J"⟩
abbrev cX0_exactQuotient : ByteArray := prog_1_method_54_code
def yX0_exactQuotient : MethodName := ⟨RX0, "exactQuotient", "(JJ)J"⟩
abbrev cX0_lowestTerm : ByteArray := prog_1_method_55_code
def yX0_lowestTerm : MethodName := ⟨RX0, "lowestTerm", "(JJI)I"⟩
abbrev cX0_commonMeasure : ByteArray := prog_1_method_56_code
def yX0_commonMeasure : MethodName := ⟨RX0, "commonMeasure", "(JJ)J"⟩
def RX1 : String := "DividingHeadModel"
def TX1 : u_T := fun k => match k with
  | 0 => ("DividingHeadModel", "wheel", "I", false)
  | 1 => ("DividingHeadModel", "circles", "I", false)
  | 2 => ("DividingHeadModel", "holes", "[I", true)
  | 3 => ("DividingHeadModel", "gears", "I", false)
  | 4 => ("DividingHeadModel", "teeth", "[I", true)
  | 5 => ("DividingHeadModel", "error", "[I", true)
  | 6 => ("DividingHeadModel", "marks", "I", false)
  | 7 => ("DividingHeadModel", "parts", "I", false)
  | _ => ("DividingHeadModel", "found", "[I", true)
def tyX1 : Nat → FieldType := fun k => match k with
  | 0 => .int
  | 1 => .int
  | 2 => .array .int
  | 3 => .int
  | 4 => .array .int
  | 5 => .array .int
  | 6 => .int
  | 7 => .int
  | _ => .array .int
abbrev wsX10 : List Cond := u_ws RX1 TX1 9
theorem nmX1 : ∀ a, a < 9 → ∀ b, b < 9 → a ≠ b → (TX1 a).2.1 ≠ (TX1 b).2.1 := by decide +kernel
theorem tyX1_ok : ∀ k, k < 9 → parseFieldDescriptor (TX1 k).2.2.1 = some (tyX1 k) := by decide +kernel
abbrev cX1_init : ByteArray := prog_3_method_1_code
def yX1_init : MethodName := ⟨RX1, "<init>", "()V"⟩
abbrev cX1_in : ByteArray := prog_3_method_2_code
def yX1_in : MethodName := ⟨RX1, "in", "(JJJ)Z"⟩
abbrev cX1_common : ByteArray := prog_3_method_3_code
def yX1_common : MethodName := ⟨RX1, "common", "(JJ)J"⟩
abbrev cX1_term : ByteArray := prog_3_method_4_code
def yX1_term : MethodName := ⟨RX1, "term", "(JJI)I"⟩
abbrev cX1_isParts : ByteArray := prog_3_method_5_code
def yX1_isParts : MethodName := ⟨RX1, "isParts", "(I)Z"⟩
abbrev cX1_isCircle : ByteArray := prog_3_method_6_code
def yX1_isCircle : MethodName := ⟨RX1, "isCircle", "(I)Z"⟩
abbrev cX1_isGear : ByteArray := prog_3_method_7_code
def yX1_isGear : MethodName := ⟨RX1, "isGear", "(I)Z"⟩
abbrev cX1_wheel : ByteArray := prog_3_method_8_code
def yX1_wheel : MethodName := ⟨RX1, "wheel", "(I)I"⟩
abbrev cX1_circle : ByteArray := prog_3_method_9_code
def yX1_circle : MethodName := ⟨RX1, "circle", "(I)I"⟩
abbrev cX1_holes : ByteArray := prog_3_method_10_code
def yX1_holes : MethodName := ⟨RX1, "holes", "(I)I"⟩
abbrev cX1_gear : ByteArray := prog_3_method_11_code
def yX1_gear : MethodName := ⟨RX1, "gear", "(I)I"⟩
abbrev cX1_teeth : ByteArray := prog_3_method_12_code
def yX1_teeth : MethodName := ⟨RX1, "teeth", "(I)I"⟩
abbrev cX1_plainOf : ByteArray := prog_3_method_13_code
def yX1_plainOf : MethodName := ⟨RX1, "plainOf", "(I)I"⟩
abbrev cX1_plain : ByteArray := prog_3_method_14_code
def yX1_plain : MethodName := ⟨RX1, "plain", "(II)I"⟩
abbrev cX1_stepBeside : ByteArray := prog_3_method_15_code
def yX1_stepBeside : MethodName := ⟨RX1, "stepBeside", "(IIII)I"⟩
abbrev cX1_compound : ByteArray := prog_3_method_16_code
def yX1_compound : MethodName := ⟨RX1, "compound", "(II)I"⟩
abbrev cX1_isTrain : ByteArray := prog_3_method_17_code
def yX1_isTrain : MethodName := ⟨RX1, "isTrain", "(JJ)Z"⟩
abbrev cX1_put : ByteArray := prog_3_method_18_code
def yX1_put : MethodName := ⟨RX1, "put", "(IIII)V"⟩
abbrev cX1_train : ByteArray := prog_3_method_19_code
def yX1_train : MethodName := ⟨RX1, "train", "(III)I"⟩
abbrev cX1_differential : ByteArray := prog_3_method_20_code
def yX1_differential : MethodName := ⟨RX1, "differential", "(II)I"⟩
abbrev cX1_holeOf : ByteArray := prog_3_method_21_code
def yX1_holeOf : MethodName := ⟨RX1, "holeOf", "(III)J"⟩
abbrev cX1_isCut : ByteArray := prog_3_method_22_code
def yX1_isCut : MethodName := ⟨RX1, "isCut", "(II)Z"⟩
abbrev cX1_hole : ByteArray := prog_3_method_23_code
def yX1_hole : MethodName := ⟨RX1, "hole", "(III)I"⟩
abbrev cX1_missOf : ByteArray := prog_3_method_24_code
def yX1_missOf : MethodName := ⟨RX1, "missOf", "(III)J"⟩
abbrev cX1_miss : ByteArray := prog_3_method_25_code
def yX1_miss : MethodName := ⟨RX1, "miss", "(IIII)I"⟩
abbrev cX1_worstOf : ByteArray := prog_3_method_26_code
def yX1_worstOf : MethodName := ⟨RX1, "worstOf", "(II)J"⟩
abbrev cX1_exact : ByteArray := prog_3_method_27_code
def yX1_exact : MethodName := ⟨RX1, "exact", "(II)I"⟩
abbrev cX1_worst : ByteArray := prog_3_method_28_code
def yX1_worst : MethodName := ⟨RX1, "worst", "(III)I"⟩
abbrev cX1_best : ByteArray := prog_3_method_29_code
def yX1_best : MethodName := ⟨RX1, "best", "(I)I"⟩
abbrev cX1_error : ByteArray := prog_3_method_30_code
def yX1_error : MethodName := ⟨RX1, "error", "(II)I"⟩
abbrev cX1_errorAt : ByteArray := prog_3_method_31_code
def yX1_errorAt : MethodName := ⟨RX1, "errorAt", "(III)J"⟩
abbrev cX1_isSteps : ByteArray := prog_3_method_32_code
def yX1_isSteps : MethodName := ⟨RX1, "isSteps", "(I)Z"⟩
abbrev cX1_spoilt : ByteArray := prog_3_method_33_code
def yX1_spoilt : MethodName := ⟨RX1, "spoilt", "(IIII)I"⟩
abbrev cX1_extreme : ByteArray := prog_3_method_34_code
def yX1_extreme : MethodName := ⟨RX1, "extreme", "(IIII)I"⟩
abbrev cX1_near : ByteArray := prog_3_method_35_code
def yX1_near : MethodName := ⟨RX1, "near", "(IIII)I"⟩
abbrev cX1_vernier : ByteArray := prog_3_method_36_code
def yX1_vernier : MethodName := ⟨RX1, "vernier", "(II)I"⟩
abbrev cX1_mainOf : ByteArray := prog_3_method_37_code
def yX1_mainOf : MethodName := ⟨RX1, "mainOf", "(JJ)J"⟩
abbrev cX1_lineOf : ByteArray := prog_3_method_38_code
def yX1_lineOf : MethodName := ⟨RX1, "lineOf", "(JJ)J"⟩
abbrev cX1_readOf : ByteArray := prog_3_method_39_code
def yX1_readOf : MethodName := ⟨RX1, "readOf", "(JJ)J"⟩
abbrev cX1_isPlace : ByteArray := prog_3_method_40_code
def yX1_isPlace : MethodName := ⟨RX1, "isPlace", "(II)Z"⟩
abbrev cX1_read : ByteArray := prog_3_method_41_code
def yX1_read : MethodName := ⟨RX1, "read", "(III)I"⟩
abbrev cX1_two : ByteArray := prog_3_method_42_code
def yX1_two : MethodName := ⟨RX1, "two", "(IIII)I"⟩
abbrev cX1_told : ByteArray := prog_3_method_43_code
def yX1_told : MethodName := ⟨RX1, "told", "(I)I"⟩
def RJ9 : String := "java/lang/Math"
def TJ9 : u_T := fun k => match k with
  | _ => ("", "", "", false)
def tyJ9 : Nat → FieldType := fun k => match k with
  | _ => .int
abbrev wsJ90 : List Cond := u_ws RJ9 TJ9 0
theorem nmJ9 : ∀ a, a < 0 → ∀ b, b < 0 → a ≠ b → (TJ9 a).2.1 ≠ (TJ9 b).2.1 := by decide +kernel
theorem tyJ9_ok : ∀ k, k < 0 → parseFieldDescriptor (TJ9 k).2.2.1 = some (tyJ9 k) := by decide +kernel
abbrev cJ9_floorMod_f86c9 : ByteArray := prog_4_method_52_code
def yJ9_floorMod_f86c9 : MethodName := ⟨RJ9, "floorMod", "(JJ)J"⟩
abbrev cJ9_abs_0f7a4 : ByteArray := prog_4_method_59_code
def yJ9_abs_0f7a4 : MethodName := ⟨RJ9, "abs", "(I)I"⟩
abbrev cJ9_abs_067f4 : ByteArray := prog_4_method_61_code
def yJ9_abs_067f4 : MethodName := ⟨RJ9, "abs", "(J)J"⟩
abbrev cJ9_max_7cf53 : ByteArray := prog_4_method_65_code
def yJ9_max_7cf53 : MethodName := ⟨RJ9, "max", "(II)I"⟩
def RL : String := "DividingHeadLaw"
abbrev cL_law : ByteArray := code
def yL_law : MethodName := ⟨RL, "law", "([I)Z"⟩
def wsX0_init : List Cond := .code yX0_init cX0_init 1 none :: ([.methodLink RX0 1 objectInit, .instanceMethod objectInit, .code objectInit ⟨#[0xb1]⟩ 1 none, .arrayClass .int, .fieldLink RX0 9 "DividingHead" "circleHoles" "[I", .fieldLink RX0 13 "DividingHead" "gearTeeth" "[I", .fieldLink RX0 16 "DividingHead" "wormErrors" "[I", .fieldLink RX0 19 "DividingHead" "trainGears" "[I", .fieldLink RX0 22 "DividingHead" "wheelTeeth" "I", .fieldLink RX0 26 "DividingHead" "circleMarks" "I", .fieldLink RX0 29 "DividingHead" "vernierParts" "I"] ++ wsX00)
def wsX0_isOutside : List Cond := .code yX0_isOutside cX0_isOutside 3 (some .boolean) :: ([])
def wsX0_wheel : List Cond := .code yX0_wheel cX0_wheel 3 (some .int) :: ([.fieldLink RX0 22 "DividingHead" "wheelTeeth" "I", .methodLink RX0 32 yX0_isOutside, .static yX0_isOutside, .initialized RX0, .code yX0_isOutside cX0_isOutside 3 (some .boolean)] ++ wsX00)
def wsX0_hasCircleOf : List Cond := .code yX0_hasCircleOf cX0_hasCircleOf 3 (some .boolean) :: ([.fieldLink RX0 36 "DividingHead" "circleCount" "I", .fieldLink RX0 9 "DividingHead" "circleHoles" "[I"] ++ wsX00)
def wsX0_circle : List Cond := .code yX0_circle cX0_circle 2 (some .int) :: ([.fieldLink RX0 36 "DividingHead" "circleCount" "I", .fieldLink RX0 9 "DividingHead" "circleHoles" "[I", .methodLink RX0 32 yX0_isOutside, .static yX0_isOutside, .initialized RX0, .code yX0_isOutside cX0_isOutside 3 (some .boolean), .methodLink RX0 39 yX0_hasCircleOf, .instanceMethod yX0_hasCircleOf, .selects RX0 yX0_hasCircleOf yX0_hasCircleOf, .code yX0_hasCircleOf cX0_hasCircleOf 3 (some .boolean)] ++ wsX00)
def wsX0_holesAt : List Cond := .code yX0_holesAt cX0_holesAt 2 (some .int) :: ([.fieldLink RX0 36 "DividingHead" "circleCount" "I", .fieldLink RX0 9 "DividingHead" "circleHoles" "[I"] ++ wsX00)
def wsX0_holes : List Cond := .code yX0_holes cX0_holes 3 (some .int) :: ([.methodLink RX0 43 yX0_holesAt, .instanceMethod yX0_holesAt, .selects RX0 yX0_holesAt yX0_holesAt, .initialized RX0, .code yX0_holesAt cX0_holesAt 2 (some .int), .fieldLink RX0 36 "DividingHead" "circleCount" "I", .fieldLink RX0 9 "DividingHead" "circleHoles" "[I"] ++ wsX00)
def wsX0_gear : List Cond := .code yX0_gear cX0_gear 2 (some .int) :: ([.fieldLink RX0 47 "DividingHead" "gearCount" "I", .fieldLink RX0 13 "DividingHead" "gearTeeth" "[I", .methodLink RX0 32 yX0_isOutside, .static yX0_isOutside, .initialized RX0, .code yX0_isOutside cX0_isOutside 3 (some .boolean)] ++ wsX00)
def wsX0_teeth : List Cond := .code yX0_teeth cX0_teeth 2 (some .int) :: ([.fieldLink RX0 47 "DividingHead" "gearCount" "I", .fieldLink RX0 13 "DividingHead" "gearTeeth" "[I"] ++ wsX00)
def wsX0_isNoNumberOfParts : List Cond := .code yX0_isNoNumberOfParts cX0_isNoNumberOfParts 1 (some .boolean) :: ([.methodLink RX0 32 yX0_isOutside, .static yX0_isOutside, .initialized RX0, .code yX0_isOutside cX0_isOutside 3 (some .boolean)])
def wsX0_exactQuotient : List Cond := .code yX0_exactQuotient cX0_exactQuotient 4 (some .long) :: ([])
def wsX0_plainCircle : List Cond := .code yX0_plainCircle cX0_plainCircle 5 (some .int) :: ([.fieldLink RX0 36 "DividingHead" "circleCount" "I", .fieldLink RX0 22 "DividingHead" "wheelTeeth" "I", .fieldLink RX0 9 "DividingHead" "circleHoles" "[I", .methodLink RX0 133 yX0_exactQuotient, .static yX0_exactQuotient, .initialized RX0, .code yX0_exactQuotient cX0_exactQuotient 4 (some .long)] ++ wsX00)
def wsX0_plain : List Cond := .code yX0_plain cX0_plain 4 (some .int) :: ([.fieldLink RX0 22 "DividingHead" "wheelTeeth" "I", .methodLink RX0 50 yX0_isNoNumberOfParts, .static yX0_isNoNumberOfParts, .initialized RX0, .code yX0_isNoNumberOfParts cX0_isNoNumberOfParts 1 (some .boolean), .methodLink RX0 32 yX0_isOutside, .static yX0_isOutside, .code yX0_isOutside cX0_isOutside 3 (some .boolean), .methodLink RX0 53 yX0_plainCircle, .instanceMethod yX0_plainCircle, .selects RX0 yX0_plainCircle yX0_plainCircle, .code yX0_plainCircle cX0_plainCircle 5 (some .int), .fieldLink RX0 36 "DividingHead" "circleCount" "I", .fieldLink RX0 9 "DividingHead" "circleHoles" "[I", .methodLink RX0 133 yX0_exactQuotient, .static yX0_exactQuotient, .code yX0_exactQuotient cX0_exactQuotient 4 (some .long), .methodLink RX0 43 yX0_holesAt, .instanceMethod yX0_holesAt, .selects RX0 yX0_holesAt yX0_holesAt, .code yX0_holesAt cX0_holesAt 2 (some .int)] ++ wsX00)
def wsX0_firstStep : List Cond := .code yX0_firstStep cX0_firstStep 6 (some .int) :: ([.fieldLink RX0 22 "DividingHead" "wheelTeeth" "I", .methodLink RX0 133 yX0_exactQuotient, .static yX0_exactQuotient, .initialized RX0, .code yX0_exactQuotient cX0_exactQuotient 4 (some .long)] ++ wsX00)
def wsX0_secondStep : List Cond := .code yX0_secondStep cX0_secondStep 5 (some .int) :: ([.methodLink RX0 136 yX0_firstStep, .instanceMethod yX0_firstStep, .selects RX0 yX0_firstStep yX0_firstStep, .initialized RX0, .code yX0_firstStep cX0_firstStep 6 (some .int), .fieldLink RX0 22 "DividingHead" "wheelTeeth" "I", .methodLink RX0 133 yX0_exactQuotient, .static yX0_exactQuotient, .code yX0_exactQuotient cX0_exactQuotient 4 (some .long)] ++ wsX00)
def wsX0_compoundTerm : List Cond := .code yX0_compoundTerm cX0_compoundTerm 6 (some .int) :: ([.fieldLink RX0 9 "DividingHead" "circleHoles" "[I", .methodLink RX0 136 yX0_firstStep, .instanceMethod yX0_firstStep, .selects RX0 yX0_firstStep yX0_firstStep, .initialized RX0, .code yX0_firstStep cX0_firstStep 6 (some .int), .fieldLink RX0 22 "DividingHead" "wheelTeeth" "I", .methodLink RX0 133 yX0_exactQuotient, .static yX0_exactQuotient, .code yX0_exactQuotient cX0_exactQuotient 4 (some .long)] ++ wsX00)
def wsX0_compound_r1 : List Cond := [Cond.constant RX0 56 (-1000000002), Cond.fieldLink RX0 36 "DividingHead" "circleCount" "I", Cond.fieldLink RX0 9 "DividingHead" "circleHoles" "[I", Cond.constant RX0 65 (-1000000005), Cond.methodLink RX0 50 yX0_isNoNumberOfParts, Cond.static yX0_isNoNumberOfParts, Cond.initialized RX0, Cond.code yX0_isNoNumberOfParts cX0_isNoNumberOfParts 1 (some .boolean), Cond.methodLink RX0 32 yX0_isOutside, Cond.static yX0_isOutside, Cond.code yX0_isOutside cX0_isOutside 3 (some .boolean), Cond.methodLink RX0 57 yX0_secondStep, Cond.instanceMethod yX0_secondStep, Cond.selects RX0 yX0_secondStep yX0_secondStep, Cond.code yX0_secondStep cX0_secondStep 5 (some .int), Cond.methodLink RX0 136 yX0_firstStep, Cond.instanceMethod yX0_firstStep, Cond.selects RX0 yX0_firstStep yX0_firstStep, Cond.code yX0_firstStep cX0_firstStep 6 (some .int), Cond.fieldLink RX0 22 "DividingHead" "wheelTeeth" "I", Cond.methodLink RX0 133 yX0_exactQuotient, Cond.static yX0_exactQuotient, Cond.code yX0_exactQuotient cX0_exactQuotient 4 (some .long), Cond.methodLink RX0 61 yX0_compoundTerm]
def wsX0_compound_r2 : List Cond := [Cond.instanceMethod yX0_compoundTerm, Cond.selects RX0 yX0_compoundTerm yX0_compoundTerm, Cond.code yX0_compoundTerm cX0_compoundTerm 6 (some .int)]
def wsX0_compound : List Cond := .code yX0_compound cX0_compound 6 (some .int) :: ((wsX0_compound_r1 ++ wsX0_compound_r2) ++ wsX00)
def wsX0_gearWith : List Cond := .code yX0_gearWith cX0_gearWith 7 (some .int) :: ([.fieldLink RX0 47 "DividingHead" "gearCount" "I", .fieldLink RX0 13 "DividingHead" "gearTeeth" "[I"] ++ wsX00)
def wsX0_keepTrain : List Cond := .code yX0_keepTrain cX0_keepTrain 5 (some .boolean) :: ([.fieldLink RX0 19 "DividingHead" "trainGears" "[I"] ++ wsX00)
def wsX0_findTwoGears : List Cond := .code yX0_findTwoGears cX0_findTwoGears 7 (some .boolean) :: ([.fieldLink RX0 47 "DividingHead" "gearCount" "I", .fieldLink RX0 13 "DividingHead" "gearTeeth" "[I", .methodLink RX0 133 yX0_exactQuotient, .static yX0_exactQuotient, .initialized RX0, .code yX0_exactQuotient cX0_exactQuotient 4 (some .long), .methodLink RX0 152 yX0_gearWith, .instanceMethod yX0_gearWith, .selects RX0 yX0_gearWith yX0_gearWith, .code yX0_gearWith cX0_gearWith 7 (some .int), .methodLink RX0 156 yX0_keepTrain, .instanceMethod yX0_keepTrain, .selects RX0 yX0_keepTrain yX0_keepTrain, .code yX0_keepTrain cX0_keepTrain 5 (some .boolean), .fieldLink RX0 19 "DividingHead" "trainGears" "[I"] ++ wsX00)
def wsX0_findSecondPair : List Cond := .code yX0_findSecondPair cX0_findSecondPair 11 (some .boolean) :: ([.fieldLink RX0 47 "DividingHead" "gearCount" "I", .fieldLink RX0 13 "DividingHead" "gearTeeth" "[I", .methodLink RX0 133 yX0_exactQuotient, .static yX0_exactQuotient, .initialized RX0, .code yX0_exactQuotient cX0_exactQuotient 4 (some .long), .methodLink RX0 152 yX0_gearWith, .instanceMethod yX0_gearWith, .selects RX0 yX0_gearWith yX0_gearWith, .code yX0_gearWith cX0_gearWith 7 (some .int), .methodLink RX0 156 yX0_keepTrain, .instanceMethod yX0_keepTrain, .selects RX0 yX0_keepTrain yX0_keepTrain, .code yX0_keepTrain cX0_keepTrain 5 (some .boolean), .fieldLink RX0 19 "DividingHead" "trainGears" "[I"] ++ wsX00)
def wsX0_findFourGears : List Cond := .code yX0_findFourGears cX0_findFourGears 7 (some .boolean) :: ([.fieldLink RX0 47 "DividingHead" "gearCount" "I", .methodLink RX0 160 yX0_findSecondPair, .instanceMethod yX0_findSecondPair, .selects RX0 yX0_findSecondPair yX0_findSecondPair, .initialized RX0, .code yX0_findSecondPair cX0_findSecondPair 11 (some .boolean), .fieldLink RX0 13 "DividingHead" "gearTeeth" "[I", .methodLink RX0 133 yX0_exactQuotient, .static yX0_exactQuotient, .code yX0_exactQuotient cX0_exactQuotient 4 (some .long), .methodLink RX0 152 yX0_gearWith, .instanceMethod yX0_gearWith, .selects RX0 yX0_gearWith yX0_gearWith, .code yX0_gearWith cX0_gearWith 7 (some .int), .methodLink RX0 156 yX0_keepTrain, .instanceMethod yX0_keepTrain, .selects RX0 yX0_keepTrain yX0_keepTrain, .code yX0_keepTrain cX0_keepTrain 5 (some .boolean), .fieldLink RX0 19 "DividingHead" "trainGears" "[I"] ++ wsX00)
def wsX0_findTrain_r1 : List Cond := [Cond.methodLink RX0 146 yX0_findTwoGears, Cond.instanceMethod yX0_findTwoGears, Cond.selects RX0 yX0_findTwoGears yX0_findTwoGears, Cond.initialized RX0, Cond.code yX0_findTwoGears cX0_findTwoGears 7 (some .boolean), Cond.fieldLink RX0 47 "DividingHead" "gearCount" "I", Cond.fieldLink RX0 13 "DividingHead" "gearTeeth" "[I", Cond.methodLink RX0 133 yX0_exactQuotient, Cond.static yX0_exactQuotient, Cond.code yX0_exactQuotient cX0_exactQuotient 4 (some .long), Cond.methodLink RX0 152 yX0_gearWith, Cond.instanceMethod yX0_gearWith, Cond.selects RX0 yX0_gearWith yX0_gearWith, Cond.code yX0_gearWith cX0_gearWith 7 (some .int), Cond.methodLink RX0 156 yX0_keepTrain, Cond.instanceMethod yX0_keepTrain, Cond.selects RX0 yX0_keepTrain yX0_keepTrain, Cond.code yX0_keepTrain cX0_keepTrain 5 (some .boolean), Cond.fieldLink RX0 19 "DividingHead" "trainGears" "[I", Cond.methodLink RX0 149 yX0_findFourGears, Cond.instanceMethod yX0_findFourGears, Cond.selects RX0 yX0_findFourGears yX0_findFourGears, Cond.code yX0_findFourGears cX0_findFourGears 7 (some .boolean), Cond.methodLink RX0 160 yX0_findSecondPair]
def wsX0_findTrain_r2 : List Cond := [Cond.instanceMethod yX0_findSecondPair, Cond.selects RX0 yX0_findSecondPair yX0_findSecondPair, Cond.code yX0_findSecondPair cX0_findSecondPair 11 (some .boolean)]
def wsX0_findTrain : List Cond := .code yX0_findTrain cX0_findTrain 5 (some .boolean) :: ((wsX0_findTrain_r1 ++ wsX0_findTrain_r2) ++ wsX00)
def wsX0_standsIn_r1 : List Cond := [Cond.methodLink RX0 143 Lib.Math.abs.name, Cond.static Lib.Math.abs.name, Cond.initialized "java/lang/Math", Cond.code Lib.Math.abs.name Lib.Math.abs.code 1 (some .int), Cond.fieldLink RX0 22 "DividingHead" "wheelTeeth" "I", Cond.methodLink RX0 50 yX0_isNoNumberOfParts, Cond.static yX0_isNoNumberOfParts, Cond.initialized RX0, Cond.code yX0_isNoNumberOfParts cX0_isNoNumberOfParts 1 (some .boolean), Cond.methodLink RX0 32 yX0_isOutside, Cond.static yX0_isOutside, Cond.code yX0_isOutside cX0_isOutside 3 (some .boolean), Cond.methodLink RX0 53 yX0_plainCircle, Cond.instanceMethod yX0_plainCircle, Cond.selects RX0 yX0_plainCircle yX0_plainCircle, Cond.code yX0_plainCircle cX0_plainCircle 5 (some .int), Cond.fieldLink RX0 36 "DividingHead" "circleCount" "I", Cond.fieldLink RX0 9 "DividingHead" "circleHoles" "[I", Cond.methodLink RX0 133 yX0_exactQuotient, Cond.static yX0_exactQuotient, Cond.code yX0_exactQuotient cX0_exactQuotient 4 (some .long), Cond.methodLink RX0 73 yX0_findTrain, Cond.instanceMethod yX0_findTrain, Cond.selects RX0 yX0_findTrain yX0_findTrain]
def wsX0_standsIn_r2 : List Cond := [Cond.code yX0_findTrain cX0_findTrain 5 (some .boolean), Cond.methodLink RX0 146 yX0_findTwoGears, Cond.instanceMethod yX0_findTwoGears, Cond.selects RX0 yX0_findTwoGears yX0_findTwoGears, Cond.code yX0_findTwoGears cX0_findTwoGears 7 (some .boolean), Cond.fieldLink RX0 47 "DividingHead" "gearCount" "I", Cond.fieldLink RX0 13 "DividingHead" "gearTeeth" "[I", Cond.methodLink RX0 152 yX0_gearWith, Cond.instanceMethod yX0_gearWith, Cond.selects RX0 yX0_gearWith yX0_gearWith, Cond.code yX0_gearWith cX0_gearWith 7 (some .int), Cond.methodLink RX0 156 yX0_keepTrain, Cond.instanceMethod yX0_keepTrain, Cond.selects RX0 yX0_keepTrain yX0_keepTrain, Cond.code yX0_keepTrain cX0_keepTrain 5 (some .boolean), Cond.fieldLink RX0 19 "DividingHead" "trainGears" "[I", Cond.methodLink RX0 149 yX0_findFourGears, Cond.instanceMethod yX0_findFourGears, Cond.selects RX0 yX0_findFourGears yX0_findFourGears, Cond.code yX0_findFourGears cX0_findFourGears 7 (some .boolean), Cond.methodLink RX0 160 yX0_findSecondPair, Cond.instanceMethod yX0_findSecondPair, Cond.selects RX0 yX0_findSecondPair yX0_findSecondPair, Cond.code yX0_findSecondPair cX0_findSecondPair 11 (some .boolean)]
def wsX0_standsIn : List Cond := .code yX0_standsIn cX0_standsIn 3 (some .boolean) :: ((wsX0_standsIn_r1 ++ wsX0_standsIn_r2) ++ wsX00)
def wsX0_partsBeside_r1 : List Cond := [Cond.methodLink RX0 140 yX0_standsIn, Cond.instanceMethod yX0_standsIn, Cond.selects RX0 yX0_standsIn yX0_standsIn, Cond.initialized RX0, Cond.code yX0_standsIn cX0_standsIn 3 (some .boolean), Cond.methodLink RX0 143 Lib.Math.abs.name, Cond.static Lib.Math.abs.name, Cond.initialized "java/lang/Math", Cond.code Lib.Math.abs.name Lib.Math.abs.code 1 (some .int), Cond.fieldLink RX0 22 "DividingHead" "wheelTeeth" "I", Cond.methodLink RX0 50 yX0_isNoNumberOfParts, Cond.static yX0_isNoNumberOfParts, Cond.code yX0_isNoNumberOfParts cX0_isNoNumberOfParts 1 (some .boolean), Cond.methodLink RX0 32 yX0_isOutside, Cond.static yX0_isOutside, Cond.code yX0_isOutside cX0_isOutside 3 (some .boolean), Cond.methodLink RX0 53 yX0_plainCircle, Cond.instanceMethod yX0_plainCircle, Cond.selects RX0 yX0_plainCircle yX0_plainCircle, Cond.code yX0_plainCircle cX0_plainCircle 5 (some .int), Cond.fieldLink RX0 36 "DividingHead" "circleCount" "I", Cond.fieldLink RX0 9 "DividingHead" "circleHoles" "[I", Cond.methodLink RX0 133 yX0_exactQuotient, Cond.static yX0_exactQuotient]
def wsX0_partsBeside_r2 : List Cond := [Cond.code yX0_exactQuotient cX0_exactQuotient 4 (some .long), Cond.methodLink RX0 73 yX0_findTrain, Cond.instanceMethod yX0_findTrain, Cond.selects RX0 yX0_findTrain yX0_findTrain, Cond.code yX0_findTrain cX0_findTrain 5 (some .boolean), Cond.methodLink RX0 146 yX0_findTwoGears, Cond.instanceMethod yX0_findTwoGears, Cond.selects RX0 yX0_findTwoGears yX0_findTwoGears, Cond.code yX0_findTwoGears cX0_findTwoGears 7 (some .boolean), Cond.fieldLink RX0 47 "DividingHead" "gearCount" "I", Cond.fieldLink RX0 13 "DividingHead" "gearTeeth" "[I", Cond.methodLink RX0 152 yX0_gearWith, Cond.instanceMethod yX0_gearWith, Cond.selects RX0 yX0_gearWith yX0_gearWith, Cond.code yX0_gearWith cX0_gearWith 7 (some .int), Cond.methodLink RX0 156 yX0_keepTrain, Cond.instanceMethod yX0_keepTrain, Cond.selects RX0 yX0_keepTrain yX0_keepTrain, Cond.code yX0_keepTrain cX0_keepTrain 5 (some .boolean), Cond.fieldLink RX0 19 "DividingHead" "trainGears" "[I", Cond.methodLink RX0 149 yX0_findFourGears, Cond.instanceMethod yX0_findFourGears, Cond.selects RX0 yX0_findFourGears yX0_findFourGears, Cond.code yX0_findFourGears cX0_findFourGears 7 (some .boolean)]
def wsX0_partsBeside_r3 : List Cond := [Cond.methodLink RX0 160 yX0_findSecondPair, Cond.instanceMethod yX0_findSecondPair, Cond.selects RX0 yX0_findSecondPair yX0_findSecondPair, Cond.code yX0_findSecondPair cX0_findSecondPair 11 (some .boolean)]
def wsX0_partsBeside : List Cond := .code yX0_partsBeside cX0_partsBeside 3 (some .int) :: ((wsX0_partsBeside_r1 ++ (wsX0_partsBeside_r2 ++ wsX0_partsBeside_r3)) ++ wsX00)
def wsX0_differential_r1 : List Cond := [Cond.fieldLink RX0 19 "DividingHead" "trainGears" "[I", Cond.methodLink RX0 50 yX0_isNoNumberOfParts, Cond.static yX0_isNoNumberOfParts, Cond.initialized RX0, Cond.code yX0_isNoNumberOfParts cX0_isNoNumberOfParts 1 (some .boolean), Cond.methodLink RX0 32 yX0_isOutside, Cond.static yX0_isOutside, Cond.code yX0_isOutside cX0_isOutside 3 (some .boolean), Cond.methodLink RX0 66 yX0_partsBeside, Cond.instanceMethod yX0_partsBeside, Cond.selects RX0 yX0_partsBeside yX0_partsBeside, Cond.code yX0_partsBeside cX0_partsBeside 3 (some .int), Cond.methodLink RX0 140 yX0_standsIn, Cond.instanceMethod yX0_standsIn, Cond.selects RX0 yX0_standsIn yX0_standsIn, Cond.code yX0_standsIn cX0_standsIn 3 (some .boolean), Cond.methodLink RX0 143 Lib.Math.abs.name, Cond.static Lib.Math.abs.name, Cond.initialized "java/lang/Math", Cond.code Lib.Math.abs.name Lib.Math.abs.code 1 (some .int), Cond.fieldLink RX0 22 "DividingHead" "wheelTeeth" "I", Cond.methodLink RX0 53 yX0_plainCircle, Cond.instanceMethod yX0_plainCircle, Cond.selects RX0 yX0_plainCircle yX0_plainCircle]
def wsX0_differential_r2 : List Cond := [Cond.code yX0_plainCircle cX0_plainCircle 5 (some .int), Cond.fieldLink RX0 36 "DividingHead" "circleCount" "I", Cond.fieldLink RX0 9 "DividingHead" "circleHoles" "[I", Cond.methodLink RX0 133 yX0_exactQuotient, Cond.static yX0_exactQuotient, Cond.code yX0_exactQuotient cX0_exactQuotient 4 (some .long), Cond.methodLink RX0 73 yX0_findTrain, Cond.instanceMethod yX0_findTrain, Cond.selects RX0 yX0_findTrain yX0_findTrain, Cond.code yX0_findTrain cX0_findTrain 5 (some .boolean), Cond.methodLink RX0 146 yX0_findTwoGears, Cond.instanceMethod yX0_findTwoGears, Cond.selects RX0 yX0_findTwoGears yX0_findTwoGears, Cond.code yX0_findTwoGears cX0_findTwoGears 7 (some .boolean), Cond.fieldLink RX0 47 "DividingHead" "gearCount" "I", Cond.fieldLink RX0 13 "DividingHead" "gearTeeth" "[I", Cond.methodLink RX0 152 yX0_gearWith, Cond.instanceMethod yX0_gearWith, Cond.selects RX0 yX0_gearWith yX0_gearWith, Cond.code yX0_gearWith cX0_gearWith 7 (some .int), Cond.methodLink RX0 156 yX0_keepTrain, Cond.instanceMethod yX0_keepTrain, Cond.selects RX0 yX0_keepTrain yX0_keepTrain, Cond.code yX0_keepTrain cX0_keepTrain 5 (some .boolean)]
def wsX0_differential_r3 : List Cond := [Cond.methodLink RX0 149 yX0_findFourGears, Cond.instanceMethod yX0_findFourGears, Cond.selects RX0 yX0_findFourGears yX0_findFourGears, Cond.code yX0_findFourGears cX0_findFourGears 7 (some .boolean), Cond.methodLink RX0 160 yX0_findSecondPair, Cond.instanceMethod yX0_findSecondPair, Cond.selects RX0 yX0_findSecondPair yX0_findSecondPair, Cond.code yX0_findSecondPair cX0_findSecondPair 11 (some .boolean)]
def wsX0_differential : List Cond := .code yX0_differential cX0_differential 4 (some .int) :: ((wsX0_differential_r1 ++ (wsX0_differential_r2 ++ wsX0_differential_r3)) ++ wsX00)
def wsX0_isNoShare : List Cond := .code yX0_isNoShare cX0_isNoShare 2 (some .boolean) :: ([.constant RX0 131 (1000000), .methodLink RX0 32 yX0_isOutside, .static yX0_isOutside, .initialized RX0, .code yX0_isOutside cX0_isOutside 3 (some .boolean)])
def wsX0_train_r1 : List Cond := [Cond.fieldLink RX0 19 "DividingHead" "trainGears" "[I", Cond.methodLink RX0 69 yX0_isNoShare, Cond.static yX0_isNoShare, Cond.initialized RX0, Cond.code yX0_isNoShare cX0_isNoShare 2 (some .boolean), Cond.constant RX0 131 (1000000), Cond.methodLink RX0 32 yX0_isOutside, Cond.static yX0_isOutside, Cond.code yX0_isOutside cX0_isOutside 3 (some .boolean), Cond.methodLink RX0 73 yX0_findTrain, Cond.instanceMethod yX0_findTrain, Cond.selects RX0 yX0_findTrain yX0_findTrain, Cond.code yX0_findTrain cX0_findTrain 5 (some .boolean), Cond.methodLink RX0 146 yX0_findTwoGears, Cond.instanceMethod yX0_findTwoGears, Cond.selects RX0 yX0_findTwoGears yX0_findTwoGears, Cond.code yX0_findTwoGears cX0_findTwoGears 7 (some .boolean), Cond.fieldLink RX0 47 "DividingHead" "gearCount" "I", Cond.fieldLink RX0 13 "DividingHead" "gearTeeth" "[I", Cond.methodLink RX0 133 yX0_exactQuotient, Cond.static yX0_exactQuotient, Cond.code yX0_exactQuotient cX0_exactQuotient 4 (some .long), Cond.methodLink RX0 152 yX0_gearWith, Cond.instanceMethod yX0_gearWith]
def wsX0_train_r2 : List Cond := [Cond.selects RX0 yX0_gearWith yX0_gearWith, Cond.code yX0_gearWith cX0_gearWith 7 (some .int), Cond.methodLink RX0 156 yX0_keepTrain, Cond.instanceMethod yX0_keepTrain, Cond.selects RX0 yX0_keepTrain yX0_keepTrain, Cond.code yX0_keepTrain cX0_keepTrain 5 (some .boolean), Cond.methodLink RX0 149 yX0_findFourGears, Cond.instanceMethod yX0_findFourGears, Cond.selects RX0 yX0_findFourGears yX0_findFourGears, Cond.code yX0_findFourGears cX0_findFourGears 7 (some .boolean), Cond.methodLink RX0 160 yX0_findSecondPair, Cond.instanceMethod yX0_findSecondPair, Cond.selects RX0 yX0_findSecondPair yX0_findSecondPair, Cond.code yX0_findSecondPair cX0_findSecondPair 11 (some .boolean)]
def wsX0_train : List Cond := .code yX0_train cX0_train 4 (some .int) :: ((wsX0_train_r1 ++ wsX0_train_r2) ++ wsX00)
def wsX0_nearestOrGreater : List Cond := .code yX0_nearestOrGreater cX0_nearestOrGreater 4 (some .long) :: ([.constantLong RX0 127 (2)])
def wsX0_nearestHole : List Cond := .code yX0_nearestHole cX0_nearestHole 4 (some .int) :: ([.fieldLink RX0 22 "DividingHead" "wheelTeeth" "I", .methodLink RX0 164 yX0_nearestOrGreater, .static yX0_nearestOrGreater, .initialized RX0, .code yX0_nearestOrGreater cX0_nearestOrGreater 4 (some .long), .constantLong RX0 127 (2)] ++ wsX00)
def wsX0_hole : List Cond := .code yX0_hole cX0_hole 5 (some .int) :: ([.methodLink RX0 43 yX0_holesAt, .instanceMethod yX0_holesAt, .selects RX0 yX0_holesAt yX0_holesAt, .initialized RX0, .code yX0_holesAt cX0_holesAt 2 (some .int), .fieldLink RX0 36 "DividingHead" "circleCount" "I", .fieldLink RX0 9 "DividingHead" "circleHoles" "[I", .methodLink RX0 50 yX0_isNoNumberOfParts, .static yX0_isNoNumberOfParts, .code yX0_isNoNumberOfParts cX0_isNoNumberOfParts 1 (some .boolean), .methodLink RX0 32 yX0_isOutside, .static yX0_isOutside, .code yX0_isOutside cX0_isOutside 3 (some .boolean), .methodLink RX0 77 yX0_nearestHole, .instanceMethod yX0_nearestHole, .selects RX0 yX0_nearestHole yX0_nearestHole, .code yX0_nearestHole cX0_nearestHole 4 (some .int), .fieldLink RX0 22 "DividingHead" "wheelTeeth" "I", .methodLink RX0 164 yX0_nearestOrGreater, .static yX0_nearestOrGreater, .code yX0_nearestOrGreater cX0_nearestOrGreater 4 (some .long), .constantLong RX0 127 (2)] ++ wsX00)
def wsX0_missUpper : List Cond := .code yX0_missUpper cX0_missUpper 4 (some .int) :: ([.fieldLink RX0 22 "DividingHead" "wheelTeeth" "I", .methodLink RX0 77 yX0_nearestHole, .instanceMethod yX0_nearestHole, .selects RX0 yX0_nearestHole yX0_nearestHole, .initialized RX0, .code yX0_nearestHole cX0_nearestHole 4 (some .int), .methodLink RX0 164 yX0_nearestOrGreater, .static yX0_nearestOrGreater, .code yX0_nearestOrGreater cX0_nearestOrGreater 4 (some .long), .constantLong RX0 127 (2)] ++ wsX00)
def wsX0_commonMeasure : List Cond := .code yX0_commonMeasure cX0_commonMeasure 7 (some .long) :: ([])
def wsX0_lowestTerm : List Cond := .code yX0_lowestTerm cX0_lowestTerm 9 (some .int) :: ([.methodLink RX0 174 Lib.MathLoose.abs_long.x, .static Lib.MathLoose.abs_long.x, .initialized "java/lang/Math", .code Lib.MathLoose.abs_long.x Lib.MathLoose.abs_long.code 2 (some .long), .methodLink RX0 177 yX0_commonMeasure, .static yX0_commonMeasure, .initialized RX0, .code yX0_commonMeasure cX0_commonMeasure 7 (some .long)])
def wsX0_miss_r1 : List Cond := [Cond.constant RX0 80 (-1000000001), Cond.constant RX0 56 (-1000000002), Cond.methodLink RX0 43 yX0_holesAt, Cond.instanceMethod yX0_holesAt, Cond.selects RX0 yX0_holesAt yX0_holesAt, Cond.initialized RX0, Cond.code yX0_holesAt cX0_holesAt 2 (some .int), Cond.fieldLink RX0 36 "DividingHead" "circleCount" "I", Cond.fieldLink RX0 9 "DividingHead" "circleHoles" "[I", Cond.methodLink RX0 50 yX0_isNoNumberOfParts, Cond.static yX0_isNoNumberOfParts, Cond.code yX0_isNoNumberOfParts cX0_isNoNumberOfParts 1 (some .boolean), Cond.methodLink RX0 32 yX0_isOutside, Cond.static yX0_isOutside, Cond.code yX0_isOutside cX0_isOutside 3 (some .boolean), Cond.methodLink RX0 81 yX0_missUpper, Cond.instanceMethod yX0_missUpper, Cond.selects RX0 yX0_missUpper yX0_missUpper, Cond.code yX0_missUpper cX0_missUpper 4 (some .int), Cond.fieldLink RX0 22 "DividingHead" "wheelTeeth" "I", Cond.methodLink RX0 77 yX0_nearestHole, Cond.instanceMethod yX0_nearestHole, Cond.selects RX0 yX0_nearestHole yX0_nearestHole, Cond.code yX0_nearestHole cX0_nearestHole 4 (some .int)]
def wsX0_miss_r2 : List Cond := [Cond.methodLink RX0 164 yX0_nearestOrGreater, Cond.static yX0_nearestOrGreater, Cond.code yX0_nearestOrGreater cX0_nearestOrGreater 4 (some .long), Cond.constantLong RX0 127 (2), Cond.methodLink RX0 84 yX0_lowestTerm, Cond.static yX0_lowestTerm, Cond.code yX0_lowestTerm cX0_lowestTerm 9 (some .int), Cond.methodLink RX0 174 Lib.MathLoose.abs_long.x, Cond.static Lib.MathLoose.abs_long.x, Cond.initialized "java/lang/Math", Cond.code Lib.MathLoose.abs_long.x Lib.MathLoose.abs_long.code 2 (some .long), Cond.methodLink RX0 177 yX0_commonMeasure, Cond.static yX0_commonMeasure, Cond.code yX0_commonMeasure cX0_commonMeasure 7 (some .long)]
def wsX0_miss : List Cond := .code yX0_miss cX0_miss 6 (some .int) :: ((wsX0_miss_r1 ++ wsX0_miss_r2) ++ wsX00)
def wsX0_exactCuts : List Cond := .code yX0_exactCuts cX0_exactCuts 5 (some .int) :: ([.methodLink RX0 81 yX0_missUpper, .instanceMethod yX0_missUpper, .selects RX0 yX0_missUpper yX0_missUpper, .initialized RX0, .code yX0_missUpper cX0_missUpper 4 (some .int), .fieldLink RX0 22 "DividingHead" "wheelTeeth" "I", .methodLink RX0 77 yX0_nearestHole, .instanceMethod yX0_nearestHole, .selects RX0 yX0_nearestHole yX0_nearestHole, .code yX0_nearestHole cX0_nearestHole 4 (some .int), .methodLink RX0 164 yX0_nearestOrGreater, .static yX0_nearestOrGreater, .code yX0_nearestOrGreater cX0_nearestOrGreater 4 (some .long), .constantLong RX0 127 (2)] ++ wsX00)
def wsX0_worstUpper : List Cond := .code yX0_worstUpper cX0_worstUpper 5 (some .int) :: ([.methodLink RX0 143 Lib.Math.abs.name, .static Lib.Math.abs.name, .initialized "java/lang/Math", .code Lib.Math.abs.name Lib.Math.abs.code 1 (some .int), .methodLink RX0 167 Lib.Math.max.name, .static Lib.Math.max.name, .code Lib.Math.max.name Lib.Math.max.code 2 (some .int), .methodLink RX0 81 yX0_missUpper, .instanceMethod yX0_missUpper, .selects RX0 yX0_missUpper yX0_missUpper, .initialized RX0, .code yX0_missUpper cX0_missUpper 4 (some .int), .fieldLink RX0 22 "DividingHead" "wheelTeeth" "I", .methodLink RX0 77 yX0_nearestHole, .instanceMethod yX0_nearestHole, .selects RX0 yX0_nearestHole yX0_nearestHole, .code yX0_nearestHole cX0_nearestHole 4 (some .int), .methodLink RX0 164 yX0_nearestOrGreater, .static yX0_nearestOrGreater, .code yX0_nearestOrGreater cX0_nearestOrGreater 4 (some .long), .constantLong RX0 127 (2)] ++ wsX00)
def wsX0_worst_r1 : List Cond := [Cond.methodLink RX0 43 yX0_holesAt, Cond.instanceMethod yX0_holesAt, Cond.selects RX0 yX0_holesAt yX0_holesAt, Cond.initialized RX0, Cond.code yX0_holesAt cX0_holesAt 2 (some .int), Cond.fieldLink RX0 36 "DividingHead" "circleCount" "I", Cond.fieldLink RX0 9 "DividingHead" "circleHoles" "[I", Cond.methodLink RX0 50 yX0_isNoNumberOfParts, Cond.static yX0_isNoNumberOfParts, Cond.code yX0_isNoNumberOfParts cX0_isNoNumberOfParts 1 (some .boolean), Cond.methodLink RX0 32 yX0_isOutside, Cond.static yX0_isOutside, Cond.code yX0_isOutside cX0_isOutside 3 (some .boolean), Cond.methodLink RX0 88 yX0_exactCuts, Cond.instanceMethod yX0_exactCuts, Cond.selects RX0 yX0_exactCuts yX0_exactCuts, Cond.code yX0_exactCuts cX0_exactCuts 5 (some .int), Cond.methodLink RX0 81 yX0_missUpper, Cond.instanceMethod yX0_missUpper, Cond.selects RX0 yX0_missUpper yX0_missUpper, Cond.code yX0_missUpper cX0_missUpper 4 (some .int), Cond.fieldLink RX0 22 "DividingHead" "wheelTeeth" "I", Cond.methodLink RX0 77 yX0_nearestHole, Cond.instanceMethod yX0_nearestHole]
def wsX0_worst_r2 : List Cond := [Cond.selects RX0 yX0_nearestHole yX0_nearestHole, Cond.code yX0_nearestHole cX0_nearestHole 4 (some .int), Cond.methodLink RX0 164 yX0_nearestOrGreater, Cond.static yX0_nearestOrGreater, Cond.code yX0_nearestOrGreater cX0_nearestOrGreater 4 (some .long), Cond.constantLong RX0 127 (2), Cond.methodLink RX0 92 yX0_worstUpper, Cond.instanceMethod yX0_worstUpper, Cond.selects RX0 yX0_worstUpper yX0_worstUpper, Cond.code yX0_worstUpper cX0_worstUpper 5 (some .int), Cond.methodLink RX0 143 Lib.Math.abs.name, Cond.static Lib.Math.abs.name, Cond.initialized "java/lang/Math", Cond.code Lib.Math.abs.name Lib.Math.abs.code 1 (some .int), Cond.methodLink RX0 167 Lib.Math.max.name, Cond.static Lib.Math.max.name, Cond.code Lib.Math.max.name Lib.Math.max.code 2 (some .int), Cond.methodLink RX0 84 yX0_lowestTerm, Cond.static yX0_lowestTerm, Cond.code yX0_lowestTerm cX0_lowestTerm 9 (some .int), Cond.methodLink RX0 174 Lib.MathLoose.abs_long.x, Cond.static Lib.MathLoose.abs_long.x, Cond.code Lib.MathLoose.abs_long.x Lib.MathLoose.abs_long.code 2 (some .long), Cond.methodLink RX0 177 yX0_commonMeasure]
def wsX0_worst_r3 : List Cond := [Cond.static yX0_commonMeasure, Cond.code yX0_commonMeasure cX0_commonMeasure 7 (some .long)]
def wsX0_worst : List Cond := .code yX0_worst cX0_worst 5 (some .int) :: ((wsX0_worst_r1 ++ (wsX0_worst_r2 ++ wsX0_worst_r3)) ++ wsX00)
def wsX0_best_r1 : List Cond := [Cond.fieldLink RX0 36 "DividingHead" "circleCount" "I", Cond.fieldLink RX0 9 "DividingHead" "circleHoles" "[I", Cond.methodLink RX0 50 yX0_isNoNumberOfParts, Cond.static yX0_isNoNumberOfParts, Cond.initialized RX0, Cond.code yX0_isNoNumberOfParts cX0_isNoNumberOfParts 1 (some .boolean), Cond.methodLink RX0 32 yX0_isOutside, Cond.static yX0_isOutside, Cond.code yX0_isOutside cX0_isOutside 3 (some .boolean), Cond.methodLink RX0 92 yX0_worstUpper, Cond.instanceMethod yX0_worstUpper, Cond.selects RX0 yX0_worstUpper yX0_worstUpper, Cond.code yX0_worstUpper cX0_worstUpper 5 (some .int), Cond.methodLink RX0 143 Lib.Math.abs.name, Cond.static Lib.Math.abs.name, Cond.initialized "java/lang/Math", Cond.code Lib.Math.abs.name Lib.Math.abs.code 1 (some .int), Cond.methodLink RX0 167 Lib.Math.max.name, Cond.static Lib.Math.max.name, Cond.code Lib.Math.max.name Lib.Math.max.code 2 (some .int), Cond.methodLink RX0 81 yX0_missUpper, Cond.instanceMethod yX0_missUpper, Cond.selects RX0 yX0_missUpper yX0_missUpper, Cond.code yX0_missUpper cX0_missUpper 4 (some .int)]
def wsX0_best_r2 : List Cond := [Cond.fieldLink RX0 22 "DividingHead" "wheelTeeth" "I", Cond.methodLink RX0 77 yX0_nearestHole, Cond.instanceMethod yX0_nearestHole, Cond.selects RX0 yX0_nearestHole yX0_nearestHole, Cond.code yX0_nearestHole cX0_nearestHole 4 (some .int), Cond.methodLink RX0 164 yX0_nearestOrGreater, Cond.static yX0_nearestOrGreater, Cond.code yX0_nearestOrGreater cX0_nearestOrGreater 4 (some .long), Cond.constantLong RX0 127 (2)]
def wsX0_best : List Cond := .code yX0_best cX0_best 6 (some .int) :: ((wsX0_best_r1 ++ wsX0_best_r2) ++ wsX00)
def wsX0_error : List Cond := .code yX0_error cX0_error 4 (some .int) :: ([.fieldLink RX0 16 "DividingHead" "wormErrors" "[I", .methodLink RX0 32 yX0_isOutside, .static yX0_isOutside, .initialized RX0, .code yX0_isOutside cX0_isOutside 3 (some .boolean)] ++ wsX00)
def wsX0_isNoStep : List Cond := .code yX0_isNoStep cX0_isNoStep 1 (some .boolean) :: ([.constant RX0 132 (100000), .methodLink RX0 32 yX0_isOutside, .static yX0_isOutside, .initialized RX0, .code yX0_isOutside cX0_isOutside 3 (some .boolean)])
def wsX0_errorUpper : List Cond := .code yX0_errorUpper cX0_errorUpper 7 (some .int) :: ([.fieldLink RX0 16 "DividingHead" "wormErrors" "[I"] ++ wsX00)
def wsX0_spoilt_r1 : List Cond := [Cond.constant RX0 80 (-1000000001), Cond.constant RX0 56 (-1000000002), Cond.methodLink RX0 43 yX0_holesAt, Cond.instanceMethod yX0_holesAt, Cond.selects RX0 yX0_holesAt yX0_holesAt, Cond.initialized RX0, Cond.code yX0_holesAt cX0_holesAt 2 (some .int), Cond.fieldLink RX0 36 "DividingHead" "circleCount" "I", Cond.fieldLink RX0 9 "DividingHead" "circleHoles" "[I", Cond.methodLink RX0 95 yX0_isNoStep, Cond.static yX0_isNoStep, Cond.code yX0_isNoStep cX0_isNoStep 1 (some .boolean), Cond.constant RX0 132 (100000), Cond.methodLink RX0 32 yX0_isOutside, Cond.static yX0_isOutside, Cond.code yX0_isOutside cX0_isOutside 3 (some .boolean), Cond.methodLink RX0 98 yX0_errorUpper, Cond.instanceMethod yX0_errorUpper, Cond.selects RX0 yX0_errorUpper yX0_errorUpper, Cond.code yX0_errorUpper cX0_errorUpper 7 (some .int), Cond.fieldLink RX0 16 "DividingHead" "wormErrors" "[I", Cond.methodLink RX0 84 yX0_lowestTerm, Cond.static yX0_lowestTerm, Cond.code yX0_lowestTerm cX0_lowestTerm 9 (some .int)]
def wsX0_spoilt_r2 : List Cond := [Cond.methodLink RX0 174 Lib.MathLoose.abs_long.x, Cond.static Lib.MathLoose.abs_long.x, Cond.initialized "java/lang/Math", Cond.code Lib.MathLoose.abs_long.x Lib.MathLoose.abs_long.code 2 (some .long), Cond.methodLink RX0 177 yX0_commonMeasure, Cond.static yX0_commonMeasure, Cond.code yX0_commonMeasure cX0_commonMeasure 7 (some .long)]
def wsX0_spoilt : List Cond := .code yX0_spoilt cX0_spoilt 6 (some .int) :: ((wsX0_spoilt_r1 ++ wsX0_spoilt_r2) ++ wsX00)
def wsX0_extreme : List Cond := .code yX0_extreme cX0_extreme 10 (some .int) :: ([.methodLink RX0 43 yX0_holesAt, .instanceMethod yX0_holesAt, .selects RX0 yX0_holesAt yX0_holesAt, .initialized RX0, .code yX0_holesAt cX0_holesAt 2 (some .int), .fieldLink RX0 36 "DividingHead" "circleCount" "I", .fieldLink RX0 9 "DividingHead" "circleHoles" "[I", .methodLink RX0 95 yX0_isNoStep, .static yX0_isNoStep, .code yX0_isNoStep cX0_isNoStep 1 (some .boolean), .constant RX0 132 (100000), .methodLink RX0 32 yX0_isOutside, .static yX0_isOutside, .code yX0_isOutside cX0_isOutside 3 (some .boolean), .methodLink RX0 98 yX0_errorUpper, .instanceMethod yX0_errorUpper, .selects RX0 yX0_errorUpper yX0_errorUpper, .code yX0_errorUpper cX0_errorUpper 7 (some .int), .fieldLink RX0 16 "DividingHead" "wormErrors" "[I"] ++ wsX00)
def wsX0_nearestOrLesser : List Cond := .code yX0_nearestOrLesser cX0_nearestOrLesser 4 (some .long) :: ([.constantLong RX0 127 (2)])
def wsX0_gapUpper : List Cond := .code yX0_gapUpper cX0_gapUpper 5 (some .long) :: ([.methodLink RX0 174 Lib.MathLoose.abs_long.x, .static Lib.MathLoose.abs_long.x, .initialized "java/lang/Math", .code Lib.MathLoose.abs_long.x Lib.MathLoose.abs_long.code 2 (some .long), .methodLink RX0 104 yX0_nearestOrLesser, .static yX0_nearestOrLesser, .initialized RX0, .code yX0_nearestOrLesser cX0_nearestOrLesser 4 (some .long), .constantLong RX0 127 (2)])
def wsX0_nearestLower : List Cond := .code yX0_nearestLower cX0_nearestLower 9 (some .int) :: ([.methodLink RX0 170 yX0_gapUpper, .static yX0_gapUpper, .initialized RX0, .code yX0_gapUpper cX0_gapUpper 5 (some .long), .methodLink RX0 174 Lib.MathLoose.abs_long.x, .static Lib.MathLoose.abs_long.x, .initialized "java/lang/Math", .code Lib.MathLoose.abs_long.x Lib.MathLoose.abs_long.code 2 (some .long), .methodLink RX0 104 yX0_nearestOrLesser, .static yX0_nearestOrLesser, .code yX0_nearestOrLesser cX0_nearestOrLesser 4 (some .long), .constantLong RX0 127 (2)])
def wsX0_near : List Cond := .code yX0_near cX0_near 6 (some .int) :: ([.methodLink RX0 69 yX0_isNoShare, .static yX0_isNoShare, .initialized RX0, .code yX0_isNoShare cX0_isNoShare 2 (some .boolean), .constant RX0 131 (1000000), .methodLink RX0 32 yX0_isOutside, .static yX0_isOutside, .code yX0_isOutside cX0_isOutside 3 (some .boolean), .methodLink RX0 101 yX0_nearestLower, .static yX0_nearestLower, .code yX0_nearestLower cX0_nearestLower 9 (some .int), .methodLink RX0 170 yX0_gapUpper, .static yX0_gapUpper, .code yX0_gapUpper cX0_gapUpper 5 (some .long), .methodLink RX0 174 Lib.MathLoose.abs_long.x, .static Lib.MathLoose.abs_long.x, .initialized "java/lang/Math", .code Lib.MathLoose.abs_long.x Lib.MathLoose.abs_long.code 2 (some .long), .methodLink RX0 104 yX0_nearestOrLesser, .static yX0_nearestOrLesser, .code yX0_nearestOrLesser cX0_nearestOrLesser 4 (some .long), .constantLong RX0 127 (2)])
def wsX0_vernier : List Cond := .code yX0_vernier cX0_vernier 3 (some .int) :: ([.fieldLink RX0 26 "DividingHead" "circleMarks" "I", .fieldLink RX0 29 "DividingHead" "vernierParts" "I", .methodLink RX0 32 yX0_isOutside, .static yX0_isOutside, .initialized RX0, .code yX0_isOutside cX0_isOutside 3 (some .boolean)] ++ wsX00)
def wsX0_isNoPlace : List Cond := .code yX0_isNoPlace cX0_isNoPlace 2 (some .boolean) :: ([.constant RX0 131 (1000000), .methodLink RX0 32 yX0_isOutside, .static yX0_isOutside, .initialized RX0, .code yX0_isOutside cX0_isOutside 3 (some .boolean)])
def wsX0_mainMark : List Cond := .code yX0_mainMark cX0_mainMark 5 (some .long) :: ([.fieldLink RX0 26 "DividingHead" "circleMarks" "I"] ++ wsX00)
def wsX0_vernierLine : List Cond := .code yX0_vernierLine cX0_vernierLine 7 (some .long) :: ([.fieldLink RX0 26 "DividingHead" "circleMarks" "I", .fieldLink RX0 29 "DividingHead" "vernierParts" "I", .methodLink RX0 111 yX0_mainMark, .instanceMethod yX0_mainMark, .selects RX0 yX0_mainMark yX0_mainMark, .initialized RX0, .code yX0_mainMark cX0_mainMark 5 (some .long), .methodLink RX0 104 yX0_nearestOrLesser, .static yX0_nearestOrLesser, .code yX0_nearestOrLesser cX0_nearestOrLesser 4 (some .long), .constantLong RX0 127 (2)] ++ wsX00)
def wsX0_readParts : List Cond := .code yX0_readParts cX0_readParts 5 (some .long) :: ([.fieldLink RX0 29 "DividingHead" "vernierParts" "I", .methodLink RX0 111 yX0_mainMark, .instanceMethod yX0_mainMark, .selects RX0 yX0_mainMark yX0_mainMark, .initialized RX0, .code yX0_mainMark cX0_mainMark 5 (some .long), .fieldLink RX0 26 "DividingHead" "circleMarks" "I", .methodLink RX0 114 yX0_vernierLine, .instanceMethod yX0_vernierLine, .selects RX0 yX0_vernierLine yX0_vernierLine, .code yX0_vernierLine cX0_vernierLine 7 (some .long), .methodLink RX0 104 yX0_nearestOrLesser, .static yX0_nearestOrLesser, .code yX0_nearestOrLesser cX0_nearestOrLesser 4 (some .long), .constantLong RX0 127 (2)] ++ wsX00)
def wsX0_read_r1 : List Cond := [Cond.methodLink RX0 108 yX0_isNoPlace, Cond.static yX0_isNoPlace, Cond.initialized RX0, Cond.code yX0_isNoPlace cX0_isNoPlace 2 (some .boolean), Cond.constant RX0 131 (1000000), Cond.methodLink RX0 32 yX0_isOutside, Cond.static yX0_isOutside, Cond.code yX0_isOutside cX0_isOutside 3 (some .boolean), Cond.methodLink RX0 111 yX0_mainMark, Cond.instanceMethod yX0_mainMark, Cond.selects RX0 yX0_mainMark yX0_mainMark, Cond.code yX0_mainMark cX0_mainMark 5 (some .long), Cond.fieldLink RX0 26 "DividingHead" "circleMarks" "I", Cond.methodLink RX0 114 yX0_vernierLine, Cond.instanceMethod yX0_vernierLine, Cond.selects RX0 yX0_vernierLine yX0_vernierLine, Cond.code yX0_vernierLine cX0_vernierLine 7 (some .long), Cond.fieldLink RX0 29 "DividingHead" "vernierParts" "I", Cond.methodLink RX0 104 yX0_nearestOrLesser, Cond.static yX0_nearestOrLesser, Cond.code yX0_nearestOrLesser cX0_nearestOrLesser 4 (some .long), Cond.constantLong RX0 127 (2), Cond.methodLink RX0 117 yX0_readParts, Cond.instanceMethod yX0_readParts]
def wsX0_read_r2 : List Cond := [Cond.selects RX0 yX0_readParts yX0_readParts, Cond.code yX0_readParts cX0_readParts 5 (some .long)]
def wsX0_read : List Cond := .code yX0_read cX0_read 4 (some .int) :: ((wsX0_read_r1 ++ wsX0_read_r2) ++ wsX00)
def wsJ9_floorMod_f86c9 : List Cond := .code yJ9_floorMod_f86c9 cJ9_floorMod_f86c9 6 (some .long) :: ([])
def wsX0_two_r1 : List Cond := [Cond.constant RX0 56 (-1000000002), Cond.constantLong RX0 120 (1000000), Cond.constantLong RX0 127 (2), Cond.fieldLink RX0 26 "DividingHead" "circleMarks" "I", Cond.fieldLink RX0 29 "DividingHead" "vernierParts" "I", Cond.constantLong RX0 129 (4), Cond.methodLink RX0 108 yX0_isNoPlace, Cond.static yX0_isNoPlace, Cond.initialized RX0, Cond.code yX0_isNoPlace cX0_isNoPlace 2 (some .boolean), Cond.constant RX0 131 (1000000), Cond.methodLink RX0 32 yX0_isOutside, Cond.static yX0_isOutside, Cond.code yX0_isOutside cX0_isOutside 3 (some .boolean), Cond.methodLink RX0 122 yJ9_floorMod_f86c9, Cond.static yJ9_floorMod_f86c9, Cond.initialized RJ9, Cond.code yJ9_floorMod_f86c9 cJ9_floorMod_f86c9 6 (some .long), Cond.methodLink RX0 117 yX0_readParts, Cond.instanceMethod yX0_readParts, Cond.selects RX0 yX0_readParts yX0_readParts, Cond.code yX0_readParts cX0_readParts 5 (some .long), Cond.methodLink RX0 111 yX0_mainMark, Cond.instanceMethod yX0_mainMark]
def wsX0_two_r2 : List Cond := [Cond.selects RX0 yX0_mainMark yX0_mainMark, Cond.code yX0_mainMark cX0_mainMark 5 (some .long), Cond.methodLink RX0 114 yX0_vernierLine, Cond.instanceMethod yX0_vernierLine, Cond.selects RX0 yX0_vernierLine yX0_vernierLine, Cond.code yX0_vernierLine cX0_vernierLine 7 (some .long), Cond.methodLink RX0 104 yX0_nearestOrLesser, Cond.static yX0_nearestOrLesser, Cond.code yX0_nearestOrLesser cX0_nearestOrLesser 4 (some .long), Cond.methodLink RX0 84 yX0_lowestTerm, Cond.static yX0_lowestTerm, Cond.code yX0_lowestTerm cX0_lowestTerm 9 (some .int), Cond.methodLink RX0 174 Lib.MathLoose.abs_long.x, Cond.static Lib.MathLoose.abs_long.x, Cond.initialized "java/lang/Math", Cond.code Lib.MathLoose.abs_long.x Lib.MathLoose.abs_long.code 2 (some .long), Cond.methodLink RX0 177 yX0_commonMeasure, Cond.static yX0_commonMeasure, Cond.code yX0_commonMeasure cX0_commonMeasure 7 (some .long)]
def wsX0_two : List Cond := .code yX0_two cX0_two 19 (some .int) :: ((wsX0_two_r1 ++ wsX0_two_r2) ++ wsX00)
def wsX0_told : List Cond := .code yX0_told cX0_told 2 (some .int) :: ([.fieldLink RX0 22 "DividingHead" "wheelTeeth" "I", .fieldLink RX0 36 "DividingHead" "circleCount" "I", .fieldLink RX0 47 "DividingHead" "gearCount" "I", .fieldLink RX0 26 "DividingHead" "circleMarks" "I", .fieldLink RX0 29 "DividingHead" "vernierParts" "I"] ++ wsX00)
def wsX1_init : List Cond := .code yX1_init cX1_init 1 none :: ([.methodLink RX1 1 objectInit, .instanceMethod objectInit, .code objectInit ⟨#[0xb1]⟩ 1 none, .fieldLink RX1 7 "DividingHeadModel" "wheel" "I", .arrayClass .int, .fieldLink RX1 13 "DividingHeadModel" "holes" "[I", .fieldLink RX1 17 "DividingHeadModel" "teeth" "[I", .fieldLink RX1 20 "DividingHeadModel" "error" "[I", .fieldLink RX1 23 "DividingHeadModel" "marks" "I", .fieldLink RX1 26 "DividingHeadModel" "parts" "I", .fieldLink RX1 29 "DividingHeadModel" "found" "[I"] ++ wsX10)
def wsX1_in : List Cond := .code yX1_in cX1_in 6 (some .boolean) :: ([])
def wsX1_common : List Cond := .code yX1_common cX1_common 10 (some .long) :: ([])
def wsX1_term : List Cond := .code yX1_term cX1_term 7 (some .int) :: ([.methodLink RX1 32 yX1_common, .static yX1_common, .initialized RX1, .code yX1_common cX1_common 10 (some .long)])
def wsX1_isParts : List Cond := .code yX1_isParts cX1_isParts 1 (some .boolean) :: ([.constantLong RX1 36 (2), .constantLong RX1 38 (1000), .methodLink RX1 40 yX1_in, .static yX1_in, .initialized RX1, .code yX1_in cX1_in 6 (some .boolean)])
def wsX1_isCircle : List Cond := .code yX1_isCircle cX1_isCircle 2 (some .boolean) :: ([.fieldLink RX1 44 "DividingHeadModel" "circles" "I", .methodLink RX1 40 yX1_in, .static yX1_in, .initialized RX1, .code yX1_in cX1_in 6 (some .boolean)] ++ wsX10)
def wsX1_isGear : List Cond := .code yX1_isGear cX1_isGear 2 (some .boolean) :: ([.fieldLink RX1 47 "DividingHeadModel" "gears" "I", .methodLink RX1 40 yX1_in, .static yX1_in, .initialized RX1, .code yX1_in cX1_in 6 (some .boolean)] ++ wsX10)
def wsX1_wheel : List Cond := .code yX1_wheel cX1_wheel 3 (some .int) :: ([.constantLong RX1 50 (10), .constantLong RX1 52 (200), .fieldLink RX1 7 "DividingHeadModel" "wheel" "I", .methodLink RX1 40 yX1_in, .static yX1_in, .initialized RX1, .code yX1_in cX1_in 6 (some .boolean)] ++ wsX10)
def wsX1_circle : List Cond := .code yX1_circle cX1_circle 3 (some .int) :: ([.constantLong RX1 54 (5), .constantLong RX1 56 (120), .fieldLink RX1 44 "DividingHeadModel" "circles" "I", .fieldLink RX1 13 "DividingHeadModel" "holes" "[I", .methodLink RX1 40 yX1_in, .static yX1_in, .initialized RX1, .code yX1_in cX1_in 6 (some .boolean)] ++ wsX10)
def wsX1_holes : List Cond := .code yX1_holes cX1_holes 2 (some .int) :: ([.fieldLink RX1 13 "DividingHeadModel" "holes" "[I", .methodLink RX1 58 yX1_isCircle, .instanceMethod yX1_isCircle, .selects RX1 yX1_isCircle yX1_isCircle, .initialized RX1, .code yX1_isCircle cX1_isCircle 2 (some .boolean), .fieldLink RX1 44 "DividingHeadModel" "circles" "I", .methodLink RX1 40 yX1_in, .static yX1_in, .code yX1_in cX1_in 6 (some .boolean)] ++ wsX10)
def wsX1_gear : List Cond := .code yX1_gear cX1_gear 2 (some .int) :: ([.constantLong RX1 62 (12), .constantLong RX1 56 (120), .fieldLink RX1 47 "DividingHeadModel" "gears" "I", .fieldLink RX1 17 "DividingHeadModel" "teeth" "[I", .methodLink RX1 40 yX1_in, .static yX1_in, .initialized RX1, .code yX1_in cX1_in 6 (some .boolean)] ++ wsX10)
def wsX1_teeth : List Cond := .code yX1_teeth cX1_teeth 2 (some .int) :: ([.fieldLink RX1 17 "DividingHeadModel" "teeth" "[I", .methodLink RX1 64 yX1_isGear, .instanceMethod yX1_isGear, .selects RX1 yX1_isGear yX1_isGear, .initialized RX1, .code yX1_isGear cX1_isGear 2 (some .boolean), .fieldLink RX1 47 "DividingHeadModel" "gears" "I", .methodLink RX1 40 yX1_in, .static yX1_in, .code yX1_in cX1_in 6 (some .boolean)] ++ wsX10)
def wsX1_plainOf : List Cond := .code yX1_plainOf cX1_plainOf 5 (some .int) :: ([.fieldLink RX1 44 "DividingHeadModel" "circles" "I", .fieldLink RX1 7 "DividingHeadModel" "wheel" "I", .fieldLink RX1 13 "DividingHeadModel" "holes" "[I"] ++ wsX10)
def wsX1_plain : List Cond := .code yX1_plain cX1_plain 4 (some .int) :: ([.constantLong RX1 36 (2), .fieldLink RX1 7 "DividingHeadModel" "wheel" "I", .fieldLink RX1 13 "DividingHeadModel" "holes" "[I", .methodLink RX1 67 yX1_isParts, .static yX1_isParts, .initialized RX1, .code yX1_isParts cX1_isParts 1 (some .boolean), .constantLong RX1 38 (1000), .methodLink RX1 40 yX1_in, .static yX1_in, .code yX1_in cX1_in 6 (some .boolean), .methodLink RX1 70 yX1_plainOf, .instanceMethod yX1_plainOf, .selects RX1 yX1_plainOf yX1_plainOf, .code yX1_plainOf cX1_plainOf 5 (some .int), .fieldLink RX1 44 "DividingHeadModel" "circles" "I"] ++ wsX10)
def wsX1_stepBeside : List Cond := .code yX1_stepBeside cX1_stepBeside 9 (some .int) :: ([.fieldLink RX1 13 "DividingHeadModel" "holes" "[I", .fieldLink RX1 7 "DividingHeadModel" "wheel" "I"] ++ wsX10)
def wsX1_compound : List Cond := .code yX1_compound cX1_compound 8 (some .int) :: ([.constantLong RX1 74 (3), .constant RX1 76 (-1000000002), .fieldLink RX1 44 "DividingHeadModel" "circles" "I", .fieldLink RX1 13 "DividingHeadModel" "holes" "[I", .constant RX1 81 (-1000000005), .methodLink RX1 67 yX1_isParts, .static yX1_isParts, .initialized RX1, .code yX1_isParts cX1_isParts 1 (some .boolean), .constantLong RX1 36 (2), .constantLong RX1 38 (1000), .methodLink RX1 40 yX1_in, .static yX1_in, .code yX1_in cX1_in 6 (some .boolean), .methodLink RX1 77 yX1_stepBeside, .instanceMethod yX1_stepBeside, .selects RX1 yX1_stepBeside yX1_stepBeside, .code yX1_stepBeside cX1_stepBeside 9 (some .int), .fieldLink RX1 7 "DividingHeadModel" "wheel" "I"] ++ wsX10)
def wsX1_put : List Cond := .code yX1_put cX1_put 5 none :: ([.fieldLink RX1 29 "DividingHeadModel" "found" "[I"] ++ wsX10)
def wsX1_isTrain : List Cond := .code yX1_isTrain cX1_isTrain 12 (some .boolean) :: ([.fieldLink RX1 47 "DividingHeadModel" "gears" "I", .fieldLink RX1 17 "DividingHeadModel" "teeth" "[I", .methodLink RX1 82 yX1_put, .instanceMethod yX1_put, .selects RX1 yX1_put yX1_put, .initialized RX1, .code yX1_put cX1_put 5 none, .fieldLink RX1 29 "DividingHeadModel" "found" "[I"] ++ wsX10)
def wsX1_train : List Cond := .code yX1_train cX1_train 4 (some .int) :: ([.constantLong RX1 86 (1000000), .constantLong RX1 74 (3), .fieldLink RX1 29 "DividingHeadModel" "found" "[I", .methodLink RX1 40 yX1_in, .static yX1_in, .initialized RX1, .code yX1_in cX1_in 6 (some .boolean), .methodLink RX1 88 yX1_isTrain, .instanceMethod yX1_isTrain, .selects RX1 yX1_isTrain yX1_isTrain, .code yX1_isTrain cX1_isTrain 12 (some .boolean), .fieldLink RX1 47 "DividingHeadModel" "gears" "I", .fieldLink RX1 17 "DividingHeadModel" "teeth" "[I", .methodLink RX1 82 yX1_put, .instanceMethod yX1_put, .selects RX1 yX1_put yX1_put, .code yX1_put cX1_put 5 none] ++ wsX10)
def wsX1_differential_r1 : List Cond := [Cond.constantLong RX1 92 (6), Cond.fieldLink RX1 7 "DividingHeadModel" "wheel" "I", Cond.fieldLink RX1 29 "DividingHeadModel" "found" "[I", Cond.methodLink RX1 67 yX1_isParts, Cond.static yX1_isParts, Cond.initialized RX1, Cond.code yX1_isParts cX1_isParts 1 (some .boolean), Cond.constantLong RX1 36 (2), Cond.constantLong RX1 38 (1000), Cond.methodLink RX1 40 yX1_in, Cond.static yX1_in, Cond.code yX1_in cX1_in 6 (some .boolean), Cond.methodLink RX1 70 yX1_plainOf, Cond.instanceMethod yX1_plainOf, Cond.selects RX1 yX1_plainOf yX1_plainOf, Cond.code yX1_plainOf cX1_plainOf 5 (some .int), Cond.fieldLink RX1 44 "DividingHeadModel" "circles" "I", Cond.fieldLink RX1 13 "DividingHeadModel" "holes" "[I", Cond.methodLink RX1 88 yX1_isTrain, Cond.instanceMethod yX1_isTrain, Cond.selects RX1 yX1_isTrain yX1_isTrain, Cond.code yX1_isTrain cX1_isTrain 12 (some .boolean), Cond.fieldLink RX1 47 "DividingHeadModel" "gears" "I", Cond.fieldLink RX1 17 "DividingHeadModel" "teeth" "[I"]
def wsX1_differential_r2 : List Cond := [Cond.methodLink RX1 82 yX1_put, Cond.instanceMethod yX1_put, Cond.selects RX1 yX1_put yX1_put, Cond.code yX1_put cX1_put 5 none]
def wsX1_differential : List Cond := .code yX1_differential cX1_differential 6 (some .int) :: ((wsX1_differential_r1 ++ wsX1_differential_r2) ++ wsX10)
def wsX1_holeOf : List Cond := .code yX1_holeOf cX1_holeOf 4 (some .long) :: ([.constantLong RX1 36 (2), .fieldLink RX1 7 "DividingHeadModel" "wheel" "I", .fieldLink RX1 13 "DividingHeadModel" "holes" "[I"] ++ wsX10)
def wsX1_isCut : List Cond := .code yX1_isCut cX1_isCut 2 (some .boolean) :: ([.methodLink RX1 67 yX1_isParts, .static yX1_isParts, .initialized RX1, .code yX1_isParts cX1_isParts 1 (some .boolean), .constantLong RX1 36 (2), .constantLong RX1 38 (1000), .methodLink RX1 40 yX1_in, .static yX1_in, .code yX1_in cX1_in 6 (some .boolean)])
def wsX1_hole : List Cond := .code yX1_hole cX1_hole 4 (some .int) :: ([.methodLink RX1 58 yX1_isCircle, .instanceMethod yX1_isCircle, .selects RX1 yX1_isCircle yX1_isCircle, .initialized RX1, .code yX1_isCircle cX1_isCircle 2 (some .boolean), .fieldLink RX1 44 "DividingHeadModel" "circles" "I", .methodLink RX1 40 yX1_in, .static yX1_in, .code yX1_in cX1_in 6 (some .boolean), .methodLink RX1 94 yX1_isCut, .static yX1_isCut, .code yX1_isCut cX1_isCut 2 (some .boolean), .methodLink RX1 67 yX1_isParts, .static yX1_isParts, .code yX1_isParts cX1_isParts 1 (some .boolean), .constantLong RX1 36 (2), .constantLong RX1 38 (1000), .methodLink RX1 98 yX1_holeOf, .instanceMethod yX1_holeOf, .selects RX1 yX1_holeOf yX1_holeOf, .code yX1_holeOf cX1_holeOf 4 (some .long), .fieldLink RX1 7 "DividingHeadModel" "wheel" "I", .fieldLink RX1 13 "DividingHeadModel" "holes" "[I"] ++ wsX10)
def wsX1_missOf : List Cond := .code yX1_missOf cX1_missOf 4 (some .long) :: ([.fieldLink RX1 7 "DividingHeadModel" "wheel" "I", .fieldLink RX1 13 "DividingHeadModel" "holes" "[I", .methodLink RX1 98 yX1_holeOf, .instanceMethod yX1_holeOf, .selects RX1 yX1_holeOf yX1_holeOf, .initialized RX1, .code yX1_holeOf cX1_holeOf 4 (some .long), .constantLong RX1 36 (2)] ++ wsX10)
def wsX1_miss_r1 : List Cond := [Cond.constant RX1 102 (-1000000001), Cond.constant RX1 76 (-1000000002), Cond.methodLink RX1 58 yX1_isCircle, Cond.instanceMethod yX1_isCircle, Cond.selects RX1 yX1_isCircle yX1_isCircle, Cond.initialized RX1, Cond.code yX1_isCircle cX1_isCircle 2 (some .boolean), Cond.fieldLink RX1 44 "DividingHeadModel" "circles" "I", Cond.methodLink RX1 40 yX1_in, Cond.static yX1_in, Cond.code yX1_in cX1_in 6 (some .boolean), Cond.methodLink RX1 94 yX1_isCut, Cond.static yX1_isCut, Cond.code yX1_isCut cX1_isCut 2 (some .boolean), Cond.methodLink RX1 67 yX1_isParts, Cond.static yX1_isParts, Cond.code yX1_isParts cX1_isParts 1 (some .boolean), Cond.constantLong RX1 36 (2), Cond.constantLong RX1 38 (1000), Cond.methodLink RX1 103 yX1_missOf, Cond.instanceMethod yX1_missOf, Cond.selects RX1 yX1_missOf yX1_missOf, Cond.code yX1_missOf cX1_missOf 4 (some .long), Cond.fieldLink RX1 7 "DividingHeadModel" "wheel" "I"]
def wsX1_miss_r2 : List Cond := [Cond.fieldLink RX1 13 "DividingHeadModel" "holes" "[I", Cond.methodLink RX1 98 yX1_holeOf, Cond.instanceMethod yX1_holeOf, Cond.selects RX1 yX1_holeOf yX1_holeOf, Cond.code yX1_holeOf cX1_holeOf 4 (some .long), Cond.methodLink RX1 106 yX1_term, Cond.static yX1_term, Cond.code yX1_term cX1_term 7 (some .int), Cond.methodLink RX1 32 yX1_common, Cond.static yX1_common, Cond.code yX1_common cX1_common 10 (some .long)]
def wsX1_miss : List Cond := .code yX1_miss cX1_miss 5 (some .int) :: ((wsX1_miss_r1 ++ wsX1_miss_r2) ++ wsX10)
def wsX1_worstOf : List Cond := .code yX1_worstOf cX1_worstOf 8 (some .long) :: ([.methodLink RX1 103 yX1_missOf, .instanceMethod yX1_missOf, .selects RX1 yX1_missOf yX1_missOf, .initialized RX1, .code yX1_missOf cX1_missOf 4 (some .long), .fieldLink RX1 7 "DividingHeadModel" "wheel" "I", .fieldLink RX1 13 "DividingHeadModel" "holes" "[I", .methodLink RX1 98 yX1_holeOf, .instanceMethod yX1_holeOf, .selects RX1 yX1_holeOf yX1_holeOf, .code yX1_holeOf cX1_holeOf 4 (some .long), .constantLong RX1 36 (2)] ++ wsX10)
def wsX1_exact : List Cond := .code yX1_exact cX1_exact 5 (some .int) :: ([.methodLink RX1 103 yX1_missOf, .instanceMethod yX1_missOf, .selects RX1 yX1_missOf yX1_missOf, .initialized RX1, .code yX1_missOf cX1_missOf 4 (some .long), .fieldLink RX1 7 "DividingHeadModel" "wheel" "I", .fieldLink RX1 13 "DividingHeadModel" "holes" "[I", .methodLink RX1 98 yX1_holeOf, .instanceMethod yX1_holeOf, .selects RX1 yX1_holeOf yX1_holeOf, .code yX1_holeOf cX1_holeOf 4 (some .long), .constantLong RX1 36 (2)] ++ wsX10)
def wsX1_worst_r1 : List Cond := [Cond.constantLong RX1 36 (2), Cond.methodLink RX1 58 yX1_isCircle, Cond.instanceMethod yX1_isCircle, Cond.selects RX1 yX1_isCircle yX1_isCircle, Cond.initialized RX1, Cond.code yX1_isCircle cX1_isCircle 2 (some .boolean), Cond.fieldLink RX1 44 "DividingHeadModel" "circles" "I", Cond.methodLink RX1 40 yX1_in, Cond.static yX1_in, Cond.code yX1_in cX1_in 6 (some .boolean), Cond.methodLink RX1 67 yX1_isParts, Cond.static yX1_isParts, Cond.code yX1_isParts cX1_isParts 1 (some .boolean), Cond.constantLong RX1 38 (1000), Cond.methodLink RX1 110 yX1_exact, Cond.instanceMethod yX1_exact, Cond.selects RX1 yX1_exact yX1_exact, Cond.code yX1_exact cX1_exact 5 (some .int), Cond.methodLink RX1 103 yX1_missOf, Cond.instanceMethod yX1_missOf, Cond.selects RX1 yX1_missOf yX1_missOf, Cond.code yX1_missOf cX1_missOf 4 (some .long), Cond.fieldLink RX1 7 "DividingHeadModel" "wheel" "I", Cond.fieldLink RX1 13 "DividingHeadModel" "holes" "[I"]
def wsX1_worst_r2 : List Cond := [Cond.methodLink RX1 98 yX1_holeOf, Cond.instanceMethod yX1_holeOf, Cond.selects RX1 yX1_holeOf yX1_holeOf, Cond.code yX1_holeOf cX1_holeOf 4 (some .long), Cond.methodLink RX1 114 yX1_worstOf, Cond.instanceMethod yX1_worstOf, Cond.selects RX1 yX1_worstOf yX1_worstOf, Cond.code yX1_worstOf cX1_worstOf 8 (some .long), Cond.methodLink RX1 106 yX1_term, Cond.static yX1_term, Cond.code yX1_term cX1_term 7 (some .int), Cond.methodLink RX1 32 yX1_common, Cond.static yX1_common, Cond.code yX1_common cX1_common 10 (some .long)]
def wsX1_worst : List Cond := .code yX1_worst cX1_worst 4 (some .int) :: ((wsX1_worst_r1 ++ wsX1_worst_r2) ++ wsX10)
def wsX1_best : List Cond := .code yX1_best cX1_best 4 (some .int) :: ([.fieldLink RX1 44 "DividingHeadModel" "circles" "I", .fieldLink RX1 13 "DividingHeadModel" "holes" "[I", .methodLink RX1 67 yX1_isParts, .static yX1_isParts, .initialized RX1, .code yX1_isParts cX1_isParts 1 (some .boolean), .constantLong RX1 36 (2), .constantLong RX1 38 (1000), .methodLink RX1 40 yX1_in, .static yX1_in, .code yX1_in cX1_in 6 (some .boolean), .methodLink RX1 114 yX1_worstOf, .instanceMethod yX1_worstOf, .selects RX1 yX1_worstOf yX1_worstOf, .code yX1_worstOf cX1_worstOf 8 (some .long), .methodLink RX1 103 yX1_missOf, .instanceMethod yX1_missOf, .selects RX1 yX1_missOf yX1_missOf, .code yX1_missOf cX1_missOf 4 (some .long), .fieldLink RX1 7 "DividingHeadModel" "wheel" "I", .methodLink RX1 98 yX1_holeOf, .instanceMethod yX1_holeOf, .selects RX1 yX1_holeOf yX1_holeOf, .code yX1_holeOf cX1_holeOf 4 (some .long)] ++ wsX10)
def wsX1_error : List Cond := .code yX1_error cX1_error 4 (some .int) :: ([.constantLong RX1 118 (7), .constantLong RX1 120 (-100), .constantLong RX1 122 (100), .fieldLink RX1 20 "DividingHeadModel" "error" "[I", .methodLink RX1 40 yX1_in, .static yX1_in, .initialized RX1, .code yX1_in cX1_in 6 (some .boolean)] ++ wsX10)
def wsX1_errorAt : List Cond := .code yX1_errorAt cX1_errorAt 9 (some .long) :: ([.constantLong RX1 124 (8), .fieldLink RX1 13 "DividingHeadModel" "holes" "[I", .fieldLink RX1 20 "DividingHeadModel" "error" "[I"] ++ wsX10)
def wsX1_isSteps : List Cond := .code yX1_isSteps cX1_isSteps 1 (some .boolean) :: ([.constantLong RX1 126 (100000), .methodLink RX1 40 yX1_in, .static yX1_in, .initialized RX1, .code yX1_in cX1_in 6 (some .boolean)])
def wsX1_spoilt_r1 : List Cond := [Cond.constant RX1 102 (-1000000001), Cond.constantLong RX1 131 (10000), Cond.constant RX1 76 (-1000000002), Cond.fieldLink RX1 13 "DividingHeadModel" "holes" "[I", Cond.methodLink RX1 58 yX1_isCircle, Cond.instanceMethod yX1_isCircle, Cond.selects RX1 yX1_isCircle yX1_isCircle, Cond.initialized RX1, Cond.code yX1_isCircle cX1_isCircle 2 (some .boolean), Cond.fieldLink RX1 44 "DividingHeadModel" "circles" "I", Cond.methodLink RX1 40 yX1_in, Cond.static yX1_in, Cond.code yX1_in cX1_in 6 (some .boolean), Cond.methodLink RX1 128 yX1_isSteps, Cond.static yX1_isSteps, Cond.code yX1_isSteps cX1_isSteps 1 (some .boolean), Cond.constantLong RX1 126 (100000), Cond.methodLink RX1 133 yX1_errorAt, Cond.instanceMethod yX1_errorAt, Cond.selects RX1 yX1_errorAt yX1_errorAt, Cond.code yX1_errorAt cX1_errorAt 9 (some .long), Cond.constantLong RX1 124 (8), Cond.fieldLink RX1 20 "DividingHeadModel" "error" "[I", Cond.methodLink RX1 106 yX1_term]
def wsX1_spoilt_r2 : List Cond := [Cond.static yX1_term, Cond.code yX1_term cX1_term 7 (some .int), Cond.methodLink RX1 32 yX1_common, Cond.static yX1_common, Cond.code yX1_common cX1_common 10 (some .long)]
def wsX1_spoilt : List Cond := .code yX1_spoilt cX1_spoilt 5 (some .int) :: ((wsX1_spoilt_r1 ++ wsX1_spoilt_r2) ++ wsX10)
def wsX1_extreme : List Cond := .code yX1_extreme cX1_extreme 11 (some .int) :: ([.constantLong RX1 38 (1000), .methodLink RX1 58 yX1_isCircle, .instanceMethod yX1_isCircle, .selects RX1 yX1_isCircle yX1_isCircle, .initialized RX1, .code yX1_isCircle cX1_isCircle 2 (some .boolean), .fieldLink RX1 44 "DividingHeadModel" "circles" "I", .methodLink RX1 40 yX1_in, .static yX1_in, .code yX1_in cX1_in 6 (some .boolean), .methodLink RX1 128 yX1_isSteps, .static yX1_isSteps, .code yX1_isSteps cX1_isSteps 1 (some .boolean), .constantLong RX1 126 (100000), .methodLink RX1 133 yX1_errorAt, .instanceMethod yX1_errorAt, .selects RX1 yX1_errorAt yX1_errorAt, .code yX1_errorAt cX1_errorAt 9 (some .long), .constantLong RX1 124 (8), .fieldLink RX1 13 "DividingHeadModel" "holes" "[I", .fieldLink RX1 20 "DividingHeadModel" "error" "[I"] ++ wsX10)
def wsX1_near : List Cond := .code yX1_near cX1_near 17 (some .int) :: ([.constantLong RX1 86 (1000000), .constantLong RX1 131 (10000), .methodLink RX1 40 yX1_in, .static yX1_in, .initialized RX1, .code yX1_in cX1_in 6 (some .boolean)])
def wsX1_vernier : List Cond := .code yX1_vernier cX1_vernier 3 (some .int) :: ([.constantLong RX1 36 (2), .constantLong RX1 136 (720), .constantLong RX1 138 (60), .fieldLink RX1 23 "DividingHeadModel" "marks" "I", .fieldLink RX1 26 "DividingHeadModel" "parts" "I", .methodLink RX1 40 yX1_in, .static yX1_in, .initialized RX1, .code yX1_in cX1_in 6 (some .boolean)] ++ wsX10)
def wsX1_mainOf : List Cond := .code yX1_mainOf cX1_mainOf 5 (some .long) :: ([.fieldLink RX1 23 "DividingHeadModel" "marks" "I"] ++ wsX10)
def wsX1_lineOf : List Cond := .code yX1_lineOf cX1_lineOf 7 (some .long) :: ([.fieldLink RX1 23 "DividingHeadModel" "marks" "I", .constantLong RX1 36 (2), .fieldLink RX1 26 "DividingHeadModel" "parts" "I"] ++ wsX10)
def wsX1_readOf : List Cond := .code yX1_readOf cX1_readOf 5 (some .long) :: ([.fieldLink RX1 26 "DividingHeadModel" "parts" "I", .methodLink RX1 140 yX1_mainOf, .instanceMethod yX1_mainOf, .selects RX1 yX1_mainOf yX1_mainOf, .initialized RX1, .code yX1_mainOf cX1_mainOf 5 (some .long), .fieldLink RX1 23 "DividingHeadModel" "marks" "I", .methodLink RX1 143 yX1_lineOf, .instanceMethod yX1_lineOf, .selects RX1 yX1_lineOf yX1_lineOf, .code yX1_lineOf cX1_lineOf 7 (some .long), .constantLong RX1 36 (2)] ++ wsX10)
def wsX1_isPlace : List Cond := .code yX1_isPlace cX1_isPlace 2 (some .boolean) :: ([.constantLong RX1 86 (1000000), .methodLink RX1 40 yX1_in, .static yX1_in, .initialized RX1, .code yX1_in cX1_in 6 (some .boolean)])
def wsX1_read : List Cond := .code yX1_read cX1_read 4 (some .int) :: ([.constantLong RX1 36 (2), .methodLink RX1 146 yX1_isPlace, .static yX1_isPlace, .initialized RX1, .code yX1_isPlace cX1_isPlace 2 (some .boolean), .constantLong RX1 86 (1000000), .methodLink RX1 40 yX1_in, .static yX1_in, .code yX1_in cX1_in 6 (some .boolean), .methodLink RX1 140 yX1_mainOf, .instanceMethod yX1_mainOf, .selects RX1 yX1_mainOf yX1_mainOf, .code yX1_mainOf cX1_mainOf 5 (some .long), .fieldLink RX1 23 "DividingHeadModel" "marks" "I", .methodLink RX1 143 yX1_lineOf, .instanceMethod yX1_lineOf, .selects RX1 yX1_lineOf yX1_lineOf, .code yX1_lineOf cX1_lineOf 7 (some .long), .fieldLink RX1 26 "DividingHeadModel" "parts" "I", .methodLink RX1 149 yX1_readOf, .instanceMethod yX1_readOf, .selects RX1 yX1_readOf yX1_readOf, .code yX1_readOf cX1_readOf 5 (some .long)] ++ wsX10)
def wsX1_two_r1 : List Cond := [Cond.constantLong RX1 152 (-1000), Cond.constantLong RX1 38 (1000), Cond.constant RX1 76 (-1000000002), Cond.constantLong RX1 154 (2000000), Cond.constantLong RX1 36 (2), Cond.constantLong RX1 86 (1000000), Cond.fieldLink RX1 23 "DividingHeadModel" "marks" "I", Cond.fieldLink RX1 26 "DividingHeadModel" "parts" "I", Cond.constantLong RX1 156 (4), Cond.methodLink RX1 146 yX1_isPlace, Cond.static yX1_isPlace, Cond.initialized RX1, Cond.code yX1_isPlace cX1_isPlace 2 (some .boolean), Cond.methodLink RX1 40 yX1_in, Cond.static yX1_in, Cond.code yX1_in cX1_in 6 (some .boolean), Cond.methodLink RX1 149 yX1_readOf, Cond.instanceMethod yX1_readOf, Cond.selects RX1 yX1_readOf yX1_readOf, Cond.code yX1_readOf cX1_readOf 5 (some .long), Cond.methodLink RX1 140 yX1_mainOf, Cond.instanceMethod yX1_mainOf, Cond.selects RX1 yX1_mainOf yX1_mainOf, Cond.code yX1_mainOf cX1_mainOf 5 (some .long)]
def wsX1_two_r2 : List Cond := [Cond.methodLink RX1 143 yX1_lineOf, Cond.instanceMethod yX1_lineOf, Cond.selects RX1 yX1_lineOf yX1_lineOf, Cond.code yX1_lineOf cX1_lineOf 7 (some .long), Cond.methodLink RX1 106 yX1_term, Cond.static yX1_term, Cond.code yX1_term cX1_term 7 (some .int), Cond.methodLink RX1 32 yX1_common, Cond.static yX1_common, Cond.code yX1_common cX1_common 10 (some .long)]
def wsX1_two : List Cond := .code yX1_two cX1_two 17 (some .int) :: ((wsX1_two_r1 ++ wsX1_two_r2) ++ wsX10)
def wsX1_told : List Cond := .code yX1_told cX1_told 2 (some .int) :: ([.fieldLink RX1 7 "DividingHeadModel" "wheel" "I", .fieldLink RX1 44 "DividingHeadModel" "circles" "I", .fieldLink RX1 47 "DividingHeadModel" "gears" "I", .fieldLink RX1 23 "DividingHeadModel" "marks" "I", .fieldLink RX1 26 "DividingHeadModel" "parts" "I"] ++ wsX10)
def wsJ9_abs_0f7a4 : List Cond := .code yJ9_abs_0f7a4 cJ9_abs_0f7a4 1 (some .int) :: ([])
def wsJ9_abs_067f4 : List Cond := .code yJ9_abs_067f4 cJ9_abs_067f4 2 (some .long) :: ([])
def wsJ9_max_7cf53 : List Cond := .code yJ9_max_7cf53 cJ9_max_7cf53 2 (some .int) :: ([])
def wsL_law_r1 : List Cond := [Cond.classLink RL 7 RX0, Cond.instantiable RX0 9, Cond.initialized RX0, Cond.classLink RL 10 RX1, Cond.instantiable RX1 9, Cond.initialized RX1, Cond.methodLink RL 9 yX0_init, Cond.instanceMethod yX0_init, Cond.code yX0_init cX0_init 1 none, Cond.methodLink RX0 1 objectInit, Cond.instanceMethod objectInit, Cond.code objectInit ⟨#[0xb1]⟩ 1 none, Cond.arrayClass .int, Cond.fieldLink RX0 9 "DividingHead" "circleHoles" "[I", Cond.fieldLink RX0 13 "DividingHead" "gearTeeth" "[I", Cond.fieldLink RX0 16 "DividingHead" "wormErrors" "[I", Cond.fieldLink RX0 19 "DividingHead" "trainGears" "[I", Cond.fieldLink RX0 22 "DividingHead" "wheelTeeth" "I", Cond.fieldLink RX0 26 "DividingHead" "circleMarks" "I", Cond.fieldLink RX0 29 "DividingHead" "vernierParts" "I", Cond.methodLink RL 12 yX1_init, Cond.instanceMethod yX1_init, Cond.code yX1_init cX1_init 1 none, Cond.methodLink RX1 1 objectInit]
def wsL_law_r2 : List Cond := [Cond.fieldLink RX1 7 "DividingHeadModel" "wheel" "I", Cond.fieldLink RX1 13 "DividingHeadModel" "holes" "[I", Cond.fieldLink RX1 17 "DividingHeadModel" "teeth" "[I", Cond.fieldLink RX1 20 "DividingHeadModel" "error" "[I", Cond.fieldLink RX1 23 "DividingHeadModel" "marks" "I", Cond.fieldLink RX1 26 "DividingHeadModel" "parts" "I", Cond.fieldLink RX1 29 "DividingHeadModel" "found" "[I", Cond.methodLink RL 13 yX0_wheel, Cond.instanceMethod yX0_wheel, Cond.selects RX0 yX0_wheel yX0_wheel, Cond.code yX0_wheel cX0_wheel 3 (some .int), Cond.methodLink RX0 32 yX0_isOutside, Cond.static yX0_isOutside, Cond.code yX0_isOutside cX0_isOutside 3 (some .boolean), Cond.methodLink RL 17 yX1_wheel, Cond.instanceMethod yX1_wheel, Cond.selects RX1 yX1_wheel yX1_wheel, Cond.code yX1_wheel cX1_wheel 3 (some .int), Cond.constantLong RX1 50 (10), Cond.constantLong RX1 52 (200), Cond.methodLink RX1 40 yX1_in, Cond.static yX1_in, Cond.code yX1_in cX1_in 6 (some .boolean), Cond.methodLink RL 18 yX0_circle]
def wsL_law_r3 : List Cond := [Cond.instanceMethod yX0_circle, Cond.selects RX0 yX0_circle yX0_circle, Cond.code yX0_circle cX0_circle 2 (some .int), Cond.fieldLink RX0 36 "DividingHead" "circleCount" "I", Cond.methodLink RX0 39 yX0_hasCircleOf, Cond.instanceMethod yX0_hasCircleOf, Cond.selects RX0 yX0_hasCircleOf yX0_hasCircleOf, Cond.code yX0_hasCircleOf cX0_hasCircleOf 3 (some .boolean), Cond.methodLink RL 21 yX1_circle, Cond.instanceMethod yX1_circle, Cond.selects RX1 yX1_circle yX1_circle, Cond.code yX1_circle cX1_circle 3 (some .int), Cond.constantLong RX1 54 (5), Cond.constantLong RX1 56 (120), Cond.fieldLink RX1 44 "DividingHeadModel" "circles" "I", Cond.methodLink RL 22 yX0_holes, Cond.instanceMethod yX0_holes, Cond.selects RX0 yX0_holes yX0_holes, Cond.code yX0_holes cX0_holes 3 (some .int), Cond.methodLink RX0 43 yX0_holesAt, Cond.instanceMethod yX0_holesAt, Cond.selects RX0 yX0_holesAt yX0_holesAt, Cond.code yX0_holesAt cX0_holesAt 2 (some .int), Cond.methodLink RL 25 yX1_holes]
def wsL_law_r4 : List Cond := [Cond.instanceMethod yX1_holes, Cond.selects RX1 yX1_holes yX1_holes, Cond.code yX1_holes cX1_holes 2 (some .int), Cond.methodLink RX1 58 yX1_isCircle, Cond.instanceMethod yX1_isCircle, Cond.selects RX1 yX1_isCircle yX1_isCircle, Cond.code yX1_isCircle cX1_isCircle 2 (some .boolean), Cond.methodLink RL 26 yX0_gear, Cond.instanceMethod yX0_gear, Cond.selects RX0 yX0_gear yX0_gear, Cond.code yX0_gear cX0_gear 2 (some .int), Cond.fieldLink RX0 47 "DividingHead" "gearCount" "I", Cond.methodLink RL 29 yX1_gear, Cond.instanceMethod yX1_gear, Cond.selects RX1 yX1_gear yX1_gear, Cond.code yX1_gear cX1_gear 2 (some .int), Cond.constantLong RX1 62 (12), Cond.fieldLink RX1 47 "DividingHeadModel" "gears" "I", Cond.methodLink RL 30 yX0_teeth, Cond.instanceMethod yX0_teeth, Cond.selects RX0 yX0_teeth yX0_teeth, Cond.code yX0_teeth cX0_teeth 2 (some .int), Cond.methodLink RL 33 yX1_teeth, Cond.instanceMethod yX1_teeth]
def wsL_law_r5 : List Cond := [Cond.selects RX1 yX1_teeth yX1_teeth, Cond.code yX1_teeth cX1_teeth 2 (some .int), Cond.methodLink RX1 64 yX1_isGear, Cond.instanceMethod yX1_isGear, Cond.selects RX1 yX1_isGear yX1_isGear, Cond.code yX1_isGear cX1_isGear 2 (some .boolean), Cond.methodLink RL 34 yX0_plain, Cond.instanceMethod yX0_plain, Cond.selects RX0 yX0_plain yX0_plain, Cond.code yX0_plain cX0_plain 4 (some .int), Cond.methodLink RX0 50 yX0_isNoNumberOfParts, Cond.static yX0_isNoNumberOfParts, Cond.code yX0_isNoNumberOfParts cX0_isNoNumberOfParts 1 (some .boolean), Cond.methodLink RX0 53 yX0_plainCircle, Cond.instanceMethod yX0_plainCircle, Cond.selects RX0 yX0_plainCircle yX0_plainCircle, Cond.code yX0_plainCircle cX0_plainCircle 5 (some .int), Cond.methodLink RX0 133 yX0_exactQuotient, Cond.static yX0_exactQuotient, Cond.code yX0_exactQuotient cX0_exactQuotient 4 (some .long), Cond.methodLink RL 38 yX1_plain, Cond.instanceMethod yX1_plain, Cond.selects RX1 yX1_plain yX1_plain, Cond.code yX1_plain cX1_plain 4 (some .int)]
def wsL_law_r6 : List Cond := [Cond.constantLong RX1 36 (2), Cond.methodLink RX1 67 yX1_isParts, Cond.static yX1_isParts, Cond.code yX1_isParts cX1_isParts 1 (some .boolean), Cond.constantLong RX1 38 (1000), Cond.methodLink RX1 70 yX1_plainOf, Cond.instanceMethod yX1_plainOf, Cond.selects RX1 yX1_plainOf yX1_plainOf, Cond.code yX1_plainOf cX1_plainOf 5 (some .int), Cond.methodLink RL 39 yX0_compound, Cond.instanceMethod yX0_compound, Cond.selects RX0 yX0_compound yX0_compound, Cond.code yX0_compound cX0_compound 6 (some .int), Cond.constant RX0 56 (-1000000002), Cond.constant RX0 65 (-1000000005), Cond.methodLink RX0 57 yX0_secondStep, Cond.instanceMethod yX0_secondStep, Cond.selects RX0 yX0_secondStep yX0_secondStep, Cond.code yX0_secondStep cX0_secondStep 5 (some .int), Cond.methodLink RX0 136 yX0_firstStep, Cond.instanceMethod yX0_firstStep, Cond.selects RX0 yX0_firstStep yX0_firstStep, Cond.code yX0_firstStep cX0_firstStep 6 (some .int), Cond.methodLink RX0 61 yX0_compoundTerm]
def wsL_law_r7 : List Cond := [Cond.instanceMethod yX0_compoundTerm, Cond.selects RX0 yX0_compoundTerm yX0_compoundTerm, Cond.code yX0_compoundTerm cX0_compoundTerm 6 (some .int), Cond.methodLink RL 42 yX1_compound, Cond.instanceMethod yX1_compound, Cond.selects RX1 yX1_compound yX1_compound, Cond.code yX1_compound cX1_compound 8 (some .int), Cond.constantLong RX1 74 (3), Cond.constant RX1 76 (-1000000002), Cond.constant RX1 81 (-1000000005), Cond.methodLink RX1 77 yX1_stepBeside, Cond.instanceMethod yX1_stepBeside, Cond.selects RX1 yX1_stepBeside yX1_stepBeside, Cond.code yX1_stepBeside cX1_stepBeside 9 (some .int), Cond.methodLink RL 43 yX0_differential, Cond.instanceMethod yX0_differential, Cond.selects RX0 yX0_differential yX0_differential, Cond.code yX0_differential cX0_differential 4 (some .int), Cond.methodLink RX0 66 yX0_partsBeside, Cond.instanceMethod yX0_partsBeside, Cond.selects RX0 yX0_partsBeside yX0_partsBeside, Cond.code yX0_partsBeside cX0_partsBeside 3 (some .int), Cond.methodLink RX0 140 yX0_standsIn, Cond.instanceMethod yX0_standsIn]
def wsL_law_r8 : List Cond := [Cond.selects RX0 yX0_standsIn yX0_standsIn, Cond.code yX0_standsIn cX0_standsIn 3 (some .boolean), Cond.methodLink RX0 143 Lib.Math.abs.name, Cond.static Lib.Math.abs.name, Cond.initialized "java/lang/Math", Cond.code Lib.Math.abs.name Lib.Math.abs.code 1 (some .int), Cond.methodLink RX0 73 yX0_findTrain, Cond.instanceMethod yX0_findTrain, Cond.selects RX0 yX0_findTrain yX0_findTrain, Cond.code yX0_findTrain cX0_findTrain 5 (some .boolean), Cond.methodLink RX0 146 yX0_findTwoGears, Cond.instanceMethod yX0_findTwoGears, Cond.selects RX0 yX0_findTwoGears yX0_findTwoGears, Cond.code yX0_findTwoGears cX0_findTwoGears 7 (some .boolean), Cond.methodLink RX0 152 yX0_gearWith, Cond.instanceMethod yX0_gearWith, Cond.selects RX0 yX0_gearWith yX0_gearWith, Cond.code yX0_gearWith cX0_gearWith 7 (some .int), Cond.methodLink RX0 156 yX0_keepTrain, Cond.instanceMethod yX0_keepTrain, Cond.selects RX0 yX0_keepTrain yX0_keepTrain, Cond.code yX0_keepTrain cX0_keepTrain 5 (some .boolean), Cond.methodLink RX0 149 yX0_findFourGears, Cond.instanceMethod yX0_findFourGears]
def wsL_law_r9 : List Cond := [Cond.selects RX0 yX0_findFourGears yX0_findFourGears, Cond.code yX0_findFourGears cX0_findFourGears 7 (some .boolean), Cond.methodLink RX0 160 yX0_findSecondPair, Cond.instanceMethod yX0_findSecondPair, Cond.selects RX0 yX0_findSecondPair yX0_findSecondPair, Cond.code yX0_findSecondPair cX0_findSecondPair 11 (some .boolean), Cond.methodLink RL 46 yX1_differential, Cond.instanceMethod yX1_differential, Cond.selects RX1 yX1_differential yX1_differential, Cond.code yX1_differential cX1_differential 6 (some .int), Cond.constantLong RX1 92 (6), Cond.methodLink RX1 88 yX1_isTrain, Cond.instanceMethod yX1_isTrain, Cond.selects RX1 yX1_isTrain yX1_isTrain, Cond.code yX1_isTrain cX1_isTrain 12 (some .boolean), Cond.methodLink RX1 82 yX1_put, Cond.instanceMethod yX1_put, Cond.selects RX1 yX1_put yX1_put, Cond.code yX1_put cX1_put 5 none, Cond.methodLink RL 47 yX0_train, Cond.instanceMethod yX0_train, Cond.selects RX0 yX0_train yX0_train, Cond.code yX0_train cX0_train 4 (some .int), Cond.methodLink RX0 69 yX0_isNoShare]
def wsL_law_r10 : List Cond := [Cond.static yX0_isNoShare, Cond.code yX0_isNoShare cX0_isNoShare 2 (some .boolean), Cond.constant RX0 131 (1000000), Cond.methodLink RL 51 yX1_train, Cond.instanceMethod yX1_train, Cond.selects RX1 yX1_train yX1_train, Cond.code yX1_train cX1_train 4 (some .int), Cond.constantLong RX1 86 (1000000), Cond.methodLink RL 52 yX0_hole, Cond.instanceMethod yX0_hole, Cond.selects RX0 yX0_hole yX0_hole, Cond.code yX0_hole cX0_hole 5 (some .int), Cond.methodLink RX0 77 yX0_nearestHole, Cond.instanceMethod yX0_nearestHole, Cond.selects RX0 yX0_nearestHole yX0_nearestHole, Cond.code yX0_nearestHole cX0_nearestHole 4 (some .int), Cond.methodLink RX0 164 yX0_nearestOrGreater, Cond.static yX0_nearestOrGreater, Cond.code yX0_nearestOrGreater cX0_nearestOrGreater 4 (some .long), Cond.constantLong RX0 127 (2), Cond.methodLink RL 55 yX1_hole, Cond.instanceMethod yX1_hole, Cond.selects RX1 yX1_hole yX1_hole, Cond.code yX1_hole cX1_hole 4 (some .int)]
def wsL_law_r11 : List Cond := [Cond.methodLink RX1 94 yX1_isCut, Cond.static yX1_isCut, Cond.code yX1_isCut cX1_isCut 2 (some .boolean), Cond.methodLink RX1 98 yX1_holeOf, Cond.instanceMethod yX1_holeOf, Cond.selects RX1 yX1_holeOf yX1_holeOf, Cond.code yX1_holeOf cX1_holeOf 4 (some .long), Cond.methodLink RL 56 yX0_miss, Cond.instanceMethod yX0_miss, Cond.selects RX0 yX0_miss yX0_miss, Cond.code yX0_miss cX0_miss 6 (some .int), Cond.constant RX0 80 (-1000000001), Cond.methodLink RX0 81 yX0_missUpper, Cond.instanceMethod yX0_missUpper, Cond.selects RX0 yX0_missUpper yX0_missUpper, Cond.code yX0_missUpper cX0_missUpper 4 (some .int), Cond.methodLink RX0 84 yX0_lowestTerm, Cond.static yX0_lowestTerm, Cond.code yX0_lowestTerm cX0_lowestTerm 9 (some .int), Cond.methodLink RX0 174 Lib.MathLoose.abs_long.x, Cond.static Lib.MathLoose.abs_long.x, Cond.code Lib.MathLoose.abs_long.x Lib.MathLoose.abs_long.code 2 (some .long), Cond.methodLink RX0 177 yX0_commonMeasure, Cond.static yX0_commonMeasure]
def wsL_law_r12 : List Cond := [Cond.code yX0_commonMeasure cX0_commonMeasure 7 (some .long), Cond.methodLink RL 60 yX1_miss, Cond.instanceMethod yX1_miss, Cond.selects RX1 yX1_miss yX1_miss, Cond.code yX1_miss cX1_miss 5 (some .int), Cond.constant RX1 102 (-1000000001), Cond.methodLink RX1 103 yX1_missOf, Cond.instanceMethod yX1_missOf, Cond.selects RX1 yX1_missOf yX1_missOf, Cond.code yX1_missOf cX1_missOf 4 (some .long), Cond.methodLink RX1 106 yX1_term, Cond.static yX1_term, Cond.code yX1_term cX1_term 7 (some .int), Cond.methodLink RX1 32 yX1_common, Cond.static yX1_common, Cond.code yX1_common cX1_common 10 (some .long), Cond.methodLink RL 61 yX0_worst, Cond.instanceMethod yX0_worst, Cond.selects RX0 yX0_worst yX0_worst, Cond.code yX0_worst cX0_worst 5 (some .int), Cond.methodLink RX0 88 yX0_exactCuts, Cond.instanceMethod yX0_exactCuts, Cond.selects RX0 yX0_exactCuts yX0_exactCuts, Cond.code yX0_exactCuts cX0_exactCuts 5 (some .int)]
def wsL_law_r13 : List Cond := [Cond.methodLink RX0 92 yX0_worstUpper, Cond.instanceMethod yX0_worstUpper, Cond.selects RX0 yX0_worstUpper yX0_worstUpper, Cond.code yX0_worstUpper cX0_worstUpper 5 (some .int), Cond.methodLink RX0 167 Lib.Math.max.name, Cond.static Lib.Math.max.name, Cond.code Lib.Math.max.name Lib.Math.max.code 2 (some .int), Cond.methodLink RL 64 yX1_worst, Cond.instanceMethod yX1_worst, Cond.selects RX1 yX1_worst yX1_worst, Cond.code yX1_worst cX1_worst 4 (some .int), Cond.methodLink RX1 110 yX1_exact, Cond.instanceMethod yX1_exact, Cond.selects RX1 yX1_exact yX1_exact, Cond.code yX1_exact cX1_exact 5 (some .int), Cond.methodLink RX1 114 yX1_worstOf, Cond.instanceMethod yX1_worstOf, Cond.selects RX1 yX1_worstOf yX1_worstOf, Cond.code yX1_worstOf cX1_worstOf 8 (some .long), Cond.methodLink RL 65 yX0_best, Cond.instanceMethod yX0_best, Cond.selects RX0 yX0_best yX0_best, Cond.code yX0_best cX0_best 6 (some .int), Cond.methodLink RL 68 yX1_best]
def wsL_law_r14 : List Cond := [Cond.instanceMethod yX1_best, Cond.selects RX1 yX1_best yX1_best, Cond.code yX1_best cX1_best 4 (some .int), Cond.methodLink RL 69 yX0_error, Cond.instanceMethod yX0_error, Cond.selects RX0 yX0_error yX0_error, Cond.code yX0_error cX0_error 4 (some .int), Cond.methodLink RL 72 yX1_error, Cond.instanceMethod yX1_error, Cond.selects RX1 yX1_error yX1_error, Cond.code yX1_error cX1_error 4 (some .int), Cond.constantLong RX1 118 (7), Cond.constantLong RX1 120 (-100), Cond.constantLong RX1 122 (100), Cond.methodLink RL 73 yX0_spoilt, Cond.instanceMethod yX0_spoilt, Cond.selects RX0 yX0_spoilt yX0_spoilt, Cond.code yX0_spoilt cX0_spoilt 6 (some .int), Cond.methodLink RX0 95 yX0_isNoStep, Cond.static yX0_isNoStep, Cond.code yX0_isNoStep cX0_isNoStep 1 (some .boolean), Cond.constant RX0 132 (100000), Cond.methodLink RX0 98 yX0_errorUpper, Cond.instanceMethod yX0_errorUpper]
def wsL_law_r15 : List Cond := [Cond.selects RX0 yX0_errorUpper yX0_errorUpper, Cond.code yX0_errorUpper cX0_errorUpper 7 (some .int), Cond.methodLink RL 76 yX1_spoilt, Cond.instanceMethod yX1_spoilt, Cond.selects RX1 yX1_spoilt yX1_spoilt, Cond.code yX1_spoilt cX1_spoilt 5 (some .int), Cond.constantLong RX1 131 (10000), Cond.methodLink RX1 128 yX1_isSteps, Cond.static yX1_isSteps, Cond.code yX1_isSteps cX1_isSteps 1 (some .boolean), Cond.constantLong RX1 126 (100000), Cond.methodLink RX1 133 yX1_errorAt, Cond.instanceMethod yX1_errorAt, Cond.selects RX1 yX1_errorAt yX1_errorAt, Cond.code yX1_errorAt cX1_errorAt 9 (some .long), Cond.constantLong RX1 124 (8), Cond.methodLink RL 77 yX0_extreme, Cond.instanceMethod yX0_extreme, Cond.selects RX0 yX0_extreme yX0_extreme, Cond.code yX0_extreme cX0_extreme 10 (some .int), Cond.methodLink RL 80 yX1_extreme, Cond.instanceMethod yX1_extreme, Cond.selects RX1 yX1_extreme yX1_extreme, Cond.code yX1_extreme cX1_extreme 11 (some .int)]
def wsL_law_r16 : List Cond := [Cond.methodLink RL 81 yX0_near, Cond.instanceMethod yX0_near, Cond.selects RX0 yX0_near yX0_near, Cond.code yX0_near cX0_near 6 (some .int), Cond.methodLink RX0 101 yX0_nearestLower, Cond.static yX0_nearestLower, Cond.code yX0_nearestLower cX0_nearestLower 9 (some .int), Cond.methodLink RX0 170 yX0_gapUpper, Cond.static yX0_gapUpper, Cond.code yX0_gapUpper cX0_gapUpper 5 (some .long), Cond.methodLink RX0 104 yX0_nearestOrLesser, Cond.static yX0_nearestOrLesser, Cond.code yX0_nearestOrLesser cX0_nearestOrLesser 4 (some .long), Cond.methodLink RL 84 yX1_near, Cond.instanceMethod yX1_near, Cond.selects RX1 yX1_near yX1_near, Cond.code yX1_near cX1_near 17 (some .int), Cond.methodLink RL 85 yX0_vernier, Cond.instanceMethod yX0_vernier, Cond.selects RX0 yX0_vernier yX0_vernier, Cond.code yX0_vernier cX0_vernier 3 (some .int), Cond.methodLink RL 88 yX1_vernier, Cond.instanceMethod yX1_vernier, Cond.selects RX1 yX1_vernier yX1_vernier]
def wsL_law_r17 : List Cond := [Cond.code yX1_vernier cX1_vernier 3 (some .int), Cond.constantLong RX1 136 (720), Cond.constantLong RX1 138 (60), Cond.methodLink RL 89 yX0_read, Cond.instanceMethod yX0_read, Cond.selects RX0 yX0_read yX0_read, Cond.code yX0_read cX0_read 4 (some .int), Cond.methodLink RX0 108 yX0_isNoPlace, Cond.static yX0_isNoPlace, Cond.code yX0_isNoPlace cX0_isNoPlace 2 (some .boolean), Cond.methodLink RX0 111 yX0_mainMark, Cond.instanceMethod yX0_mainMark, Cond.selects RX0 yX0_mainMark yX0_mainMark, Cond.code yX0_mainMark cX0_mainMark 5 (some .long), Cond.methodLink RX0 114 yX0_vernierLine, Cond.instanceMethod yX0_vernierLine, Cond.selects RX0 yX0_vernierLine yX0_vernierLine, Cond.code yX0_vernierLine cX0_vernierLine 7 (some .long), Cond.methodLink RX0 117 yX0_readParts, Cond.instanceMethod yX0_readParts, Cond.selects RX0 yX0_readParts yX0_readParts, Cond.code yX0_readParts cX0_readParts 5 (some .long), Cond.methodLink RL 92 yX1_read, Cond.instanceMethod yX1_read]
def wsL_law_r18 : List Cond := [Cond.selects RX1 yX1_read yX1_read, Cond.code yX1_read cX1_read 4 (some .int), Cond.methodLink RX1 146 yX1_isPlace, Cond.static yX1_isPlace, Cond.code yX1_isPlace cX1_isPlace 2 (some .boolean), Cond.methodLink RX1 140 yX1_mainOf, Cond.instanceMethod yX1_mainOf, Cond.selects RX1 yX1_mainOf yX1_mainOf, Cond.code yX1_mainOf cX1_mainOf 5 (some .long), Cond.methodLink RX1 143 yX1_lineOf, Cond.instanceMethod yX1_lineOf, Cond.selects RX1 yX1_lineOf yX1_lineOf, Cond.code yX1_lineOf cX1_lineOf 7 (some .long), Cond.methodLink RX1 149 yX1_readOf, Cond.instanceMethod yX1_readOf, Cond.selects RX1 yX1_readOf yX1_readOf, Cond.code yX1_readOf cX1_readOf 5 (some .long), Cond.methodLink RL 93 yX0_two, Cond.instanceMethod yX0_two, Cond.selects RX0 yX0_two yX0_two, Cond.code yX0_two cX0_two 19 (some .int), Cond.constantLong RX0 120 (1000000), Cond.constantLong RX0 129 (4), Cond.methodLink RX0 122 yJ9_floorMod_f86c9]
def wsL_law_r19 : List Cond := [Cond.static yJ9_floorMod_f86c9, Cond.initialized RJ9, Cond.code yJ9_floorMod_f86c9 cJ9_floorMod_f86c9 6 (some .long), Cond.methodLink RL 96 yX1_two, Cond.instanceMethod yX1_two, Cond.selects RX1 yX1_two yX1_two, Cond.code yX1_two cX1_two 17 (some .int), Cond.constantLong RX1 152 (-1000), Cond.constantLong RX1 154 (2000000), Cond.constantLong RX1 156 (4), Cond.methodLink RL 97 yX0_told, Cond.instanceMethod yX0_told, Cond.selects RX0 yX0_told yX0_told, Cond.code yX0_told cX0_told 2 (some .int), Cond.methodLink RL 100 yX1_told, Cond.instanceMethod yX1_told, Cond.selects RX1 yX1_told yX1_told, Cond.code yX1_told cX1_told 2 (some .int)]
def wsL_law : List Cond := (wsL_law_r1 ++ (wsL_law_r2 ++ (wsL_law_r3 ++ (wsL_law_r4 ++ (wsL_law_r5 ++ (wsL_law_r6 ++ (wsL_law_r7 ++ (wsL_law_r8 ++ (wsL_law_r9 ++ (wsL_law_r10 ++ (wsL_law_r11 ++ (wsL_law_r12 ++ (wsL_law_r13 ++ (wsL_law_r14 ++ (wsL_law_r15 ++ (wsL_law_r16 ++ (wsL_law_r17 ++ (wsL_law_r18 ++ wsL_law_r19)))))))))))))))))) ++ wsX00 ++ wsX10 ++ ([] : List Cond)
abbrev vwCl : List vw_C := [(RX0, TX0, 9), (RX1, TX1, 9)]
end
section
theorem dX0_init_0 : decode cX0_init 0 = .ok (.aload_n 0, 1) := by decide +kernel
theorem dX0_init_1 : decode cX0_init 1 = .ok (.invokespecial 1, 3) := by decide +kernel
theorem dX0_init_4 : decode cX0_init 4 = .ok (.aload_n 0, 1) := by decide +kernel
theorem dX0_init_5 : decode cX0_init 5 = .ok (.bipush 8, 2) := by decide +kernel
theorem dX0_init_7 : decode cX0_init 7 = .ok (.newarray .int, 2) := by decide +kernel
theorem dX0_init_9 : decode cX0_init 9 = .ok (.putfield 9, 3) := by decide +kernel
theorem dX0_init_12 : decode cX0_init 12 = .ok (.aload_n 0, 1) := by decide +kernel
theorem dX0_init_13 : decode cX0_init 13 = .ok (.bipush 10, 2) := by decide +kernel
theorem dX0_init_15 : decode cX0_init 15 = .ok (.newarray .int, 2) := by decide +kernel
theorem dX0_init_17 : decode cX0_init 17 = .ok (.putfield 13, 3) := by decide +kernel
theorem dX0_init_20 : decode cX0_init 20 = .ok (.aload_n 0, 1) := by decide +kernel
theorem dX0_init_21 : decode cX0_init 21 = .ok (.bipush 8, 2) := by decide +kernel
theorem dX0_init_23 : decode cX0_init 23 = .ok (.newarray .int, 2) := by decide +kernel
theorem dX0_init_25 : decode cX0_init 25 = .ok (.putfield 16, 3) := by decide +kernel
theorem dX0_init_28 : decode cX0_init 28 = .ok (.aload_n 0, 1) := by decide +kernel
theorem dX0_init_29 : decode cX0_init 29 = .ok (.iconst 4, 1) := by decide +kernel
theorem dX0_init_30 : decode cX0_init 30 = .ok (.newarray .int, 2) := by decide +kernel
theorem dX0_init_32 : decode cX0_init 32 = .ok (.putfield 19, 3) := by decide +kernel
theorem dX0_init_35 : decode cX0_init 35 = .ok (.aload_n 0, 1) := by decide +kernel
theorem dX0_init_36 : decode cX0_init 36 = .ok (.bipush 40, 2) := by decide +kernel
theorem dX0_init_38 : decode cX0_init 38 = .ok (.putfield 22, 3) := by decide +kernel
theorem dX0_init_41 : decode cX0_init 41 = .ok (.aload_n 0, 1) := by decide +kernel
theorem dX0_init_42 : decode cX0_init 42 = .ok (.sipush 360, 3) := by decide +kernel
theorem dX0_init_45 : decode cX0_init 45 = .ok (.putfield 26, 3) := by decide +kernel
theorem dX0_init_48 : decode cX0_init 48 = .ok (.aload_n 0, 1) := by decide +kernel
theorem dX0_init_49 : decode cX0_init 49 = .ok (.bipush 10, 2) := by decide +kernel
theorem dX0_init_51 : decode cX0_init 51 = .ok (.putfield 29, 3) := by decide +kernel
theorem dX0_init_54 : decode cX0_init 54 = .ok (.return_, 1) := by decide +kernel
set_option maxRecDepth 20000 in
theorem ggX0_wheel_X0_isOutside : GoodIn wsX0_wheel wsX0_isOutside := goodIn_r _ [5] (by decide +kernel) (by decide +kernel)
set_option maxRecDepth 20000 in
theorem gX0_wheel_X0_isOutside : GoodIn wsX0_wheel (va_wsS RX0 32 yX0_isOutside wsX0_isOutside) := goodIn_app (goodIn_of _ (by decide +kernel)) ggX0_wheel_X0_isOutside
theorem dX0_wheel_0 : decode cX0_wheel 0 = .ok (.iload_n 1, 1) := by decide +kernel
theorem dX0_wheel_1 : decode cX0_wheel 1 = .ok (.bipush 10, 2) := by decide +kernel
theorem dX0_wheel_3 : decode cX0_wheel 3 = .ok (.sipush 200, 3) := by decide +kernel
theorem dX0_wheel_6 : decode cX0_wheel 6 = .ok (.invokestatic 32, 3) := by decide +kernel
theorem dX0_wheel_9 : decode cX0_wheel 9 = .ok (.ifCond .eq 6, 3) := by decide +kernel
theorem dX0_wheel_12 : decode cX0_wheel 12 = .ok (.bipush (-2), 2) := by decide +kernel
theorem dX0_wheel_14 : decode cX0_wheel 14 = .ok (.ireturn, 1) := by decide +kernel
theorem dX0_wheel_15 : decode cX0_wheel 15 = .ok (.aload_n 0, 1) := by decide +kernel
theorem dX0_wheel_16 : decode cX0_wheel 16 = .ok (.getfield 22, 3) := by decide +kernel
theorem dX0_wheel_19 : decode cX0_wheel 19 = .ok (.istore_n 2, 1) := by decide +kernel
theorem dX0_wheel_20 : decode cX0_wheel 20 = .ok (.aload_n 0, 1) := by decide +kernel
theorem dX0_wheel_21 : decode cX0_wheel 21 = .ok (.iload_n 1, 1) := by decide +kernel
theorem dX0_wheel_22 : decode cX0_wheel 22 = .ok (.putfield 22, 3) := by decide +kernel
theorem dX0_wheel_25 : decode cX0_wheel 25 = .ok (.iload_n 2, 1) := by decide +kernel
theorem dX0_wheel_26 : decode cX0_wheel 26 = .ok (.ireturn, 1) := by decide +kernel
set_option maxRecDepth 20000 in
theorem ggX0_circle_X0_isOutside : GoodIn wsX0_circle wsX0_isOutside := goodIn_r _ [6] (by decide +kernel) (by decide +kernel)
set_option maxRecDepth 20000 in
theorem gX0_circle_X0_isOutside : GoodIn wsX0_circle (va_wsS RX0 32 yX0_isOutside wsX0_isOutside) := goodIn_app (goodIn_of _ (by decide +kernel)) ggX0_circle_X0_isOutside
set_option maxRecDepth 20000 in
theorem ggX0_circle_X0_hasCircleOf : GoodIn wsX0_circle wsX0_hasCircleOf := goodIn_r _ [10, 1, 2, 11, 12, 13, 14, 15, 16, 17, 18, 19] (by decide +kernel) (by decide +kernel)
set_option maxRecDepth 20000 in
theorem gX0_circle_X0_hasCircleOf : GoodIn wsX0_circle (wsV RX0 39 RX0 yX0_hasCircleOf wsX0_hasCircleOf) := goodIn_app (goodIn_of _ (by decide +kernel)) ggX0_circle_X0_hasCircleOf
theorem dX0_circle_0 : decode cX0_circle 0 = .ok (.iload_n 1, 1) := by decide +kernel
theorem dX0_circle_1 : decode cX0_circle 1 = .ok (.iconst 5, 1) := by decide +kernel
theorem dX0_circle_2 : decode cX0_circle 2 = .ok (.bipush 120, 2) := by decide +kernel
theorem dX0_circle_4 : decode cX0_circle 4 = .ok (.invokestatic 32, 3) := by decide +kernel
theorem dX0_circle_7 : decode cX0_circle 7 = .ok (.ifCond .eq 6, 3) := by decide +kernel
theorem dX0_circle_10 : decode cX0_circle 10 = .ok (.bipush (-2), 2) := by decide +kernel
theorem dX0_circle_12 : decode cX0_circle 12 = .ok (.ireturn, 1) := by decide +kernel
theorem dX0_circle_13 : decode cX0_circle 13 = .ok (.aload_n 0, 1) := by decide +kernel
theorem dX0_circle_14 : decode cX0_circle 14 = .ok (.getfield 36, 3) := by decide +kernel
theorem dX0_circle_17 : decode cX0_circle 17 = .ok (.bipush 8, 2) := by decide +kernel
theorem dX0_circle_19 : decode cX0_circle 19 = .ok (.if_icmp .lt 6, 3) := by decide +kernel
theorem dX0_circle_22 : decode cX0_circle 22 = .ok (.bipush (-4), 2) := by decide +kernel
theorem dX0_circle_24 : decode cX0_circle 24 = .ok (.ireturn, 1) := by decide +kernel
theorem dX0_circle_25 : decode cX0_circle 25 = .ok (.aload_n 0, 1) := by decide +kernel
theorem dX0_circle_26 : decode cX0_circle 26 = .ok (.iload_n 1, 1) := by decide +kernel
theorem dX0_circle_27 : decode cX0_circle 27 = .ok (.invokevirtual 39, 3) := by decide +kernel
theorem dX0_circle_30 : decode cX0_circle 30 = .ok (.ifCond .eq 6, 3) := by decide +kernel
theorem dX0_circle_33 : decode cX0_circle 33 = .ok (.bipush (-5), 2) := by decide +kernel
theorem dX0_circle_35 : decode cX0_circle 35 = .ok (.ireturn, 1) := by decide +kernel
theorem dX0_circle_36 : decode cX0_circle 36 = .ok (.aload_n 0, 1) := by decide +kernel
theorem dX0_circle_37 : decode cX0_circle 37 = .ok (.getfield 9, 3) := by decide +kernel
theorem dX0_circle_40 : decode cX0_circle 40 = .ok (.aload_n 0, 1) := by decide +kernel
theorem dX0_circle_41 : decode cX0_circle 41 = .ok (.getfield 36, 3) := by decide +kernel
theorem dX0_circle_44 : decode cX0_circle 44 = .ok (.iload_n 1, 1) := by decide +kernel
theorem dX0_circle_45 : decode cX0_circle 45 = .ok (.iastore, 1) := by decide +kernel
theorem dX0_circle_46 : decode cX0_circle 46 = .ok (.aload_n 0, 1) := by decide +kernel
theorem dX0_circle_47 : decode cX0_circle 47 = .ok (.dup, 1) := by decide +kernel
theorem dX0_circle_48 : decode cX0_circle 48 = .ok (.getfield 36, 3) := by decide +kernel
theorem dX0_circle_51 : decode cX0_circle 51 = .ok (.iconst 1, 1) := by decide +kernel
theorem dX0_circle_52 : decode cX0_circle 52 = .ok (.iadd, 1) := by decide +kernel
theorem dX0_circle_53 : decode cX0_circle 53 = .ok (.putfield 36, 3) := by decide +kernel
theorem dX0_circle_56 : decode cX0_circle 56 = .ok (.aload_n 0, 1) := by decide +kernel
theorem dX0_circle_57 : decode cX0_circle 57 = .ok (.getfield 36, 3) := by decide +kernel
theorem dX0_circle_60 : decode cX0_circle 60 = .ok (.iconst 1, 1) := by decide +kernel
theorem dX0_circle_61 : decode cX0_circle 61 = .ok (.isub, 1) := by decide +kernel
theorem dX0_circle_62 : decode cX0_circle 62 = .ok (.ireturn, 1) := by decide +kernel
set_option maxRecDepth 20000 in
theorem ggX0_holes_X0_holesAt : GoodIn wsX0_holes wsX0_holesAt := goodIn_r _ [5, 6, 7, 8, 9, 10, 11, 12, 13, 14, 15, 16] (by decide +kernel) (by decide +kernel)
set_option maxRecDepth 20000 in
theorem gX0_holes_X0_holesAt : GoodIn wsX0_holes (wsV RX0 43 RX0 yX0_holesAt wsX0_holesAt) := goodIn_app (goodIn_of _ (by decide +kernel)) ggX0_holes_X0_holesAt
theorem dX0_holes_0 : decode cX0_holes 0 = .ok (.aload_n 0, 1) := by decide +kernel
theorem dX0_holes_1 : decode cX0_holes 1 = .ok (.iload_n 1, 1) := by decide +kernel
theorem dX0_holes_2 : decode cX0_holes 2 = .ok (.invokevirtual 43, 3) := by decide +kernel
theorem dX0_holes_5 : decode cX0_holes 5 = .ok (.istore_n 2, 1) := by decide +kernel
theorem dX0_holes_6 : decode cX0_holes 6 = .ok (.iload_n 2, 1) := by decide +kernel
theorem dX0_holes_7 : decode cX0_holes 7 = .ok (.ifCond .ne 7, 3) := by decide +kernel
theorem dX0_holes_10 : decode cX0_holes 10 = .ok (.iconst (-1), 1) := by decide +kernel
theorem dX0_holes_11 : decode cX0_holes 11 = .ok (.goto 4, 3) := by decide +kernel
theorem dX0_holes_14 : decode cX0_holes 14 = .ok (.iload_n 2, 1) := by decide +kernel
theorem dX0_holes_15 : decode cX0_holes 15 = .ok (.ireturn, 1) := by decide +kernel
set_option maxRecDepth 20000 in
theorem ggX0_gear_X0_isOutside : GoodIn wsX0_gear wsX0_isOutside := goodIn_r _ [6] (by decide +kernel) (by decide +kernel)
set_option maxRecDepth 20000 in
theorem gX0_gear_X0_isOutside : GoodIn wsX0_gear (va_wsS RX0 32 yX0_isOutside wsX0_isOutside) := goodIn_app (goodIn_of _ (by decide +kernel)) ggX0_gear_X0_isOutside
theorem dX0_gear_0 : decode cX0_gear 0 = .ok (.iload_n 1, 1) := by decide +kernel
theorem dX0_gear_1 : decode cX0_gear 1 = .ok (.bipush 12, 2) := by decide +kernel
theorem dX0_gear_3 : decode cX0_gear 3 = .ok (.bipush 120, 2) := by decide +kernel
theorem dX0_gear_5 : decode cX0_gear 5 = .ok (.invokestatic 32, 3) := by decide +kernel
theorem dX0_gear_8 : decode cX0_gear 8 = .ok (.ifCond .eq 6, 3) := by decide +kernel
theorem dX0_gear_11 : decode cX0_gear 11 = .ok (.bipush (-2), 2) := by decide +kernel
theorem dX0_gear_13 : decode cX0_gear 13 = .ok (.ireturn, 1) := by decide +kernel
theorem dX0_gear_14 : decode cX0_gear 14 = .ok (.aload_n 0, 1) := by decide +kernel
theorem dX0_gear_15 : decode cX0_gear 15 = .ok (.getfield 47, 3) := by decide +kernel
theorem dX0_gear_18 : decode cX0_gear 18 = .ok (.bipush 10, 2) := by decide +kernel
theorem dX0_gear_20 : decode cX0_gear 20 = .ok (.if_icmp .lt 6, 3) := by decide +kernel
theorem dX0_gear_23 : decode cX0_gear 23 = .ok (.bipush (-4), 2) := by decide +kernel
theorem dX0_gear_25 : decode cX0_gear 25 = .ok (.ireturn, 1) := by decide +kernel
theorem dX0_gear_26 : decode cX0_gear 26 = .ok (.aload_n 0, 1) := by decide +kernel
theorem dX0_gear_27 : decode cX0_gear 27 = .ok (.getfield 13, 3) := by decide +kernel
theorem dX0_gear_30 : decode cX0_gear 30 = .ok (.aload_n 0, 1) := by decide +kernel
theorem dX0_gear_31 : decode cX0_gear 31 = .ok (.getfield 47, 3) := by decide +kernel
theorem dX0_gear_34 : decode cX0_gear 34 = .ok (.iload_n 1, 1) := by decide +kernel
theorem dX0_gear_35 : decode cX0_gear 35 = .ok (.iastore, 1) := by decide +kernel
theorem dX0_gear_36 : decode cX0_gear 36 = .ok (.aload_n 0, 1) := by decide +kernel
theorem dX0_gear_37 : decode cX0_gear 37 = .ok (.dup, 1) := by decide +kernel
theorem dX0_gear_38 : decode cX0_gear 38 = .ok (.getfield 47, 3) := by decide +kernel
theorem dX0_gear_41 : decode cX0_gear 41 = .ok (.iconst 1, 1) := by decide +kernel
theorem dX0_gear_42 : decode cX0_gear 42 = .ok (.iadd, 1) := by decide +kernel
theorem dX0_gear_43 : decode cX0_gear 43 = .ok (.putfield 47, 3) := by decide +kernel
theorem dX0_gear_46 : decode cX0_gear 46 = .ok (.aload_n 0, 1) := by decide +kernel
theorem dX0_gear_47 : decode cX0_gear 47 = .ok (.getfield 47, 3) := by decide +kernel
theorem dX0_gear_50 : decode cX0_gear 50 = .ok (.iconst 1, 1) := by decide +kernel
theorem dX0_gear_51 : decode cX0_gear 51 = .ok (.isub, 1) := by decide +kernel
theorem dX0_gear_52 : decode cX0_gear 52 = .ok (.ireturn, 1) := by decide +kernel
theorem dX0_teeth_0 : decode cX0_teeth 0 = .ok (.iload_n 1, 1) := by decide +kernel
theorem dX0_teeth_1 : decode cX0_teeth 1 = .ok (.ifCond .lt 11, 3) := by decide +kernel
theorem dX0_teeth_4 : decode cX0_teeth 4 = .ok (.iload_n 1, 1) := by decide +kernel
theorem dX0_teeth_5 : decode cX0_teeth 5 = .ok (.aload_n 0, 1) := by decide +kernel
theorem dX0_teeth_6 : decode cX0_teeth 6 = .ok (.getfield 47, 3) := by decide +kernel
theorem dX0_teeth_9 : decode cX0_teeth 9 = .ok (.if_icmp .lt 7, 3) := by decide +kernel
theorem dX0_teeth_12 : decode cX0_teeth 12 = .ok (.iconst (-1), 1) := by decide +kernel
theorem dX0_teeth_13 : decode cX0_teeth 13 = .ok (.goto 9, 3) := by decide +kernel
theorem dX0_teeth_16 : decode cX0_teeth 16 = .ok (.aload_n 0, 1) := by decide +kernel
theorem dX0_teeth_17 : decode cX0_teeth 17 = .ok (.getfield 13, 3) := by decide +kernel
theorem dX0_teeth_20 : decode cX0_teeth 20 = .ok (.iload_n 1, 1) := by decide +kernel
theorem dX0_teeth_21 : decode cX0_teeth 21 = .ok (.iaload, 1) := by decide +kernel
theorem dX0_teeth_22 : decode cX0_teeth 22 = .ok (.ireturn, 1) := by decide +kernel
set_option maxRecDepth 20000 in
theorem ggX0_plain_X0_isNoNumberOfParts : GoodIn wsX0_plain wsX0_isNoNumberOfParts := goodIn_r _ [5, 6, 7, 4, 8] (by decide +kernel) (by decide +kernel)
set_option maxRecDepth 20000 in
theorem gX0_plain_X0_isNoNumberOfParts : GoodIn wsX0_plain (va_wsS RX0 50 yX0_isNoNumberOfParts wsX0_isNoNumberOfParts) := goodIn_app (goodIn_of _ (by decide +kernel)) ggX0_plain_X0_isNoNumberOfParts
set_option maxRecDepth 20000 in
theorem ggX0_plain_X0_isOutside : GoodIn wsX0_plain wsX0_isOutside := goodIn_r _ [8] (by decide +kernel) (by decide +kernel)
set_option maxRecDepth 20000 in
theorem gX0_plain_X0_isOutside : GoodIn wsX0_plain (va_wsS RX0 32 yX0_isOutside wsX0_isOutside) := goodIn_app (goodIn_of _ (by decide +kernel)) ggX0_plain_X0_isOutside
set_option maxRecDepth 20000 in
theorem ggX0_plain_X0_plainCircle : GoodIn wsX0_plain wsX0_plainCircle := goodIn_r _ [12, 13, 1, 14, 15, 16, 4, 17, 22, 23, 24, 25, 26, 27, 28, 29, 30] (by decide +kernel) (by decide +kernel)
set_option maxRecDepth 20000 in
theorem gX0_plain_X0_plainCircle : GoodIn wsX0_plain (wsV RX0 53 RX0 yX0_plainCircle wsX0_plainCircle) := goodIn_app (goodIn_of _ (by decide +kernel)) ggX0_plain_X0_plainCircle
set_option maxRecDepth 20000 in
theorem ggX0_plain_X0_holesAt : GoodIn wsX0_plain wsX0_holesAt := goodIn_r _ [21, 13, 14, 22, 23, 24, 25, 26, 27, 28, 29, 30] (by decide +kernel) (by decide +kernel)
set_option maxRecDepth 20000 in
theorem gX0_plain_X0_holesAt : GoodIn wsX0_plain (wsV RX0 43 RX0 yX0_holesAt wsX0_holesAt) := goodIn_app (goodIn_of _ (by decide +kernel)) ggX0_plain_X0_holesAt
theorem dX0_plain_0 : decode cX0_plain 0 = .ok (.iload_n 1, 1) := by decide +kernel
theorem dX0_plain_1 : decode cX0_plain 1 = .ok (.invokestatic 50, 3) := by decide +kernel
theorem dX0_plain_4 : decode cX0_plain 4 = .ok (.ifCond .ne 12, 3) := by decide +kernel
theorem dX0_plain_7 : decode cX0_plain 7 = .ok (.iload_n 2, 1) := by decide +kernel
theorem dX0_plain_8 : decode cX0_plain 8 = .ok (.iconst 0, 1) := by decide +kernel
theorem dX0_plain_9 : decode cX0_plain 9 = .ok (.iconst 2, 1) := by decide +kernel
theorem dX0_plain_10 : decode cX0_plain 10 = .ok (.invokestatic 32, 3) := by decide +kernel
theorem dX0_plain_13 : decode cX0_plain 13 = .ok (.ifCond .eq 6, 3) := by decide +kernel
theorem dX0_plain_16 : decode cX0_plain 16 = .ok (.bipush (-2), 2) := by decide +kernel
theorem dX0_plain_18 : decode cX0_plain 18 = .ok (.ireturn, 1) := by decide +kernel
theorem dX0_plain_19 : decode cX0_plain 19 = .ok (.aload_n 0, 1) := by decide +kernel
theorem dX0_plain_20 : decode cX0_plain 20 = .ok (.iload_n 1, 1) := by decide +kernel
theorem dX0_plain_21 : decode cX0_plain 21 = .ok (.invokevirtual 53, 3) := by decide +kernel
theorem dX0_plain_24 : decode cX0_plain 24 = .ok (.istore_n 3, 1) := by decide +kernel
theorem dX0_plain_25 : decode cX0_plain 25 = .ok (.iload_n 2, 1) := by decide +kernel
theorem dX0_plain_26 : decode cX0_plain 26 = .ok (.ifCond .eq 9, 3) := by decide +kernel
theorem dX0_plain_29 : decode cX0_plain 29 = .ok (.iload_n 3, 1) := by decide +kernel
theorem dX0_plain_30 : decode cX0_plain 30 = .ok (.bipush (-6), 2) := by decide +kernel
theorem dX0_plain_32 : decode cX0_plain 32 = .ok (.if_icmp .ne 5, 3) := by decide +kernel
theorem dX0_plain_35 : decode cX0_plain 35 = .ok (.iload_n 3, 1) := by decide +kernel
theorem dX0_plain_36 : decode cX0_plain 36 = .ok (.ireturn, 1) := by decide +kernel
theorem dX0_plain_37 : decode cX0_plain 37 = .ok (.iload_n 2, 1) := by decide +kernel
theorem dX0_plain_38 : decode cX0_plain 38 = .ok (.iconst 1, 1) := by decide +kernel
theorem dX0_plain_39 : decode cX0_plain 39 = .ok (.if_icmp .ne 12, 3) := by decide +kernel
theorem dX0_plain_42 : decode cX0_plain 42 = .ok (.aload_n 0, 1) := by decide +kernel
theorem dX0_plain_43 : decode cX0_plain 43 = .ok (.getfield 22, 3) := by decide +kernel
theorem dX0_plain_46 : decode cX0_plain 46 = .ok (.iload_n 1, 1) := by decide +kernel
theorem dX0_plain_47 : decode cX0_plain 47 = .ok (.idiv, 1) := by decide +kernel
theorem dX0_plain_48 : decode cX0_plain 48 = .ok (.goto 17, 3) := by decide +kernel
theorem dX0_plain_51 : decode cX0_plain 51 = .ok (.aload_n 0, 1) := by decide +kernel
theorem dX0_plain_52 : decode cX0_plain 52 = .ok (.getfield 22, 3) := by decide +kernel
theorem dX0_plain_55 : decode cX0_plain 55 = .ok (.iload_n 1, 1) := by decide +kernel
theorem dX0_plain_56 : decode cX0_plain 56 = .ok (.irem, 1) := by decide +kernel
theorem dX0_plain_57 : decode cX0_plain 57 = .ok (.aload_n 0, 1) := by decide +kernel
theorem dX0_plain_58 : decode cX0_plain 58 = .ok (.iload_n 3, 1) := by decide +kernel
theorem dX0_plain_59 : decode cX0_plain 59 = .ok (.invokevirtual 43, 3) := by decide +kernel
theorem dX0_plain_62 : decode cX0_plain 62 = .ok (.imul, 1) := by decide +kernel
theorem dX0_plain_63 : decode cX0_plain 63 = .ok (.iload_n 1, 1) := by decide +kernel
theorem dX0_plain_64 : decode cX0_plain 64 = .ok (.idiv, 1) := by decide +kernel
theorem dX0_plain_65 : decode cX0_plain 65 = .ok (.ireturn, 1) := by decide +kernel
set_option maxRecDepth 20000 in
theorem ggX0_compound_X0_isNoNumberOfParts : GoodIn wsX0_compound wsX0_isNoNumberOfParts := goodIn_r _ [8, 9, 10, 7, 11] (by decide +kernel) (by decide +kernel)
set_option maxRecDepth 20000 in
theorem gX0_compound_X0_isNoNumberOfParts : GoodIn wsX0_compound (va_wsS RX0 50 yX0_isNoNumberOfParts wsX0_isNoNumberOfParts) := goodIn_app (goodIn_of _ (by decide +kernel)) ggX0_compound_X0_isNoNumberOfParts
set_option maxRecDepth 20000 in
theorem ggX0_compound_X0_isOutside : GoodIn wsX0_compound wsX0_isOutside := goodIn_r _ [11] (by decide +kernel) (by decide +kernel)
set_option maxRecDepth 20000 in
theorem gX0_compound_X0_isOutside : GoodIn wsX0_compound (va_wsS RX0 32 yX0_isOutside wsX0_isOutside) := goodIn_app (goodIn_of _ (by decide +kernel)) ggX0_compound_X0_isOutside
set_option maxRecDepth 20000 in
theorem ggX0_compound_X0_secondStep : GoodIn wsX0_compound wsX0_secondStep := goodIn_r _ [15, 16, 17, 18, 7, 19, 20, 21, 22, 23, 28, 29, 30, 31, 32, 33, 34, 35, 36] (by decide +kernel) (by decide +kernel)
set_option maxRecDepth 20000 in
theorem gX0_compound_X0_secondStep : GoodIn wsX0_compound (wsV RX0 57 RX0 yX0_secondStep wsX0_secondStep) := goodIn_app (goodIn_of _ (by decide +kernel)) ggX0_compound_X0_secondStep
set_option maxRecDepth 20000 in
theorem ggX0_compound_X0_compoundTerm : GoodIn wsX0_compound wsX0_compoundTerm := goodIn_r _ [27, 3, 16, 17, 18, 7, 19, 20, 21, 22, 23, 28, 29, 30, 31, 32, 33, 34, 35, 36] (by decide +kernel) (by decide +kernel)
set_option maxRecDepth 20000 in
theorem gX0_compound_X0_compoundTerm : GoodIn wsX0_compound (wsV RX0 61 RX0 yX0_compoundTerm wsX0_compoundTerm) := goodIn_app (goodIn_of _ (by decide +kernel)) ggX0_compound_X0_compoundTerm
theorem dX0_compound_0 : decode cX0_compound 0 = .ok (.iload_n 1, 1) := by decide +kernel
theorem dX0_compound_1 : decode cX0_compound 1 = .ok (.invokestatic 50, 3) := by decide +kernel
theorem dX0_compound_4 : decode cX0_compound 4 = .ok (.ifCond .ne 12, 3) := by decide +kernel
theorem dX0_compound_7 : decode cX0_compound 7 = .ok (.iload_n 2, 1) := by decide +kernel
theorem dX0_compound_8 : decode cX0_compound 8 = .ok (.iconst 0, 1) := by decide +kernel
theorem dX0_compound_9 : decode cX0_compound 9 = .ok (.iconst 3, 1) := by decide +kernel
theorem dX0_compound_10 : decode cX0_compound 10 = .ok (.invokestatic 32, 3) := by decide +kernel
theorem dX0_compound_13 : decode cX0_compound 13 = .ok (.ifCond .eq 6, 3) := by decide +kernel
theorem dX0_compound_16 : decode cX0_compound 16 = .ok (.ldc 56, 2) := by decide +kernel
theorem dX0_compound_18 : decode cX0_compound 18 = .ok (.ireturn, 1) := by decide +kernel
theorem dX0_compound_19 : decode cX0_compound 19 = .ok (.iconst 0, 1) := by decide +kernel
theorem dX0_compound_20 : decode cX0_compound 20 = .ok (.istore_n 3, 1) := by decide +kernel
theorem dX0_compound_21 : decode cX0_compound 21 = .ok (.iload_n 3, 1) := by decide +kernel
theorem dX0_compound_22 : decode cX0_compound 22 = .ok (.aload_n 0, 1) := by decide +kernel
theorem dX0_compound_23 : decode cX0_compound 23 = .ok (.getfield 36, 3) := by decide +kernel
theorem dX0_compound_26 : decode cX0_compound 26 = .ok (.if_icmp .ge 66, 3) := by decide +kernel
theorem dX0_compound_29 : decode cX0_compound 29 = .ok (.iload_n 3, 1) := by decide +kernel
theorem dX0_compound_30 : decode cX0_compound 30 = .ok (.iconst 1, 1) := by decide +kernel
theorem dX0_compound_31 : decode cX0_compound 31 = .ok (.iadd, 1) := by decide +kernel
theorem dX0_compound_32 : decode cX0_compound 32 = .ok (.istore 4, 2) := by decide +kernel
theorem dX0_compound_34 : decode cX0_compound 34 = .ok (.iload 4, 2) := by decide +kernel
theorem dX0_compound_36 : decode cX0_compound 36 = .ok (.aload_n 0, 1) := by decide +kernel
theorem dX0_compound_37 : decode cX0_compound 37 = .ok (.getfield 36, 3) := by decide +kernel
theorem dX0_compound_40 : decode cX0_compound 40 = .ok (.if_icmp .ge 46, 3) := by decide +kernel
theorem dX0_compound_43 : decode cX0_compound 43 = .ok (.aload_n 0, 1) := by decide +kernel
theorem dX0_compound_44 : decode cX0_compound 44 = .ok (.aload_n 0, 1) := by decide +kernel
theorem dX0_compound_45 : decode cX0_compound 45 = .ok (.getfield 9, 3) := by decide +kernel
theorem dX0_compound_48 : decode cX0_compound 48 = .ok (.iload_n 3, 1) := by decide +kernel
theorem dX0_compound_49 : decode cX0_compound 49 = .ok (.iaload, 1) := by decide +kernel
theorem dX0_compound_50 : decode cX0_compound 50 = .ok (.aload_n 0, 1) := by decide +kernel
theorem dX0_compound_51 : decode cX0_compound 51 = .ok (.getfield 9, 3) := by decide +kernel
theorem dX0_compound_54 : decode cX0_compound 54 = .ok (.iload 4, 2) := by decide +kernel
theorem dX0_compound_56 : decode cX0_compound 56 = .ok (.iaload, 1) := by decide +kernel
theorem dX0_compound_57 : decode cX0_compound 57 = .ok (.iload_n 1, 1) := by decide +kernel
theorem dX0_compound_58 : decode cX0_compound 58 = .ok (.invokevirtual 57, 3) := by decide +kernel
theorem dX0_compound_61 : decode cX0_compound 61 = .ok (.istore 5, 2) := by decide +kernel
theorem dX0_compound_63 : decode cX0_compound 63 = .ok (.iload 5, 2) := by decide +kernel
theorem dX0_compound_65 : decode cX0_compound 65 = .ok (.ifCond .eq 15, 3) := by decide +kernel
theorem dX0_compound_68 : decode cX0_compound 68 = .ok (.aload_n 0, 1) := by decide +kernel
theorem dX0_compound_69 : decode cX0_compound 69 = .ok (.iload_n 3, 1) := by decide +kernel
theorem dX0_compound_70 : decode cX0_compound 70 = .ok (.iload 4, 2) := by decide +kernel
theorem dX0_compound_72 : decode cX0_compound 72 = .ok (.iload_n 1, 1) := by decide +kernel
theorem dX0_compound_73 : decode cX0_compound 73 = .ok (.iload 5, 2) := by decide +kernel
theorem dX0_compound_75 : decode cX0_compound 75 = .ok (.iload_n 2, 1) := by decide +kernel
theorem dX0_compound_76 : decode cX0_compound 76 = .ok (.invokevirtual 61, 3) := by decide +kernel
theorem dX0_compound_79 : decode cX0_compound 79 = .ok (.ireturn, 1) := by decide +kernel
theorem dX0_compound_80 : decode cX0_compound 80 = .ok (.iinc 4 1, 3) := by decide +kernel
theorem dX0_compound_83 : decode cX0_compound 83 = .ok (.goto (-49), 3) := by decide +kernel
theorem dX0_compound_86 : decode cX0_compound 86 = .ok (.iinc 3 1, 3) := by decide +kernel
theorem dX0_compound_89 : decode cX0_compound 89 = .ok (.goto (-68), 3) := by decide +kernel
theorem dX0_compound_92 : decode cX0_compound 92 = .ok (.ldc 65, 2) := by decide +kernel
theorem dX0_compound_94 : decode cX0_compound 94 = .ok (.ireturn, 1) := by decide +kernel
set_option maxRecDepth 20000 in
theorem ggX0_differential_X0_isNoNumberOfParts : GoodIn wsX0_differential wsX0_isNoNumberOfParts := goodIn_r _ [5, 6, 7, 4, 8] (by decide +kernel) (by decide +kernel)
set_option maxRecDepth 20000 in
theorem gX0_differential_X0_isNoNumberOfParts : GoodIn wsX0_differential (va_wsS RX0 50 yX0_isNoNumberOfParts wsX0_isNoNumberOfParts) := goodIn_app (goodIn_of _ (by decide +kernel)) ggX0_differential_X0_isNoNumberOfParts
set_option maxRecDepth 20000 in
theorem ggX0_differential_X0_isOutside : GoodIn wsX0_differential wsX0_isOutside := goodIn_r _ [8] (by decide +kernel) (by decide +kernel)
set_option maxRecDepth 20000 in
theorem gX0_differential_X0_isOutside : GoodIn wsX0_differential (va_wsS RX0 32 yX0_isOutside wsX0_isOutside) := goodIn_app (goodIn_of _ (by decide +kernel)) ggX0_differential_X0_isOutside
set_option maxRecDepth 20000 in
theorem ggX0_differential_X0_partsBeside : GoodIn wsX0_differential wsX0_partsBeside := goodIn_r _ [12, 13, 14, 15, 4, 16, 17, 18, 19, 20, 21, 2, 3, 5, 6, 7, 8, 22, 23, 24, 25, 26, 27, 28, 29, 30, 31, 32, 33, 34, 35, 36, 37, 38, 39, 40, 41, 42, 43, 44, 45, 46, 47, 48, 1, 49, 50, 51, 52, 53, 54, 55, 56, 57, 58, 59, 60, 61, 62, 63, 64, 65] (by decide +kernel) (by decide +kernel)
set_option maxRecDepth 20000 in
theorem gX0_differential_X0_partsBeside : GoodIn wsX0_differential (wsV RX0 66 RX0 yX0_partsBeside wsX0_partsBeside) := goodIn_app (goodIn_of _ (by decide +kernel)) ggX0_differential_X0_partsBeside
set_option maxRecDepth 20000 in
theorem ggX0_differential_X0_plainCircle : GoodIn wsX0_differential wsX0_plainCircle := goodIn_r _ [25, 26, 21, 27, 28, 29, 4, 30, 57, 58, 59, 60, 61, 62, 63, 64, 65] (by decide +kernel) (by decide +kernel)
set_option maxRecDepth 20000 in
theorem gX0_differential_X0_plainCircle : GoodIn wsX0_differential (wsV RX0 53 RX0 yX0_plainCircle wsX0_plainCircle) := goodIn_app (goodIn_of _ (by decide +kernel)) ggX0_differential_X0_plainCircle
theorem dX0_differential_0 : decode cX0_differential 0 = .ok (.iload_n 1, 1) := by decide +kernel
theorem dX0_differential_1 : decode cX0_differential 1 = .ok (.invokestatic 50, 3) := by decide +kernel
theorem dX0_differential_4 : decode cX0_differential 4 = .ok (.ifCond .ne 13, 3) := by decide +kernel
theorem dX0_differential_7 : decode cX0_differential 7 = .ok (.iload_n 2, 1) := by decide +kernel
theorem dX0_differential_8 : decode cX0_differential 8 = .ok (.iconst 0, 1) := by decide +kernel
theorem dX0_differential_9 : decode cX0_differential 9 = .ok (.bipush 6, 2) := by decide +kernel
theorem dX0_differential_11 : decode cX0_differential 11 = .ok (.invokestatic 32, 3) := by decide +kernel
theorem dX0_differential_14 : decode cX0_differential 14 = .ok (.ifCond .eq 6, 3) := by decide +kernel
theorem dX0_differential_17 : decode cX0_differential 17 = .ok (.bipush (-2), 2) := by decide +kernel
theorem dX0_differential_19 : decode cX0_differential 19 = .ok (.ireturn, 1) := by decide +kernel
theorem dX0_differential_20 : decode cX0_differential 20 = .ok (.aload_n 0, 1) := by decide +kernel
theorem dX0_differential_21 : decode cX0_differential 21 = .ok (.iload_n 1, 1) := by decide +kernel
theorem dX0_differential_22 : decode cX0_differential 22 = .ok (.invokevirtual 66, 3) := by decide +kernel
theorem dX0_differential_25 : decode cX0_differential 25 = .ok (.istore_n 3, 1) := by decide +kernel
theorem dX0_differential_26 : decode cX0_differential 26 = .ok (.iload_n 2, 1) := by decide +kernel
theorem dX0_differential_27 : decode cX0_differential 27 = .ok (.ifCond .eq 9, 3) := by decide +kernel
theorem dX0_differential_30 : decode cX0_differential 30 = .ok (.iload_n 3, 1) := by decide +kernel
theorem dX0_differential_31 : decode cX0_differential 31 = .ok (.bipush (-6), 2) := by decide +kernel
theorem dX0_differential_33 : decode cX0_differential 33 = .ok (.if_icmp .ne 5, 3) := by decide +kernel
theorem dX0_differential_36 : decode cX0_differential 36 = .ok (.iload_n 3, 1) := by decide +kernel
theorem dX0_differential_37 : decode cX0_differential 37 = .ok (.ireturn, 1) := by decide +kernel
theorem dX0_differential_38 : decode cX0_differential 38 = .ok (.iload_n 2, 1) := by decide +kernel
theorem dX0_differential_39 : decode cX0_differential 39 = .ok (.iconst 1, 1) := by decide +kernel
theorem dX0_differential_40 : decode cX0_differential 40 = .ok (.if_icmp .ne 9, 3) := by decide +kernel
theorem dX0_differential_43 : decode cX0_differential 43 = .ok (.aload_n 0, 1) := by decide +kernel
theorem dX0_differential_44 : decode cX0_differential 44 = .ok (.iload_n 3, 1) := by decide +kernel
theorem dX0_differential_45 : decode cX0_differential 45 = .ok (.invokevirtual 53, 3) := by decide +kernel
theorem dX0_differential_48 : decode cX0_differential 48 = .ok (.ireturn, 1) := by decide +kernel
theorem dX0_differential_49 : decode cX0_differential 49 = .ok (.iload_n 2, 1) := by decide +kernel
theorem dX0_differential_50 : decode cX0_differential 50 = .ok (.bipush 6, 2) := by decide +kernel
theorem dX0_differential_52 : decode cX0_differential 52 = .ok (.if_icmp .ne 14, 3) := by decide +kernel
theorem dX0_differential_55 : decode cX0_differential 55 = .ok (.iload_n 3, 1) := by decide +kernel
theorem dX0_differential_56 : decode cX0_differential 56 = .ok (.iload_n 1, 1) := by decide +kernel
theorem dX0_differential_57 : decode cX0_differential 57 = .ok (.if_icmp .le 7, 3) := by decide +kernel
theorem dX0_differential_60 : decode cX0_differential 60 = .ok (.iconst 1, 1) := by decide +kernel
theorem dX0_differential_61 : decode cX0_differential 61 = .ok (.goto 4, 3) := by decide +kernel
theorem dX0_differential_64 : decode cX0_differential 64 = .ok (.iconst 0, 1) := by decide +kernel
theorem dX0_differential_65 : decode cX0_differential 65 = .ok (.ireturn, 1) := by decide +kernel
theorem dX0_differential_66 : decode cX0_differential 66 = .ok (.aload_n 0, 1) := by decide +kernel
theorem dX0_differential_67 : decode cX0_differential 67 = .ok (.getfield 19, 3) := by decide +kernel
theorem dX0_differential_70 : decode cX0_differential 70 = .ok (.iload_n 2, 1) := by decide +kernel
theorem dX0_differential_71 : decode cX0_differential 71 = .ok (.iconst 2, 1) := by decide +kernel
theorem dX0_differential_72 : decode cX0_differential 72 = .ok (.isub, 1) := by decide +kernel
theorem dX0_differential_73 : decode cX0_differential 73 = .ok (.iaload, 1) := by decide +kernel
theorem dX0_differential_74 : decode cX0_differential 74 = .ok (.ireturn, 1) := by decide +kernel
set_option maxRecDepth 20000 in
theorem ggX0_train_X0_isNoShare : GoodIn wsX0_train wsX0_isNoShare := goodIn_r _ [5, 6, 7, 8, 4, 9] (by decide +kernel) (by decide +kernel)
set_option maxRecDepth 20000 in
theorem gX0_train_X0_isNoShare : GoodIn wsX0_train (va_wsS RX0 69 yX0_isNoShare wsX0_isNoShare) := goodIn_app (goodIn_of _ (by decide +kernel)) ggX0_train_X0_isNoShare
set_option maxRecDepth 20000 in
theorem ggX0_train_X0_isOutside : GoodIn wsX0_train wsX0_isOutside := goodIn_r _ [9] (by decide +kernel) (by decide +kernel)
set_option maxRecDepth 20000 in
theorem gX0_train_X0_isOutside : GoodIn wsX0_train (va_wsS RX0 32 yX0_isOutside wsX0_isOutside) := goodIn_app (goodIn_of _ (by decide +kernel)) ggX0_train_X0_isOutside
set_option maxRecDepth 20000 in
theorem ggX0_train_X0_findTrain : GoodIn wsX0_train wsX0_findTrain := goodIn_r _ [13, 14, 15, 16, 4, 17, 18, 19, 20, 21, 22, 23, 24, 25, 26, 27, 28, 29, 30, 1, 31, 32, 33, 34, 35, 36, 37, 38, 39, 40, 41, 42, 43, 44, 45, 46, 47] (by decide +kernel) (by decide +kernel)
set_option maxRecDepth 20000 in
theorem gX0_train_X0_findTrain : GoodIn wsX0_train (wsV RX0 73 RX0 yX0_findTrain wsX0_findTrain) := goodIn_app (goodIn_of _ (by decide +kernel)) ggX0_train_X0_findTrain
theorem dX0_train_0 : decode cX0_train 0 = .ok (.iload_n 1, 1) := by decide +kernel
theorem dX0_train_1 : decode cX0_train 1 = .ok (.iload_n 2, 1) := by decide +kernel
theorem dX0_train_2 : decode cX0_train 2 = .ok (.invokestatic 69, 3) := by decide +kernel
theorem dX0_train_5 : decode cX0_train 5 = .ok (.ifCond .ne 12, 3) := by decide +kernel
theorem dX0_train_8 : decode cX0_train 8 = .ok (.iload_n 3, 1) := by decide +kernel
theorem dX0_train_9 : decode cX0_train 9 = .ok (.iconst 0, 1) := by decide +kernel
theorem dX0_train_10 : decode cX0_train 10 = .ok (.iconst 3, 1) := by decide +kernel
theorem dX0_train_11 : decode cX0_train 11 = .ok (.invokestatic 32, 3) := by decide +kernel
theorem dX0_train_14 : decode cX0_train 14 = .ok (.ifCond .eq 6, 3) := by decide +kernel
theorem dX0_train_17 : decode cX0_train 17 = .ok (.bipush (-2), 2) := by decide +kernel
theorem dX0_train_19 : decode cX0_train 19 = .ok (.ireturn, 1) := by decide +kernel
theorem dX0_train_20 : decode cX0_train 20 = .ok (.aload_n 0, 1) := by decide +kernel
theorem dX0_train_21 : decode cX0_train 21 = .ok (.iload_n 1, 1) := by decide +kernel
theorem dX0_train_22 : decode cX0_train 22 = .ok (.i2l, 1) := by decide +kernel
theorem dX0_train_23 : decode cX0_train 23 = .ok (.iload_n 2, 1) := by decide +kernel
theorem dX0_train_24 : decode cX0_train 24 = .ok (.i2l, 1) := by decide +kernel
theorem dX0_train_25 : decode cX0_train 25 = .ok (.invokevirtual 73, 3) := by decide +kernel
theorem dX0_train_28 : decode cX0_train 28 = .ok (.ifCond .eq 12, 3) := by decide +kernel
theorem dX0_train_31 : decode cX0_train 31 = .ok (.aload_n 0, 1) := by decide +kernel
theorem dX0_train_32 : decode cX0_train 32 = .ok (.getfield 19, 3) := by decide +kernel
theorem dX0_train_35 : decode cX0_train 35 = .ok (.iload_n 3, 1) := by decide +kernel
theorem dX0_train_36 : decode cX0_train 36 = .ok (.iaload, 1) := by decide +kernel
theorem dX0_train_37 : decode cX0_train 37 = .ok (.goto 5, 3) := by decide +kernel
theorem dX0_train_40 : decode cX0_train 40 = .ok (.bipush (-6), 2) := by decide +kernel
theorem dX0_train_42 : decode cX0_train 42 = .ok (.ireturn, 1) := by decide +kernel
set_option maxRecDepth 20000 in
theorem ggX0_hole_X0_holesAt : GoodIn wsX0_hole wsX0_holesAt := goodIn_r _ [5, 6, 7, 23, 24, 25, 26, 27, 28, 29, 30, 31] (by decide +kernel) (by decide +kernel)
set_option maxRecDepth 20000 in
theorem gX0_hole_X0_holesAt : GoodIn wsX0_hole (wsV RX0 43 RX0 yX0_holesAt wsX0_holesAt) := goodIn_app (goodIn_of _ (by decide +kernel)) ggX0_hole_X0_holesAt
set_option maxRecDepth 20000 in
theorem ggX0_hole_X0_isNoNumberOfParts : GoodIn wsX0_hole wsX0_isNoNumberOfParts := goodIn_r _ [10, 11, 12, 4, 13] (by decide +kernel) (by decide +kernel)
set_option maxRecDepth 20000 in
theorem gX0_hole_X0_isNoNumberOfParts : GoodIn wsX0_hole (va_wsS RX0 50 yX0_isNoNumberOfParts wsX0_isNoNumberOfParts) := goodIn_app (goodIn_of _ (by decide +kernel)) ggX0_hole_X0_isNoNumberOfParts
set_option maxRecDepth 20000 in
theorem ggX0_hole_X0_isOutside : GoodIn wsX0_hole wsX0_isOutside := goodIn_r _ [13] (by decide +kernel) (by decide +kernel)
set_option maxRecDepth 20000 in
theorem gX0_hole_X0_isOutside : GoodIn wsX0_hole (va_wsS RX0 32 yX0_isOutside wsX0_isOutside) := goodIn_app (goodIn_of _ (by decide +kernel)) ggX0_hole_X0_isOutside
set_option maxRecDepth 20000 in
theorem ggX0_hole_X0_nearestHole : GoodIn wsX0_hole wsX0_nearestHole := goodIn_r _ [17, 18, 19, 20, 4, 21, 22, 23, 24, 25, 26, 27, 28, 29, 30, 31] (by decide +kernel) (by decide +kernel)
set_option maxRecDepth 20000 in
theorem gX0_hole_X0_nearestHole : GoodIn wsX0_hole (wsV RX0 77 RX0 yX0_nearestHole wsX0_nearestHole) := goodIn_app (goodIn_of _ (by decide +kernel)) ggX0_hole_X0_nearestHole
theorem dX0_hole_0 : decode cX0_hole 0 = .ok (.aload_n 0, 1) := by decide +kernel
theorem dX0_hole_1 : decode cX0_hole 1 = .ok (.iload_n 1, 1) := by decide +kernel
theorem dX0_hole_2 : decode cX0_hole 2 = .ok (.invokevirtual 43, 3) := by decide +kernel
theorem dX0_hole_5 : decode cX0_hole 5 = .ok (.istore 4, 2) := by decide +kernel
theorem dX0_hole_7 : decode cX0_hole 7 = .ok (.iload 4, 2) := by decide +kernel
theorem dX0_hole_9 : decode cX0_hole 9 = .ok (.ifCond .ne 5, 3) := by decide +kernel
theorem dX0_hole_12 : decode cX0_hole 12 = .ok (.iconst (-1), 1) := by decide +kernel
theorem dX0_hole_13 : decode cX0_hole 13 = .ok (.ireturn, 1) := by decide +kernel
theorem dX0_hole_14 : decode cX0_hole 14 = .ok (.iload_n 2, 1) := by decide +kernel
theorem dX0_hole_15 : decode cX0_hole 15 = .ok (.invokestatic 50, 3) := by decide +kernel
theorem dX0_hole_18 : decode cX0_hole 18 = .ok (.ifCond .ne 12, 3) := by decide +kernel
theorem dX0_hole_21 : decode cX0_hole 21 = .ok (.iload_n 3, 1) := by decide +kernel
theorem dX0_hole_22 : decode cX0_hole 22 = .ok (.iconst 0, 1) := by decide +kernel
theorem dX0_hole_23 : decode cX0_hole 23 = .ok (.iload_n 2, 1) := by decide +kernel
theorem dX0_hole_24 : decode cX0_hole 24 = .ok (.invokestatic 32, 3) := by decide +kernel
theorem dX0_hole_27 : decode cX0_hole 27 = .ok (.ifCond .eq 6, 3) := by decide +kernel
theorem dX0_hole_30 : decode cX0_hole 30 = .ok (.bipush (-2), 2) := by decide +kernel
theorem dX0_hole_32 : decode cX0_hole 32 = .ok (.ireturn, 1) := by decide +kernel
theorem dX0_hole_33 : decode cX0_hole 33 = .ok (.aload_n 0, 1) := by decide +kernel
theorem dX0_hole_34 : decode cX0_hole 34 = .ok (.iload 4, 2) := by decide +kernel
theorem dX0_hole_36 : decode cX0_hole 36 = .ok (.iload_n 2, 1) := by decide +kernel
theorem dX0_hole_37 : decode cX0_hole 37 = .ok (.iload_n 3, 1) := by decide +kernel
theorem dX0_hole_38 : decode cX0_hole 38 = .ok (.invokevirtual 77, 3) := by decide +kernel
theorem dX0_hole_41 : decode cX0_hole 41 = .ok (.ireturn, 1) := by decide +kernel
set_option maxRecDepth 20000 in
theorem ggX0_miss_X0_holesAt : GoodIn wsX0_miss wsX0_holesAt := goodIn_r _ [7, 8, 9, 39, 40, 41, 42, 43, 44, 45, 46, 47] (by decide +kernel) (by decide +kernel)
set_option maxRecDepth 20000 in
theorem gX0_miss_X0_holesAt : GoodIn wsX0_miss (wsV RX0 43 RX0 yX0_holesAt wsX0_holesAt) := goodIn_app (goodIn_of _ (by decide +kernel)) ggX0_miss_X0_holesAt
set_option maxRecDepth 20000 in
theorem ggX0_miss_X0_isNoNumberOfParts : GoodIn wsX0_miss wsX0_isNoNumberOfParts := goodIn_r _ [12, 13, 14, 6, 15] (by decide +kernel) (by decide +kernel)
set_option maxRecDepth 20000 in
theorem gX0_miss_X0_isNoNumberOfParts : GoodIn wsX0_miss (va_wsS RX0 50 yX0_isNoNumberOfParts wsX0_isNoNumberOfParts) := goodIn_app (goodIn_of _ (by decide +kernel)) ggX0_miss_X0_isNoNumberOfParts
set_option maxRecDepth 20000 in
theorem ggX0_miss_X0_isOutside : GoodIn wsX0_miss wsX0_isOutside := goodIn_r _ [15] (by decide +kernel) (by decide +kernel)
set_option maxRecDepth 20000 in
theorem gX0_miss_X0_isOutside : GoodIn wsX0_miss (va_wsS RX0 32 yX0_isOutside wsX0_isOutside) := goodIn_app (goodIn_of _ (by decide +kernel)) ggX0_miss_X0_isOutside
set_option maxRecDepth 20000 in
theorem ggX0_miss_X0_missUpper : GoodIn wsX0_miss wsX0_missUpper := goodIn_r _ [19, 20, 21, 22, 23, 6, 24, 25, 26, 27, 28, 39, 40, 41, 42, 43, 44, 45, 46, 47] (by decide +kernel) (by decide +kernel)
set_option maxRecDepth 20000 in
theorem gX0_miss_X0_missUpper : GoodIn wsX0_miss (wsV RX0 81 RX0 yX0_missUpper wsX0_missUpper) := goodIn_app (goodIn_of _ (by decide +kernel)) ggX0_miss_X0_missUpper
set_option maxRecDepth 20000 in
theorem ggX0_miss_X0_lowestTerm : GoodIn wsX0_miss wsX0_lowestTerm := goodIn_r _ [31, 32, 33, 34, 35, 36, 37, 6, 38] (by decide +kernel) (by decide +kernel)
set_option maxRecDepth 20000 in
theorem gX0_miss_X0_lowestTerm : GoodIn wsX0_miss (va_wsS RX0 84 yX0_lowestTerm wsX0_lowestTerm) := goodIn_app (goodIn_of _ (by decide +kernel)) ggX0_miss_X0_lowestTerm
theorem dX0_miss_0 : decode cX0_miss 0 = .ok (.aload_n 0, 1) := by decide +kernel
theorem dX0_miss_1 : decode cX0_miss 1 = .ok (.iload_n 1, 1) := by decide +kernel
theorem dX0_miss_2 : decode cX0_miss 2 = .ok (.invokevirtual 43, 3) := by decide +kernel
theorem dX0_miss_5 : decode cX0_miss 5 = .ok (.istore 5, 2) := by decide +kernel
theorem dX0_miss_7 : decode cX0_miss 7 = .ok (.iload 5, 2) := by decide +kernel
theorem dX0_miss_9 : decode cX0_miss 9 = .ok (.ifCond .ne 6, 3) := by decide +kernel
theorem dX0_miss_12 : decode cX0_miss 12 = .ok (.ldc 80, 2) := by decide +kernel
theorem dX0_miss_14 : decode cX0_miss 14 = .ok (.ireturn, 1) := by decide +kernel
theorem dX0_miss_15 : decode cX0_miss 15 = .ok (.iload_n 2, 1) := by decide +kernel
theorem dX0_miss_16 : decode cX0_miss 16 = .ok (.invokestatic 50, 3) := by decide +kernel
theorem dX0_miss_19 : decode cX0_miss 19 = .ok (.ifCond .ne 22, 3) := by decide +kernel
theorem dX0_miss_22 : decode cX0_miss 22 = .ok (.iload_n 3, 1) := by decide +kernel
theorem dX0_miss_23 : decode cX0_miss 23 = .ok (.iconst 0, 1) := by decide +kernel
theorem dX0_miss_24 : decode cX0_miss 24 = .ok (.iload_n 2, 1) := by decide +kernel
theorem dX0_miss_25 : decode cX0_miss 25 = .ok (.invokestatic 32, 3) := by decide +kernel
theorem dX0_miss_28 : decode cX0_miss 28 = .ok (.ifCond .ne 13, 3) := by decide +kernel
theorem dX0_miss_31 : decode cX0_miss 31 = .ok (.iload 4, 2) := by decide +kernel
theorem dX0_miss_33 : decode cX0_miss 33 = .ok (.iconst 0, 1) := by decide +kernel
theorem dX0_miss_34 : decode cX0_miss 34 = .ok (.iconst 1, 1) := by decide +kernel
theorem dX0_miss_35 : decode cX0_miss 35 = .ok (.invokestatic 32, 3) := by decide +kernel
theorem dX0_miss_38 : decode cX0_miss 38 = .ok (.ifCond .eq 6, 3) := by decide +kernel
theorem dX0_miss_41 : decode cX0_miss 41 = .ok (.ldc 56, 2) := by decide +kernel
theorem dX0_miss_43 : decode cX0_miss 43 = .ok (.ireturn, 1) := by decide +kernel
theorem dX0_miss_44 : decode cX0_miss 44 = .ok (.aload_n 0, 1) := by decide +kernel
theorem dX0_miss_45 : decode cX0_miss 45 = .ok (.iload 5, 2) := by decide +kernel
theorem dX0_miss_47 : decode cX0_miss 47 = .ok (.iload_n 2, 1) := by decide +kernel
theorem dX0_miss_48 : decode cX0_miss 48 = .ok (.iload_n 3, 1) := by decide +kernel
theorem dX0_miss_49 : decode cX0_miss 49 = .ok (.invokevirtual 81, 3) := by decide +kernel
theorem dX0_miss_52 : decode cX0_miss 52 = .ok (.i2l, 1) := by decide +kernel
theorem dX0_miss_53 : decode cX0_miss 53 = .ok (.iload_n 2, 1) := by decide +kernel
theorem dX0_miss_54 : decode cX0_miss 54 = .ok (.i2l, 1) := by decide +kernel
theorem dX0_miss_55 : decode cX0_miss 55 = .ok (.iload 4, 2) := by decide +kernel
theorem dX0_miss_57 : decode cX0_miss 57 = .ok (.invokestatic 84, 3) := by decide +kernel
theorem dX0_miss_60 : decode cX0_miss 60 = .ok (.ireturn, 1) := by decide +kernel
set_option maxRecDepth 20000 in
theorem ggX0_worst_X0_holesAt : GoodIn wsX0_worst wsX0_holesAt := goodIn_r _ [5, 6, 7, 51, 52, 53, 54, 55, 56, 57, 58, 59] (by decide +kernel) (by decide +kernel)
set_option maxRecDepth 20000 in
theorem gX0_worst_X0_holesAt : GoodIn wsX0_worst (wsV RX0 43 RX0 yX0_holesAt wsX0_holesAt) := goodIn_app (goodIn_of _ (by decide +kernel)) ggX0_worst_X0_holesAt
set_option maxRecDepth 20000 in
theorem ggX0_worst_X0_isNoNumberOfParts : GoodIn wsX0_worst wsX0_isNoNumberOfParts := goodIn_r _ [10, 11, 12, 4, 13] (by decide +kernel) (by decide +kernel)
set_option maxRecDepth 20000 in
theorem gX0_worst_X0_isNoNumberOfParts : GoodIn wsX0_worst (va_wsS RX0 50 yX0_isNoNumberOfParts wsX0_isNoNumberOfParts) := goodIn_app (goodIn_of _ (by decide +kernel)) ggX0_worst_X0_isNoNumberOfParts
set_option maxRecDepth 20000 in
theorem ggX0_worst_X0_isOutside : GoodIn wsX0_worst wsX0_isOutside := goodIn_r _ [13] (by decide +kernel) (by decide +kernel)
set_option maxRecDepth 20000 in
theorem gX0_worst_X0_isOutside : GoodIn wsX0_worst (va_wsS RX0 32 yX0_isOutside wsX0_isOutside) := goodIn_app (goodIn_of _ (by decide +kernel)) ggX0_worst_X0_isOutside
set_option maxRecDepth 20000 in
theorem ggX0_worst_X0_exactCuts : GoodIn wsX0_worst wsX0_exactCuts := goodIn_r _ [17, 18, 19, 20, 4, 21, 22, 23, 24, 25, 26, 27, 28, 29, 30, 51, 52, 53, 54, 55, 56, 57, 58, 59] (by decide +kernel) (by decide +kernel)
set_option maxRecDepth 20000 in
theorem gX0_worst_X0_exactCuts : GoodIn wsX0_worst (wsV RX0 88 RX0 yX0_exactCuts wsX0_exactCuts) := goodIn_app (goodIn_of _ (by decide +kernel)) ggX0_worst_X0_exactCuts
set_option maxRecDepth 20000 in
theorem ggX0_worst_X0_worstUpper : GoodIn wsX0_worst wsX0_worstUpper := goodIn_r _ [34, 35, 36, 37, 38, 39, 40, 41, 18, 19, 20, 4, 21, 22, 23, 24, 25, 26, 27, 28, 29, 30, 51, 52, 53, 54, 55, 56, 57, 58, 59] (by decide +kernel) (by decide +kernel)
set_option maxRecDepth 20000 in
theorem gX0_worst_X0_worstUpper : GoodIn wsX0_worst (wsV RX0 92 RX0 yX0_worstUpper wsX0_worstUpper) := goodIn_app (goodIn_of _ (by decide +kernel)) ggX0_worst_X0_worstUpper
set_option maxRecDepth 20000 in
theorem ggX0_worst_X0_lowestTerm : GoodIn wsX0_worst wsX0_lowestTerm := goodIn_r _ [44, 45, 46, 37, 47, 48, 49, 4, 50] (by decide +kernel) (by decide +kernel)
set_option maxRecDepth 20000 in
theorem gX0_worst_X0_lowestTerm : GoodIn wsX0_worst (va_wsS RX0 84 yX0_lowestTerm wsX0_lowestTerm) := goodIn_app (goodIn_of _ (by decide +kernel)) ggX0_worst_X0_lowestTerm
theorem dX0_worst_0 : decode cX0_worst 0 = .ok (.aload_n 0, 1) := by decide +kernel
theorem dX0_worst_1 : decode cX0_worst 1 = .ok (.iload_n 1, 1) := by decide +kernel
theorem dX0_worst_2 : decode cX0_worst 2 = .ok (.invokevirtual 43, 3) := by decide +kernel
theorem dX0_worst_5 : decode cX0_worst 5 = .ok (.istore 4, 2) := by decide +kernel
theorem dX0_worst_7 : decode cX0_worst 7 = .ok (.iload 4, 2) := by decide +kernel
theorem dX0_worst_9 : decode cX0_worst 9 = .ok (.ifCond .ne 5, 3) := by decide +kernel
theorem dX0_worst_12 : decode cX0_worst 12 = .ok (.iconst (-1), 1) := by decide +kernel
theorem dX0_worst_13 : decode cX0_worst 13 = .ok (.ireturn, 1) := by decide +kernel
theorem dX0_worst_14 : decode cX0_worst 14 = .ok (.iload_n 2, 1) := by decide +kernel
theorem dX0_worst_15 : decode cX0_worst 15 = .ok (.invokestatic 50, 3) := by decide +kernel
theorem dX0_worst_18 : decode cX0_worst 18 = .ok (.ifCond .ne 12, 3) := by decide +kernel
theorem dX0_worst_21 : decode cX0_worst 21 = .ok (.iload_n 3, 1) := by decide +kernel
theorem dX0_worst_22 : decode cX0_worst 22 = .ok (.iconst 0, 1) := by decide +kernel
theorem dX0_worst_23 : decode cX0_worst 23 = .ok (.iconst 2, 1) := by decide +kernel
theorem dX0_worst_24 : decode cX0_worst 24 = .ok (.invokestatic 32, 3) := by decide +kernel
theorem dX0_worst_27 : decode cX0_worst 27 = .ok (.ifCond .eq 6, 3) := by decide +kernel
theorem dX0_worst_30 : decode cX0_worst 30 = .ok (.bipush (-2), 2) := by decide +kernel
theorem dX0_worst_32 : decode cX0_worst 32 = .ok (.ireturn, 1) := by decide +kernel
theorem dX0_worst_33 : decode cX0_worst 33 = .ok (.iload_n 3, 1) := by decide +kernel
theorem dX0_worst_34 : decode cX0_worst 34 = .ok (.iconst 2, 1) := by decide +kernel
theorem dX0_worst_35 : decode cX0_worst 35 = .ok (.if_icmp .ne 13, 3) := by decide +kernel
theorem dX0_worst_38 : decode cX0_worst 38 = .ok (.aload_n 0, 1) := by decide +kernel
theorem dX0_worst_39 : decode cX0_worst 39 = .ok (.iload 4, 2) := by decide +kernel
theorem dX0_worst_41 : decode cX0_worst 41 = .ok (.iload_n 2, 1) := by decide +kernel
theorem dX0_worst_42 : decode cX0_worst 42 = .ok (.invokevirtual 88, 3) := by decide +kernel
theorem dX0_worst_45 : decode cX0_worst 45 = .ok (.goto 17, 3) := by decide +kernel
theorem dX0_worst_48 : decode cX0_worst 48 = .ok (.aload_n 0, 1) := by decide +kernel
theorem dX0_worst_49 : decode cX0_worst 49 = .ok (.iload 4, 2) := by decide +kernel
theorem dX0_worst_51 : decode cX0_worst 51 = .ok (.iload_n 2, 1) := by decide +kernel
theorem dX0_worst_52 : decode cX0_worst 52 = .ok (.invokevirtual 92, 3) := by decide +kernel
theorem dX0_worst_55 : decode cX0_worst 55 = .ok (.i2l, 1) := by decide +kernel
theorem dX0_worst_56 : decode cX0_worst 56 = .ok (.iload_n 2, 1) := by decide +kernel
theorem dX0_worst_57 : decode cX0_worst 57 = .ok (.i2l, 1) := by decide +kernel
theorem dX0_worst_58 : decode cX0_worst 58 = .ok (.iload_n 3, 1) := by decide +kernel
theorem dX0_worst_59 : decode cX0_worst 59 = .ok (.invokestatic 84, 3) := by decide +kernel
theorem dX0_worst_62 : decode cX0_worst 62 = .ok (.ireturn, 1) := by decide +kernel
set_option maxRecDepth 20000 in
theorem ggX0_best_X0_isNoNumberOfParts : GoodIn wsX0_best wsX0_isNoNumberOfParts := goodIn_r _ [6, 7, 8, 5, 9] (by decide +kernel) (by decide +kernel)
set_option maxRecDepth 20000 in
theorem gX0_best_X0_isNoNumberOfParts : GoodIn wsX0_best (va_wsS RX0 50 yX0_isNoNumberOfParts wsX0_isNoNumberOfParts) := goodIn_app (goodIn_of _ (by decide +kernel)) ggX0_best_X0_isNoNumberOfParts
set_option maxRecDepth 20000 in
theorem ggX0_best_X0_worstUpper : GoodIn wsX0_best wsX0_worstUpper := goodIn_r _ [13, 14, 15, 16, 17, 18, 19, 20, 21, 22, 23, 5, 24, 25, 26, 27, 28, 29, 30, 31, 32, 33, 34, 35, 36, 37, 38, 39, 40, 41, 42] (by decide +kernel) (by decide +kernel)
set_option maxRecDepth 20000 in
theorem gX0_best_X0_worstUpper : GoodIn wsX0_best (wsV RX0 92 RX0 yX0_worstUpper wsX0_worstUpper) := goodIn_app (goodIn_of _ (by decide +kernel)) ggX0_best_X0_worstUpper
theorem dX0_best_0 : decode cX0_best 0 = .ok (.iload_n 1, 1) := by decide +kernel
theorem dX0_best_1 : decode cX0_best 1 = .ok (.invokestatic 50, 3) := by decide +kernel
theorem dX0_best_4 : decode cX0_best 4 = .ok (.ifCond .eq 6, 3) := by decide +kernel
theorem dX0_best_7 : decode cX0_best 7 = .ok (.bipush (-2), 2) := by decide +kernel
theorem dX0_best_9 : decode cX0_best 9 = .ok (.ireturn, 1) := by decide +kernel
theorem dX0_best_10 : decode cX0_best 10 = .ok (.aload_n 0, 1) := by decide +kernel
theorem dX0_best_11 : decode cX0_best 11 = .ok (.getfield 36, 3) := by decide +kernel
theorem dX0_best_14 : decode cX0_best 14 = .ok (.ifCond .ne 6, 3) := by decide +kernel
theorem dX0_best_17 : decode cX0_best 17 = .ok (.bipush (-3), 2) := by decide +kernel
theorem dX0_best_19 : decode cX0_best 19 = .ok (.ireturn, 1) := by decide +kernel
theorem dX0_best_20 : decode cX0_best 20 = .ok (.iconst 0, 1) := by decide +kernel
theorem dX0_best_21 : decode cX0_best 21 = .ok (.istore_n 2, 1) := by decide +kernel
theorem dX0_best_22 : decode cX0_best 22 = .ok (.aload_n 0, 1) := by decide +kernel
theorem dX0_best_23 : decode cX0_best 23 = .ok (.aload_n 0, 1) := by decide +kernel
theorem dX0_best_24 : decode cX0_best 24 = .ok (.getfield 9, 3) := by decide +kernel
theorem dX0_best_27 : decode cX0_best 27 = .ok (.iconst 0, 1) := by decide +kernel
theorem dX0_best_28 : decode cX0_best 28 = .ok (.iaload, 1) := by decide +kernel
theorem dX0_best_29 : decode cX0_best 29 = .ok (.iload_n 1, 1) := by decide +kernel
theorem dX0_best_30 : decode cX0_best 30 = .ok (.invokevirtual 92, 3) := by decide +kernel
theorem dX0_best_33 : decode cX0_best 33 = .ok (.istore_n 3, 1) := by decide +kernel
theorem dX0_best_34 : decode cX0_best 34 = .ok (.iconst 1, 1) := by decide +kernel
theorem dX0_best_35 : decode cX0_best 35 = .ok (.istore 4, 2) := by decide +kernel
theorem dX0_best_37 : decode cX0_best 37 = .ok (.iload 4, 2) := by decide +kernel
theorem dX0_best_39 : decode cX0_best 39 = .ok (.aload_n 0, 1) := by decide +kernel
theorem dX0_best_40 : decode cX0_best 40 = .ok (.getfield 36, 3) := by decide +kernel
theorem dX0_best_43 : decode cX0_best 43 = .ok (.if_icmp .ge 50, 3) := by decide +kernel
theorem dX0_best_46 : decode cX0_best 46 = .ok (.aload_n 0, 1) := by decide +kernel
theorem dX0_best_47 : decode cX0_best 47 = .ok (.aload_n 0, 1) := by decide +kernel
theorem dX0_best_48 : decode cX0_best 48 = .ok (.getfield 9, 3) := by decide +kernel
theorem dX0_best_51 : decode cX0_best 51 = .ok (.iload 4, 2) := by decide +kernel
theorem dX0_best_53 : decode cX0_best 53 = .ok (.iaload, 1) := by decide +kernel
theorem dX0_best_54 : decode cX0_best 54 = .ok (.iload_n 1, 1) := by decide +kernel
theorem dX0_best_55 : decode cX0_best 55 = .ok (.invokevirtual 92, 3) := by decide +kernel
theorem dX0_best_58 : decode cX0_best 58 = .ok (.istore 5, 2) := by decide +kernel
theorem dX0_best_60 : decode cX0_best 60 = .ok (.iload 5, 2) := by decide +kernel
theorem dX0_best_62 : decode cX0_best 62 = .ok (.aload_n 0, 1) := by decide +kernel
theorem dX0_best_63 : decode cX0_best 63 = .ok (.getfield 9, 3) := by decide +kernel
theorem dX0_best_66 : decode cX0_best 66 = .ok (.iload_n 2, 1) := by decide +kernel
theorem dX0_best_67 : decode cX0_best 67 = .ok (.iaload, 1) := by decide +kernel
theorem dX0_best_68 : decode cX0_best 68 = .ok (.imul, 1) := by decide +kernel
theorem dX0_best_69 : decode cX0_best 69 = .ok (.iload_n 3, 1) := by decide +kernel
theorem dX0_best_70 : decode cX0_best 70 = .ok (.aload_n 0, 1) := by decide +kernel
theorem dX0_best_71 : decode cX0_best 71 = .ok (.getfield 9, 3) := by decide +kernel
theorem dX0_best_74 : decode cX0_best 74 = .ok (.iload 4, 2) := by decide +kernel
theorem dX0_best_76 : decode cX0_best 76 = .ok (.iaload, 1) := by decide +kernel
theorem dX0_best_77 : decode cX0_best 77 = .ok (.imul, 1) := by decide +kernel
theorem dX0_best_78 : decode cX0_best 78 = .ok (.if_icmp .ge 9, 3) := by decide +kernel
theorem dX0_best_81 : decode cX0_best 81 = .ok (.iload 4, 2) := by decide +kernel
theorem dX0_best_83 : decode cX0_best 83 = .ok (.istore_n 2, 1) := by decide +kernel
theorem dX0_best_84 : decode cX0_best 84 = .ok (.iload 5, 2) := by decide +kernel
theorem dX0_best_86 : decode cX0_best 86 = .ok (.istore_n 3, 1) := by decide +kernel
theorem dX0_best_87 : decode cX0_best 87 = .ok (.iinc 4 1, 3) := by decide +kernel
theorem dX0_best_90 : decode cX0_best 90 = .ok (.goto (-53), 3) := by decide +kernel
theorem dX0_best_93 : decode cX0_best 93 = .ok (.iload_n 2, 1) := by decide +kernel
theorem dX0_best_94 : decode cX0_best 94 = .ok (.ireturn, 1) := by decide +kernel
set_option maxRecDepth 20000 in
theorem ggX0_error_X0_isOutside : GoodIn wsX0_error wsX0_isOutside := goodIn_r _ [5] (by decide +kernel) (by decide +kernel)
set_option maxRecDepth 20000 in
theorem gX0_error_X0_isOutside : GoodIn wsX0_error (va_wsS RX0 32 yX0_isOutside wsX0_isOutside) := goodIn_app (goodIn_of _ (by decide +kernel)) ggX0_error_X0_isOutside
theorem dX0_error_0 : decode cX0_error 0 = .ok (.iload_n 1, 1) := by decide +kernel
theorem dX0_error_1 : decode cX0_error 1 = .ok (.iconst 0, 1) := by decide +kernel
theorem dX0_error_2 : decode cX0_error 2 = .ok (.bipush 7, 2) := by decide +kernel
theorem dX0_error_4 : decode cX0_error 4 = .ok (.invokestatic 32, 3) := by decide +kernel
theorem dX0_error_7 : decode cX0_error 7 = .ok (.ifCond .eq 7, 3) := by decide +kernel
theorem dX0_error_10 : decode cX0_error 10 = .ok (.sipush (-1001), 3) := by decide +kernel
theorem dX0_error_13 : decode cX0_error 13 = .ok (.ireturn, 1) := by decide +kernel
theorem dX0_error_14 : decode cX0_error 14 = .ok (.iload_n 2, 1) := by decide +kernel
theorem dX0_error_15 : decode cX0_error 15 = .ok (.bipush (-100), 2) := by decide +kernel
theorem dX0_error_17 : decode cX0_error 17 = .ok (.bipush 100, 2) := by decide +kernel
theorem dX0_error_19 : decode cX0_error 19 = .ok (.invokestatic 32, 3) := by decide +kernel
theorem dX0_error_22 : decode cX0_error 22 = .ok (.ifCond .eq 7, 3) := by decide +kernel
theorem dX0_error_25 : decode cX0_error 25 = .ok (.sipush (-1002), 3) := by decide +kernel
theorem dX0_error_28 : decode cX0_error 28 = .ok (.ireturn, 1) := by decide +kernel
theorem dX0_error_29 : decode cX0_error 29 = .ok (.aload_n 0, 1) := by decide +kernel
theorem dX0_error_30 : decode cX0_error 30 = .ok (.getfield 16, 3) := by decide +kernel
theorem dX0_error_33 : decode cX0_error 33 = .ok (.iload_n 1, 1) := by decide +kernel
theorem dX0_error_34 : decode cX0_error 34 = .ok (.iaload, 1) := by decide +kernel
theorem dX0_error_35 : decode cX0_error 35 = .ok (.istore_n 3, 1) := by decide +kernel
theorem dX0_error_36 : decode cX0_error 36 = .ok (.aload_n 0, 1) := by decide +kernel
theorem dX0_error_37 : decode cX0_error 37 = .ok (.getfield 16, 3) := by decide +kernel
theorem dX0_error_40 : decode cX0_error 40 = .ok (.iload_n 1, 1) := by decide +kernel
theorem dX0_error_41 : decode cX0_error 41 = .ok (.iload_n 2, 1) := by decide +kernel
theorem dX0_error_42 : decode cX0_error 42 = .ok (.iastore, 1) := by decide +kernel
theorem dX0_error_43 : decode cX0_error 43 = .ok (.iload_n 3, 1) := by decide +kernel
theorem dX0_error_44 : decode cX0_error 44 = .ok (.ireturn, 1) := by decide +kernel
set_option maxRecDepth 20000 in
theorem ggX0_spoilt_X0_holesAt : GoodIn wsX0_spoilt wsX0_holesAt := goodIn_r _ [7, 8, 9, 32, 33, 34, 35, 36, 37, 38, 39, 40] (by decide +kernel) (by decide +kernel)
set_option maxRecDepth 20000 in
theorem gX0_spoilt_X0_holesAt : GoodIn wsX0_spoilt (wsV RX0 43 RX0 yX0_holesAt wsX0_holesAt) := goodIn_app (goodIn_of _ (by decide +kernel)) ggX0_spoilt_X0_holesAt
set_option maxRecDepth 20000 in
theorem ggX0_spoilt_X0_isNoStep : GoodIn wsX0_spoilt wsX0_isNoStep := goodIn_r _ [12, 13, 14, 15, 6, 16] (by decide +kernel) (by decide +kernel)
set_option maxRecDepth 20000 in
theorem gX0_spoilt_X0_isNoStep : GoodIn wsX0_spoilt (va_wsS RX0 95 yX0_isNoStep wsX0_isNoStep) := goodIn_app (goodIn_of _ (by decide +kernel)) ggX0_spoilt_X0_isNoStep
set_option maxRecDepth 20000 in
theorem ggX0_spoilt_X0_isOutside : GoodIn wsX0_spoilt wsX0_isOutside := goodIn_r _ [16] (by decide +kernel) (by decide +kernel)
set_option maxRecDepth 20000 in
theorem gX0_spoilt_X0_isOutside : GoodIn wsX0_spoilt (va_wsS RX0 32 yX0_isOutside wsX0_isOutside) := goodIn_app (goodIn_of _ (by decide +kernel)) ggX0_spoilt_X0_isOutside
set_option maxRecDepth 20000 in
theorem ggX0_spoilt_X0_errorUpper : GoodIn wsX0_spoilt wsX0_errorUpper := goodIn_r _ [20, 21, 32, 33, 34, 35, 36, 37, 38, 39, 40] (by decide +kernel) (by decide +kernel)
set_option maxRecDepth 20000 in
theorem gX0_spoilt_X0_errorUpper : GoodIn wsX0_spoilt (wsV RX0 98 RX0 yX0_errorUpper wsX0_errorUpper) := goodIn_app (goodIn_of _ (by decide +kernel)) ggX0_spoilt_X0_errorUpper
set_option maxRecDepth 20000 in
theorem ggX0_spoilt_X0_lowestTerm : GoodIn wsX0_spoilt wsX0_lowestTerm := goodIn_r _ [24, 25, 26, 27, 28, 29, 30, 6, 31] (by decide +kernel) (by decide +kernel)
set_option maxRecDepth 20000 in
theorem gX0_spoilt_X0_lowestTerm : GoodIn wsX0_spoilt (va_wsS RX0 84 yX0_lowestTerm wsX0_lowestTerm) := goodIn_app (goodIn_of _ (by decide +kernel)) ggX0_spoilt_X0_lowestTerm
theorem dX0_spoilt_0 : decode cX0_spoilt 0 = .ok (.aload_n 0, 1) := by decide +kernel
theorem dX0_spoilt_1 : decode cX0_spoilt 1 = .ok (.iload_n 1, 1) := by decide +kernel
theorem dX0_spoilt_2 : decode cX0_spoilt 2 = .ok (.invokevirtual 43, 3) := by decide +kernel
theorem dX0_spoilt_5 : decode cX0_spoilt 5 = .ok (.istore 5, 2) := by decide +kernel
theorem dX0_spoilt_7 : decode cX0_spoilt 7 = .ok (.iload 5, 2) := by decide +kernel
theorem dX0_spoilt_9 : decode cX0_spoilt 9 = .ok (.ifCond .ne 6, 3) := by decide +kernel
theorem dX0_spoilt_12 : decode cX0_spoilt 12 = .ok (.ldc 80, 2) := by decide +kernel
theorem dX0_spoilt_14 : decode cX0_spoilt 14 = .ok (.ireturn, 1) := by decide +kernel
theorem dX0_spoilt_15 : decode cX0_spoilt 15 = .ok (.iload_n 2, 1) := by decide +kernel
theorem dX0_spoilt_16 : decode cX0_spoilt 16 = .ok (.invokestatic 95, 3) := by decide +kernel
theorem dX0_spoilt_19 : decode cX0_spoilt 19 = .ok (.ifCond .ne 24, 3) := by decide +kernel
theorem dX0_spoilt_22 : decode cX0_spoilt 22 = .ok (.iload_n 3, 1) := by decide +kernel
theorem dX0_spoilt_23 : decode cX0_spoilt 23 = .ok (.iconst 0, 1) := by decide +kernel
theorem dX0_spoilt_24 : decode cX0_spoilt 24 = .ok (.sipush 10000, 3) := by decide +kernel
theorem dX0_spoilt_27 : decode cX0_spoilt 27 = .ok (.invokestatic 32, 3) := by decide +kernel
theorem dX0_spoilt_30 : decode cX0_spoilt 30 = .ok (.ifCond .ne 13, 3) := by decide +kernel
theorem dX0_spoilt_33 : decode cX0_spoilt 33 = .ok (.iload 4, 2) := by decide +kernel
theorem dX0_spoilt_35 : decode cX0_spoilt 35 = .ok (.iconst 0, 1) := by decide +kernel
theorem dX0_spoilt_36 : decode cX0_spoilt 36 = .ok (.iconst 1, 1) := by decide +kernel
theorem dX0_spoilt_37 : decode cX0_spoilt 37 = .ok (.invokestatic 32, 3) := by decide +kernel
theorem dX0_spoilt_40 : decode cX0_spoilt 40 = .ok (.ifCond .eq 6, 3) := by decide +kernel
theorem dX0_spoilt_43 : decode cX0_spoilt 43 = .ok (.ldc 56, 2) := by decide +kernel
theorem dX0_spoilt_45 : decode cX0_spoilt 45 = .ok (.ireturn, 1) := by decide +kernel
theorem dX0_spoilt_46 : decode cX0_spoilt 46 = .ok (.aload_n 0, 1) := by decide +kernel
theorem dX0_spoilt_47 : decode cX0_spoilt 47 = .ok (.iload 5, 2) := by decide +kernel
theorem dX0_spoilt_49 : decode cX0_spoilt 49 = .ok (.iload_n 2, 1) := by decide +kernel
theorem dX0_spoilt_50 : decode cX0_spoilt 50 = .ok (.iload_n 3, 1) := by decide +kernel
theorem dX0_spoilt_51 : decode cX0_spoilt 51 = .ok (.invokevirtual 98, 3) := by decide +kernel
theorem dX0_spoilt_54 : decode cX0_spoilt 54 = .ok (.i2l, 1) := by decide +kernel
theorem dX0_spoilt_55 : decode cX0_spoilt 55 = .ok (.iload 5, 2) := by decide +kernel
theorem dX0_spoilt_57 : decode cX0_spoilt 57 = .ok (.i2l, 1) := by decide +kernel
theorem dX0_spoilt_58 : decode cX0_spoilt 58 = .ok (.iload 4, 2) := by decide +kernel
theorem dX0_spoilt_60 : decode cX0_spoilt 60 = .ok (.invokestatic 84, 3) := by decide +kernel
theorem dX0_spoilt_63 : decode cX0_spoilt 63 = .ok (.ireturn, 1) := by decide +kernel
set_option maxRecDepth 20000 in
theorem ggX0_extreme_X0_holesAt : GoodIn wsX0_extreme wsX0_holesAt := goodIn_r _ [5, 6, 7, 20, 21, 22, 23, 24, 25, 26, 27, 28] (by decide +kernel) (by decide +kernel)
set_option maxRecDepth 20000 in
theorem gX0_extreme_X0_holesAt : GoodIn wsX0_extreme (wsV RX0 43 RX0 yX0_holesAt wsX0_holesAt) := goodIn_app (goodIn_of _ (by decide +kernel)) ggX0_extreme_X0_holesAt
set_option maxRecDepth 20000 in
theorem ggX0_extreme_X0_isNoStep : GoodIn wsX0_extreme wsX0_isNoStep := goodIn_r _ [10, 11, 12, 13, 4, 14] (by decide +kernel) (by decide +kernel)
set_option maxRecDepth 20000 in
theorem gX0_extreme_X0_isNoStep : GoodIn wsX0_extreme (va_wsS RX0 95 yX0_isNoStep wsX0_isNoStep) := goodIn_app (goodIn_of _ (by decide +kernel)) ggX0_extreme_X0_isNoStep
set_option maxRecDepth 20000 in
theorem ggX0_extreme_X0_isOutside : GoodIn wsX0_extreme wsX0_isOutside := goodIn_r _ [14] (by decide +kernel) (by decide +kernel)
set_option maxRecDepth 20000 in
theorem gX0_extreme_X0_isOutside : GoodIn wsX0_extreme (va_wsS RX0 32 yX0_isOutside wsX0_isOutside) := goodIn_app (goodIn_of _ (by decide +kernel)) ggX0_extreme_X0_isOutside
set_option maxRecDepth 20000 in
theorem ggX0_extreme_X0_errorUpper : GoodIn wsX0_extreme wsX0_errorUpper := goodIn_r _ [18, 19, 20, 21, 22, 23, 24, 25, 26, 27, 28] (by decide +kernel) (by decide +kernel)
set_option maxRecDepth 20000 in
theorem gX0_extreme_X0_errorUpper : GoodIn wsX0_extreme (wsV RX0 98 RX0 yX0_errorUpper wsX0_errorUpper) := goodIn_app (goodIn_of _ (by decide +kernel)) ggX0_extreme_X0_errorUpper
theorem dX0_extreme_0 : decode cX0_extreme 0 = .ok (.aload_n 0, 1) := by decide +kernel
theorem dX0_extreme_1 : decode cX0_extreme 1 = .ok (.iload_n 1, 1) := by decide +kernel
theorem dX0_extreme_2 : decode cX0_extreme 2 = .ok (.invokevirtual 43, 3) := by decide +kernel
theorem dX0_extreme_5 : decode cX0_extreme 5 = .ok (.istore 5, 2) := by decide +kernel
theorem dX0_extreme_7 : decode cX0_extreme 7 = .ok (.iload 5, 2) := by decide +kernel
theorem dX0_extreme_9 : decode cX0_extreme 9 = .ok (.ifCond .ne 5, 3) := by decide +kernel
theorem dX0_extreme_12 : decode cX0_extreme 12 = .ok (.iconst (-1), 1) := by decide +kernel
theorem dX0_extreme_13 : decode cX0_extreme 13 = .ok (.ireturn, 1) := by decide +kernel
theorem dX0_extreme_14 : decode cX0_extreme 14 = .ok (.iload_n 2, 1) := by decide +kernel
theorem dX0_extreme_15 : decode cX0_extreme 15 = .ok (.invokestatic 95, 3) := by decide +kernel
theorem dX0_extreme_18 : decode cX0_extreme 18 = .ok (.ifCond .ne 24, 3) := by decide +kernel
theorem dX0_extreme_21 : decode cX0_extreme 21 = .ok (.iload_n 3, 1) := by decide +kernel
theorem dX0_extreme_22 : decode cX0_extreme 22 = .ok (.iconst 0, 1) := by decide +kernel
theorem dX0_extreme_23 : decode cX0_extreme 23 = .ok (.sipush 1000, 3) := by decide +kernel
theorem dX0_extreme_26 : decode cX0_extreme 26 = .ok (.invokestatic 32, 3) := by decide +kernel
theorem dX0_extreme_29 : decode cX0_extreme 29 = .ok (.ifCond .ne 13, 3) := by decide +kernel
theorem dX0_extreme_32 : decode cX0_extreme 32 = .ok (.iload 4, 2) := by decide +kernel
theorem dX0_extreme_34 : decode cX0_extreme 34 = .ok (.iconst 0, 1) := by decide +kernel
theorem dX0_extreme_35 : decode cX0_extreme 35 = .ok (.iconst 1, 1) := by decide +kernel
theorem dX0_extreme_36 : decode cX0_extreme 36 = .ok (.invokestatic 32, 3) := by decide +kernel
theorem dX0_extreme_39 : decode cX0_extreme 39 = .ok (.ifCond .eq 6, 3) := by decide +kernel
theorem dX0_extreme_42 : decode cX0_extreme 42 = .ok (.bipush (-2), 2) := by decide +kernel
theorem dX0_extreme_44 : decode cX0_extreme 44 = .ok (.ireturn, 1) := by decide +kernel
theorem dX0_extreme_45 : decode cX0_extreme 45 = .ok (.iconst 0, 1) := by decide +kernel
theorem dX0_extreme_46 : decode cX0_extreme 46 = .ok (.istore 6, 2) := by decide +kernel
theorem dX0_extreme_48 : decode cX0_extreme 48 = .ok (.aload_n 0, 1) := by decide +kernel
theorem dX0_extreme_49 : decode cX0_extreme 49 = .ok (.iload 5, 2) := by decide +kernel
theorem dX0_extreme_51 : decode cX0_extreme 51 = .ok (.iload_n 2, 1) := by decide +kernel
theorem dX0_extreme_52 : decode cX0_extreme 52 = .ok (.iconst 0, 1) := by decide +kernel
theorem dX0_extreme_53 : decode cX0_extreme 53 = .ok (.invokevirtual 98, 3) := by decide +kernel
theorem dX0_extreme_56 : decode cX0_extreme 56 = .ok (.istore 7, 2) := by decide +kernel
theorem dX0_extreme_58 : decode cX0_extreme 58 = .ok (.iconst 1, 1) := by decide +kernel
theorem dX0_extreme_59 : decode cX0_extreme 59 = .ok (.istore 8, 2) := by decide +kernel
theorem dX0_extreme_61 : decode cX0_extreme 61 = .ok (.iload 8, 2) := by decide +kernel
theorem dX0_extreme_63 : decode cX0_extreme 63 = .ok (.iload_n 3, 1) := by decide +kernel
theorem dX0_extreme_64 : decode cX0_extreme 64 = .ok (.if_icmp .gt 50, 3) := by decide +kernel
theorem dX0_extreme_67 : decode cX0_extreme 67 = .ok (.aload_n 0, 1) := by decide +kernel
theorem dX0_extreme_68 : decode cX0_extreme 68 = .ok (.iload 5, 2) := by decide +kernel
theorem dX0_extreme_70 : decode cX0_extreme 70 = .ok (.iload_n 2, 1) := by decide +kernel
theorem dX0_extreme_71 : decode cX0_extreme 71 = .ok (.iload 8, 2) := by decide +kernel
theorem dX0_extreme_73 : decode cX0_extreme 73 = .ok (.invokevirtual 98, 3) := by decide +kernel
theorem dX0_extreme_76 : decode cX0_extreme 76 = .ok (.istore 9, 2) := by decide +kernel
theorem dX0_extreme_78 : decode cX0_extreme 78 = .ok (.iload 4, 2) := by decide +kernel
theorem dX0_extreme_80 : decode cX0_extreme 80 = .ok (.ifCond .ne 13, 3) := by decide +kernel
theorem dX0_extreme_83 : decode cX0_extreme 83 = .ok (.iload 9, 2) := by decide +kernel
theorem dX0_extreme_85 : decode cX0_extreme 85 = .ok (.iload 7, 2) := by decide +kernel
theorem dX0_extreme_87 : decode cX0_extreme 87 = .ok (.if_icmp .le 21, 3) := by decide +kernel
theorem dX0_extreme_90 : decode cX0_extreme 90 = .ok (.goto 10, 3) := by decide +kernel
theorem dX0_extreme_93 : decode cX0_extreme 93 = .ok (.iload 9, 2) := by decide +kernel
theorem dX0_extreme_95 : decode cX0_extreme 95 = .ok (.iload 7, 2) := by decide +kernel
theorem dX0_extreme_97 : decode cX0_extreme 97 = .ok (.if_icmp .ge 11, 3) := by decide +kernel
theorem dX0_extreme_100 : decode cX0_extreme 100 = .ok (.iload 8, 2) := by decide +kernel
theorem dX0_extreme_102 : decode cX0_extreme 102 = .ok (.istore 6, 2) := by decide +kernel
theorem dX0_extreme_104 : decode cX0_extreme 104 = .ok (.iload 9, 2) := by decide +kernel
theorem dX0_extreme_106 : decode cX0_extreme 106 = .ok (.istore 7, 2) := by decide +kernel
theorem dX0_extreme_108 : decode cX0_extreme 108 = .ok (.iinc 8 1, 3) := by decide +kernel
theorem dX0_extreme_111 : decode cX0_extreme 111 = .ok (.goto (-50), 3) := by decide +kernel
theorem dX0_extreme_114 : decode cX0_extreme 114 = .ok (.iload 6, 2) := by decide +kernel
theorem dX0_extreme_116 : decode cX0_extreme 116 = .ok (.ireturn, 1) := by decide +kernel
set_option maxRecDepth 20000 in
theorem ggX0_near_X0_isNoShare : GoodIn wsX0_near wsX0_isNoShare := goodIn_r _ [4, 5, 6, 7, 3, 8] (by decide +kernel) (by decide +kernel)
set_option maxRecDepth 20000 in
theorem gX0_near_X0_isNoShare : GoodIn wsX0_near (va_wsS RX0 69 yX0_isNoShare wsX0_isNoShare) := goodIn_app (goodIn_of _ (by decide +kernel)) ggX0_near_X0_isNoShare
set_option maxRecDepth 20000 in
theorem ggX0_near_X0_isOutside : GoodIn wsX0_near wsX0_isOutside := goodIn_r _ [8] (by decide +kernel) (by decide +kernel)
set_option maxRecDepth 20000 in
theorem gX0_near_X0_isOutside : GoodIn wsX0_near (va_wsS RX0 32 yX0_isOutside wsX0_isOutside) := goodIn_app (goodIn_of _ (by decide +kernel)) ggX0_near_X0_isOutside
set_option maxRecDepth 20000 in
theorem ggX0_near_X0_nearestLower : GoodIn wsX0_near wsX0_nearestLower := goodIn_r _ [11, 12, 13, 3, 14, 15, 16, 17, 18, 19, 20, 21, 22] (by decide +kernel) (by decide +kernel)
set_option maxRecDepth 20000 in
theorem gX0_near_X0_nearestLower : GoodIn wsX0_near (va_wsS RX0 101 yX0_nearestLower wsX0_nearestLower) := goodIn_app (goodIn_of _ (by decide +kernel)) ggX0_near_X0_nearestLower
set_option maxRecDepth 20000 in
theorem ggX0_near_X0_nearestOrLesser : GoodIn wsX0_near wsX0_nearestOrLesser := goodIn_r _ [21, 22] (by decide +kernel) (by decide +kernel)
set_option maxRecDepth 20000 in
theorem gX0_near_X0_nearestOrLesser : GoodIn wsX0_near (va_wsS RX0 104 yX0_nearestOrLesser wsX0_nearestOrLesser) := goodIn_app (goodIn_of _ (by decide +kernel)) ggX0_near_X0_nearestOrLesser
theorem dX0_near_0 : decode cX0_near 0 = .ok (.iload_n 1, 1) := by decide +kernel
theorem dX0_near_1 : decode cX0_near 1 = .ok (.iload_n 2, 1) := by decide +kernel
theorem dX0_near_2 : decode cX0_near 2 = .ok (.invokestatic 69, 3) := by decide +kernel
theorem dX0_near_5 : decode cX0_near 5 = .ok (.ifCond .ne 24, 3) := by decide +kernel
theorem dX0_near_8 : decode cX0_near 8 = .ok (.iload_n 3, 1) := by decide +kernel
theorem dX0_near_9 : decode cX0_near 9 = .ok (.iconst 1, 1) := by decide +kernel
theorem dX0_near_10 : decode cX0_near 10 = .ok (.sipush 10000, 3) := by decide +kernel
theorem dX0_near_13 : decode cX0_near 13 = .ok (.invokestatic 32, 3) := by decide +kernel
theorem dX0_near_16 : decode cX0_near 16 = .ok (.ifCond .ne 13, 3) := by decide +kernel
theorem dX0_near_19 : decode cX0_near 19 = .ok (.iload 4, 2) := by decide +kernel
theorem dX0_near_21 : decode cX0_near 21 = .ok (.iconst 0, 1) := by decide +kernel
theorem dX0_near_22 : decode cX0_near 22 = .ok (.iconst 1, 1) := by decide +kernel
theorem dX0_near_23 : decode cX0_near 23 = .ok (.invokestatic 32, 3) := by decide +kernel
theorem dX0_near_26 : decode cX0_near 26 = .ok (.ifCond .eq 6, 3) := by decide +kernel
theorem dX0_near_29 : decode cX0_near 29 = .ok (.bipush (-2), 2) := by decide +kernel
theorem dX0_near_31 : decode cX0_near 31 = .ok (.ireturn, 1) := by decide +kernel
theorem dX0_near_32 : decode cX0_near 32 = .ok (.iload_n 1, 1) := by decide +kernel
theorem dX0_near_33 : decode cX0_near 33 = .ok (.iload_n 2, 1) := by decide +kernel
theorem dX0_near_34 : decode cX0_near 34 = .ok (.iload_n 3, 1) := by decide +kernel
theorem dX0_near_35 : decode cX0_near 35 = .ok (.invokestatic 101, 3) := by decide +kernel
theorem dX0_near_38 : decode cX0_near 38 = .ok (.istore 5, 2) := by decide +kernel
theorem dX0_near_40 : decode cX0_near 40 = .ok (.iload 4, 2) := by decide +kernel
theorem dX0_near_42 : decode cX0_near 42 = .ok (.iconst 1, 1) := by decide +kernel
theorem dX0_near_43 : decode cX0_near 43 = .ok (.if_icmp .ne 8, 3) := by decide +kernel
theorem dX0_near_46 : decode cX0_near 46 = .ok (.iload 5, 2) := by decide +kernel
theorem dX0_near_48 : decode cX0_near 48 = .ok (.goto 15, 3) := by decide +kernel
theorem dX0_near_51 : decode cX0_near 51 = .ok (.iload_n 1, 1) := by decide +kernel
theorem dX0_near_52 : decode cX0_near 52 = .ok (.i2l, 1) := by decide +kernel
theorem dX0_near_53 : decode cX0_near 53 = .ok (.iload 5, 2) := by decide +kernel
theorem dX0_near_55 : decode cX0_near 55 = .ok (.i2l, 1) := by decide +kernel
theorem dX0_near_56 : decode cX0_near 56 = .ok (.lmul, 1) := by decide +kernel
theorem dX0_near_57 : decode cX0_near 57 = .ok (.iload_n 2, 1) := by decide +kernel
theorem dX0_near_58 : decode cX0_near 58 = .ok (.i2l, 1) := by decide +kernel
theorem dX0_near_59 : decode cX0_near 59 = .ok (.invokestatic 104, 3) := by decide +kernel
theorem dX0_near_62 : decode cX0_near 62 = .ok (.l2i, 1) := by decide +kernel
theorem dX0_near_63 : decode cX0_near 63 = .ok (.ireturn, 1) := by decide +kernel
set_option maxRecDepth 20000 in
theorem ggX0_vernier_X0_isOutside : GoodIn wsX0_vernier wsX0_isOutside := goodIn_r _ [6] (by decide +kernel) (by decide +kernel)
set_option maxRecDepth 20000 in
theorem gX0_vernier_X0_isOutside : GoodIn wsX0_vernier (va_wsS RX0 32 yX0_isOutside wsX0_isOutside) := goodIn_app (goodIn_of _ (by decide +kernel)) ggX0_vernier_X0_isOutside
theorem dX0_vernier_0 : decode cX0_vernier 0 = .ok (.iload_n 1, 1) := by decide +kernel
theorem dX0_vernier_1 : decode cX0_vernier 1 = .ok (.iconst 2, 1) := by decide +kernel
theorem dX0_vernier_2 : decode cX0_vernier 2 = .ok (.sipush 720, 3) := by decide +kernel
theorem dX0_vernier_5 : decode cX0_vernier 5 = .ok (.invokestatic 32, 3) := by decide +kernel
theorem dX0_vernier_8 : decode cX0_vernier 8 = .ok (.ifCond .ne 13, 3) := by decide +kernel
theorem dX0_vernier_11 : decode cX0_vernier 11 = .ok (.iload_n 2, 1) := by decide +kernel
theorem dX0_vernier_12 : decode cX0_vernier 12 = .ok (.iconst 2, 1) := by decide +kernel
theorem dX0_vernier_13 : decode cX0_vernier 13 = .ok (.bipush 60, 2) := by decide +kernel
theorem dX0_vernier_15 : decode cX0_vernier 15 = .ok (.invokestatic 32, 3) := by decide +kernel
theorem dX0_vernier_18 : decode cX0_vernier 18 = .ok (.ifCond .eq 6, 3) := by decide +kernel
theorem dX0_vernier_21 : decode cX0_vernier 21 = .ok (.bipush (-2), 2) := by decide +kernel
theorem dX0_vernier_23 : decode cX0_vernier 23 = .ok (.ireturn, 1) := by decide +kernel
theorem dX0_vernier_24 : decode cX0_vernier 24 = .ok (.aload_n 0, 1) := by decide +kernel
theorem dX0_vernier_25 : decode cX0_vernier 25 = .ok (.iload_n 1, 1) := by decide +kernel
theorem dX0_vernier_26 : decode cX0_vernier 26 = .ok (.putfield 26, 3) := by decide +kernel
theorem dX0_vernier_29 : decode cX0_vernier 29 = .ok (.aload_n 0, 1) := by decide +kernel
theorem dX0_vernier_30 : decode cX0_vernier 30 = .ok (.iload_n 2, 1) := by decide +kernel
theorem dX0_vernier_31 : decode cX0_vernier 31 = .ok (.putfield 29, 3) := by decide +kernel
theorem dX0_vernier_34 : decode cX0_vernier 34 = .ok (.iconst 1, 1) := by decide +kernel
theorem dX0_vernier_35 : decode cX0_vernier 35 = .ok (.ireturn, 1) := by decide +kernel
set_option maxRecDepth 20000 in
theorem ggX0_read_X0_isNoPlace : GoodIn wsX0_read wsX0_isNoPlace := goodIn_r _ [4, 5, 6, 7, 3, 8] (by decide +kernel) (by decide +kernel)
set_option maxRecDepth 20000 in
theorem gX0_read_X0_isNoPlace : GoodIn wsX0_read (va_wsS RX0 108 yX0_isNoPlace wsX0_isNoPlace) := goodIn_app (goodIn_of _ (by decide +kernel)) ggX0_read_X0_isNoPlace
set_option maxRecDepth 20000 in
theorem ggX0_read_X0_isOutside : GoodIn wsX0_read wsX0_isOutside := goodIn_r _ [8] (by decide +kernel) (by decide +kernel)
set_option maxRecDepth 20000 in
theorem gX0_read_X0_isOutside : GoodIn wsX0_read (va_wsS RX0 32 yX0_isOutside wsX0_isOutside) := goodIn_app (goodIn_of _ (by decide +kernel)) ggX0_read_X0_isOutside
set_option maxRecDepth 20000 in
theorem ggX0_read_X0_mainMark : GoodIn wsX0_read wsX0_mainMark := goodIn_r _ [12, 13, 27, 28, 29, 30, 31, 32, 33, 34, 35] (by decide +kernel) (by decide +kernel)
set_option maxRecDepth 20000 in
theorem gX0_read_X0_mainMark : GoodIn wsX0_read (wsV RX0 111 RX0 yX0_mainMark wsX0_mainMark) := goodIn_app (goodIn_of _ (by decide +kernel)) ggX0_read_X0_mainMark
set_option maxRecDepth 20000 in
theorem ggX0_read_X0_vernierLine : GoodIn wsX0_read wsX0_vernierLine := goodIn_r _ [17, 13, 18, 9, 10, 11, 3, 12, 19, 20, 21, 22, 27, 28, 29, 30, 31, 32, 33, 34, 35] (by decide +kernel) (by decide +kernel)
set_option maxRecDepth 20000 in
theorem gX0_read_X0_vernierLine : GoodIn wsX0_read (wsV RX0 114 RX0 yX0_vernierLine wsX0_vernierLine) := goodIn_app (goodIn_of _ (by decide +kernel)) ggX0_read_X0_vernierLine
set_option maxRecDepth 20000 in
theorem ggX0_read_X0_readParts : GoodIn wsX0_read wsX0_readParts := goodIn_r _ [26, 18, 9, 10, 11, 3, 12, 13, 14, 15, 16, 17, 19, 20, 21, 22, 27, 28, 29, 30, 31, 32, 33, 34, 35] (by decide +kernel) (by decide +kernel)
set_option maxRecDepth 20000 in
theorem gX0_read_X0_readParts : GoodIn wsX0_read (wsV RX0 117 RX0 yX0_readParts wsX0_readParts) := goodIn_app (goodIn_of _ (by decide +kernel)) ggX0_read_X0_readParts
theorem dX0_read_0 : decode cX0_read 0 = .ok (.iload_n 1, 1) := by decide +kernel
theorem dX0_read_1 : decode cX0_read 1 = .ok (.iload_n 2, 1) := by decide +kernel
theorem dX0_read_2 : decode cX0_read 2 = .ok (.invokestatic 108, 3) := by decide +kernel
theorem dX0_read_5 : decode cX0_read 5 = .ok (.ifCond .ne 12, 3) := by decide +kernel
theorem dX0_read_8 : decode cX0_read 8 = .ok (.iload_n 3, 1) := by decide +kernel
theorem dX0_read_9 : decode cX0_read 9 = .ok (.iconst 0, 1) := by decide +kernel
theorem dX0_read_10 : decode cX0_read 10 = .ok (.iconst 2, 1) := by decide +kernel
theorem dX0_read_11 : decode cX0_read 11 = .ok (.invokestatic 32, 3) := by decide +kernel
theorem dX0_read_14 : decode cX0_read 14 = .ok (.ifCond .eq 6, 3) := by decide +kernel
theorem dX0_read_17 : decode cX0_read 17 = .ok (.bipush (-2), 2) := by decide +kernel
theorem dX0_read_19 : decode cX0_read 19 = .ok (.ireturn, 1) := by decide +kernel
theorem dX0_read_20 : decode cX0_read 20 = .ok (.iload_n 3, 1) := by decide +kernel
theorem dX0_read_21 : decode cX0_read 21 = .ok (.ifCond .ne 13, 3) := by decide +kernel
theorem dX0_read_24 : decode cX0_read 24 = .ok (.aload_n 0, 1) := by decide +kernel
theorem dX0_read_25 : decode cX0_read 25 = .ok (.iload_n 1, 1) := by decide +kernel
theorem dX0_read_26 : decode cX0_read 26 = .ok (.i2l, 1) := by decide +kernel
theorem dX0_read_27 : decode cX0_read 27 = .ok (.iload_n 2, 1) := by decide +kernel
theorem dX0_read_28 : decode cX0_read 28 = .ok (.i2l, 1) := by decide +kernel
theorem dX0_read_29 : decode cX0_read 29 = .ok (.invokevirtual 111, 3) := by decide +kernel
theorem dX0_read_32 : decode cX0_read 32 = .ok (.l2i, 1) := by decide +kernel
theorem dX0_read_33 : decode cX0_read 33 = .ok (.ireturn, 1) := by decide +kernel
theorem dX0_read_34 : decode cX0_read 34 = .ok (.iload_n 3, 1) := by decide +kernel
theorem dX0_read_35 : decode cX0_read 35 = .ok (.iconst 1, 1) := by decide +kernel
theorem dX0_read_36 : decode cX0_read 36 = .ok (.if_icmp .ne 14, 3) := by decide +kernel
theorem dX0_read_39 : decode cX0_read 39 = .ok (.aload_n 0, 1) := by decide +kernel
theorem dX0_read_40 : decode cX0_read 40 = .ok (.iload_n 1, 1) := by decide +kernel
theorem dX0_read_41 : decode cX0_read 41 = .ok (.i2l, 1) := by decide +kernel
theorem dX0_read_42 : decode cX0_read 42 = .ok (.iload_n 2, 1) := by decide +kernel
theorem dX0_read_43 : decode cX0_read 43 = .ok (.i2l, 1) := by decide +kernel
theorem dX0_read_44 : decode cX0_read 44 = .ok (.invokevirtual 114, 3) := by decide +kernel
theorem dX0_read_47 : decode cX0_read 47 = .ok (.goto 11, 3) := by decide +kernel
theorem dX0_read_50 : decode cX0_read 50 = .ok (.aload_n 0, 1) := by decide +kernel
theorem dX0_read_51 : decode cX0_read 51 = .ok (.iload_n 1, 1) := by decide +kernel
theorem dX0_read_52 : decode cX0_read 52 = .ok (.i2l, 1) := by decide +kernel
theorem dX0_read_53 : decode cX0_read 53 = .ok (.iload_n 2, 1) := by decide +kernel
theorem dX0_read_54 : decode cX0_read 54 = .ok (.i2l, 1) := by decide +kernel
theorem dX0_read_55 : decode cX0_read 55 = .ok (.invokevirtual 117, 3) := by decide +kernel
theorem dX0_read_58 : decode cX0_read 58 = .ok (.l2i, 1) := by decide +kernel
theorem dX0_read_59 : decode cX0_read 59 = .ok (.ireturn, 1) := by decide +kernel
set_option maxRecDepth 20000 in
theorem ggX0_two_X0_isNoPlace : GoodIn wsX0_two wsX0_isNoPlace := goodIn_r _ [10, 11, 12, 13, 9, 14] (by decide +kernel) (by decide +kernel)
set_option maxRecDepth 20000 in
theorem gX0_two_X0_isNoPlace : GoodIn wsX0_two (va_wsS RX0 108 yX0_isNoPlace wsX0_isNoPlace) := goodIn_app (goodIn_of _ (by decide +kernel)) ggX0_two_X0_isNoPlace
set_option maxRecDepth 20000 in
theorem ggX0_two_X0_isOutside : GoodIn wsX0_two wsX0_isOutside := goodIn_r _ [14] (by decide +kernel) (by decide +kernel)
set_option maxRecDepth 20000 in
theorem gX0_two_X0_isOutside : GoodIn wsX0_two (va_wsS RX0 32 yX0_isOutside wsX0_isOutside) := goodIn_app (goodIn_of _ (by decide +kernel)) ggX0_two_X0_isOutside
set_option maxRecDepth 20000 in
theorem ggX0_two_J9_floorMod_f86c9 : GoodIn wsX0_two wsJ9_floorMod_f86c9 := goodIn_r _ [18] (by decide +kernel) (by decide +kernel)
set_option maxRecDepth 20000 in
theorem gX0_two_J9_floorMod_f86c9 : GoodIn wsX0_two (va_wsS RX0 122 yJ9_floorMod_f86c9 wsJ9_floorMod_f86c9) := goodIn_app (goodIn_of _ (by decide +kernel)) ggX0_two_J9_floorMod_f86c9
set_option maxRecDepth 20000 in
theorem ggX0_two_X0_readParts : GoodIn wsX0_two wsX0_readParts := goodIn_r _ [22, 5, 23, 24, 25, 9, 26, 4, 27, 28, 29, 30, 31, 32, 33, 3, 44, 45, 46, 47, 48, 49, 50, 51, 52] (by decide +kernel) (by decide +kernel)
set_option maxRecDepth 20000 in
theorem gX0_two_X0_readParts : GoodIn wsX0_two (wsV RX0 117 RX0 yX0_readParts wsX0_readParts) := goodIn_app (goodIn_of _ (by decide +kernel)) ggX0_two_X0_readParts
set_option maxRecDepth 20000 in
theorem ggX0_two_X0_lowestTerm : GoodIn wsX0_two wsX0_lowestTerm := goodIn_r _ [36, 37, 38, 39, 40, 41, 42, 9, 43] (by decide +kernel) (by decide +kernel)
set_option maxRecDepth 20000 in
theorem gX0_two_X0_lowestTerm : GoodIn wsX0_two (va_wsS RX0 84 yX0_lowestTerm wsX0_lowestTerm) := goodIn_app (goodIn_of _ (by decide +kernel)) ggX0_two_X0_lowestTerm
theorem dX0_two_0 : decode cX0_two 0 = .ok (.iload_n 1, 1) := by decide +kernel
theorem dX0_two_1 : decode cX0_two 1 = .ok (.iload_n 2, 1) := by decide +kernel
theorem dX0_two_2 : decode cX0_two 2 = .ok (.invokestatic 108, 3) := by decide +kernel
theorem dX0_two_5 : decode cX0_two 5 = .ok (.ifCond .ne 26, 3) := by decide +kernel
theorem dX0_two_8 : decode cX0_two 8 = .ok (.iload_n 3, 1) := by decide +kernel
theorem dX0_two_9 : decode cX0_two 9 = .ok (.sipush (-1000), 3) := by decide +kernel
theorem dX0_two_12 : decode cX0_two 12 = .ok (.sipush 1000, 3) := by decide +kernel
theorem dX0_two_15 : decode cX0_two 15 = .ok (.invokestatic 32, 3) := by decide +kernel
theorem dX0_two_18 : decode cX0_two 18 = .ok (.ifCond .ne 13, 3) := by decide +kernel
theorem dX0_two_21 : decode cX0_two 21 = .ok (.iload 4, 2) := by decide +kernel
theorem dX0_two_23 : decode cX0_two 23 = .ok (.iconst 0, 1) := by decide +kernel
theorem dX0_two_24 : decode cX0_two 24 = .ok (.iconst 1, 1) := by decide +kernel
theorem dX0_two_25 : decode cX0_two 25 = .ok (.invokestatic 32, 3) := by decide +kernel
theorem dX0_two_28 : decode cX0_two 28 = .ok (.ifCond .eq 6, 3) := by decide +kernel
theorem dX0_two_31 : decode cX0_two 31 = .ok (.ldc 56, 2) := by decide +kernel
theorem dX0_two_33 : decode cX0_two 33 = .ok (.ireturn, 1) := by decide +kernel
theorem dX0_two_34 : decode cX0_two 34 = .ok (.iload_n 2, 1) := by decide +kernel
theorem dX0_two_35 : decode cX0_two 35 = .ok (.i2l, 1) := by decide +kernel
theorem dX0_two_36 : decode cX0_two 36 = .ok (.ldc2_w 120, 3) := by decide +kernel
theorem dX0_two_39 : decode cX0_two 39 = .ok (.lmul, 1) := by decide +kernel
theorem dX0_two_40 : decode cX0_two 40 = .ok (.lstore 5, 2) := by decide +kernel
theorem dX0_two_42 : decode cX0_two 42 = .ok (.iload_n 1, 1) := by decide +kernel
theorem dX0_two_43 : decode cX0_two 43 = .ok (.i2l, 1) := by decide +kernel
theorem dX0_two_44 : decode cX0_two 44 = .ok (.ldc2_w 120, 3) := by decide +kernel
theorem dX0_two_47 : decode cX0_two 47 = .ok (.lmul, 1) := by decide +kernel
theorem dX0_two_48 : decode cX0_two 48 = .ok (.lstore 7, 2) := by decide +kernel
theorem dX0_two_50 : decode cX0_two 50 = .ok (.iload_n 3, 1) := by decide +kernel
theorem dX0_two_51 : decode cX0_two 51 = .ok (.i2l, 1) := by decide +kernel
theorem dX0_two_52 : decode cX0_two 52 = .ok (.iload_n 2, 1) := by decide +kernel
theorem dX0_two_53 : decode cX0_two 53 = .ok (.i2l, 1) := by decide +kernel
theorem dX0_two_54 : decode cX0_two 54 = .ok (.lmul, 1) := by decide +kernel
theorem dX0_two_55 : decode cX0_two 55 = .ok (.lstore 9, 2) := by decide +kernel
theorem dX0_two_57 : decode cX0_two 57 = .ok (.aload_n 0, 1) := by decide +kernel
theorem dX0_two_58 : decode cX0_two 58 = .ok (.lload 7, 2) := by decide +kernel
theorem dX0_two_60 : decode cX0_two 60 = .ok (.lload 9, 2) := by decide +kernel
theorem dX0_two_62 : decode cX0_two 62 = .ok (.ladd, 1) := by decide +kernel
theorem dX0_two_63 : decode cX0_two 63 = .ok (.lload 5, 2) := by decide +kernel
theorem dX0_two_65 : decode cX0_two 65 = .ok (.invokestatic 122, 3) := by decide +kernel
theorem dX0_two_68 : decode cX0_two 68 = .ok (.lload 5, 2) := by decide +kernel
theorem dX0_two_70 : decode cX0_two 70 = .ok (.invokevirtual 117, 3) := by decide +kernel
theorem dX0_two_73 : decode cX0_two 73 = .ok (.lstore 11, 2) := by decide +kernel
theorem dX0_two_75 : decode cX0_two 75 = .ok (.aload_n 0, 1) := by decide +kernel
theorem dX0_two_76 : decode cX0_two 76 = .ok (.lload 7, 2) := by decide +kernel
theorem dX0_two_78 : decode cX0_two 78 = .ok (.lload 5, 2) := by decide +kernel
theorem dX0_two_80 : decode cX0_two 80 = .ok (.ldc2_w 127, 3) := by decide +kernel
theorem dX0_two_83 : decode cX0_two 83 = .ok (.ldiv, 1) := by decide +kernel
theorem dX0_two_84 : decode cX0_two 84 = .ok (.ladd, 1) := by decide +kernel
theorem dX0_two_85 : decode cX0_two 85 = .ok (.lload 9, 2) := by decide +kernel
theorem dX0_two_87 : decode cX0_two 87 = .ok (.lsub, 1) := by decide +kernel
theorem dX0_two_88 : decode cX0_two 88 = .ok (.lload 5, 2) := by decide +kernel
theorem dX0_two_90 : decode cX0_two 90 = .ok (.invokestatic 122, 3) := by decide +kernel
theorem dX0_two_93 : decode cX0_two 93 = .ok (.lload 5, 2) := by decide +kernel
theorem dX0_two_95 : decode cX0_two 95 = .ok (.invokevirtual 117, 3) := by decide +kernel
theorem dX0_two_98 : decode cX0_two 98 = .ok (.lstore 13, 2) := by decide +kernel
theorem dX0_two_100 : decode cX0_two 100 = .ok (.aload_n 0, 1) := by decide +kernel
theorem dX0_two_101 : decode cX0_two 101 = .ok (.getfield 26, 3) := by decide +kernel
theorem dX0_two_104 : decode cX0_two 104 = .ok (.i2l, 1) := by decide +kernel
theorem dX0_two_105 : decode cX0_two 105 = .ok (.aload_n 0, 1) := by decide +kernel
theorem dX0_two_106 : decode cX0_two 106 = .ok (.getfield 29, 3) := by decide +kernel
theorem dX0_two_109 : decode cX0_two 109 = .ok (.i2l, 1) := by decide +kernel
theorem dX0_two_110 : decode cX0_two 110 = .ok (.lmul, 1) := by decide +kernel
theorem dX0_two_111 : decode cX0_two 111 = .ok (.lstore 15, 2) := by decide +kernel
theorem dX0_two_113 : decode cX0_two 113 = .ok (.ldc2_w 127, 3) := by decide +kernel
theorem dX0_two_116 : decode cX0_two 116 = .ok (.lload 11, 2) := by decide +kernel
theorem dX0_two_118 : decode cX0_two 118 = .ok (.lload 13, 2) := by decide +kernel
theorem dX0_two_120 : decode cX0_two 120 = .ok (.ladd, 1) := by decide +kernel
theorem dX0_two_121 : decode cX0_two 121 = .ok (.lmul, 1) := by decide +kernel
theorem dX0_two_122 : decode cX0_two 122 = .ok (.lstore 17, 2) := by decide +kernel
theorem dX0_two_124 : decode cX0_two 124 = .ok (.lload 11, 2) := by decide +kernel
theorem dX0_two_126 : decode cX0_two 126 = .ok (.lload 13, 2) := by decide +kernel
theorem dX0_two_128 : decode cX0_two 128 = .ok (.lcmp, 1) := by decide +kernel
theorem dX0_two_129 : decode cX0_two 129 = .ok (.ifCond .le 11, 3) := by decide +kernel
theorem dX0_two_132 : decode cX0_two 132 = .ok (.lload 17, 2) := by decide +kernel
theorem dX0_two_134 : decode cX0_two 134 = .ok (.lload 15, 2) := by decide +kernel
theorem dX0_two_136 : decode cX0_two 136 = .ok (.ladd, 1) := by decide +kernel
theorem dX0_two_137 : decode cX0_two 137 = .ok (.goto 8, 3) := by decide +kernel
theorem dX0_two_140 : decode cX0_two 140 = .ok (.lload 17, 2) := by decide +kernel
theorem dX0_two_142 : decode cX0_two 142 = .ok (.lload 15, 2) := by decide +kernel
theorem dX0_two_144 : decode cX0_two 144 = .ok (.lsub, 1) := by decide +kernel
theorem dX0_two_145 : decode cX0_two 145 = .ok (.ldc2_w 129, 3) := by decide +kernel
theorem dX0_two_148 : decode cX0_two 148 = .ok (.iload 4, 2) := by decide +kernel
theorem dX0_two_150 : decode cX0_two 150 = .ok (.invokestatic 84, 3) := by decide +kernel
theorem dX0_two_153 : decode cX0_two 153 = .ok (.ireturn, 1) := by decide +kernel
theorem dX0_told_0 : decode cX0_told 0 = .ok (.iload_n 1, 1) := by decide +kernel
theorem dX0_told_1 : decode cX0_told 1 = .ok (.tableswitch 60 0 4 #[35, 40, 45, 50, 55], 35) := by decide +kernel
theorem dX0_told_36 : decode cX0_told 36 = .ok (.aload_n 0, 1) := by decide +kernel
theorem dX0_told_37 : decode cX0_told 37 = .ok (.getfield 22, 3) := by decide +kernel
theorem dX0_told_40 : decode cX0_told 40 = .ok (.ireturn, 1) := by decide +kernel
theorem dX0_told_41 : decode cX0_told 41 = .ok (.aload_n 0, 1) := by decide +kernel
theorem dX0_told_42 : decode cX0_told 42 = .ok (.getfield 36, 3) := by decide +kernel
theorem dX0_told_45 : decode cX0_told 45 = .ok (.ireturn, 1) := by decide +kernel
theorem dX0_told_46 : decode cX0_told 46 = .ok (.aload_n 0, 1) := by decide +kernel
theorem dX0_told_47 : decode cX0_told 47 = .ok (.getfield 47, 3) := by decide +kernel
theorem dX0_told_50 : decode cX0_told 50 = .ok (.ireturn, 1) := by decide +kernel
theorem dX0_told_51 : decode cX0_told 51 = .ok (.aload_n 0, 1) := by decide +kernel
theorem dX0_told_52 : decode cX0_told 52 = .ok (.getfield 26, 3) := by decide +kernel
theorem dX0_told_55 : decode cX0_told 55 = .ok (.ireturn, 1) := by decide +kernel
theorem dX0_told_56 : decode cX0_told 56 = .ok (.aload_n 0, 1) := by decide +kernel
theorem dX0_told_57 : decode cX0_told 57 = .ok (.getfield 29, 3) := by decide +kernel
theorem dX0_told_60 : decode cX0_told 60 = .ok (.ireturn, 1) := by decide +kernel
theorem dX0_told_61 : decode cX0_told 61 = .ok (.bipush (-2), 2) := by decide +kernel
theorem dX0_told_63 : decode cX0_told 63 = .ok (.ireturn, 1) := by decide +kernel
theorem dX0_isOutside_0 : decode cX0_isOutside 0 = .ok (.iload_n 0, 1) := by decide +kernel
theorem dX0_isOutside_1 : decode cX0_isOutside 1 = .ok (.iload_n 1, 1) := by decide +kernel
theorem dX0_isOutside_2 : decode cX0_isOutside 2 = .ok (.if_icmp .lt 8, 3) := by decide +kernel
theorem dX0_isOutside_5 : decode cX0_isOutside 5 = .ok (.iload_n 0, 1) := by decide +kernel
theorem dX0_isOutside_6 : decode cX0_isOutside 6 = .ok (.iload_n 2, 1) := by decide +kernel
theorem dX0_isOutside_7 : decode cX0_isOutside 7 = .ok (.if_icmp .le 7, 3) := by decide +kernel
theorem dX0_isOutside_10 : decode cX0_isOutside 10 = .ok (.iconst 1, 1) := by decide +kernel
theorem dX0_isOutside_11 : decode cX0_isOutside 11 = .ok (.goto 4, 3) := by decide +kernel
theorem dX0_isOutside_14 : decode cX0_isOutside 14 = .ok (.iconst 0, 1) := by decide +kernel
theorem dX0_isOutside_15 : decode cX0_isOutside 15 = .ok (.ireturn, 1) := by decide +kernel
set_option maxRecDepth 20000 in
theorem ggX0_isNoNumberOfParts_X0_isOutside : GoodIn wsX0_isNoNumberOfParts wsX0_isOutside := goodIn_r _ [4] (by decide +kernel) (by decide +kernel)
set_option maxRecDepth 20000 in
theorem gX0_isNoNumberOfParts_X0_isOutside : GoodIn wsX0_isNoNumberOfParts (va_wsS RX0 32 yX0_isOutside wsX0_isOutside) := goodIn_app (goodIn_of _ (by decide +kernel)) ggX0_isNoNumberOfParts_X0_isOutside
theorem dX0_isNoNumberOfParts_0 : decode cX0_isNoNumberOfParts 0 = .ok (.iload_n 0, 1) := by decide +kernel
theorem dX0_isNoNumberOfParts_1 : decode cX0_isNoNumberOfParts 1 = .ok (.iconst 2, 1) := by decide +kernel
theorem dX0_isNoNumberOfParts_2 : decode cX0_isNoNumberOfParts 2 = .ok (.sipush 1000, 3) := by decide +kernel
theorem dX0_isNoNumberOfParts_5 : decode cX0_isNoNumberOfParts 5 = .ok (.invokestatic 32, 3) := by decide +kernel
theorem dX0_isNoNumberOfParts_8 : decode cX0_isNoNumberOfParts 8 = .ok (.ireturn, 1) := by decide +kernel
set_option maxRecDepth 20000 in
theorem ggX0_isNoShare_X0_isOutside : GoodIn wsX0_isNoShare wsX0_isOutside := goodIn_r _ [5] (by decide +kernel) (by decide +kernel)
set_option maxRecDepth 20000 in
theorem gX0_isNoShare_X0_isOutside : GoodIn wsX0_isNoShare (va_wsS RX0 32 yX0_isOutside wsX0_isOutside) := goodIn_app (goodIn_of _ (by decide +kernel)) ggX0_isNoShare_X0_isOutside
theorem dX0_isNoShare_0 : decode cX0_isNoShare 0 = .ok (.iload_n 0, 1) := by decide +kernel
theorem dX0_isNoShare_1 : decode cX0_isNoShare 1 = .ok (.iconst 1, 1) := by decide +kernel
theorem dX0_isNoShare_2 : decode cX0_isNoShare 2 = .ok (.ldc 131, 2) := by decide +kernel
theorem dX0_isNoShare_4 : decode cX0_isNoShare 4 = .ok (.invokestatic 32, 3) := by decide +kernel
theorem dX0_isNoShare_7 : decode cX0_isNoShare 7 = .ok (.ifCond .ne 13, 3) := by decide +kernel
theorem dX0_isNoShare_10 : decode cX0_isNoShare 10 = .ok (.iload_n 1, 1) := by decide +kernel
theorem dX0_isNoShare_11 : decode cX0_isNoShare 11 = .ok (.iconst 1, 1) := by decide +kernel
theorem dX0_isNoShare_12 : decode cX0_isNoShare 12 = .ok (.ldc 131, 2) := by decide +kernel
theorem dX0_isNoShare_14 : decode cX0_isNoShare 14 = .ok (.invokestatic 32, 3) := by decide +kernel
theorem dX0_isNoShare_17 : decode cX0_isNoShare 17 = .ok (.ifCond .eq 7, 3) := by decide +kernel
theorem dX0_isNoShare_20 : decode cX0_isNoShare 20 = .ok (.iconst 1, 1) := by decide +kernel
theorem dX0_isNoShare_21 : decode cX0_isNoShare 21 = .ok (.goto 4, 3) := by decide +kernel
theorem dX0_isNoShare_24 : decode cX0_isNoShare 24 = .ok (.iconst 0, 1) := by decide +kernel
theorem dX0_isNoShare_25 : decode cX0_isNoShare 25 = .ok (.ireturn, 1) := by decide +kernel
set_option maxRecDepth 20000 in
theorem ggX0_isNoPlace_X0_isOutside : GoodIn wsX0_isNoPlace wsX0_isOutside := goodIn_r _ [5] (by decide +kernel) (by decide +kernel)
set_option maxRecDepth 20000 in
theorem gX0_isNoPlace_X0_isOutside : GoodIn wsX0_isNoPlace (va_wsS RX0 32 yX0_isOutside wsX0_isOutside) := goodIn_app (goodIn_of _ (by decide +kernel)) ggX0_isNoPlace_X0_isOutside
theorem dX0_isNoPlace_0 : decode cX0_isNoPlace 0 = .ok (.iload_n 1, 1) := by decide +kernel
theorem dX0_isNoPlace_1 : decode cX0_isNoPlace 1 = .ok (.iconst 1, 1) := by decide +kernel
theorem dX0_isNoPlace_2 : decode cX0_isNoPlace 2 = .ok (.ldc 131, 2) := by decide +kernel
theorem dX0_isNoPlace_4 : decode cX0_isNoPlace 4 = .ok (.invokestatic 32, 3) := by decide +kernel
theorem dX0_isNoPlace_7 : decode cX0_isNoPlace 7 = .ok (.ifCond .ne 14, 3) := by decide +kernel
theorem dX0_isNoPlace_10 : decode cX0_isNoPlace 10 = .ok (.iload_n 0, 1) := by decide +kernel
theorem dX0_isNoPlace_11 : decode cX0_isNoPlace 11 = .ok (.iconst 0, 1) := by decide +kernel
theorem dX0_isNoPlace_12 : decode cX0_isNoPlace 12 = .ok (.iload_n 1, 1) := by decide +kernel
theorem dX0_isNoPlace_13 : decode cX0_isNoPlace 13 = .ok (.iconst 1, 1) := by decide +kernel
theorem dX0_isNoPlace_14 : decode cX0_isNoPlace 14 = .ok (.isub, 1) := by decide +kernel
theorem dX0_isNoPlace_15 : decode cX0_isNoPlace 15 = .ok (.invokestatic 32, 3) := by decide +kernel
theorem dX0_isNoPlace_18 : decode cX0_isNoPlace 18 = .ok (.ifCond .eq 7, 3) := by decide +kernel
theorem dX0_isNoPlace_21 : decode cX0_isNoPlace 21 = .ok (.iconst 1, 1) := by decide +kernel
theorem dX0_isNoPlace_22 : decode cX0_isNoPlace 22 = .ok (.goto 4, 3) := by decide +kernel
theorem dX0_isNoPlace_25 : decode cX0_isNoPlace 25 = .ok (.iconst 0, 1) := by decide +kernel
theorem dX0_isNoPlace_26 : decode cX0_isNoPlace 26 = .ok (.ireturn, 1) := by decide +kernel
set_option maxRecDepth 20000 in
theorem ggX0_isNoStep_X0_isOutside : GoodIn wsX0_isNoStep wsX0_isOutside := goodIn_r _ [5] (by decide +kernel) (by decide +kernel)
set_option maxRecDepth 20000 in
theorem gX0_isNoStep_X0_isOutside : GoodIn wsX0_isNoStep (va_wsS RX0 32 yX0_isOutside wsX0_isOutside) := goodIn_app (goodIn_of _ (by decide +kernel)) ggX0_isNoStep_X0_isOutside
theorem dX0_isNoStep_0 : decode cX0_isNoStep 0 = .ok (.iload_n 0, 1) := by decide +kernel
theorem dX0_isNoStep_1 : decode cX0_isNoStep 1 = .ok (.iconst 1, 1) := by decide +kernel
theorem dX0_isNoStep_2 : decode cX0_isNoStep 2 = .ok (.ldc 132, 2) := by decide +kernel
theorem dX0_isNoStep_4 : decode cX0_isNoStep 4 = .ok (.invokestatic 32, 3) := by decide +kernel
theorem dX0_isNoStep_7 : decode cX0_isNoStep 7 = .ok (.ireturn, 1) := by decide +kernel
theorem dX0_holesAt_0 : decode cX0_holesAt 0 = .ok (.iload_n 1, 1) := by decide +kernel
theorem dX0_holesAt_1 : decode cX0_holesAt 1 = .ok (.ifCond .lt 11, 3) := by decide +kernel
theorem dX0_holesAt_4 : decode cX0_holesAt 4 = .ok (.iload_n 1, 1) := by decide +kernel
theorem dX0_holesAt_5 : decode cX0_holesAt 5 = .ok (.aload_n 0, 1) := by decide +kernel
theorem dX0_holesAt_6 : decode cX0_holesAt 6 = .ok (.getfield 36, 3) := by decide +kernel
theorem dX0_holesAt_9 : decode cX0_holesAt 9 = .ok (.if_icmp .lt 7, 3) := by decide +kernel
theorem dX0_holesAt_12 : decode cX0_holesAt 12 = .ok (.iconst 0, 1) := by decide +kernel
theorem dX0_holesAt_13 : decode cX0_holesAt 13 = .ok (.goto 9, 3) := by decide +kernel
theorem dX0_holesAt_16 : decode cX0_holesAt 16 = .ok (.aload_n 0, 1) := by decide +kernel
theorem dX0_holesAt_17 : decode cX0_holesAt 17 = .ok (.getfield 9, 3) := by decide +kernel
theorem dX0_holesAt_20 : decode cX0_holesAt 20 = .ok (.iload_n 1, 1) := by decide +kernel
theorem dX0_holesAt_21 : decode cX0_holesAt 21 = .ok (.iaload, 1) := by decide +kernel
theorem dX0_holesAt_22 : decode cX0_holesAt 22 = .ok (.ireturn, 1) := by decide +kernel
theorem dX0_hasCircleOf_0 : decode cX0_hasCircleOf 0 = .ok (.iconst 0, 1) := by decide +kernel
theorem dX0_hasCircleOf_1 : decode cX0_hasCircleOf 1 = .ok (.istore_n 2, 1) := by decide +kernel
theorem dX0_hasCircleOf_2 : decode cX0_hasCircleOf 2 = .ok (.iload_n 2, 1) := by decide +kernel
theorem dX0_hasCircleOf_3 : decode cX0_hasCircleOf 3 = .ok (.aload_n 0, 1) := by decide +kernel
theorem dX0_hasCircleOf_4 : decode cX0_hasCircleOf 4 = .ok (.getfield 36, 3) := by decide +kernel
theorem dX0_hasCircleOf_7 : decode cX0_hasCircleOf 7 = .ok (.if_icmp .ge 21, 3) := by decide +kernel
theorem dX0_hasCircleOf_10 : decode cX0_hasCircleOf 10 = .ok (.aload_n 0, 1) := by decide +kernel
theorem dX0_hasCircleOf_11 : decode cX0_hasCircleOf 11 = .ok (.getfield 9, 3) := by decide +kernel
theorem dX0_hasCircleOf_14 : decode cX0_hasCircleOf 14 = .ok (.iload_n 2, 1) := by decide +kernel
theorem dX0_hasCircleOf_15 : decode cX0_hasCircleOf 15 = .ok (.iaload, 1) := by decide +kernel
theorem dX0_hasCircleOf_16 : decode cX0_hasCircleOf 16 = .ok (.iload_n 1, 1) := by decide +kernel
theorem dX0_hasCircleOf_17 : decode cX0_hasCircleOf 17 = .ok (.if_icmp .ne 5, 3) := by decide +kernel
theorem dX0_hasCircleOf_20 : decode cX0_hasCircleOf 20 = .ok (.iconst 1, 1) := by decide +kernel
theorem dX0_hasCircleOf_21 : decode cX0_hasCircleOf 21 = .ok (.ireturn, 1) := by decide +kernel
theorem dX0_hasCircleOf_22 : decode cX0_hasCircleOf 22 = .ok (.iinc 2 1, 3) := by decide +kernel
theorem dX0_hasCircleOf_25 : decode cX0_hasCircleOf 25 = .ok (.goto (-23), 3) := by decide +kernel
theorem dX0_hasCircleOf_28 : decode cX0_hasCircleOf 28 = .ok (.iconst 0, 1) := by decide +kernel
theorem dX0_hasCircleOf_29 : decode cX0_hasCircleOf 29 = .ok (.ireturn, 1) := by decide +kernel
set_option maxRecDepth 20000 in
theorem ggX0_plainCircle_X0_exactQuotient : GoodIn wsX0_plainCircle wsX0_exactQuotient := goodIn_r _ [7] (by decide +kernel) (by decide +kernel)
set_option maxRecDepth 20000 in
theorem gX0_plainCircle_X0_exactQuotient : GoodIn wsX0_plainCircle (va_wsS RX0 133 yX0_exactQuotient wsX0_exactQuotient) := goodIn_app (goodIn_of _ (by decide +kernel)) ggX0_plainCircle_X0_exactQuotient
theorem dX0_plainCircle_0 : decode cX0_plainCircle 0 = .ok (.bipush (-6), 2) := by decide +kernel
theorem dX0_plainCircle_2 : decode cX0_plainCircle 2 = .ok (.istore_n 2, 1) := by decide +kernel
theorem dX0_plainCircle_3 : decode cX0_plainCircle 3 = .ok (.iconst 0, 1) := by decide +kernel
theorem dX0_plainCircle_4 : decode cX0_plainCircle 4 = .ok (.istore_n 3, 1) := by decide +kernel
theorem dX0_plainCircle_5 : decode cX0_plainCircle 5 = .ok (.iload_n 3, 1) := by decide +kernel
theorem dX0_plainCircle_6 : decode cX0_plainCircle 6 = .ok (.aload_n 0, 1) := by decide +kernel
theorem dX0_plainCircle_7 : decode cX0_plainCircle 7 = .ok (.getfield 36, 3) := by decide +kernel
theorem dX0_plainCircle_10 : decode cX0_plainCircle 10 = .ok (.if_icmp .ge 66, 3) := by decide +kernel
theorem dX0_plainCircle_13 : decode cX0_plainCircle 13 = .ok (.aload_n 0, 1) := by decide +kernel
theorem dX0_plainCircle_14 : decode cX0_plainCircle 14 = .ok (.getfield 22, 3) := by decide +kernel
theorem dX0_plainCircle_17 : decode cX0_plainCircle 17 = .ok (.aload_n 0, 1) := by decide +kernel
theorem dX0_plainCircle_18 : decode cX0_plainCircle 18 = .ok (.getfield 9, 3) := by decide +kernel
theorem dX0_plainCircle_21 : decode cX0_plainCircle 21 = .ok (.iload_n 3, 1) := by decide +kernel
theorem dX0_plainCircle_22 : decode cX0_plainCircle 22 = .ok (.iaload, 1) := by decide +kernel
theorem dX0_plainCircle_23 : decode cX0_plainCircle 23 = .ok (.imul, 1) := by decide +kernel
theorem dX0_plainCircle_24 : decode cX0_plainCircle 24 = .ok (.i2l, 1) := by decide +kernel
theorem dX0_plainCircle_25 : decode cX0_plainCircle 25 = .ok (.iload_n 1, 1) := by decide +kernel
theorem dX0_plainCircle_26 : decode cX0_plainCircle 26 = .ok (.i2l, 1) := by decide +kernel
theorem dX0_plainCircle_27 : decode cX0_plainCircle 27 = .ok (.invokestatic 133, 3) := by decide +kernel
theorem dX0_plainCircle_30 : decode cX0_plainCircle 30 = .ok (.lconst 0, 1) := by decide +kernel
theorem dX0_plainCircle_31 : decode cX0_plainCircle 31 = .ok (.lcmp, 1) := by decide +kernel
theorem dX0_plainCircle_32 : decode cX0_plainCircle 32 = .ok (.ifCond .eq 7, 3) := by decide +kernel
theorem dX0_plainCircle_35 : decode cX0_plainCircle 35 = .ok (.iconst 1, 1) := by decide +kernel
theorem dX0_plainCircle_36 : decode cX0_plainCircle 36 = .ok (.goto 4, 3) := by decide +kernel
theorem dX0_plainCircle_39 : decode cX0_plainCircle 39 = .ok (.iconst 0, 1) := by decide +kernel
theorem dX0_plainCircle_40 : decode cX0_plainCircle 40 = .ok (.istore 4, 2) := by decide +kernel
theorem dX0_plainCircle_42 : decode cX0_plainCircle 42 = .ok (.iload 4, 2) := by decide +kernel
theorem dX0_plainCircle_44 : decode cX0_plainCircle 44 = .ok (.ifCond .eq 26, 3) := by decide +kernel
theorem dX0_plainCircle_47 : decode cX0_plainCircle 47 = .ok (.iload_n 2, 1) := by decide +kernel
theorem dX0_plainCircle_48 : decode cX0_plainCircle 48 = .ok (.bipush (-6), 2) := by decide +kernel
theorem dX0_plainCircle_50 : decode cX0_plainCircle 50 = .ok (.if_icmp .eq 18, 3) := by decide +kernel
theorem dX0_plainCircle_53 : decode cX0_plainCircle 53 = .ok (.aload_n 0, 1) := by decide +kernel
theorem dX0_plainCircle_54 : decode cX0_plainCircle 54 = .ok (.getfield 9, 3) := by decide +kernel
theorem dX0_plainCircle_57 : decode cX0_plainCircle 57 = .ok (.iload_n 3, 1) := by decide +kernel
theorem dX0_plainCircle_58 : decode cX0_plainCircle 58 = .ok (.iaload, 1) := by decide +kernel
theorem dX0_plainCircle_59 : decode cX0_plainCircle 59 = .ok (.aload_n 0, 1) := by decide +kernel
theorem dX0_plainCircle_60 : decode cX0_plainCircle 60 = .ok (.getfield 9, 3) := by decide +kernel
theorem dX0_plainCircle_63 : decode cX0_plainCircle 63 = .ok (.iload_n 2, 1) := by decide +kernel
theorem dX0_plainCircle_64 : decode cX0_plainCircle 64 = .ok (.iaload, 1) := by decide +kernel
theorem dX0_plainCircle_65 : decode cX0_plainCircle 65 = .ok (.if_icmp .ge 5, 3) := by decide +kernel
theorem dX0_plainCircle_68 : decode cX0_plainCircle 68 = .ok (.iload_n 3, 1) := by decide +kernel
theorem dX0_plainCircle_69 : decode cX0_plainCircle 69 = .ok (.istore_n 2, 1) := by decide +kernel
theorem dX0_plainCircle_70 : decode cX0_plainCircle 70 = .ok (.iinc 3 1, 3) := by decide +kernel
theorem dX0_plainCircle_73 : decode cX0_plainCircle 73 = .ok (.goto (-68), 3) := by decide +kernel
theorem dX0_plainCircle_76 : decode cX0_plainCircle 76 = .ok (.iload_n 2, 1) := by decide +kernel
theorem dX0_plainCircle_77 : decode cX0_plainCircle 77 = .ok (.ireturn, 1) := by decide +kernel
set_option maxRecDepth 20000 in
theorem ggX0_secondStep_X0_firstStep : GoodIn wsX0_secondStep wsX0_firstStep := goodIn_r _ [5, 6, 7, 8, 4, 9, 10, 11, 12, 13, 14, 15, 16, 17, 18] (by decide +kernel) (by decide +kernel)
set_option maxRecDepth 20000 in
theorem gX0_secondStep_X0_firstStep : GoodIn wsX0_secondStep (wsV RX0 136 RX0 yX0_firstStep wsX0_firstStep) := goodIn_app (goodIn_of _ (by decide +kernel)) ggX0_secondStep_X0_firstStep
theorem dX0_secondStep_0 : decode cX0_secondStep 0 = .ok (.iconst 1, 1) := by decide +kernel
theorem dX0_secondStep_1 : decode cX0_secondStep 1 = .ok (.istore 4, 2) := by decide +kernel
theorem dX0_secondStep_3 : decode cX0_secondStep 3 = .ok (.iload 4, 2) := by decide +kernel
theorem dX0_secondStep_5 : decode cX0_secondStep 5 = .ok (.iload_n 2, 1) := by decide +kernel
theorem dX0_secondStep_6 : decode cX0_secondStep 6 = .ok (.if_icmp .gt 41, 3) := by decide +kernel
theorem dX0_secondStep_9 : decode cX0_secondStep 9 = .ok (.aload_n 0, 1) := by decide +kernel
theorem dX0_secondStep_10 : decode cX0_secondStep 10 = .ok (.iload_n 1, 1) := by decide +kernel
theorem dX0_secondStep_11 : decode cX0_secondStep 11 = .ok (.iload_n 2, 1) := by decide +kernel
theorem dX0_secondStep_12 : decode cX0_secondStep 12 = .ok (.iload_n 3, 1) := by decide +kernel
theorem dX0_secondStep_13 : decode cX0_secondStep 13 = .ok (.iload 4, 2) := by decide +kernel
theorem dX0_secondStep_15 : decode cX0_secondStep 15 = .ok (.invokevirtual 136, 3) := by decide +kernel
theorem dX0_secondStep_18 : decode cX0_secondStep 18 = .ok (.ifCond .eq 6, 3) := by decide +kernel
theorem dX0_secondStep_21 : decode cX0_secondStep 21 = .ok (.iload 4, 2) := by decide +kernel
theorem dX0_secondStep_23 : decode cX0_secondStep 23 = .ok (.ireturn, 1) := by decide +kernel
theorem dX0_secondStep_24 : decode cX0_secondStep 24 = .ok (.aload_n 0, 1) := by decide +kernel
theorem dX0_secondStep_25 : decode cX0_secondStep 25 = .ok (.iload_n 1, 1) := by decide +kernel
theorem dX0_secondStep_26 : decode cX0_secondStep 26 = .ok (.iload_n 2, 1) := by decide +kernel
theorem dX0_secondStep_27 : decode cX0_secondStep 27 = .ok (.iload_n 3, 1) := by decide +kernel
theorem dX0_secondStep_28 : decode cX0_secondStep 28 = .ok (.iload 4, 2) := by decide +kernel
theorem dX0_secondStep_30 : decode cX0_secondStep 30 = .ok (.ineg, 1) := by decide +kernel
theorem dX0_secondStep_31 : decode cX0_secondStep 31 = .ok (.invokevirtual 136, 3) := by decide +kernel
theorem dX0_secondStep_34 : decode cX0_secondStep 34 = .ok (.ifCond .eq 7, 3) := by decide +kernel
theorem dX0_secondStep_37 : decode cX0_secondStep 37 = .ok (.iload 4, 2) := by decide +kernel
theorem dX0_secondStep_39 : decode cX0_secondStep 39 = .ok (.ineg, 1) := by decide +kernel
theorem dX0_secondStep_40 : decode cX0_secondStep 40 = .ok (.ireturn, 1) := by decide +kernel
theorem dX0_secondStep_41 : decode cX0_secondStep 41 = .ok (.iinc 4 1, 3) := by decide +kernel
theorem dX0_secondStep_44 : decode cX0_secondStep 44 = .ok (.goto (-41), 3) := by decide +kernel
theorem dX0_secondStep_47 : decode cX0_secondStep 47 = .ok (.iconst 0, 1) := by decide +kernel
theorem dX0_secondStep_48 : decode cX0_secondStep 48 = .ok (.ireturn, 1) := by decide +kernel
set_option maxRecDepth 20000 in
theorem ggX0_firstStep_X0_exactQuotient : GoodIn wsX0_firstStep wsX0_exactQuotient := goodIn_r _ [5] (by decide +kernel) (by decide +kernel)
set_option maxRecDepth 20000 in
theorem gX0_firstStep_X0_exactQuotient : GoodIn wsX0_firstStep (va_wsS RX0 133 yX0_exactQuotient wsX0_exactQuotient) := goodIn_app (goodIn_of _ (by decide +kernel)) ggX0_firstStep_X0_exactQuotient
theorem dX0_firstStep_0 : decode cX0_firstStep 0 = .ok (.aload_n 0, 1) := by decide +kernel
theorem dX0_firstStep_1 : decode cX0_firstStep 1 = .ok (.getfield 22, 3) := by decide +kernel
theorem dX0_firstStep_4 : decode cX0_firstStep 4 = .ok (.iload_n 2, 1) := by decide +kernel
theorem dX0_firstStep_5 : decode cX0_firstStep 5 = .ok (.imul, 1) := by decide +kernel
theorem dX0_firstStep_6 : decode cX0_firstStep 6 = .ok (.iload 4, 2) := by decide +kernel
theorem dX0_firstStep_8 : decode cX0_firstStep 8 = .ok (.iload_n 3, 1) := by decide +kernel
theorem dX0_firstStep_9 : decode cX0_firstStep 9 = .ok (.imul, 1) := by decide +kernel
theorem dX0_firstStep_10 : decode cX0_firstStep 10 = .ok (.isub, 1) := by decide +kernel
theorem dX0_firstStep_11 : decode cX0_firstStep 11 = .ok (.istore 5, 2) := by decide +kernel
theorem dX0_firstStep_13 : decode cX0_firstStep 13 = .ok (.iload_n 1, 1) := by decide +kernel
theorem dX0_firstStep_14 : decode cX0_firstStep 14 = .ok (.iload 5, 2) := by decide +kernel
theorem dX0_firstStep_16 : decode cX0_firstStep 16 = .ok (.imul, 1) := by decide +kernel
theorem dX0_firstStep_17 : decode cX0_firstStep 17 = .ok (.i2l, 1) := by decide +kernel
theorem dX0_firstStep_18 : decode cX0_firstStep 18 = .ok (.iload_n 3, 1) := by decide +kernel
theorem dX0_firstStep_19 : decode cX0_firstStep 19 = .ok (.iload_n 2, 1) := by decide +kernel
theorem dX0_firstStep_20 : decode cX0_firstStep 20 = .ok (.imul, 1) := by decide +kernel
theorem dX0_firstStep_21 : decode cX0_firstStep 21 = .ok (.i2l, 1) := by decide +kernel
theorem dX0_firstStep_22 : decode cX0_firstStep 22 = .ok (.invokestatic 133, 3) := by decide +kernel
theorem dX0_firstStep_25 : decode cX0_firstStep 25 = .ok (.l2i, 1) := by decide +kernel
theorem dX0_firstStep_26 : decode cX0_firstStep 26 = .ok (.ireturn, 1) := by decide +kernel
set_option maxRecDepth 20000 in
theorem ggX0_compoundTerm_X0_firstStep : GoodIn wsX0_compoundTerm wsX0_firstStep := goodIn_r _ [6, 7, 8, 9, 5, 10, 11, 12, 13, 14, 15, 16, 17, 18, 19] (by decide +kernel) (by decide +kernel)
set_option maxRecDepth 20000 in
theorem gX0_compoundTerm_X0_firstStep : GoodIn wsX0_compoundTerm (wsV RX0 136 RX0 yX0_firstStep wsX0_firstStep) := goodIn_app (goodIn_of _ (by decide +kernel)) ggX0_compoundTerm_X0_firstStep
theorem dX0_compoundTerm_0 : decode cX0_compoundTerm 0 = .ok (.iload 5, 2) := by decide +kernel
theorem dX0_compoundTerm_2 : decode cX0_compoundTerm 2 = .ok (.tableswitch 50 0 2 #[26, 28, 48], 26) := by decide +kernel
theorem dX0_compoundTerm_28 : decode cX0_compoundTerm 28 = .ok (.iload_n 1, 1) := by decide +kernel
theorem dX0_compoundTerm_29 : decode cX0_compoundTerm 29 = .ok (.ireturn, 1) := by decide +kernel
theorem dX0_compoundTerm_30 : decode cX0_compoundTerm 30 = .ok (.aload_n 0, 1) := by decide +kernel
theorem dX0_compoundTerm_31 : decode cX0_compoundTerm 31 = .ok (.aload_n 0, 1) := by decide +kernel
theorem dX0_compoundTerm_32 : decode cX0_compoundTerm 32 = .ok (.getfield 9, 3) := by decide +kernel
theorem dX0_compoundTerm_35 : decode cX0_compoundTerm 35 = .ok (.iload_n 1, 1) := by decide +kernel
theorem dX0_compoundTerm_36 : decode cX0_compoundTerm 36 = .ok (.iaload, 1) := by decide +kernel
theorem dX0_compoundTerm_37 : decode cX0_compoundTerm 37 = .ok (.aload_n 0, 1) := by decide +kernel
theorem dX0_compoundTerm_38 : decode cX0_compoundTerm 38 = .ok (.getfield 9, 3) := by decide +kernel
theorem dX0_compoundTerm_41 : decode cX0_compoundTerm 41 = .ok (.iload_n 2, 1) := by decide +kernel
theorem dX0_compoundTerm_42 : decode cX0_compoundTerm 42 = .ok (.iaload, 1) := by decide +kernel
theorem dX0_compoundTerm_43 : decode cX0_compoundTerm 43 = .ok (.iload_n 3, 1) := by decide +kernel
theorem dX0_compoundTerm_44 : decode cX0_compoundTerm 44 = .ok (.iload 4, 2) := by decide +kernel
theorem dX0_compoundTerm_46 : decode cX0_compoundTerm 46 = .ok (.invokevirtual 136, 3) := by decide +kernel
theorem dX0_compoundTerm_49 : decode cX0_compoundTerm 49 = .ok (.ireturn, 1) := by decide +kernel
theorem dX0_compoundTerm_50 : decode cX0_compoundTerm 50 = .ok (.iload_n 2, 1) := by decide +kernel
theorem dX0_compoundTerm_51 : decode cX0_compoundTerm 51 = .ok (.ireturn, 1) := by decide +kernel
theorem dX0_compoundTerm_52 : decode cX0_compoundTerm 52 = .ok (.iload 4, 2) := by decide +kernel
theorem dX0_compoundTerm_54 : decode cX0_compoundTerm 54 = .ok (.ireturn, 1) := by decide +kernel
set_option maxRecDepth 20000 in
theorem ggX0_partsBeside_X0_standsIn : GoodIn wsX0_partsBeside wsX0_standsIn := goodIn_r _ [5, 6, 7, 8, 9, 10, 11, 12, 4, 13, 14, 15, 16, 17, 18, 19, 20, 21, 22, 23, 24, 25, 26, 27, 28, 29, 30, 31, 32, 33, 34, 35, 36, 37, 38, 39, 40, 41, 42, 43, 44, 45, 46, 47, 48, 49, 50, 51, 52, 53, 54, 55, 56, 57, 58, 59, 60, 61] (by decide +kernel) (by decide +kernel)
set_option maxRecDepth 20000 in
theorem gX0_partsBeside_X0_standsIn : GoodIn wsX0_partsBeside (wsV RX0 140 RX0 yX0_standsIn wsX0_standsIn) := goodIn_app (goodIn_of _ (by decide +kernel)) ggX0_partsBeside_X0_standsIn
theorem dX0_partsBeside_0 : decode cX0_partsBeside 0 = .ok (.iconst 1, 1) := by decide +kernel
theorem dX0_partsBeside_1 : decode cX0_partsBeside 1 = .ok (.istore_n 2, 1) := by decide +kernel
theorem dX0_partsBeside_2 : decode cX0_partsBeside 2 = .ok (.iload_n 2, 1) := by decide +kernel
theorem dX0_partsBeside_3 : decode cX0_partsBeside 3 = .ok (.bipush 10, 2) := by decide +kernel
theorem dX0_partsBeside_5 : decode cX0_partsBeside 5 = .ok (.if_icmp .gt 39, 3) := by decide +kernel
theorem dX0_partsBeside_8 : decode cX0_partsBeside 8 = .ok (.aload_n 0, 1) := by decide +kernel
theorem dX0_partsBeside_9 : decode cX0_partsBeside 9 = .ok (.iload_n 1, 1) := by decide +kernel
theorem dX0_partsBeside_10 : decode cX0_partsBeside 10 = .ok (.iload_n 2, 1) := by decide +kernel
theorem dX0_partsBeside_11 : decode cX0_partsBeside 11 = .ok (.isub, 1) := by decide +kernel
theorem dX0_partsBeside_12 : decode cX0_partsBeside 12 = .ok (.iload_n 1, 1) := by decide +kernel
theorem dX0_partsBeside_13 : decode cX0_partsBeside 13 = .ok (.invokevirtual 140, 3) := by decide +kernel
theorem dX0_partsBeside_16 : decode cX0_partsBeside 16 = .ok (.ifCond .eq 7, 3) := by decide +kernel
theorem dX0_partsBeside_19 : decode cX0_partsBeside 19 = .ok (.iload_n 1, 1) := by decide +kernel
theorem dX0_partsBeside_20 : decode cX0_partsBeside 20 = .ok (.iload_n 2, 1) := by decide +kernel
theorem dX0_partsBeside_21 : decode cX0_partsBeside 21 = .ok (.isub, 1) := by decide +kernel
theorem dX0_partsBeside_22 : decode cX0_partsBeside 22 = .ok (.ireturn, 1) := by decide +kernel
theorem dX0_partsBeside_23 : decode cX0_partsBeside 23 = .ok (.aload_n 0, 1) := by decide +kernel
theorem dX0_partsBeside_24 : decode cX0_partsBeside 24 = .ok (.iload_n 1, 1) := by decide +kernel
theorem dX0_partsBeside_25 : decode cX0_partsBeside 25 = .ok (.iload_n 2, 1) := by decide +kernel
theorem dX0_partsBeside_26 : decode cX0_partsBeside 26 = .ok (.iadd, 1) := by decide +kernel
theorem dX0_partsBeside_27 : decode cX0_partsBeside 27 = .ok (.iload_n 1, 1) := by decide +kernel
theorem dX0_partsBeside_28 : decode cX0_partsBeside 28 = .ok (.invokevirtual 140, 3) := by decide +kernel
theorem dX0_partsBeside_31 : decode cX0_partsBeside 31 = .ok (.ifCond .eq 7, 3) := by decide +kernel
theorem dX0_partsBeside_34 : decode cX0_partsBeside 34 = .ok (.iload_n 1, 1) := by decide +kernel
theorem dX0_partsBeside_35 : decode cX0_partsBeside 35 = .ok (.iload_n 2, 1) := by decide +kernel
theorem dX0_partsBeside_36 : decode cX0_partsBeside 36 = .ok (.iadd, 1) := by decide +kernel
theorem dX0_partsBeside_37 : decode cX0_partsBeside 37 = .ok (.ireturn, 1) := by decide +kernel
theorem dX0_partsBeside_38 : decode cX0_partsBeside 38 = .ok (.iinc 2 1, 3) := by decide +kernel
theorem dX0_partsBeside_41 : decode cX0_partsBeside 41 = .ok (.goto (-39), 3) := by decide +kernel
theorem dX0_partsBeside_44 : decode cX0_partsBeside 44 = .ok (.bipush (-6), 2) := by decide +kernel
theorem dX0_partsBeside_46 : decode cX0_partsBeside 46 = .ok (.ireturn, 1) := by decide +kernel
set_option maxRecDepth 20000 in
theorem ggX0_standsIn_X0_isNoNumberOfParts : GoodIn wsX0_standsIn wsX0_isNoNumberOfParts := goodIn_r _ [9, 10, 11, 8, 12] (by decide +kernel) (by decide +kernel)
set_option maxRecDepth 20000 in
theorem gX0_standsIn_X0_isNoNumberOfParts : GoodIn wsX0_standsIn (va_wsS RX0 50 yX0_isNoNumberOfParts wsX0_isNoNumberOfParts) := goodIn_app (goodIn_of _ (by decide +kernel)) ggX0_standsIn_X0_isNoNumberOfParts
set_option maxRecDepth 20000 in
theorem ggX0_standsIn_X0_plainCircle : GoodIn wsX0_standsIn wsX0_plainCircle := goodIn_r _ [16, 17, 5, 18, 19, 20, 8, 21, 49, 50, 51, 52, 53, 54, 55, 56, 57] (by decide +kernel) (by decide +kernel)
set_option maxRecDepth 20000 in
theorem gX0_standsIn_X0_plainCircle : GoodIn wsX0_standsIn (wsV RX0 53 RX0 yX0_plainCircle wsX0_plainCircle) := goodIn_app (goodIn_of _ (by decide +kernel)) ggX0_standsIn_X0_plainCircle
set_option maxRecDepth 20000 in
theorem ggX0_standsIn_X0_findTrain : GoodIn wsX0_standsIn wsX0_findTrain := goodIn_r _ [25, 26, 27, 28, 8, 29, 30, 31, 19, 20, 21, 32, 33, 34, 35, 36, 37, 38, 39, 40, 41, 42, 43, 44, 45, 46, 47, 48, 49, 50, 51, 52, 53, 54, 55, 56, 57] (by decide +kernel) (by decide +kernel)
set_option maxRecDepth 20000 in
theorem gX0_standsIn_X0_findTrain : GoodIn wsX0_standsIn (wsV RX0 73 RX0 yX0_findTrain wsX0_findTrain) := goodIn_app (goodIn_of _ (by decide +kernel)) ggX0_standsIn_X0_findTrain
theorem dX0_standsIn_0 : decode cX0_standsIn 0 = .ok (.iload_n 1, 1) := by decide +kernel
theorem dX0_standsIn_1 : decode cX0_standsIn 1 = .ok (.invokestatic 50, 3) := by decide +kernel
theorem dX0_standsIn_4 : decode cX0_standsIn 4 = .ok (.ifCond .ne 38, 3) := by decide +kernel
theorem dX0_standsIn_7 : decode cX0_standsIn 7 = .ok (.aload_n 0, 1) := by decide +kernel
theorem dX0_standsIn_8 : decode cX0_standsIn 8 = .ok (.iload_n 1, 1) := by decide +kernel
theorem dX0_standsIn_9 : decode cX0_standsIn 9 = .ok (.invokevirtual 53, 3) := by decide +kernel
theorem dX0_standsIn_12 : decode cX0_standsIn 12 = .ok (.bipush (-6), 2) := by decide +kernel
theorem dX0_standsIn_14 : decode cX0_standsIn 14 = .ok (.if_icmp .eq 28, 3) := by decide +kernel
theorem dX0_standsIn_17 : decode cX0_standsIn 17 = .ok (.aload_n 0, 1) := by decide +kernel
theorem dX0_standsIn_18 : decode cX0_standsIn 18 = .ok (.iload_n 1, 1) := by decide +kernel
theorem dX0_standsIn_19 : decode cX0_standsIn 19 = .ok (.iload_n 2, 1) := by decide +kernel
theorem dX0_standsIn_20 : decode cX0_standsIn 20 = .ok (.isub, 1) := by decide +kernel
theorem dX0_standsIn_21 : decode cX0_standsIn 21 = .ok (.invokestatic 143, 3) := by decide +kernel
theorem dX0_standsIn_24 : decode cX0_standsIn 24 = .ok (.aload_n 0, 1) := by decide +kernel
theorem dX0_standsIn_25 : decode cX0_standsIn 25 = .ok (.getfield 22, 3) := by decide +kernel
theorem dX0_standsIn_28 : decode cX0_standsIn 28 = .ok (.imul, 1) := by decide +kernel
theorem dX0_standsIn_29 : decode cX0_standsIn 29 = .ok (.i2l, 1) := by decide +kernel
theorem dX0_standsIn_30 : decode cX0_standsIn 30 = .ok (.iload_n 1, 1) := by decide +kernel
theorem dX0_standsIn_31 : decode cX0_standsIn 31 = .ok (.i2l, 1) := by decide +kernel
theorem dX0_standsIn_32 : decode cX0_standsIn 32 = .ok (.invokevirtual 73, 3) := by decide +kernel
theorem dX0_standsIn_35 : decode cX0_standsIn 35 = .ok (.ifCond .eq 7, 3) := by decide +kernel
theorem dX0_standsIn_38 : decode cX0_standsIn 38 = .ok (.iconst 1, 1) := by decide +kernel
theorem dX0_standsIn_39 : decode cX0_standsIn 39 = .ok (.goto 4, 3) := by decide +kernel
theorem dX0_standsIn_42 : decode cX0_standsIn 42 = .ok (.iconst 0, 1) := by decide +kernel
theorem dX0_standsIn_43 : decode cX0_standsIn 43 = .ok (.ireturn, 1) := by decide +kernel
set_option maxRecDepth 20000 in
theorem ggX0_findTrain_X0_findTwoGears : GoodIn wsX0_findTrain wsX0_findTwoGears := goodIn_r _ [5, 6, 7, 8, 9, 4, 10, 11, 12, 13, 14, 15, 16, 17, 18, 19, 28, 29, 30, 31, 32, 33, 34, 35, 36] (by decide +kernel) (by decide +kernel)
set_option maxRecDepth 20000 in
theorem gX0_findTrain_X0_findTwoGears : GoodIn wsX0_findTrain (wsV RX0 146 RX0 yX0_findTwoGears wsX0_findTwoGears) := goodIn_app (goodIn_of _ (by decide +kernel)) ggX0_findTrain_X0_findTwoGears
set_option maxRecDepth 20000 in
theorem ggX0_findTrain_X0_findFourGears : GoodIn wsX0_findTrain wsX0_findFourGears := goodIn_r _ [23, 6, 24, 25, 26, 4, 27, 7, 8, 9, 10, 11, 12, 13, 14, 15, 16, 17, 18, 19, 28, 29, 30, 31, 32, 33, 34, 35, 36] (by decide +kernel) (by decide +kernel)
set_option maxRecDepth 20000 in
theorem gX0_findTrain_X0_findFourGears : GoodIn wsX0_findTrain (wsV RX0 149 RX0 yX0_findFourGears wsX0_findFourGears) := goodIn_app (goodIn_of _ (by decide +kernel)) ggX0_findTrain_X0_findFourGears
theorem dX0_findTrain_0 : decode cX0_findTrain 0 = .ok (.aload_n 0, 1) := by decide +kernel
theorem dX0_findTrain_1 : decode cX0_findTrain 1 = .ok (.lload_n 1, 1) := by decide +kernel
theorem dX0_findTrain_2 : decode cX0_findTrain 2 = .ok (.lload_n 3, 1) := by decide +kernel
theorem dX0_findTrain_3 : decode cX0_findTrain 3 = .ok (.invokevirtual 146, 3) := by decide +kernel
theorem dX0_findTrain_6 : decode cX0_findTrain 6 = .ok (.ifCond .ne 12, 3) := by decide +kernel
theorem dX0_findTrain_9 : decode cX0_findTrain 9 = .ok (.aload_n 0, 1) := by decide +kernel
theorem dX0_findTrain_10 : decode cX0_findTrain 10 = .ok (.lload_n 1, 1) := by decide +kernel
theorem dX0_findTrain_11 : decode cX0_findTrain 11 = .ok (.lload_n 3, 1) := by decide +kernel
theorem dX0_findTrain_12 : decode cX0_findTrain 12 = .ok (.invokevirtual 149, 3) := by decide +kernel
theorem dX0_findTrain_15 : decode cX0_findTrain 15 = .ok (.ifCond .eq 7, 3) := by decide +kernel
theorem dX0_findTrain_18 : decode cX0_findTrain 18 = .ok (.iconst 1, 1) := by decide +kernel
theorem dX0_findTrain_19 : decode cX0_findTrain 19 = .ok (.goto 4, 3) := by decide +kernel
theorem dX0_findTrain_22 : decode cX0_findTrain 22 = .ok (.iconst 0, 1) := by decide +kernel
theorem dX0_findTrain_23 : decode cX0_findTrain 23 = .ok (.ireturn, 1) := by decide +kernel
set_option maxRecDepth 20000 in
theorem ggX0_findTwoGears_X0_exactQuotient : GoodIn wsX0_findTwoGears wsX0_exactQuotient := goodIn_r _ [6] (by decide +kernel) (by decide +kernel)
set_option maxRecDepth 20000 in
theorem gX0_findTwoGears_X0_exactQuotient : GoodIn wsX0_findTwoGears (va_wsS RX0 133 yX0_exactQuotient wsX0_exactQuotient) := goodIn_app (goodIn_of _ (by decide +kernel)) ggX0_findTwoGears_X0_exactQuotient
set_option maxRecDepth 20000 in
theorem ggX0_findTwoGears_X0_gearWith : GoodIn wsX0_findTwoGears wsX0_gearWith := goodIn_r _ [10, 1, 2, 16, 17, 18, 19, 20, 21, 22, 23, 24] (by decide +kernel) (by decide +kernel)
set_option maxRecDepth 20000 in
theorem gX0_findTwoGears_X0_gearWith : GoodIn wsX0_findTwoGears (wsV RX0 152 RX0 yX0_gearWith wsX0_gearWith) := goodIn_app (goodIn_of _ (by decide +kernel)) ggX0_findTwoGears_X0_gearWith
set_option maxRecDepth 20000 in
theorem ggX0_findTwoGears_X0_keepTrain : GoodIn wsX0_findTwoGears wsX0_keepTrain := goodIn_r _ [14, 15, 16, 17, 18, 19, 20, 21, 22, 23, 24] (by decide +kernel) (by decide +kernel)
set_option maxRecDepth 20000 in
theorem gX0_findTwoGears_X0_keepTrain : GoodIn wsX0_findTwoGears (wsV RX0 156 RX0 yX0_keepTrain wsX0_keepTrain) := goodIn_app (goodIn_of _ (by decide +kernel)) ggX0_findTwoGears_X0_keepTrain
theorem dX0_findTwoGears_0 : decode cX0_findTwoGears 0 = .ok (.iconst 0, 1) := by decide +kernel
theorem dX0_findTwoGears_1 : decode cX0_findTwoGears 1 = .ok (.istore 5, 2) := by decide +kernel
theorem dX0_findTwoGears_3 : decode cX0_findTwoGears 3 = .ok (.iload 5, 2) := by decide +kernel
theorem dX0_findTwoGears_5 : decode cX0_findTwoGears 5 = .ok (.aload_n 0, 1) := by decide +kernel
theorem dX0_findTwoGears_6 : decode cX0_findTwoGears 6 = .ok (.getfield 47, 3) := by decide +kernel
theorem dX0_findTwoGears_9 : decode cX0_findTwoGears 9 = .ok (.if_icmp .ge 55, 3) := by decide +kernel
theorem dX0_findTwoGears_12 : decode cX0_findTwoGears 12 = .ok (.aload_n 0, 1) := by decide +kernel
theorem dX0_findTwoGears_13 : decode cX0_findTwoGears 13 = .ok (.aload_n 0, 1) := by decide +kernel
theorem dX0_findTwoGears_14 : decode cX0_findTwoGears 14 = .ok (.getfield 13, 3) := by decide +kernel
theorem dX0_findTwoGears_17 : decode cX0_findTwoGears 17 = .ok (.iload 5, 2) := by decide +kernel
theorem dX0_findTwoGears_19 : decode cX0_findTwoGears 19 = .ok (.iaload, 1) := by decide +kernel
theorem dX0_findTwoGears_20 : decode cX0_findTwoGears 20 = .ok (.i2l, 1) := by decide +kernel
theorem dX0_findTwoGears_21 : decode cX0_findTwoGears 21 = .ok (.lload_n 3, 1) := by decide +kernel
theorem dX0_findTwoGears_22 : decode cX0_findTwoGears 22 = .ok (.lmul, 1) := by decide +kernel
theorem dX0_findTwoGears_23 : decode cX0_findTwoGears 23 = .ok (.lload_n 1, 1) := by decide +kernel
theorem dX0_findTwoGears_24 : decode cX0_findTwoGears 24 = .ok (.invokestatic 133, 3) := by decide +kernel
theorem dX0_findTwoGears_27 : decode cX0_findTwoGears 27 = .ok (.iload 5, 2) := by decide +kernel
theorem dX0_findTwoGears_29 : decode cX0_findTwoGears 29 = .ok (.iload 5, 2) := by decide +kernel
theorem dX0_findTwoGears_31 : decode cX0_findTwoGears 31 = .ok (.iload 5, 2) := by decide +kernel
theorem dX0_findTwoGears_33 : decode cX0_findTwoGears 33 = .ok (.invokevirtual 152, 3) := by decide +kernel
theorem dX0_findTwoGears_36 : decode cX0_findTwoGears 36 = .ok (.istore 6, 2) := by decide +kernel
theorem dX0_findTwoGears_38 : decode cX0_findTwoGears 38 = .ok (.iload 6, 2) := by decide +kernel
theorem dX0_findTwoGears_40 : decode cX0_findTwoGears 40 = .ok (.bipush (-6), 2) := by decide +kernel
theorem dX0_findTwoGears_42 : decode cX0_findTwoGears 42 = .ok (.if_icmp .eq 16, 3) := by decide +kernel
theorem dX0_findTwoGears_45 : decode cX0_findTwoGears 45 = .ok (.aload_n 0, 1) := by decide +kernel
theorem dX0_findTwoGears_46 : decode cX0_findTwoGears 46 = .ok (.iload 5, 2) := by decide +kernel
theorem dX0_findTwoGears_48 : decode cX0_findTwoGears 48 = .ok (.iload 6, 2) := by decide +kernel
theorem dX0_findTwoGears_50 : decode cX0_findTwoGears 50 = .ok (.bipush (-6), 2) := by decide +kernel
theorem dX0_findTwoGears_52 : decode cX0_findTwoGears 52 = .ok (.bipush (-6), 2) := by decide +kernel
theorem dX0_findTwoGears_54 : decode cX0_findTwoGears 54 = .ok (.invokevirtual 156, 3) := by decide +kernel
theorem dX0_findTwoGears_57 : decode cX0_findTwoGears 57 = .ok (.ireturn, 1) := by decide +kernel
theorem dX0_findTwoGears_58 : decode cX0_findTwoGears 58 = .ok (.iinc 5 1, 3) := by decide +kernel
theorem dX0_findTwoGears_61 : decode cX0_findTwoGears 61 = .ok (.goto (-58), 3) := by decide +kernel
theorem dX0_findTwoGears_64 : decode cX0_findTwoGears 64 = .ok (.iconst 0, 1) := by decide +kernel
theorem dX0_findTwoGears_65 : decode cX0_findTwoGears 65 = .ok (.ireturn, 1) := by decide +kernel
set_option maxRecDepth 20000 in
theorem ggX0_findFourGears_X0_findSecondPair : GoodIn wsX0_findFourGears wsX0_findSecondPair := goodIn_r _ [6, 1, 7, 8, 9, 5, 10, 11, 12, 13, 14, 15, 16, 17, 18, 19, 20, 21, 22, 23, 24, 25, 26, 27, 28] (by decide +kernel) (by decide +kernel)
set_option maxRecDepth 20000 in
theorem gX0_findFourGears_X0_findSecondPair : GoodIn wsX0_findFourGears (wsV RX0 160 RX0 yX0_findSecondPair wsX0_findSecondPair) := goodIn_app (goodIn_of _ (by decide +kernel)) ggX0_findFourGears_X0_findSecondPair
theorem dX0_findFourGears_0 : decode cX0_findFourGears 0 = .ok (.iconst 0, 1) := by decide +kernel
theorem dX0_findFourGears_1 : decode cX0_findFourGears 1 = .ok (.istore 5, 2) := by decide +kernel
theorem dX0_findFourGears_3 : decode cX0_findFourGears 3 = .ok (.iload 5, 2) := by decide +kernel
theorem dX0_findFourGears_5 : decode cX0_findFourGears 5 = .ok (.aload_n 0, 1) := by decide +kernel
theorem dX0_findFourGears_6 : decode cX0_findFourGears 6 = .ok (.getfield 47, 3) := by decide +kernel
theorem dX0_findFourGears_9 : decode cX0_findFourGears 9 = .ok (.if_icmp .ge 49, 3) := by decide +kernel
theorem dX0_findFourGears_12 : decode cX0_findFourGears 12 = .ok (.iconst 0, 1) := by decide +kernel
theorem dX0_findFourGears_13 : decode cX0_findFourGears 13 = .ok (.istore 6, 2) := by decide +kernel
theorem dX0_findFourGears_15 : decode cX0_findFourGears 15 = .ok (.iload 6, 2) := by decide +kernel
theorem dX0_findFourGears_17 : decode cX0_findFourGears 17 = .ok (.aload_n 0, 1) := by decide +kernel
theorem dX0_findFourGears_18 : decode cX0_findFourGears 18 = .ok (.getfield 47, 3) := by decide +kernel
theorem dX0_findFourGears_21 : decode cX0_findFourGears 21 = .ok (.if_icmp .ge 31, 3) := by decide +kernel
theorem dX0_findFourGears_24 : decode cX0_findFourGears 24 = .ok (.iload 6, 2) := by decide +kernel
theorem dX0_findFourGears_26 : decode cX0_findFourGears 26 = .ok (.iload 5, 2) := by decide +kernel
theorem dX0_findFourGears_28 : decode cX0_findFourGears 28 = .ok (.if_icmp .eq 18, 3) := by decide +kernel
theorem dX0_findFourGears_31 : decode cX0_findFourGears 31 = .ok (.aload_n 0, 1) := by decide +kernel
theorem dX0_findFourGears_32 : decode cX0_findFourGears 32 = .ok (.iload 5, 2) := by decide +kernel
theorem dX0_findFourGears_34 : decode cX0_findFourGears 34 = .ok (.iload 6, 2) := by decide +kernel
theorem dX0_findFourGears_36 : decode cX0_findFourGears 36 = .ok (.lload_n 1, 1) := by decide +kernel
theorem dX0_findFourGears_37 : decode cX0_findFourGears 37 = .ok (.lload_n 3, 1) := by decide +kernel
theorem dX0_findFourGears_38 : decode cX0_findFourGears 38 = .ok (.invokevirtual 160, 3) := by decide +kernel
theorem dX0_findFourGears_41 : decode cX0_findFourGears 41 = .ok (.ifCond .eq 5, 3) := by decide +kernel
theorem dX0_findFourGears_44 : decode cX0_findFourGears 44 = .ok (.iconst 1, 1) := by decide +kernel
theorem dX0_findFourGears_45 : decode cX0_findFourGears 45 = .ok (.ireturn, 1) := by decide +kernel
theorem dX0_findFourGears_46 : decode cX0_findFourGears 46 = .ok (.iinc 6 1, 3) := by decide +kernel
theorem dX0_findFourGears_49 : decode cX0_findFourGears 49 = .ok (.goto (-34), 3) := by decide +kernel
theorem dX0_findFourGears_52 : decode cX0_findFourGears 52 = .ok (.iinc 5 1, 3) := by decide +kernel
theorem dX0_findFourGears_55 : decode cX0_findFourGears 55 = .ok (.goto (-52), 3) := by decide +kernel
theorem dX0_findFourGears_58 : decode cX0_findFourGears 58 = .ok (.iconst 0, 1) := by decide +kernel
theorem dX0_findFourGears_59 : decode cX0_findFourGears 59 = .ok (.ireturn, 1) := by decide +kernel
set_option maxRecDepth 20000 in
theorem ggX0_findSecondPair_X0_exactQuotient : GoodIn wsX0_findSecondPair wsX0_exactQuotient := goodIn_r _ [6] (by decide +kernel) (by decide +kernel)
set_option maxRecDepth 20000 in
theorem gX0_findSecondPair_X0_exactQuotient : GoodIn wsX0_findSecondPair (va_wsS RX0 133 yX0_exactQuotient wsX0_exactQuotient) := goodIn_app (goodIn_of _ (by decide +kernel)) ggX0_findSecondPair_X0_exactQuotient
set_option maxRecDepth 20000 in
theorem ggX0_findSecondPair_X0_gearWith : GoodIn wsX0_findSecondPair wsX0_gearWith := goodIn_r _ [10, 1, 2, 16, 17, 18, 19, 20, 21, 22, 23, 24] (by decide +kernel) (by decide +kernel)
set_option maxRecDepth 20000 in
theorem gX0_findSecondPair_X0_gearWith : GoodIn wsX0_findSecondPair (wsV RX0 152 RX0 yX0_gearWith wsX0_gearWith) := goodIn_app (goodIn_of _ (by decide +kernel)) ggX0_findSecondPair_X0_gearWith
set_option maxRecDepth 20000 in
theorem ggX0_findSecondPair_X0_keepTrain : GoodIn wsX0_findSecondPair wsX0_keepTrain := goodIn_r _ [14, 15, 16, 17, 18, 19, 20, 21, 22, 23, 24] (by decide +kernel) (by decide +kernel)
set_option maxRecDepth 20000 in
theorem gX0_findSecondPair_X0_keepTrain : GoodIn wsX0_findSecondPair (wsV RX0 156 RX0 yX0_keepTrain wsX0_keepTrain) := goodIn_app (goodIn_of _ (by decide +kernel)) ggX0_findSecondPair_X0_keepTrain
theorem dX0_findSecondPair_0 : decode cX0_findSecondPair 0 = .ok (.iconst 0, 1) := by decide +kernel
theorem dX0_findSecondPair_1 : decode cX0_findSecondPair 1 = .ok (.istore 7, 2) := by decide +kernel
theorem dX0_findSecondPair_3 : decode cX0_findSecondPair 3 = .ok (.iload 7, 2) := by decide +kernel
theorem dX0_findSecondPair_5 : decode cX0_findSecondPair 5 = .ok (.aload_n 0, 1) := by decide +kernel
theorem dX0_findSecondPair_6 : decode cX0_findSecondPair 6 = .ok (.getfield 47, 3) := by decide +kernel
theorem dX0_findSecondPair_9 : decode cX0_findSecondPair 9 = .ok (.if_icmp .ge 83, 3) := by decide +kernel
theorem dX0_findSecondPair_12 : decode cX0_findSecondPair 12 = .ok (.iload 7, 2) := by decide +kernel
theorem dX0_findSecondPair_14 : decode cX0_findSecondPair 14 = .ok (.iload_n 1, 1) := by decide +kernel
theorem dX0_findSecondPair_15 : decode cX0_findSecondPair 15 = .ok (.if_icmp .eq 71, 3) := by decide +kernel
theorem dX0_findSecondPair_18 : decode cX0_findSecondPair 18 = .ok (.iload 7, 2) := by decide +kernel
theorem dX0_findSecondPair_20 : decode cX0_findSecondPair 20 = .ok (.iload_n 2, 1) := by decide +kernel
theorem dX0_findSecondPair_21 : decode cX0_findSecondPair 21 = .ok (.if_icmp .eq 65, 3) := by decide +kernel
theorem dX0_findSecondPair_24 : decode cX0_findSecondPair 24 = .ok (.aload_n 0, 1) := by decide +kernel
theorem dX0_findSecondPair_25 : decode cX0_findSecondPair 25 = .ok (.getfield 13, 3) := by decide +kernel
theorem dX0_findSecondPair_28 : decode cX0_findSecondPair 28 = .ok (.iload_n 1, 1) := by decide +kernel
theorem dX0_findSecondPair_29 : decode cX0_findSecondPair 29 = .ok (.iaload, 1) := by decide +kernel
theorem dX0_findSecondPair_30 : decode cX0_findSecondPair 30 = .ok (.aload_n 0, 1) := by decide +kernel
theorem dX0_findSecondPair_31 : decode cX0_findSecondPair 31 = .ok (.getfield 13, 3) := by decide +kernel
theorem dX0_findSecondPair_34 : decode cX0_findSecondPair 34 = .ok (.iload 7, 2) := by decide +kernel
theorem dX0_findSecondPair_36 : decode cX0_findSecondPair 36 = .ok (.iaload, 1) := by decide +kernel
theorem dX0_findSecondPair_37 : decode cX0_findSecondPair 37 = .ok (.imul, 1) := by decide +kernel
theorem dX0_findSecondPair_38 : decode cX0_findSecondPair 38 = .ok (.i2l, 1) := by decide +kernel
theorem dX0_findSecondPair_39 : decode cX0_findSecondPair 39 = .ok (.lload 5, 2) := by decide +kernel
theorem dX0_findSecondPair_41 : decode cX0_findSecondPair 41 = .ok (.lmul, 1) := by decide +kernel
theorem dX0_findSecondPair_42 : decode cX0_findSecondPair 42 = .ok (.lstore 8, 2) := by decide +kernel
theorem dX0_findSecondPair_44 : decode cX0_findSecondPair 44 = .ok (.aload_n 0, 1) := by decide +kernel
theorem dX0_findSecondPair_45 : decode cX0_findSecondPair 45 = .ok (.lload 8, 2) := by decide +kernel
theorem dX0_findSecondPair_47 : decode cX0_findSecondPair 47 = .ok (.aload_n 0, 1) := by decide +kernel
theorem dX0_findSecondPair_48 : decode cX0_findSecondPair 48 = .ok (.getfield 13, 3) := by decide +kernel
theorem dX0_findSecondPair_51 : decode cX0_findSecondPair 51 = .ok (.iload_n 2, 1) := by decide +kernel
theorem dX0_findSecondPair_52 : decode cX0_findSecondPair 52 = .ok (.iaload, 1) := by decide +kernel
theorem dX0_findSecondPair_53 : decode cX0_findSecondPair 53 = .ok (.i2l, 1) := by decide +kernel
theorem dX0_findSecondPair_54 : decode cX0_findSecondPair 54 = .ok (.lload_n 3, 1) := by decide +kernel
theorem dX0_findSecondPair_55 : decode cX0_findSecondPair 55 = .ok (.lmul, 1) := by decide +kernel
theorem dX0_findSecondPair_56 : decode cX0_findSecondPair 56 = .ok (.invokestatic 133, 3) := by decide +kernel
theorem dX0_findSecondPair_59 : decode cX0_findSecondPair 59 = .ok (.iload_n 1, 1) := by decide +kernel
theorem dX0_findSecondPair_60 : decode cX0_findSecondPair 60 = .ok (.iload_n 2, 1) := by decide +kernel
theorem dX0_findSecondPair_61 : decode cX0_findSecondPair 61 = .ok (.iload 7, 2) := by decide +kernel
theorem dX0_findSecondPair_63 : decode cX0_findSecondPair 63 = .ok (.invokevirtual 152, 3) := by decide +kernel
theorem dX0_findSecondPair_66 : decode cX0_findSecondPair 66 = .ok (.istore 10, 2) := by decide +kernel
theorem dX0_findSecondPair_68 : decode cX0_findSecondPair 68 = .ok (.iload 10, 2) := by decide +kernel
theorem dX0_findSecondPair_70 : decode cX0_findSecondPair 70 = .ok (.bipush (-6), 2) := by decide +kernel
theorem dX0_findSecondPair_72 : decode cX0_findSecondPair 72 = .ok (.if_icmp .eq 14, 3) := by decide +kernel
theorem dX0_findSecondPair_75 : decode cX0_findSecondPair 75 = .ok (.aload_n 0, 1) := by decide +kernel
theorem dX0_findSecondPair_76 : decode cX0_findSecondPair 76 = .ok (.iload_n 1, 1) := by decide +kernel
theorem dX0_findSecondPair_77 : decode cX0_findSecondPair 77 = .ok (.iload_n 2, 1) := by decide +kernel
theorem dX0_findSecondPair_78 : decode cX0_findSecondPair 78 = .ok (.iload 7, 2) := by decide +kernel
theorem dX0_findSecondPair_80 : decode cX0_findSecondPair 80 = .ok (.iload 10, 2) := by decide +kernel
theorem dX0_findSecondPair_82 : decode cX0_findSecondPair 82 = .ok (.invokevirtual 156, 3) := by decide +kernel
theorem dX0_findSecondPair_85 : decode cX0_findSecondPair 85 = .ok (.ireturn, 1) := by decide +kernel
theorem dX0_findSecondPair_86 : decode cX0_findSecondPair 86 = .ok (.iinc 7 1, 3) := by decide +kernel
theorem dX0_findSecondPair_89 : decode cX0_findSecondPair 89 = .ok (.goto (-86), 3) := by decide +kernel
theorem dX0_findSecondPair_92 : decode cX0_findSecondPair 92 = .ok (.iconst 0, 1) := by decide +kernel
theorem dX0_findSecondPair_93 : decode cX0_findSecondPair 93 = .ok (.ireturn, 1) := by decide +kernel
theorem dX0_gearWith_0 : decode cX0_gearWith 0 = .ok (.iconst 0, 1) := by decide +kernel
theorem dX0_gearWith_1 : decode cX0_gearWith 1 = .ok (.istore 6, 2) := by decide +kernel
theorem dX0_gearWith_3 : decode cX0_gearWith 3 = .ok (.iload 6, 2) := by decide +kernel
theorem dX0_gearWith_5 : decode cX0_gearWith 5 = .ok (.aload_n 0, 1) := by decide +kernel
theorem dX0_gearWith_6 : decode cX0_gearWith 6 = .ok (.getfield 47, 3) := by decide +kernel
theorem dX0_gearWith_9 : decode cX0_gearWith 9 = .ok (.if_icmp .ge 45, 3) := by decide +kernel
theorem dX0_gearWith_12 : decode cX0_gearWith 12 = .ok (.aload_n 0, 1) := by decide +kernel
theorem dX0_gearWith_13 : decode cX0_gearWith 13 = .ok (.getfield 13, 3) := by decide +kernel
theorem dX0_gearWith_16 : decode cX0_gearWith 16 = .ok (.iload 6, 2) := by decide +kernel
theorem dX0_gearWith_18 : decode cX0_gearWith 18 = .ok (.iaload, 1) := by decide +kernel
theorem dX0_gearWith_19 : decode cX0_gearWith 19 = .ok (.i2l, 1) := by decide +kernel
theorem dX0_gearWith_20 : decode cX0_gearWith 20 = .ok (.lload_n 1, 1) := by decide +kernel
theorem dX0_gearWith_21 : decode cX0_gearWith 21 = .ok (.lcmp, 1) := by decide +kernel
theorem dX0_gearWith_22 : decode cX0_gearWith 22 = .ok (.ifCond .ne 26, 3) := by decide +kernel
theorem dX0_gearWith_25 : decode cX0_gearWith 25 = .ok (.iload 6, 2) := by decide +kernel
theorem dX0_gearWith_27 : decode cX0_gearWith 27 = .ok (.iload_n 3, 1) := by decide +kernel
theorem dX0_gearWith_28 : decode cX0_gearWith 28 = .ok (.if_icmp .eq 20, 3) := by decide +kernel
theorem dX0_gearWith_31 : decode cX0_gearWith 31 = .ok (.iload 6, 2) := by decide +kernel
theorem dX0_gearWith_33 : decode cX0_gearWith 33 = .ok (.iload 4, 2) := by decide +kernel
theorem dX0_gearWith_35 : decode cX0_gearWith 35 = .ok (.if_icmp .eq 13, 3) := by decide +kernel
theorem dX0_gearWith_38 : decode cX0_gearWith 38 = .ok (.iload 6, 2) := by decide +kernel
theorem dX0_gearWith_40 : decode cX0_gearWith 40 = .ok (.iload 5, 2) := by decide +kernel
theorem dX0_gearWith_42 : decode cX0_gearWith 42 = .ok (.if_icmp .eq 6, 3) := by decide +kernel
theorem dX0_gearWith_45 : decode cX0_gearWith 45 = .ok (.iload 6, 2) := by decide +kernel
theorem dX0_gearWith_47 : decode cX0_gearWith 47 = .ok (.ireturn, 1) := by decide +kernel
theorem dX0_gearWith_48 : decode cX0_gearWith 48 = .ok (.iinc 6 1, 3) := by decide +kernel
theorem dX0_gearWith_51 : decode cX0_gearWith 51 = .ok (.goto (-48), 3) := by decide +kernel
theorem dX0_gearWith_54 : decode cX0_gearWith 54 = .ok (.bipush (-6), 2) := by decide +kernel
theorem dX0_gearWith_56 : decode cX0_gearWith 56 = .ok (.ireturn, 1) := by decide +kernel
theorem dX0_keepTrain_0 : decode cX0_keepTrain 0 = .ok (.aload_n 0, 1) := by decide +kernel
theorem dX0_keepTrain_1 : decode cX0_keepTrain 1 = .ok (.getfield 19, 3) := by decide +kernel
theorem dX0_keepTrain_4 : decode cX0_keepTrain 4 = .ok (.iconst 0, 1) := by decide +kernel
theorem dX0_keepTrain_5 : decode cX0_keepTrain 5 = .ok (.iload_n 1, 1) := by decide +kernel
theorem dX0_keepTrain_6 : decode cX0_keepTrain 6 = .ok (.iastore, 1) := by decide +kernel
theorem dX0_keepTrain_7 : decode cX0_keepTrain 7 = .ok (.aload_n 0, 1) := by decide +kernel
theorem dX0_keepTrain_8 : decode cX0_keepTrain 8 = .ok (.getfield 19, 3) := by decide +kernel
theorem dX0_keepTrain_11 : decode cX0_keepTrain 11 = .ok (.iconst 1, 1) := by decide +kernel
theorem dX0_keepTrain_12 : decode cX0_keepTrain 12 = .ok (.iload_n 2, 1) := by decide +kernel
theorem dX0_keepTrain_13 : decode cX0_keepTrain 13 = .ok (.iastore, 1) := by decide +kernel
theorem dX0_keepTrain_14 : decode cX0_keepTrain 14 = .ok (.aload_n 0, 1) := by decide +kernel
theorem dX0_keepTrain_15 : decode cX0_keepTrain 15 = .ok (.getfield 19, 3) := by decide +kernel
theorem dX0_keepTrain_18 : decode cX0_keepTrain 18 = .ok (.iconst 2, 1) := by decide +kernel
theorem dX0_keepTrain_19 : decode cX0_keepTrain 19 = .ok (.iload_n 3, 1) := by decide +kernel
theorem dX0_keepTrain_20 : decode cX0_keepTrain 20 = .ok (.iastore, 1) := by decide +kernel
theorem dX0_keepTrain_21 : decode cX0_keepTrain 21 = .ok (.aload_n 0, 1) := by decide +kernel
theorem dX0_keepTrain_22 : decode cX0_keepTrain 22 = .ok (.getfield 19, 3) := by decide +kernel
theorem dX0_keepTrain_25 : decode cX0_keepTrain 25 = .ok (.iconst 3, 1) := by decide +kernel
theorem dX0_keepTrain_26 : decode cX0_keepTrain 26 = .ok (.iload 4, 2) := by decide +kernel
theorem dX0_keepTrain_28 : decode cX0_keepTrain 28 = .ok (.iastore, 1) := by decide +kernel
theorem dX0_keepTrain_29 : decode cX0_keepTrain 29 = .ok (.iconst 1, 1) := by decide +kernel
theorem dX0_keepTrain_30 : decode cX0_keepTrain 30 = .ok (.ireturn, 1) := by decide +kernel
set_option maxRecDepth 20000 in
theorem ggX0_nearestHole_X0_nearestOrGreater : GoodIn wsX0_nearestHole wsX0_nearestOrGreater := goodIn_r _ [5, 6] (by decide +kernel) (by decide +kernel)
set_option maxRecDepth 20000 in
theorem gX0_nearestHole_X0_nearestOrGreater : GoodIn wsX0_nearestHole (va_wsS RX0 164 yX0_nearestOrGreater wsX0_nearestOrGreater) := goodIn_app (goodIn_of _ (by decide +kernel)) ggX0_nearestHole_X0_nearestOrGreater
theorem dX0_nearestHole_0 : decode cX0_nearestHole 0 = .ok (.iload_n 3, 1) := by decide +kernel
theorem dX0_nearestHole_1 : decode cX0_nearestHole 1 = .ok (.aload_n 0, 1) := by decide +kernel
theorem dX0_nearestHole_2 : decode cX0_nearestHole 2 = .ok (.getfield 22, 3) := by decide +kernel
theorem dX0_nearestHole_5 : decode cX0_nearestHole 5 = .ok (.imul, 1) := by decide +kernel
theorem dX0_nearestHole_6 : decode cX0_nearestHole 6 = .ok (.iload_n 1, 1) := by decide +kernel
theorem dX0_nearestHole_7 : decode cX0_nearestHole 7 = .ok (.imul, 1) := by decide +kernel
theorem dX0_nearestHole_8 : decode cX0_nearestHole 8 = .ok (.i2l, 1) := by decide +kernel
theorem dX0_nearestHole_9 : decode cX0_nearestHole 9 = .ok (.iload_n 2, 1) := by decide +kernel
theorem dX0_nearestHole_10 : decode cX0_nearestHole 10 = .ok (.i2l, 1) := by decide +kernel
theorem dX0_nearestHole_11 : decode cX0_nearestHole 11 = .ok (.invokestatic 164, 3) := by decide +kernel
theorem dX0_nearestHole_14 : decode cX0_nearestHole 14 = .ok (.l2i, 1) := by decide +kernel
theorem dX0_nearestHole_15 : decode cX0_nearestHole 15 = .ok (.ireturn, 1) := by decide +kernel
set_option maxRecDepth 20000 in
theorem ggX0_missUpper_X0_nearestHole : GoodIn wsX0_missUpper wsX0_nearestHole := goodIn_r _ [6, 1, 7, 8, 5, 9, 10, 11, 12, 13, 14, 15, 16, 17, 18, 19] (by decide +kernel) (by decide +kernel)
set_option maxRecDepth 20000 in
theorem gX0_missUpper_X0_nearestHole : GoodIn wsX0_missUpper (wsV RX0 77 RX0 yX0_nearestHole wsX0_nearestHole) := goodIn_app (goodIn_of _ (by decide +kernel)) ggX0_missUpper_X0_nearestHole
theorem dX0_missUpper_0 : decode cX0_missUpper 0 = .ok (.aload_n 0, 1) := by decide +kernel
theorem dX0_missUpper_1 : decode cX0_missUpper 1 = .ok (.iload_n 1, 1) := by decide +kernel
theorem dX0_missUpper_2 : decode cX0_missUpper 2 = .ok (.iload_n 2, 1) := by decide +kernel
theorem dX0_missUpper_3 : decode cX0_missUpper 3 = .ok (.iload_n 3, 1) := by decide +kernel
theorem dX0_missUpper_4 : decode cX0_missUpper 4 = .ok (.invokevirtual 77, 3) := by decide +kernel
theorem dX0_missUpper_7 : decode cX0_missUpper 7 = .ok (.iload_n 2, 1) := by decide +kernel
theorem dX0_missUpper_8 : decode cX0_missUpper 8 = .ok (.imul, 1) := by decide +kernel
theorem dX0_missUpper_9 : decode cX0_missUpper 9 = .ok (.iload_n 3, 1) := by decide +kernel
theorem dX0_missUpper_10 : decode cX0_missUpper 10 = .ok (.aload_n 0, 1) := by decide +kernel
theorem dX0_missUpper_11 : decode cX0_missUpper 11 = .ok (.getfield 22, 3) := by decide +kernel
theorem dX0_missUpper_14 : decode cX0_missUpper 14 = .ok (.imul, 1) := by decide +kernel
theorem dX0_missUpper_15 : decode cX0_missUpper 15 = .ok (.iload_n 1, 1) := by decide +kernel
theorem dX0_missUpper_16 : decode cX0_missUpper 16 = .ok (.imul, 1) := by decide +kernel
theorem dX0_missUpper_17 : decode cX0_missUpper 17 = .ok (.isub, 1) := by decide +kernel
theorem dX0_missUpper_18 : decode cX0_missUpper 18 = .ok (.ireturn, 1) := by decide +kernel
set_option maxRecDepth 20000 in
theorem ggX0_worstUpper_X0_missUpper : GoodIn wsX0_worstUpper wsX0_missUpper := goodIn_r _ [12, 13, 14, 15, 16, 11, 17, 18, 19, 20, 21, 22, 23, 24, 25, 26, 27, 28, 29, 30] (by decide +kernel) (by decide +kernel)
set_option maxRecDepth 20000 in
theorem gX0_worstUpper_X0_missUpper : GoodIn wsX0_worstUpper (wsV RX0 81 RX0 yX0_missUpper wsX0_missUpper) := goodIn_app (goodIn_of _ (by decide +kernel)) ggX0_worstUpper_X0_missUpper
theorem dX0_worstUpper_0 : decode cX0_worstUpper 0 = .ok (.iconst 0, 1) := by decide +kernel
theorem dX0_worstUpper_1 : decode cX0_worstUpper 1 = .ok (.istore_n 3, 1) := by decide +kernel
theorem dX0_worstUpper_2 : decode cX0_worstUpper 2 = .ok (.iconst 0, 1) := by decide +kernel
theorem dX0_worstUpper_3 : decode cX0_worstUpper 3 = .ok (.istore 4, 2) := by decide +kernel
theorem dX0_worstUpper_5 : decode cX0_worstUpper 5 = .ok (.iload 4, 2) := by decide +kernel
theorem dX0_worstUpper_7 : decode cX0_worstUpper 7 = .ok (.iload_n 2, 1) := by decide +kernel
theorem dX0_worstUpper_8 : decode cX0_worstUpper 8 = .ok (.if_icmp .gt 25, 3) := by decide +kernel
theorem dX0_worstUpper_11 : decode cX0_worstUpper 11 = .ok (.iload_n 3, 1) := by decide +kernel
theorem dX0_worstUpper_12 : decode cX0_worstUpper 12 = .ok (.aload_n 0, 1) := by decide +kernel
theorem dX0_worstUpper_13 : decode cX0_worstUpper 13 = .ok (.iload_n 1, 1) := by decide +kernel
theorem dX0_worstUpper_14 : decode cX0_worstUpper 14 = .ok (.iload_n 2, 1) := by decide +kernel
theorem dX0_worstUpper_15 : decode cX0_worstUpper 15 = .ok (.iload 4, 2) := by decide +kernel
theorem dX0_worstUpper_17 : decode cX0_worstUpper 17 = .ok (.invokevirtual 81, 3) := by decide +kernel
theorem dX0_worstUpper_20 : decode cX0_worstUpper 20 = .ok (.invokestatic 143, 3) := by decide +kernel
theorem dX0_worstUpper_23 : decode cX0_worstUpper 23 = .ok (.invokestatic 167, 3) := by decide +kernel
theorem dX0_worstUpper_26 : decode cX0_worstUpper 26 = .ok (.istore_n 3, 1) := by decide +kernel
theorem dX0_worstUpper_27 : decode cX0_worstUpper 27 = .ok (.iinc 4 1, 3) := by decide +kernel
theorem dX0_worstUpper_30 : decode cX0_worstUpper 30 = .ok (.goto (-25), 3) := by decide +kernel
theorem dX0_worstUpper_33 : decode cX0_worstUpper 33 = .ok (.iload_n 3, 1) := by decide +kernel
theorem dX0_worstUpper_34 : decode cX0_worstUpper 34 = .ok (.ireturn, 1) := by decide +kernel
set_option maxRecDepth 20000 in
theorem ggX0_exactCuts_X0_missUpper : GoodIn wsX0_exactCuts wsX0_missUpper := goodIn_r _ [5, 6, 7, 8, 9, 4, 10, 11, 12, 13, 14, 15, 16, 17, 18, 19, 20, 21, 22, 23] (by decide +kernel) (by decide +kernel)
set_option maxRecDepth 20000 in
theorem gX0_exactCuts_X0_missUpper : GoodIn wsX0_exactCuts (wsV RX0 81 RX0 yX0_missUpper wsX0_missUpper) := goodIn_app (goodIn_of _ (by decide +kernel)) ggX0_exactCuts_X0_missUpper
theorem dX0_exactCuts_0 : decode cX0_exactCuts 0 = .ok (.iconst 0, 1) := by decide +kernel
theorem dX0_exactCuts_1 : decode cX0_exactCuts 1 = .ok (.istore_n 3, 1) := by decide +kernel
theorem dX0_exactCuts_2 : decode cX0_exactCuts 2 = .ok (.iconst 0, 1) := by decide +kernel
theorem dX0_exactCuts_3 : decode cX0_exactCuts 3 = .ok (.istore 4, 2) := by decide +kernel
theorem dX0_exactCuts_5 : decode cX0_exactCuts 5 = .ok (.iload 4, 2) := by decide +kernel
theorem dX0_exactCuts_7 : decode cX0_exactCuts 7 = .ok (.iload_n 2, 1) := by decide +kernel
theorem dX0_exactCuts_8 : decode cX0_exactCuts 8 = .ok (.if_icmp .ge 23, 3) := by decide +kernel
theorem dX0_exactCuts_11 : decode cX0_exactCuts 11 = .ok (.aload_n 0, 1) := by decide +kernel
theorem dX0_exactCuts_12 : decode cX0_exactCuts 12 = .ok (.iload_n 1, 1) := by decide +kernel
theorem dX0_exactCuts_13 : decode cX0_exactCuts 13 = .ok (.iload_n 2, 1) := by decide +kernel
theorem dX0_exactCuts_14 : decode cX0_exactCuts 14 = .ok (.iload 4, 2) := by decide +kernel
theorem dX0_exactCuts_16 : decode cX0_exactCuts 16 = .ok (.invokevirtual 81, 3) := by decide +kernel
theorem dX0_exactCuts_19 : decode cX0_exactCuts 19 = .ok (.ifCond .ne 6, 3) := by decide +kernel
theorem dX0_exactCuts_22 : decode cX0_exactCuts 22 = .ok (.iinc 3 1, 3) := by decide +kernel
theorem dX0_exactCuts_25 : decode cX0_exactCuts 25 = .ok (.iinc 4 1, 3) := by decide +kernel
theorem dX0_exactCuts_28 : decode cX0_exactCuts 28 = .ok (.goto (-23), 3) := by decide +kernel
theorem dX0_exactCuts_31 : decode cX0_exactCuts 31 = .ok (.iload_n 3, 1) := by decide +kernel
theorem dX0_exactCuts_32 : decode cX0_exactCuts 32 = .ok (.ireturn, 1) := by decide +kernel
theorem dX0_errorUpper_0 : decode cX0_errorUpper 0 = .ok (.iload_n 1, 1) := by decide +kernel
theorem dX0_errorUpper_1 : decode cX0_errorUpper 1 = .ok (.iconst 1, 1) := by decide +kernel
theorem dX0_errorUpper_2 : decode cX0_errorUpper 2 = .ok (.if_icmp .ge 5, 3) := by decide +kernel
theorem dX0_errorUpper_5 : decode cX0_errorUpper 5 = .ok (.iconst 0, 1) := by decide +kernel
theorem dX0_errorUpper_6 : decode cX0_errorUpper 6 = .ok (.ireturn, 1) := by decide +kernel
theorem dX0_errorUpper_7 : decode cX0_errorUpper 7 = .ok (.iload_n 3, 1) := by decide +kernel
theorem dX0_errorUpper_8 : decode cX0_errorUpper 8 = .ok (.i2l, 1) := by decide +kernel
theorem dX0_errorUpper_9 : decode cX0_errorUpper 9 = .ok (.iload_n 2, 1) := by decide +kernel
theorem dX0_errorUpper_10 : decode cX0_errorUpper 10 = .ok (.i2l, 1) := by decide +kernel
theorem dX0_errorUpper_11 : decode cX0_errorUpper 11 = .ok (.lmul, 1) := by decide +kernel
theorem dX0_errorUpper_12 : decode cX0_errorUpper 12 = .ok (.iload_n 1, 1) := by decide +kernel
theorem dX0_errorUpper_13 : decode cX0_errorUpper 13 = .ok (.i2l, 1) := by decide +kernel
theorem dX0_errorUpper_14 : decode cX0_errorUpper 14 = .ok (.lrem, 1) := by decide +kernel
theorem dX0_errorUpper_15 : decode cX0_errorUpper 15 = .ok (.l2i, 1) := by decide +kernel
theorem dX0_errorUpper_16 : decode cX0_errorUpper 16 = .ok (.istore 4, 2) := by decide +kernel
theorem dX0_errorUpper_18 : decode cX0_errorUpper 18 = .ok (.iload 4, 2) := by decide +kernel
theorem dX0_errorUpper_20 : decode cX0_errorUpper 20 = .ok (.bipush 8, 2) := by decide +kernel
theorem dX0_errorUpper_22 : decode cX0_errorUpper 22 = .ok (.imul, 1) := by decide +kernel
theorem dX0_errorUpper_23 : decode cX0_errorUpper 23 = .ok (.iload_n 1, 1) := by decide +kernel
theorem dX0_errorUpper_24 : decode cX0_errorUpper 24 = .ok (.idiv, 1) := by decide +kernel
theorem dX0_errorUpper_25 : decode cX0_errorUpper 25 = .ok (.istore 5, 2) := by decide +kernel
theorem dX0_errorUpper_27 : decode cX0_errorUpper 27 = .ok (.iload 4, 2) := by decide +kernel
theorem dX0_errorUpper_29 : decode cX0_errorUpper 29 = .ok (.bipush 8, 2) := by decide +kernel
theorem dX0_errorUpper_31 : decode cX0_errorUpper 31 = .ok (.imul, 1) := by decide +kernel
theorem dX0_errorUpper_32 : decode cX0_errorUpper 32 = .ok (.iload_n 1, 1) := by decide +kernel
theorem dX0_errorUpper_33 : decode cX0_errorUpper 33 = .ok (.irem, 1) := by decide +kernel
theorem dX0_errorUpper_34 : decode cX0_errorUpper 34 = .ok (.istore 6, 2) := by decide +kernel
theorem dX0_errorUpper_36 : decode cX0_errorUpper 36 = .ok (.aload_n 0, 1) := by decide +kernel
theorem dX0_errorUpper_37 : decode cX0_errorUpper 37 = .ok (.getfield 16, 3) := by decide +kernel
theorem dX0_errorUpper_40 : decode cX0_errorUpper 40 = .ok (.iload 5, 2) := by decide +kernel
theorem dX0_errorUpper_42 : decode cX0_errorUpper 42 = .ok (.bipush 8, 2) := by decide +kernel
theorem dX0_errorUpper_44 : decode cX0_errorUpper 44 = .ok (.irem, 1) := by decide +kernel
theorem dX0_errorUpper_45 : decode cX0_errorUpper 45 = .ok (.iaload, 1) := by decide +kernel
theorem dX0_errorUpper_46 : decode cX0_errorUpper 46 = .ok (.iload_n 1, 1) := by decide +kernel
theorem dX0_errorUpper_47 : decode cX0_errorUpper 47 = .ok (.iload 6, 2) := by decide +kernel
theorem dX0_errorUpper_49 : decode cX0_errorUpper 49 = .ok (.isub, 1) := by decide +kernel
theorem dX0_errorUpper_50 : decode cX0_errorUpper 50 = .ok (.imul, 1) := by decide +kernel
theorem dX0_errorUpper_51 : decode cX0_errorUpper 51 = .ok (.aload_n 0, 1) := by decide +kernel
theorem dX0_errorUpper_52 : decode cX0_errorUpper 52 = .ok (.getfield 16, 3) := by decide +kernel
theorem dX0_errorUpper_55 : decode cX0_errorUpper 55 = .ok (.iload 5, 2) := by decide +kernel
theorem dX0_errorUpper_57 : decode cX0_errorUpper 57 = .ok (.iconst 1, 1) := by decide +kernel
theorem dX0_errorUpper_58 : decode cX0_errorUpper 58 = .ok (.iadd, 1) := by decide +kernel
theorem dX0_errorUpper_59 : decode cX0_errorUpper 59 = .ok (.bipush 8, 2) := by decide +kernel
theorem dX0_errorUpper_61 : decode cX0_errorUpper 61 = .ok (.irem, 1) := by decide +kernel
theorem dX0_errorUpper_62 : decode cX0_errorUpper 62 = .ok (.iaload, 1) := by decide +kernel
theorem dX0_errorUpper_63 : decode cX0_errorUpper 63 = .ok (.iload 6, 2) := by decide +kernel
theorem dX0_errorUpper_65 : decode cX0_errorUpper 65 = .ok (.imul, 1) := by decide +kernel
theorem dX0_errorUpper_66 : decode cX0_errorUpper 66 = .ok (.iadd, 1) := by decide +kernel
theorem dX0_errorUpper_67 : decode cX0_errorUpper 67 = .ok (.ireturn, 1) := by decide +kernel
set_option maxRecDepth 20000 in
theorem ggX0_nearestLower_X0_gapUpper : GoodIn wsX0_nearestLower wsX0_gapUpper := goodIn_r _ [4, 5, 6, 7, 8, 9, 10, 3, 11, 12] (by decide +kernel) (by decide +kernel)
set_option maxRecDepth 20000 in
theorem gX0_nearestLower_X0_gapUpper : GoodIn wsX0_nearestLower (va_wsS RX0 170 yX0_gapUpper wsX0_gapUpper) := goodIn_app (goodIn_of _ (by decide +kernel)) ggX0_nearestLower_X0_gapUpper
theorem dX0_nearestLower_0 : decode cX0_nearestLower 0 = .ok (.iconst 1, 1) := by decide +kernel
theorem dX0_nearestLower_1 : decode cX0_nearestLower 1 = .ok (.istore_n 3, 1) := by decide +kernel
theorem dX0_nearestLower_2 : decode cX0_nearestLower 2 = .ok (.iload_n 0, 1) := by decide +kernel
theorem dX0_nearestLower_3 : decode cX0_nearestLower 3 = .ok (.iload_n 1, 1) := by decide +kernel
theorem dX0_nearestLower_4 : decode cX0_nearestLower 4 = .ok (.iconst 1, 1) := by decide +kernel
theorem dX0_nearestLower_5 : decode cX0_nearestLower 5 = .ok (.invokestatic 170, 3) := by decide +kernel
theorem dX0_nearestLower_8 : decode cX0_nearestLower 8 = .ok (.lstore 4, 2) := by decide +kernel
theorem dX0_nearestLower_10 : decode cX0_nearestLower 10 = .ok (.iconst 2, 1) := by decide +kernel
theorem dX0_nearestLower_11 : decode cX0_nearestLower 11 = .ok (.istore 6, 2) := by decide +kernel
theorem dX0_nearestLower_13 : decode cX0_nearestLower 13 = .ok (.iload 6, 2) := by decide +kernel
theorem dX0_nearestLower_15 : decode cX0_nearestLower 15 = .ok (.iload_n 2, 1) := by decide +kernel
theorem dX0_nearestLower_16 : decode cX0_nearestLower 16 = .ok (.if_icmp .gt 47, 3) := by decide +kernel
theorem dX0_nearestLower_19 : decode cX0_nearestLower 19 = .ok (.lload 4, 2) := by decide +kernel
theorem dX0_nearestLower_21 : decode cX0_nearestLower 21 = .ok (.lconst 0, 1) := by decide +kernel
theorem dX0_nearestLower_22 : decode cX0_nearestLower 22 = .ok (.lcmp, 1) := by decide +kernel
theorem dX0_nearestLower_23 : decode cX0_nearestLower 23 = .ok (.ifCond .le 40, 3) := by decide +kernel
theorem dX0_nearestLower_26 : decode cX0_nearestLower 26 = .ok (.iload_n 0, 1) := by decide +kernel
theorem dX0_nearestLower_27 : decode cX0_nearestLower 27 = .ok (.iload_n 1, 1) := by decide +kernel
theorem dX0_nearestLower_28 : decode cX0_nearestLower 28 = .ok (.iload 6, 2) := by decide +kernel
theorem dX0_nearestLower_30 : decode cX0_nearestLower 30 = .ok (.invokestatic 170, 3) := by decide +kernel
theorem dX0_nearestLower_33 : decode cX0_nearestLower 33 = .ok (.lstore 7, 2) := by decide +kernel
theorem dX0_nearestLower_35 : decode cX0_nearestLower 35 = .ok (.lload 7, 2) := by decide +kernel
theorem dX0_nearestLower_37 : decode cX0_nearestLower 37 = .ok (.iload_n 3, 1) := by decide +kernel
theorem dX0_nearestLower_38 : decode cX0_nearestLower 38 = .ok (.i2l, 1) := by decide +kernel
theorem dX0_nearestLower_39 : decode cX0_nearestLower 39 = .ok (.lmul, 1) := by decide +kernel
theorem dX0_nearestLower_40 : decode cX0_nearestLower 40 = .ok (.lload 4, 2) := by decide +kernel
theorem dX0_nearestLower_42 : decode cX0_nearestLower 42 = .ok (.iload 6, 2) := by decide +kernel
theorem dX0_nearestLower_44 : decode cX0_nearestLower 44 = .ok (.i2l, 1) := by decide +kernel
theorem dX0_nearestLower_45 : decode cX0_nearestLower 45 = .ok (.lmul, 1) := by decide +kernel
theorem dX0_nearestLower_46 : decode cX0_nearestLower 46 = .ok (.lcmp, 1) := by decide +kernel
theorem dX0_nearestLower_47 : decode cX0_nearestLower 47 = .ok (.ifCond .ge 10, 3) := by decide +kernel
theorem dX0_nearestLower_50 : decode cX0_nearestLower 50 = .ok (.iload 6, 2) := by decide +kernel
theorem dX0_nearestLower_52 : decode cX0_nearestLower 52 = .ok (.istore_n 3, 1) := by decide +kernel
theorem dX0_nearestLower_53 : decode cX0_nearestLower 53 = .ok (.lload 7, 2) := by decide +kernel
theorem dX0_nearestLower_55 : decode cX0_nearestLower 55 = .ok (.lstore 4, 2) := by decide +kernel
theorem dX0_nearestLower_57 : decode cX0_nearestLower 57 = .ok (.iinc 6 1, 3) := by decide +kernel
theorem dX0_nearestLower_60 : decode cX0_nearestLower 60 = .ok (.goto (-47), 3) := by decide +kernel
theorem dX0_nearestLower_63 : decode cX0_nearestLower 63 = .ok (.iload_n 3, 1) := by decide +kernel
theorem dX0_nearestLower_64 : decode cX0_nearestLower 64 = .ok (.ireturn, 1) := by decide +kernel
set_option maxRecDepth 20000 in
theorem ggX0_gapUpper_X0_nearestOrLesser : GoodIn wsX0_gapUpper wsX0_nearestOrLesser := goodIn_r _ [8, 9] (by decide +kernel) (by decide +kernel)
set_option maxRecDepth 20000 in
theorem gX0_gapUpper_X0_nearestOrLesser : GoodIn wsX0_gapUpper (va_wsS RX0 104 yX0_nearestOrLesser wsX0_nearestOrLesser) := goodIn_app (goodIn_of _ (by decide +kernel)) ggX0_gapUpper_X0_nearestOrLesser
theorem dX0_gapUpper_0 : decode cX0_gapUpper 0 = .ok (.iload_n 0, 1) := by decide +kernel
theorem dX0_gapUpper_1 : decode cX0_gapUpper 1 = .ok (.i2l, 1) := by decide +kernel
theorem dX0_gapUpper_2 : decode cX0_gapUpper 2 = .ok (.iload_n 2, 1) := by decide +kernel
theorem dX0_gapUpper_3 : decode cX0_gapUpper 3 = .ok (.i2l, 1) := by decide +kernel
theorem dX0_gapUpper_4 : decode cX0_gapUpper 4 = .ok (.lmul, 1) := by decide +kernel
theorem dX0_gapUpper_5 : decode cX0_gapUpper 5 = .ok (.lstore_n 3, 1) := by decide +kernel
theorem dX0_gapUpper_6 : decode cX0_gapUpper 6 = .ok (.lload_n 3, 1) := by decide +kernel
theorem dX0_gapUpper_7 : decode cX0_gapUpper 7 = .ok (.iload_n 1, 1) := by decide +kernel
theorem dX0_gapUpper_8 : decode cX0_gapUpper 8 = .ok (.i2l, 1) := by decide +kernel
theorem dX0_gapUpper_9 : decode cX0_gapUpper 9 = .ok (.invokestatic 104, 3) := by decide +kernel
theorem dX0_gapUpper_12 : decode cX0_gapUpper 12 = .ok (.iload_n 1, 1) := by decide +kernel
theorem dX0_gapUpper_13 : decode cX0_gapUpper 13 = .ok (.i2l, 1) := by decide +kernel
theorem dX0_gapUpper_14 : decode cX0_gapUpper 14 = .ok (.lmul, 1) := by decide +kernel
theorem dX0_gapUpper_15 : decode cX0_gapUpper 15 = .ok (.lload_n 3, 1) := by decide +kernel
theorem dX0_gapUpper_16 : decode cX0_gapUpper 16 = .ok (.lsub, 1) := by decide +kernel
theorem dX0_gapUpper_17 : decode cX0_gapUpper 17 = .ok (.invokestatic 174, 3) := by decide +kernel
theorem dX0_gapUpper_20 : decode cX0_gapUpper 20 = .ok (.lreturn, 1) := by decide +kernel
theorem dX0_mainMark_0 : decode cX0_mainMark 0 = .ok (.lload_n 3, 1) := by decide +kernel
theorem dX0_mainMark_1 : decode cX0_mainMark 1 = .ok (.lconst 1, 1) := by decide +kernel
theorem dX0_mainMark_2 : decode cX0_mainMark 2 = .ok (.lcmp, 1) := by decide +kernel
theorem dX0_mainMark_3 : decode cX0_mainMark 3 = .ok (.ifCond .ge 7, 3) := by decide +kernel
theorem dX0_mainMark_6 : decode cX0_mainMark 6 = .ok (.lconst 0, 1) := by decide +kernel
theorem dX0_mainMark_7 : decode cX0_mainMark 7 = .ok (.goto 12, 3) := by decide +kernel
theorem dX0_mainMark_10 : decode cX0_mainMark 10 = .ok (.lload_n 1, 1) := by decide +kernel
theorem dX0_mainMark_11 : decode cX0_mainMark 11 = .ok (.aload_n 0, 1) := by decide +kernel
theorem dX0_mainMark_12 : decode cX0_mainMark 12 = .ok (.getfield 26, 3) := by decide +kernel
theorem dX0_mainMark_15 : decode cX0_mainMark 15 = .ok (.i2l, 1) := by decide +kernel
theorem dX0_mainMark_16 : decode cX0_mainMark 16 = .ok (.lmul, 1) := by decide +kernel
theorem dX0_mainMark_17 : decode cX0_mainMark 17 = .ok (.lload_n 3, 1) := by decide +kernel
theorem dX0_mainMark_18 : decode cX0_mainMark 18 = .ok (.ldiv, 1) := by decide +kernel
theorem dX0_mainMark_19 : decode cX0_mainMark 19 = .ok (.lreturn, 1) := by decide +kernel
set_option maxRecDepth 20000 in
theorem ggX0_vernierLine_X0_mainMark : GoodIn wsX0_vernierLine wsX0_mainMark := goodIn_r _ [7, 1, 12, 13, 14, 15, 16, 17, 18, 19, 20] (by decide +kernel) (by decide +kernel)
set_option maxRecDepth 20000 in
theorem gX0_vernierLine_X0_mainMark : GoodIn wsX0_vernierLine (wsV RX0 111 RX0 yX0_mainMark wsX0_mainMark) := goodIn_app (goodIn_of _ (by decide +kernel)) ggX0_vernierLine_X0_mainMark
set_option maxRecDepth 20000 in
theorem ggX0_vernierLine_X0_nearestOrLesser : GoodIn wsX0_vernierLine wsX0_nearestOrLesser := goodIn_r _ [10, 11] (by decide +kernel) (by decide +kernel)
set_option maxRecDepth 20000 in
theorem gX0_vernierLine_X0_nearestOrLesser : GoodIn wsX0_vernierLine (va_wsS RX0 104 yX0_nearestOrLesser wsX0_nearestOrLesser) := goodIn_app (goodIn_of _ (by decide +kernel)) ggX0_vernierLine_X0_nearestOrLesser
theorem dX0_vernierLine_0 : decode cX0_vernierLine 0 = .ok (.lload_n 1, 1) := by decide +kernel
theorem dX0_vernierLine_1 : decode cX0_vernierLine 1 = .ok (.aload_n 0, 1) := by decide +kernel
theorem dX0_vernierLine_2 : decode cX0_vernierLine 2 = .ok (.getfield 26, 3) := by decide +kernel
theorem dX0_vernierLine_5 : decode cX0_vernierLine 5 = .ok (.i2l, 1) := by decide +kernel
theorem dX0_vernierLine_6 : decode cX0_vernierLine 6 = .ok (.lmul, 1) := by decide +kernel
theorem dX0_vernierLine_7 : decode cX0_vernierLine 7 = .ok (.aload_n 0, 1) := by decide +kernel
theorem dX0_vernierLine_8 : decode cX0_vernierLine 8 = .ok (.lload_n 1, 1) := by decide +kernel
theorem dX0_vernierLine_9 : decode cX0_vernierLine 9 = .ok (.lload_n 3, 1) := by decide +kernel
theorem dX0_vernierLine_10 : decode cX0_vernierLine 10 = .ok (.invokevirtual 111, 3) := by decide +kernel
theorem dX0_vernierLine_13 : decode cX0_vernierLine 13 = .ok (.lload_n 3, 1) := by decide +kernel
theorem dX0_vernierLine_14 : decode cX0_vernierLine 14 = .ok (.lmul, 1) := by decide +kernel
theorem dX0_vernierLine_15 : decode cX0_vernierLine 15 = .ok (.lsub, 1) := by decide +kernel
theorem dX0_vernierLine_16 : decode cX0_vernierLine 16 = .ok (.lstore 5, 2) := by decide +kernel
theorem dX0_vernierLine_18 : decode cX0_vernierLine 18 = .ok (.lload 5, 2) := by decide +kernel
theorem dX0_vernierLine_20 : decode cX0_vernierLine 20 = .ok (.aload_n 0, 1) := by decide +kernel
theorem dX0_vernierLine_21 : decode cX0_vernierLine 21 = .ok (.getfield 29, 3) := by decide +kernel
theorem dX0_vernierLine_24 : decode cX0_vernierLine 24 = .ok (.i2l, 1) := by decide +kernel
theorem dX0_vernierLine_25 : decode cX0_vernierLine 25 = .ok (.lmul, 1) := by decide +kernel
theorem dX0_vernierLine_26 : decode cX0_vernierLine 26 = .ok (.lload_n 3, 1) := by decide +kernel
theorem dX0_vernierLine_27 : decode cX0_vernierLine 27 = .ok (.invokestatic 104, 3) := by decide +kernel
theorem dX0_vernierLine_30 : decode cX0_vernierLine 30 = .ok (.lreturn, 1) := by decide +kernel
set_option maxRecDepth 20000 in
theorem ggX0_readParts_X0_mainMark : GoodIn wsX0_readParts wsX0_mainMark := goodIn_r _ [6, 7, 16, 17, 18, 19, 20, 21, 22, 23, 24] (by decide +kernel) (by decide +kernel)
set_option maxRecDepth 20000 in
theorem gX0_readParts_X0_mainMark : GoodIn wsX0_readParts (wsV RX0 111 RX0 yX0_mainMark wsX0_mainMark) := goodIn_app (goodIn_of _ (by decide +kernel)) ggX0_readParts_X0_mainMark
set_option maxRecDepth 20000 in
theorem ggX0_readParts_X0_vernierLine : GoodIn wsX0_readParts wsX0_vernierLine := goodIn_r _ [11, 7, 1, 2, 3, 4, 5, 6, 12, 13, 14, 15, 16, 17, 18, 19, 20, 21, 22, 23, 24] (by decide +kernel) (by decide +kernel)
set_option maxRecDepth 20000 in
theorem gX0_readParts_X0_vernierLine : GoodIn wsX0_readParts (wsV RX0 114 RX0 yX0_vernierLine wsX0_vernierLine) := goodIn_app (goodIn_of _ (by decide +kernel)) ggX0_readParts_X0_vernierLine
theorem dX0_readParts_0 : decode cX0_readParts 0 = .ok (.aload_n 0, 1) := by decide +kernel
theorem dX0_readParts_1 : decode cX0_readParts 1 = .ok (.lload_n 1, 1) := by decide +kernel
theorem dX0_readParts_2 : decode cX0_readParts 2 = .ok (.lload_n 3, 1) := by decide +kernel
theorem dX0_readParts_3 : decode cX0_readParts 3 = .ok (.invokevirtual 111, 3) := by decide +kernel
theorem dX0_readParts_6 : decode cX0_readParts 6 = .ok (.aload_n 0, 1) := by decide +kernel
theorem dX0_readParts_7 : decode cX0_readParts 7 = .ok (.getfield 29, 3) := by decide +kernel
theorem dX0_readParts_10 : decode cX0_readParts 10 = .ok (.i2l, 1) := by decide +kernel
theorem dX0_readParts_11 : decode cX0_readParts 11 = .ok (.lmul, 1) := by decide +kernel
theorem dX0_readParts_12 : decode cX0_readParts 12 = .ok (.aload_n 0, 1) := by decide +kernel
theorem dX0_readParts_13 : decode cX0_readParts 13 = .ok (.lload_n 1, 1) := by decide +kernel
theorem dX0_readParts_14 : decode cX0_readParts 14 = .ok (.lload_n 3, 1) := by decide +kernel
theorem dX0_readParts_15 : decode cX0_readParts 15 = .ok (.invokevirtual 114, 3) := by decide +kernel
theorem dX0_readParts_18 : decode cX0_readParts 18 = .ok (.ladd, 1) := by decide +kernel
theorem dX0_readParts_19 : decode cX0_readParts 19 = .ok (.lreturn, 1) := by decide +kernel
theorem dX0_nearestOrLesser_0 : decode cX0_nearestOrLesser 0 = .ok (.lload_n 2, 1) := by decide +kernel
theorem dX0_nearestOrLesser_1 : decode cX0_nearestOrLesser 1 = .ok (.lconst 1, 1) := by decide +kernel
theorem dX0_nearestOrLesser_2 : decode cX0_nearestOrLesser 2 = .ok (.lcmp, 1) := by decide +kernel
theorem dX0_nearestOrLesser_3 : decode cX0_nearestOrLesser 3 = .ok (.ifCond .ge 7, 3) := by decide +kernel
theorem dX0_nearestOrLesser_6 : decode cX0_nearestOrLesser 6 = .ok (.lconst 0, 1) := by decide +kernel
theorem dX0_nearestOrLesser_7 : decode cX0_nearestOrLesser 7 = .ok (.goto 18, 3) := by decide +kernel
theorem dX0_nearestOrLesser_10 : decode cX0_nearestOrLesser 10 = .ok (.ldc2_w 127, 3) := by decide +kernel
theorem dX0_nearestOrLesser_13 : decode cX0_nearestOrLesser 13 = .ok (.lload_n 0, 1) := by decide +kernel
theorem dX0_nearestOrLesser_14 : decode cX0_nearestOrLesser 14 = .ok (.lmul, 1) := by decide +kernel
theorem dX0_nearestOrLesser_15 : decode cX0_nearestOrLesser 15 = .ok (.lload_n 2, 1) := by decide +kernel
theorem dX0_nearestOrLesser_16 : decode cX0_nearestOrLesser 16 = .ok (.ladd, 1) := by decide +kernel
theorem dX0_nearestOrLesser_17 : decode cX0_nearestOrLesser 17 = .ok (.lconst 1, 1) := by decide +kernel
theorem dX0_nearestOrLesser_18 : decode cX0_nearestOrLesser 18 = .ok (.lsub, 1) := by decide +kernel
theorem dX0_nearestOrLesser_19 : decode cX0_nearestOrLesser 19 = .ok (.ldc2_w 127, 3) := by decide +kernel
theorem dX0_nearestOrLesser_22 : decode cX0_nearestOrLesser 22 = .ok (.lload_n 2, 1) := by decide +kernel
theorem dX0_nearestOrLesser_23 : decode cX0_nearestOrLesser 23 = .ok (.lmul, 1) := by decide +kernel
theorem dX0_nearestOrLesser_24 : decode cX0_nearestOrLesser 24 = .ok (.ldiv, 1) := by decide +kernel
theorem dX0_nearestOrLesser_25 : decode cX0_nearestOrLesser 25 = .ok (.lreturn, 1) := by decide +kernel
theorem dX0_nearestOrGreater_0 : decode cX0_nearestOrGreater 0 = .ok (.lload_n 2, 1) := by decide +kernel
theorem dX0_nearestOrGreater_1 : decode cX0_nearestOrGreater 1 = .ok (.lconst 1, 1) := by decide +kernel
theorem dX0_nearestOrGreater_2 : decode cX0_nearestOrGreater 2 = .ok (.lcmp, 1) := by decide +kernel
theorem dX0_nearestOrGreater_3 : decode cX0_nearestOrGreater 3 = .ok (.ifCond .ge 7, 3) := by decide +kernel
theorem dX0_nearestOrGreater_6 : decode cX0_nearestOrGreater 6 = .ok (.lconst 0, 1) := by decide +kernel
theorem dX0_nearestOrGreater_7 : decode cX0_nearestOrGreater 7 = .ok (.goto 16, 3) := by decide +kernel
theorem dX0_nearestOrGreater_10 : decode cX0_nearestOrGreater 10 = .ok (.ldc2_w 127, 3) := by decide +kernel
theorem dX0_nearestOrGreater_13 : decode cX0_nearestOrGreater 13 = .ok (.lload_n 0, 1) := by decide +kernel
theorem dX0_nearestOrGreater_14 : decode cX0_nearestOrGreater 14 = .ok (.lmul, 1) := by decide +kernel
theorem dX0_nearestOrGreater_15 : decode cX0_nearestOrGreater 15 = .ok (.lload_n 2, 1) := by decide +kernel
theorem dX0_nearestOrGreater_16 : decode cX0_nearestOrGreater 16 = .ok (.ladd, 1) := by decide +kernel
theorem dX0_nearestOrGreater_17 : decode cX0_nearestOrGreater 17 = .ok (.ldc2_w 127, 3) := by decide +kernel
theorem dX0_nearestOrGreater_20 : decode cX0_nearestOrGreater 20 = .ok (.lload_n 2, 1) := by decide +kernel
theorem dX0_nearestOrGreater_21 : decode cX0_nearestOrGreater 21 = .ok (.lmul, 1) := by decide +kernel
theorem dX0_nearestOrGreater_22 : decode cX0_nearestOrGreater 22 = .ok (.ldiv, 1) := by decide +kernel
theorem dX0_nearestOrGreater_23 : decode cX0_nearestOrGreater 23 = .ok (.lreturn, 1) := by decide +kernel
theorem dX0_exactQuotient_0 : decode cX0_exactQuotient 0 = .ok (.lload_n 2, 1) := by decide +kernel
theorem dX0_exactQuotient_1 : decode cX0_exactQuotient 1 = .ok (.lconst 1, 1) := by decide +kernel
theorem dX0_exactQuotient_2 : decode cX0_exactQuotient 2 = .ok (.lcmp, 1) := by decide +kernel
theorem dX0_exactQuotient_3 : decode cX0_exactQuotient 3 = .ok (.ifCond .lt 11, 3) := by decide +kernel
theorem dX0_exactQuotient_6 : decode cX0_exactQuotient 6 = .ok (.lload_n 0, 1) := by decide +kernel
theorem dX0_exactQuotient_7 : decode cX0_exactQuotient 7 = .ok (.lload_n 2, 1) := by decide +kernel
theorem dX0_exactQuotient_8 : decode cX0_exactQuotient 8 = .ok (.lrem, 1) := by decide +kernel
theorem dX0_exactQuotient_9 : decode cX0_exactQuotient 9 = .ok (.lconst 0, 1) := by decide +kernel
theorem dX0_exactQuotient_10 : decode cX0_exactQuotient 10 = .ok (.lcmp, 1) := by decide +kernel
theorem dX0_exactQuotient_11 : decode cX0_exactQuotient 11 = .ok (.ifCond .eq 7, 3) := by decide +kernel
theorem dX0_exactQuotient_14 : decode cX0_exactQuotient 14 = .ok (.lconst 0, 1) := by decide +kernel
theorem dX0_exactQuotient_15 : decode cX0_exactQuotient 15 = .ok (.goto 6, 3) := by decide +kernel
theorem dX0_exactQuotient_18 : decode cX0_exactQuotient 18 = .ok (.lload_n 0, 1) := by decide +kernel
theorem dX0_exactQuotient_19 : decode cX0_exactQuotient 19 = .ok (.lload_n 2, 1) := by decide +kernel
theorem dX0_exactQuotient_20 : decode cX0_exactQuotient 20 = .ok (.ldiv, 1) := by decide +kernel
theorem dX0_exactQuotient_21 : decode cX0_exactQuotient 21 = .ok (.lreturn, 1) := by decide +kernel
set_option maxRecDepth 20000 in
theorem ggX0_lowestTerm_X0_commonMeasure : GoodIn wsX0_lowestTerm wsX0_commonMeasure := goodIn_r _ [8] (by decide +kernel) (by decide +kernel)
set_option maxRecDepth 20000 in
theorem gX0_lowestTerm_X0_commonMeasure : GoodIn wsX0_lowestTerm (va_wsS RX0 177 yX0_commonMeasure wsX0_commonMeasure) := goodIn_app (goodIn_of _ (by decide +kernel)) ggX0_lowestTerm_X0_commonMeasure
theorem dX0_lowestTerm_0 : decode cX0_lowestTerm 0 = .ok (.iload 4, 2) := by decide +kernel
theorem dX0_lowestTerm_2 : decode cX0_lowestTerm 2 = .ok (.ifCond .ne 7, 3) := by decide +kernel
theorem dX0_lowestTerm_5 : decode cX0_lowestTerm 5 = .ok (.lload_n 0, 1) := by decide +kernel
theorem dX0_lowestTerm_6 : decode cX0_lowestTerm 6 = .ok (.goto 4, 3) := by decide +kernel
theorem dX0_lowestTerm_9 : decode cX0_lowestTerm 9 = .ok (.lload_n 2, 1) := by decide +kernel
theorem dX0_lowestTerm_10 : decode cX0_lowestTerm 10 = .ok (.lstore 5, 2) := by decide +kernel
theorem dX0_lowestTerm_12 : decode cX0_lowestTerm 12 = .ok (.lload_n 0, 1) := by decide +kernel
theorem dX0_lowestTerm_13 : decode cX0_lowestTerm 13 = .ok (.invokestatic 174, 3) := by decide +kernel
theorem dX0_lowestTerm_16 : decode cX0_lowestTerm 16 = .ok (.lload_n 2, 1) := by decide +kernel
theorem dX0_lowestTerm_17 : decode cX0_lowestTerm 17 = .ok (.invokestatic 177, 3) := by decide +kernel
theorem dX0_lowestTerm_20 : decode cX0_lowestTerm 20 = .ok (.lstore 7, 2) := by decide +kernel
theorem dX0_lowestTerm_22 : decode cX0_lowestTerm 22 = .ok (.lload 7, 2) := by decide +kernel
theorem dX0_lowestTerm_24 : decode cX0_lowestTerm 24 = .ok (.lconst 1, 1) := by decide +kernel
theorem dX0_lowestTerm_25 : decode cX0_lowestTerm 25 = .ok (.lcmp, 1) := by decide +kernel
theorem dX0_lowestTerm_26 : decode cX0_lowestTerm 26 = .ok (.ifCond .ge 8, 3) := by decide +kernel
theorem dX0_lowestTerm_29 : decode cX0_lowestTerm 29 = .ok (.lload 5, 2) := by decide +kernel
theorem dX0_lowestTerm_31 : decode cX0_lowestTerm 31 = .ok (.goto 8, 3) := by decide +kernel
theorem dX0_lowestTerm_34 : decode cX0_lowestTerm 34 = .ok (.lload 5, 2) := by decide +kernel
theorem dX0_lowestTerm_36 : decode cX0_lowestTerm 36 = .ok (.lload 7, 2) := by decide +kernel
theorem dX0_lowestTerm_38 : decode cX0_lowestTerm 38 = .ok (.ldiv, 1) := by decide +kernel
theorem dX0_lowestTerm_39 : decode cX0_lowestTerm 39 = .ok (.l2i, 1) := by decide +kernel
theorem dX0_lowestTerm_40 : decode cX0_lowestTerm 40 = .ok (.ireturn, 1) := by decide +kernel
theorem dX0_commonMeasure_0 : decode cX0_commonMeasure 0 = .ok (.iconst 0, 1) := by decide +kernel
theorem dX0_commonMeasure_1 : decode cX0_commonMeasure 1 = .ok (.istore 4, 2) := by decide +kernel
theorem dX0_commonMeasure_3 : decode cX0_commonMeasure 3 = .ok (.iload 4, 2) := by decide +kernel
theorem dX0_commonMeasure_5 : decode cX0_commonMeasure 5 = .ok (.bipush 100, 2) := by decide +kernel
theorem dX0_commonMeasure_7 : decode cX0_commonMeasure 7 = .ok (.if_icmp .ge 25, 3) := by decide +kernel
theorem dX0_commonMeasure_10 : decode cX0_commonMeasure 10 = .ok (.lload_n 2, 1) := by decide +kernel
theorem dX0_commonMeasure_11 : decode cX0_commonMeasure 11 = .ok (.lconst 0, 1) := by decide +kernel
theorem dX0_commonMeasure_12 : decode cX0_commonMeasure 12 = .ok (.lcmp, 1) := by decide +kernel
theorem dX0_commonMeasure_13 : decode cX0_commonMeasure 13 = .ok (.ifCond .eq 19, 3) := by decide +kernel
theorem dX0_commonMeasure_16 : decode cX0_commonMeasure 16 = .ok (.lload_n 0, 1) := by decide +kernel
theorem dX0_commonMeasure_17 : decode cX0_commonMeasure 17 = .ok (.lload_n 2, 1) := by decide +kernel
theorem dX0_commonMeasure_18 : decode cX0_commonMeasure 18 = .ok (.lrem, 1) := by decide +kernel
theorem dX0_commonMeasure_19 : decode cX0_commonMeasure 19 = .ok (.lstore 5, 2) := by decide +kernel
theorem dX0_commonMeasure_21 : decode cX0_commonMeasure 21 = .ok (.lload_n 2, 1) := by decide +kernel
theorem dX0_commonMeasure_22 : decode cX0_commonMeasure 22 = .ok (.lstore_n 0, 1) := by decide +kernel
theorem dX0_commonMeasure_23 : decode cX0_commonMeasure 23 = .ok (.lload 5, 2) := by decide +kernel
theorem dX0_commonMeasure_25 : decode cX0_commonMeasure 25 = .ok (.lstore_n 2, 1) := by decide +kernel
theorem dX0_commonMeasure_26 : decode cX0_commonMeasure 26 = .ok (.iinc 4 1, 3) := by decide +kernel
theorem dX0_commonMeasure_29 : decode cX0_commonMeasure 29 = .ok (.goto (-26), 3) := by decide +kernel
theorem dX0_commonMeasure_32 : decode cX0_commonMeasure 32 = .ok (.lload_n 0, 1) := by decide +kernel
theorem dX0_commonMeasure_33 : decode cX0_commonMeasure 33 = .ok (.lreturn, 1) := by decide +kernel
end
section
theorem dX1_init_0 : decode cX1_init 0 = .ok (.aload_n 0, 1) := by decide +kernel
theorem dX1_init_1 : decode cX1_init 1 = .ok (.invokespecial 1, 3) := by decide +kernel
theorem dX1_init_4 : decode cX1_init 4 = .ok (.aload_n 0, 1) := by decide +kernel
theorem dX1_init_5 : decode cX1_init 5 = .ok (.bipush 40, 2) := by decide +kernel
theorem dX1_init_7 : decode cX1_init 7 = .ok (.putfield 7, 3) := by decide +kernel
theorem dX1_init_10 : decode cX1_init 10 = .ok (.aload_n 0, 1) := by decide +kernel
theorem dX1_init_11 : decode cX1_init 11 = .ok (.bipush 8, 2) := by decide +kernel
theorem dX1_init_13 : decode cX1_init 13 = .ok (.newarray .int, 2) := by decide +kernel
theorem dX1_init_15 : decode cX1_init 15 = .ok (.putfield 13, 3) := by decide +kernel
theorem dX1_init_18 : decode cX1_init 18 = .ok (.aload_n 0, 1) := by decide +kernel
theorem dX1_init_19 : decode cX1_init 19 = .ok (.bipush 10, 2) := by decide +kernel
theorem dX1_init_21 : decode cX1_init 21 = .ok (.newarray .int, 2) := by decide +kernel
theorem dX1_init_23 : decode cX1_init 23 = .ok (.putfield 17, 3) := by decide +kernel
theorem dX1_init_26 : decode cX1_init 26 = .ok (.aload_n 0, 1) := by decide +kernel
theorem dX1_init_27 : decode cX1_init 27 = .ok (.bipush 8, 2) := by decide +kernel
theorem dX1_init_29 : decode cX1_init 29 = .ok (.newarray .int, 2) := by decide +kernel
theorem dX1_init_31 : decode cX1_init 31 = .ok (.putfield 20, 3) := by decide +kernel
theorem dX1_init_34 : decode cX1_init 34 = .ok (.aload_n 0, 1) := by decide +kernel
theorem dX1_init_35 : decode cX1_init 35 = .ok (.sipush 360, 3) := by decide +kernel
theorem dX1_init_38 : decode cX1_init 38 = .ok (.putfield 23, 3) := by decide +kernel
theorem dX1_init_41 : decode cX1_init 41 = .ok (.aload_n 0, 1) := by decide +kernel
theorem dX1_init_42 : decode cX1_init 42 = .ok (.bipush 10, 2) := by decide +kernel
theorem dX1_init_44 : decode cX1_init 44 = .ok (.putfield 26, 3) := by decide +kernel
theorem dX1_init_47 : decode cX1_init 47 = .ok (.aload_n 0, 1) := by decide +kernel
theorem dX1_init_48 : decode cX1_init 48 = .ok (.iconst 4, 1) := by decide +kernel
theorem dX1_init_49 : decode cX1_init 49 = .ok (.newarray .int, 2) := by decide +kernel
theorem dX1_init_51 : decode cX1_init 51 = .ok (.putfield 29, 3) := by decide +kernel
theorem dX1_init_54 : decode cX1_init 54 = .ok (.return_, 1) := by decide +kernel
theorem dX1_in_0 : decode cX1_in 0 = .ok (.lload_n 0, 1) := by decide +kernel
theorem dX1_in_1 : decode cX1_in 1 = .ok (.lload_n 2, 1) := by decide +kernel
theorem dX1_in_2 : decode cX1_in 2 = .ok (.lcmp, 1) := by decide +kernel
theorem dX1_in_3 : decode cX1_in 3 = .ok (.ifCond .lt 14, 3) := by decide +kernel
theorem dX1_in_6 : decode cX1_in 6 = .ok (.lload_n 0, 1) := by decide +kernel
theorem dX1_in_7 : decode cX1_in 7 = .ok (.lload 4, 2) := by decide +kernel
theorem dX1_in_9 : decode cX1_in 9 = .ok (.lcmp, 1) := by decide +kernel
theorem dX1_in_10 : decode cX1_in 10 = .ok (.ifCond .gt 7, 3) := by decide +kernel
theorem dX1_in_13 : decode cX1_in 13 = .ok (.iconst 1, 1) := by decide +kernel
theorem dX1_in_14 : decode cX1_in 14 = .ok (.goto 4, 3) := by decide +kernel
theorem dX1_in_17 : decode cX1_in 17 = .ok (.iconst 0, 1) := by decide +kernel
theorem dX1_in_18 : decode cX1_in 18 = .ok (.ireturn, 1) := by decide +kernel
theorem dX1_common_0 : decode cX1_common 0 = .ok (.lload_n 0, 1) := by decide +kernel
theorem dX1_common_1 : decode cX1_common 1 = .ok (.lconst 0, 1) := by decide +kernel
theorem dX1_common_2 : decode cX1_common 2 = .ok (.lcmp, 1) := by decide +kernel
theorem dX1_common_3 : decode cX1_common 3 = .ok (.ifCond .ge 8, 3) := by decide +kernel
theorem dX1_common_6 : decode cX1_common 6 = .ok (.lload_n 0, 1) := by decide +kernel
theorem dX1_common_7 : decode cX1_common 7 = .ok (.lneg, 1) := by decide +kernel
theorem dX1_common_8 : decode cX1_common 8 = .ok (.goto 4, 3) := by decide +kernel
theorem dX1_common_11 : decode cX1_common 11 = .ok (.lload_n 0, 1) := by decide +kernel
theorem dX1_common_12 : decode cX1_common 12 = .ok (.lstore 4, 2) := by decide +kernel
theorem dX1_common_14 : decode cX1_common 14 = .ok (.lload_n 2, 1) := by decide +kernel
theorem dX1_common_15 : decode cX1_common 15 = .ok (.lstore 6, 2) := by decide +kernel
theorem dX1_common_17 : decode cX1_common 17 = .ok (.lload 6, 2) := by decide +kernel
theorem dX1_common_19 : decode cX1_common 19 = .ok (.lconst 0, 1) := by decide +kernel
theorem dX1_common_20 : decode cX1_common 20 = .ok (.lcmp, 1) := by decide +kernel
theorem dX1_common_21 : decode cX1_common 21 = .ok (.ifCond .eq 21, 3) := by decide +kernel
theorem dX1_common_24 : decode cX1_common 24 = .ok (.lload 4, 2) := by decide +kernel
theorem dX1_common_26 : decode cX1_common 26 = .ok (.lload 6, 2) := by decide +kernel
theorem dX1_common_28 : decode cX1_common 28 = .ok (.lrem, 1) := by decide +kernel
theorem dX1_common_29 : decode cX1_common 29 = .ok (.lstore 8, 2) := by decide +kernel
theorem dX1_common_31 : decode cX1_common 31 = .ok (.lload 6, 2) := by decide +kernel
theorem dX1_common_33 : decode cX1_common 33 = .ok (.lstore 4, 2) := by decide +kernel
theorem dX1_common_35 : decode cX1_common 35 = .ok (.lload 8, 2) := by decide +kernel
theorem dX1_common_37 : decode cX1_common 37 = .ok (.lstore 6, 2) := by decide +kernel
theorem dX1_common_39 : decode cX1_common 39 = .ok (.goto (-22), 3) := by decide +kernel
theorem dX1_common_42 : decode cX1_common 42 = .ok (.lload 4, 2) := by decide +kernel
theorem dX1_common_44 : decode cX1_common 44 = .ok (.lreturn, 1) := by decide +kernel
set_option maxRecDepth 20000 in
theorem ggX1_term_X1_common : GoodIn wsX1_term wsX1_common := goodIn_r _ [4] (by decide +kernel) (by decide +kernel)
set_option maxRecDepth 20000 in
theorem gX1_term_X1_common : GoodIn wsX1_term (va_wsS RX1 32 yX1_common wsX1_common) := goodIn_app (goodIn_of _ (by decide +kernel)) ggX1_term_X1_common
theorem dX1_term_0 : decode cX1_term 0 = .ok (.lload_n 0, 1) := by decide +kernel
theorem dX1_term_1 : decode cX1_term 1 = .ok (.lload_n 2, 1) := by decide +kernel
theorem dX1_term_2 : decode cX1_term 2 = .ok (.invokestatic 32, 3) := by decide +kernel
theorem dX1_term_5 : decode cX1_term 5 = .ok (.lstore 5, 2) := by decide +kernel
theorem dX1_term_7 : decode cX1_term 7 = .ok (.iload 4, 2) := by decide +kernel
theorem dX1_term_9 : decode cX1_term 9 = .ok (.ifCond .ne 10, 3) := by decide +kernel
theorem dX1_term_12 : decode cX1_term 12 = .ok (.lload_n 0, 1) := by decide +kernel
theorem dX1_term_13 : decode cX1_term 13 = .ok (.lload 5, 2) := by decide +kernel
theorem dX1_term_15 : decode cX1_term 15 = .ok (.ldiv, 1) := by decide +kernel
theorem dX1_term_16 : decode cX1_term 16 = .ok (.goto 7, 3) := by decide +kernel
theorem dX1_term_19 : decode cX1_term 19 = .ok (.lload_n 2, 1) := by decide +kernel
theorem dX1_term_20 : decode cX1_term 20 = .ok (.lload 5, 2) := by decide +kernel
theorem dX1_term_22 : decode cX1_term 22 = .ok (.ldiv, 1) := by decide +kernel
theorem dX1_term_23 : decode cX1_term 23 = .ok (.l2i, 1) := by decide +kernel
theorem dX1_term_24 : decode cX1_term 24 = .ok (.ireturn, 1) := by decide +kernel
set_option maxRecDepth 20000 in
theorem ggX1_isParts_X1_in : GoodIn wsX1_isParts wsX1_in := goodIn_r _ [6] (by decide +kernel) (by decide +kernel)
set_option maxRecDepth 20000 in
theorem gX1_isParts_X1_in : GoodIn wsX1_isParts (va_wsS RX1 40 yX1_in wsX1_in) := goodIn_app (goodIn_of _ (by decide +kernel)) ggX1_isParts_X1_in
theorem dX1_isParts_0 : decode cX1_isParts 0 = .ok (.iload_n 0, 1) := by decide +kernel
theorem dX1_isParts_1 : decode cX1_isParts 1 = .ok (.i2l, 1) := by decide +kernel
theorem dX1_isParts_2 : decode cX1_isParts 2 = .ok (.ldc2_w 36, 3) := by decide +kernel
theorem dX1_isParts_5 : decode cX1_isParts 5 = .ok (.ldc2_w 38, 3) := by decide +kernel
theorem dX1_isParts_8 : decode cX1_isParts 8 = .ok (.invokestatic 40, 3) := by decide +kernel
theorem dX1_isParts_11 : decode cX1_isParts 11 = .ok (.ireturn, 1) := by decide +kernel
set_option maxRecDepth 20000 in
theorem ggX1_isCircle_X1_in : GoodIn wsX1_isCircle wsX1_in := goodIn_r _ [5] (by decide +kernel) (by decide +kernel)
set_option maxRecDepth 20000 in
theorem gX1_isCircle_X1_in : GoodIn wsX1_isCircle (va_wsS RX1 40 yX1_in wsX1_in) := goodIn_app (goodIn_of _ (by decide +kernel)) ggX1_isCircle_X1_in
theorem dX1_isCircle_0 : decode cX1_isCircle 0 = .ok (.iload_n 1, 1) := by decide +kernel
theorem dX1_isCircle_1 : decode cX1_isCircle 1 = .ok (.i2l, 1) := by decide +kernel
theorem dX1_isCircle_2 : decode cX1_isCircle 2 = .ok (.lconst 0, 1) := by decide +kernel
theorem dX1_isCircle_3 : decode cX1_isCircle 3 = .ok (.aload_n 0, 1) := by decide +kernel
theorem dX1_isCircle_4 : decode cX1_isCircle 4 = .ok (.getfield 44, 3) := by decide +kernel
theorem dX1_isCircle_7 : decode cX1_isCircle 7 = .ok (.iconst 1, 1) := by decide +kernel
theorem dX1_isCircle_8 : decode cX1_isCircle 8 = .ok (.isub, 1) := by decide +kernel
theorem dX1_isCircle_9 : decode cX1_isCircle 9 = .ok (.i2l, 1) := by decide +kernel
theorem dX1_isCircle_10 : decode cX1_isCircle 10 = .ok (.invokestatic 40, 3) := by decide +kernel
theorem dX1_isCircle_13 : decode cX1_isCircle 13 = .ok (.ireturn, 1) := by decide +kernel
set_option maxRecDepth 20000 in
theorem ggX1_isGear_X1_in : GoodIn wsX1_isGear wsX1_in := goodIn_r _ [5] (by decide +kernel) (by decide +kernel)
set_option maxRecDepth 20000 in
theorem gX1_isGear_X1_in : GoodIn wsX1_isGear (va_wsS RX1 40 yX1_in wsX1_in) := goodIn_app (goodIn_of _ (by decide +kernel)) ggX1_isGear_X1_in
theorem dX1_isGear_0 : decode cX1_isGear 0 = .ok (.iload_n 1, 1) := by decide +kernel
theorem dX1_isGear_1 : decode cX1_isGear 1 = .ok (.i2l, 1) := by decide +kernel
theorem dX1_isGear_2 : decode cX1_isGear 2 = .ok (.lconst 0, 1) := by decide +kernel
theorem dX1_isGear_3 : decode cX1_isGear 3 = .ok (.aload_n 0, 1) := by decide +kernel
theorem dX1_isGear_4 : decode cX1_isGear 4 = .ok (.getfield 47, 3) := by decide +kernel
theorem dX1_isGear_7 : decode cX1_isGear 7 = .ok (.iconst 1, 1) := by decide +kernel
theorem dX1_isGear_8 : decode cX1_isGear 8 = .ok (.isub, 1) := by decide +kernel
theorem dX1_isGear_9 : decode cX1_isGear 9 = .ok (.i2l, 1) := by decide +kernel
theorem dX1_isGear_10 : decode cX1_isGear 10 = .ok (.invokestatic 40, 3) := by decide +kernel
theorem dX1_isGear_13 : decode cX1_isGear 13 = .ok (.ireturn, 1) := by decide +kernel
set_option maxRecDepth 20000 in
theorem ggX1_wheel_X1_in : GoodIn wsX1_wheel wsX1_in := goodIn_r _ [7] (by decide +kernel) (by decide +kernel)
set_option maxRecDepth 20000 in
theorem gX1_wheel_X1_in : GoodIn wsX1_wheel (va_wsS RX1 40 yX1_in wsX1_in) := goodIn_app (goodIn_of _ (by decide +kernel)) ggX1_wheel_X1_in
theorem dX1_wheel_0 : decode cX1_wheel 0 = .ok (.iload_n 1, 1) := by decide +kernel
theorem dX1_wheel_1 : decode cX1_wheel 1 = .ok (.i2l, 1) := by decide +kernel
theorem dX1_wheel_2 : decode cX1_wheel 2 = .ok (.ldc2_w 50, 3) := by decide +kernel
theorem dX1_wheel_5 : decode cX1_wheel 5 = .ok (.ldc2_w 52, 3) := by decide +kernel
theorem dX1_wheel_8 : decode cX1_wheel 8 = .ok (.invokestatic 40, 3) := by decide +kernel
theorem dX1_wheel_11 : decode cX1_wheel 11 = .ok (.ifCond .ne 6, 3) := by decide +kernel
theorem dX1_wheel_14 : decode cX1_wheel 14 = .ok (.bipush (-2), 2) := by decide +kernel
theorem dX1_wheel_16 : decode cX1_wheel 16 = .ok (.ireturn, 1) := by decide +kernel
theorem dX1_wheel_17 : decode cX1_wheel 17 = .ok (.aload_n 0, 1) := by decide +kernel
theorem dX1_wheel_18 : decode cX1_wheel 18 = .ok (.getfield 7, 3) := by decide +kernel
theorem dX1_wheel_21 : decode cX1_wheel 21 = .ok (.istore_n 2, 1) := by decide +kernel
theorem dX1_wheel_22 : decode cX1_wheel 22 = .ok (.aload_n 0, 1) := by decide +kernel
theorem dX1_wheel_23 : decode cX1_wheel 23 = .ok (.iload_n 1, 1) := by decide +kernel
theorem dX1_wheel_24 : decode cX1_wheel 24 = .ok (.putfield 7, 3) := by decide +kernel
theorem dX1_wheel_27 : decode cX1_wheel 27 = .ok (.iload_n 2, 1) := by decide +kernel
theorem dX1_wheel_28 : decode cX1_wheel 28 = .ok (.ireturn, 1) := by decide +kernel
set_option maxRecDepth 20000 in
theorem ggX1_circle_X1_in : GoodIn wsX1_circle wsX1_in := goodIn_r _ [8] (by decide +kernel) (by decide +kernel)
set_option maxRecDepth 20000 in
theorem gX1_circle_X1_in : GoodIn wsX1_circle (va_wsS RX1 40 yX1_in wsX1_in) := goodIn_app (goodIn_of _ (by decide +kernel)) ggX1_circle_X1_in
theorem dX1_circle_0 : decode cX1_circle 0 = .ok (.iload_n 1, 1) := by decide +kernel
theorem dX1_circle_1 : decode cX1_circle 1 = .ok (.i2l, 1) := by decide +kernel
theorem dX1_circle_2 : decode cX1_circle 2 = .ok (.ldc2_w 54, 3) := by decide +kernel
theorem dX1_circle_5 : decode cX1_circle 5 = .ok (.ldc2_w 56, 3) := by decide +kernel
theorem dX1_circle_8 : decode cX1_circle 8 = .ok (.invokestatic 40, 3) := by decide +kernel
theorem dX1_circle_11 : decode cX1_circle 11 = .ok (.ifCond .ne 6, 3) := by decide +kernel
theorem dX1_circle_14 : decode cX1_circle 14 = .ok (.bipush (-2), 2) := by decide +kernel
theorem dX1_circle_16 : decode cX1_circle 16 = .ok (.ireturn, 1) := by decide +kernel
theorem dX1_circle_17 : decode cX1_circle 17 = .ok (.aload_n 0, 1) := by decide +kernel
theorem dX1_circle_18 : decode cX1_circle 18 = .ok (.getfield 44, 3) := by decide +kernel
theorem dX1_circle_21 : decode cX1_circle 21 = .ok (.bipush 8, 2) := by decide +kernel
theorem dX1_circle_23 : decode cX1_circle 23 = .ok (.if_icmp .ne 6, 3) := by decide +kernel
theorem dX1_circle_26 : decode cX1_circle 26 = .ok (.bipush (-4), 2) := by decide +kernel
theorem dX1_circle_28 : decode cX1_circle 28 = .ok (.ireturn, 1) := by decide +kernel
theorem dX1_circle_29 : decode cX1_circle 29 = .ok (.iconst 0, 1) := by decide +kernel
theorem dX1_circle_30 : decode cX1_circle 30 = .ok (.istore_n 2, 1) := by decide +kernel
theorem dX1_circle_31 : decode cX1_circle 31 = .ok (.iload_n 2, 1) := by decide +kernel
theorem dX1_circle_32 : decode cX1_circle 32 = .ok (.aload_n 0, 1) := by decide +kernel
theorem dX1_circle_33 : decode cX1_circle 33 = .ok (.getfield 44, 3) := by decide +kernel
theorem dX1_circle_36 : decode cX1_circle 36 = .ok (.if_icmp .ge 22, 3) := by decide +kernel
theorem dX1_circle_39 : decode cX1_circle 39 = .ok (.aload_n 0, 1) := by decide +kernel
theorem dX1_circle_40 : decode cX1_circle 40 = .ok (.getfield 13, 3) := by decide +kernel
theorem dX1_circle_43 : decode cX1_circle 43 = .ok (.iload_n 2, 1) := by decide +kernel
theorem dX1_circle_44 : decode cX1_circle 44 = .ok (.iaload, 1) := by decide +kernel
theorem dX1_circle_45 : decode cX1_circle 45 = .ok (.iload_n 1, 1) := by decide +kernel
theorem dX1_circle_46 : decode cX1_circle 46 = .ok (.if_icmp .ne 6, 3) := by decide +kernel
theorem dX1_circle_49 : decode cX1_circle 49 = .ok (.bipush (-5), 2) := by decide +kernel
theorem dX1_circle_51 : decode cX1_circle 51 = .ok (.ireturn, 1) := by decide +kernel
theorem dX1_circle_52 : decode cX1_circle 52 = .ok (.iinc 2 1, 3) := by decide +kernel
theorem dX1_circle_55 : decode cX1_circle 55 = .ok (.goto (-24), 3) := by decide +kernel
theorem dX1_circle_58 : decode cX1_circle 58 = .ok (.aload_n 0, 1) := by decide +kernel
theorem dX1_circle_59 : decode cX1_circle 59 = .ok (.getfield 13, 3) := by decide +kernel
theorem dX1_circle_62 : decode cX1_circle 62 = .ok (.aload_n 0, 1) := by decide +kernel
theorem dX1_circle_63 : decode cX1_circle 63 = .ok (.getfield 44, 3) := by decide +kernel
theorem dX1_circle_66 : decode cX1_circle 66 = .ok (.iload_n 1, 1) := by decide +kernel
theorem dX1_circle_67 : decode cX1_circle 67 = .ok (.iastore, 1) := by decide +kernel
theorem dX1_circle_68 : decode cX1_circle 68 = .ok (.aload_n 0, 1) := by decide +kernel
theorem dX1_circle_69 : decode cX1_circle 69 = .ok (.dup, 1) := by decide +kernel
theorem dX1_circle_70 : decode cX1_circle 70 = .ok (.getfield 44, 3) := by decide +kernel
theorem dX1_circle_73 : decode cX1_circle 73 = .ok (.iconst 1, 1) := by decide +kernel
theorem dX1_circle_74 : decode cX1_circle 74 = .ok (.iadd, 1) := by decide +kernel
theorem dX1_circle_75 : decode cX1_circle 75 = .ok (.putfield 44, 3) := by decide +kernel
theorem dX1_circle_78 : decode cX1_circle 78 = .ok (.aload_n 0, 1) := by decide +kernel
theorem dX1_circle_79 : decode cX1_circle 79 = .ok (.getfield 44, 3) := by decide +kernel
theorem dX1_circle_82 : decode cX1_circle 82 = .ok (.iconst 1, 1) := by decide +kernel
theorem dX1_circle_83 : decode cX1_circle 83 = .ok (.isub, 1) := by decide +kernel
theorem dX1_circle_84 : decode cX1_circle 84 = .ok (.ireturn, 1) := by decide +kernel
set_option maxRecDepth 20000 in
theorem ggX1_holes_X1_isCircle : GoodIn wsX1_holes wsX1_isCircle := goodIn_r _ [6, 7, 8, 9, 5, 10, 11, 12, 13, 14, 15, 16, 17, 18, 19] (by decide +kernel) (by decide +kernel)
set_option maxRecDepth 20000 in
theorem gX1_holes_X1_isCircle : GoodIn wsX1_holes (wsV RX1 58 RX1 yX1_isCircle wsX1_isCircle) := goodIn_app (goodIn_of _ (by decide +kernel)) ggX1_holes_X1_isCircle
theorem dX1_holes_0 : decode cX1_holes 0 = .ok (.aload_n 0, 1) := by decide +kernel
theorem dX1_holes_1 : decode cX1_holes 1 = .ok (.iload_n 1, 1) := by decide +kernel
theorem dX1_holes_2 : decode cX1_holes 2 = .ok (.invokevirtual 58, 3) := by decide +kernel
theorem dX1_holes_5 : decode cX1_holes 5 = .ok (.ifCond .eq 12, 3) := by decide +kernel
theorem dX1_holes_8 : decode cX1_holes 8 = .ok (.aload_n 0, 1) := by decide +kernel
theorem dX1_holes_9 : decode cX1_holes 9 = .ok (.getfield 13, 3) := by decide +kernel
theorem dX1_holes_12 : decode cX1_holes 12 = .ok (.iload_n 1, 1) := by decide +kernel
theorem dX1_holes_13 : decode cX1_holes 13 = .ok (.iaload, 1) := by decide +kernel
theorem dX1_holes_14 : decode cX1_holes 14 = .ok (.goto 4, 3) := by decide +kernel
theorem dX1_holes_17 : decode cX1_holes 17 = .ok (.iconst (-1), 1) := by decide +kernel
theorem dX1_holes_18 : decode cX1_holes 18 = .ok (.ireturn, 1) := by decide +kernel
set_option maxRecDepth 20000 in
theorem ggX1_gear_X1_in : GoodIn wsX1_gear wsX1_in := goodIn_r _ [8] (by decide +kernel) (by decide +kernel)
set_option maxRecDepth 20000 in
theorem gX1_gear_X1_in : GoodIn wsX1_gear (va_wsS RX1 40 yX1_in wsX1_in) := goodIn_app (goodIn_of _ (by decide +kernel)) ggX1_gear_X1_in
theorem dX1_gear_0 : decode cX1_gear 0 = .ok (.iload_n 1, 1) := by decide +kernel
theorem dX1_gear_1 : decode cX1_gear 1 = .ok (.i2l, 1) := by decide +kernel
theorem dX1_gear_2 : decode cX1_gear 2 = .ok (.ldc2_w 62, 3) := by decide +kernel
theorem dX1_gear_5 : decode cX1_gear 5 = .ok (.ldc2_w 56, 3) := by decide +kernel
theorem dX1_gear_8 : decode cX1_gear 8 = .ok (.invokestatic 40, 3) := by decide +kernel
theorem dX1_gear_11 : decode cX1_gear 11 = .ok (.ifCond .ne 6, 3) := by decide +kernel
theorem dX1_gear_14 : decode cX1_gear 14 = .ok (.bipush (-2), 2) := by decide +kernel
theorem dX1_gear_16 : decode cX1_gear 16 = .ok (.ireturn, 1) := by decide +kernel
theorem dX1_gear_17 : decode cX1_gear 17 = .ok (.aload_n 0, 1) := by decide +kernel
theorem dX1_gear_18 : decode cX1_gear 18 = .ok (.getfield 47, 3) := by decide +kernel
theorem dX1_gear_21 : decode cX1_gear 21 = .ok (.bipush 10, 2) := by decide +kernel
theorem dX1_gear_23 : decode cX1_gear 23 = .ok (.if_icmp .ne 6, 3) := by decide +kernel
theorem dX1_gear_26 : decode cX1_gear 26 = .ok (.bipush (-4), 2) := by decide +kernel
theorem dX1_gear_28 : decode cX1_gear 28 = .ok (.ireturn, 1) := by decide +kernel
theorem dX1_gear_29 : decode cX1_gear 29 = .ok (.aload_n 0, 1) := by decide +kernel
theorem dX1_gear_30 : decode cX1_gear 30 = .ok (.getfield 17, 3) := by decide +kernel
theorem dX1_gear_33 : decode cX1_gear 33 = .ok (.aload_n 0, 1) := by decide +kernel
theorem dX1_gear_34 : decode cX1_gear 34 = .ok (.getfield 47, 3) := by decide +kernel
theorem dX1_gear_37 : decode cX1_gear 37 = .ok (.iload_n 1, 1) := by decide +kernel
theorem dX1_gear_38 : decode cX1_gear 38 = .ok (.iastore, 1) := by decide +kernel
theorem dX1_gear_39 : decode cX1_gear 39 = .ok (.aload_n 0, 1) := by decide +kernel
theorem dX1_gear_40 : decode cX1_gear 40 = .ok (.dup, 1) := by decide +kernel
theorem dX1_gear_41 : decode cX1_gear 41 = .ok (.getfield 47, 3) := by decide +kernel
theorem dX1_gear_44 : decode cX1_gear 44 = .ok (.iconst 1, 1) := by decide +kernel
theorem dX1_gear_45 : decode cX1_gear 45 = .ok (.iadd, 1) := by decide +kernel
theorem dX1_gear_46 : decode cX1_gear 46 = .ok (.putfield 47, 3) := by decide +kernel
theorem dX1_gear_49 : decode cX1_gear 49 = .ok (.aload_n 0, 1) := by decide +kernel
theorem dX1_gear_50 : decode cX1_gear 50 = .ok (.getfield 47, 3) := by decide +kernel
theorem dX1_gear_53 : decode cX1_gear 53 = .ok (.iconst 1, 1) := by decide +kernel
theorem dX1_gear_54 : decode cX1_gear 54 = .ok (.isub, 1) := by decide +kernel
theorem dX1_gear_55 : decode cX1_gear 55 = .ok (.ireturn, 1) := by decide +kernel
set_option maxRecDepth 20000 in
theorem ggX1_teeth_X1_isGear : GoodIn wsX1_teeth wsX1_isGear := goodIn_r _ [6, 7, 8, 9, 5, 10, 11, 12, 13, 14, 15, 16, 17, 18, 19] (by decide +kernel) (by decide +kernel)
set_option maxRecDepth 20000 in
theorem gX1_teeth_X1_isGear : GoodIn wsX1_teeth (wsV RX1 64 RX1 yX1_isGear wsX1_isGear) := goodIn_app (goodIn_of _ (by decide +kernel)) ggX1_teeth_X1_isGear
theorem dX1_teeth_0 : decode cX1_teeth 0 = .ok (.aload_n 0, 1) := by decide +kernel
theorem dX1_teeth_1 : decode cX1_teeth 1 = .ok (.iload_n 1, 1) := by decide +kernel
theorem dX1_teeth_2 : decode cX1_teeth 2 = .ok (.invokevirtual 64, 3) := by decide +kernel
theorem dX1_teeth_5 : decode cX1_teeth 5 = .ok (.ifCond .eq 12, 3) := by decide +kernel
theorem dX1_teeth_8 : decode cX1_teeth 8 = .ok (.aload_n 0, 1) := by decide +kernel
theorem dX1_teeth_9 : decode cX1_teeth 9 = .ok (.getfield 17, 3) := by decide +kernel
theorem dX1_teeth_12 : decode cX1_teeth 12 = .ok (.iload_n 1, 1) := by decide +kernel
theorem dX1_teeth_13 : decode cX1_teeth 13 = .ok (.iaload, 1) := by decide +kernel
theorem dX1_teeth_14 : decode cX1_teeth 14 = .ok (.goto 4, 3) := by decide +kernel
theorem dX1_teeth_17 : decode cX1_teeth 17 = .ok (.iconst (-1), 1) := by decide +kernel
theorem dX1_teeth_18 : decode cX1_teeth 18 = .ok (.ireturn, 1) := by decide +kernel
theorem dX1_plainOf_0 : decode cX1_plainOf 0 = .ok (.bipush (-6), 2) := by decide +kernel
theorem dX1_plainOf_2 : decode cX1_plainOf 2 = .ok (.istore_n 2, 1) := by decide +kernel
theorem dX1_plainOf_3 : decode cX1_plainOf 3 = .ok (.iconst 0, 1) := by decide +kernel
theorem dX1_plainOf_4 : decode cX1_plainOf 4 = .ok (.istore_n 3, 1) := by decide +kernel
theorem dX1_plainOf_5 : decode cX1_plainOf 5 = .ok (.iload_n 3, 1) := by decide +kernel
theorem dX1_plainOf_6 : decode cX1_plainOf 6 = .ok (.aload_n 0, 1) := by decide +kernel
theorem dX1_plainOf_7 : decode cX1_plainOf 7 = .ok (.getfield 44, 3) := by decide +kernel
theorem dX1_plainOf_10 : decode cX1_plainOf 10 = .ok (.if_icmp .ge 62, 3) := by decide +kernel
theorem dX1_plainOf_13 : decode cX1_plainOf 13 = .ok (.aload_n 0, 1) := by decide +kernel
theorem dX1_plainOf_14 : decode cX1_plainOf 14 = .ok (.getfield 7, 3) := by decide +kernel
theorem dX1_plainOf_17 : decode cX1_plainOf 17 = .ok (.aload_n 0, 1) := by decide +kernel
theorem dX1_plainOf_18 : decode cX1_plainOf 18 = .ok (.getfield 13, 3) := by decide +kernel
theorem dX1_plainOf_21 : decode cX1_plainOf 21 = .ok (.iload_n 3, 1) := by decide +kernel
theorem dX1_plainOf_22 : decode cX1_plainOf 22 = .ok (.iaload, 1) := by decide +kernel
theorem dX1_plainOf_23 : decode cX1_plainOf 23 = .ok (.imul, 1) := by decide +kernel
theorem dX1_plainOf_24 : decode cX1_plainOf 24 = .ok (.iload_n 1, 1) := by decide +kernel
theorem dX1_plainOf_25 : decode cX1_plainOf 25 = .ok (.irem, 1) := by decide +kernel
theorem dX1_plainOf_26 : decode cX1_plainOf 26 = .ok (.ifCond .ne 7, 3) := by decide +kernel
theorem dX1_plainOf_29 : decode cX1_plainOf 29 = .ok (.iconst 1, 1) := by decide +kernel
theorem dX1_plainOf_30 : decode cX1_plainOf 30 = .ok (.goto 4, 3) := by decide +kernel
theorem dX1_plainOf_33 : decode cX1_plainOf 33 = .ok (.iconst 0, 1) := by decide +kernel
theorem dX1_plainOf_34 : decode cX1_plainOf 34 = .ok (.istore 4, 2) := by decide +kernel
theorem dX1_plainOf_36 : decode cX1_plainOf 36 = .ok (.iload 4, 2) := by decide +kernel
theorem dX1_plainOf_38 : decode cX1_plainOf 38 = .ok (.ifCond .eq 26, 3) := by decide +kernel
theorem dX1_plainOf_41 : decode cX1_plainOf 41 = .ok (.iload_n 2, 1) := by decide +kernel
theorem dX1_plainOf_42 : decode cX1_plainOf 42 = .ok (.ifCond .lt 18, 3) := by decide +kernel
theorem dX1_plainOf_45 : decode cX1_plainOf 45 = .ok (.aload_n 0, 1) := by decide +kernel
theorem dX1_plainOf_46 : decode cX1_plainOf 46 = .ok (.getfield 13, 3) := by decide +kernel
theorem dX1_plainOf_49 : decode cX1_plainOf 49 = .ok (.iload_n 3, 1) := by decide +kernel
theorem dX1_plainOf_50 : decode cX1_plainOf 50 = .ok (.iaload, 1) := by decide +kernel
theorem dX1_plainOf_51 : decode cX1_plainOf 51 = .ok (.aload_n 0, 1) := by decide +kernel
theorem dX1_plainOf_52 : decode cX1_plainOf 52 = .ok (.getfield 13, 3) := by decide +kernel
theorem dX1_plainOf_55 : decode cX1_plainOf 55 = .ok (.iload_n 2, 1) := by decide +kernel
theorem dX1_plainOf_56 : decode cX1_plainOf 56 = .ok (.iaload, 1) := by decide +kernel
theorem dX1_plainOf_57 : decode cX1_plainOf 57 = .ok (.if_icmp .ge 7, 3) := by decide +kernel
theorem dX1_plainOf_60 : decode cX1_plainOf 60 = .ok (.iload_n 3, 1) := by decide +kernel
theorem dX1_plainOf_61 : decode cX1_plainOf 61 = .ok (.goto 4, 3) := by decide +kernel
theorem dX1_plainOf_64 : decode cX1_plainOf 64 = .ok (.iload_n 2, 1) := by decide +kernel
theorem dX1_plainOf_65 : decode cX1_plainOf 65 = .ok (.istore_n 2, 1) := by decide +kernel
theorem dX1_plainOf_66 : decode cX1_plainOf 66 = .ok (.iinc 3 1, 3) := by decide +kernel
theorem dX1_plainOf_69 : decode cX1_plainOf 69 = .ok (.goto (-64), 3) := by decide +kernel
theorem dX1_plainOf_72 : decode cX1_plainOf 72 = .ok (.iload_n 2, 1) := by decide +kernel
theorem dX1_plainOf_73 : decode cX1_plainOf 73 = .ok (.ireturn, 1) := by decide +kernel
set_option maxRecDepth 20000 in
theorem ggX1_plain_X1_isParts : GoodIn wsX1_plain wsX1_isParts := goodIn_r _ [7, 1, 8, 9, 10, 6, 11] (by decide +kernel) (by decide +kernel)
set_option maxRecDepth 20000 in
theorem gX1_plain_X1_isParts : GoodIn wsX1_plain (va_wsS RX1 67 yX1_isParts wsX1_isParts) := goodIn_app (goodIn_of _ (by decide +kernel)) ggX1_plain_X1_isParts
set_option maxRecDepth 20000 in
theorem ggX1_plain_X1_in : GoodIn wsX1_plain wsX1_in := goodIn_r _ [11] (by decide +kernel) (by decide +kernel)
set_option maxRecDepth 20000 in
theorem gX1_plain_X1_in : GoodIn wsX1_plain (va_wsS RX1 40 yX1_in wsX1_in) := goodIn_app (goodIn_of _ (by decide +kernel)) ggX1_plain_X1_in
set_option maxRecDepth 20000 in
theorem ggX1_plain_X1_plainOf : GoodIn wsX1_plain wsX1_plainOf := goodIn_r _ [15, 16, 2, 3, 17, 18, 19, 20, 21, 22, 23, 24, 25] (by decide +kernel) (by decide +kernel)
set_option maxRecDepth 20000 in
theorem gX1_plain_X1_plainOf : GoodIn wsX1_plain (wsV RX1 70 RX1 yX1_plainOf wsX1_plainOf) := goodIn_app (goodIn_of _ (by decide +kernel)) ggX1_plain_X1_plainOf
theorem dX1_plain_0 : decode cX1_plain 0 = .ok (.iload_n 1, 1) := by decide +kernel
theorem dX1_plain_1 : decode cX1_plain 1 = .ok (.invokestatic 67, 3) := by decide +kernel
theorem dX1_plain_4 : decode cX1_plain 4 = .ok (.ifCond .eq 15, 3) := by decide +kernel
theorem dX1_plain_7 : decode cX1_plain 7 = .ok (.iload_n 2, 1) := by decide +kernel
theorem dX1_plain_8 : decode cX1_plain 8 = .ok (.i2l, 1) := by decide +kernel
theorem dX1_plain_9 : decode cX1_plain 9 = .ok (.lconst 0, 1) := by decide +kernel
theorem dX1_plain_10 : decode cX1_plain 10 = .ok (.ldc2_w 36, 3) := by decide +kernel
theorem dX1_plain_13 : decode cX1_plain 13 = .ok (.invokestatic 40, 3) := by decide +kernel
theorem dX1_plain_16 : decode cX1_plain 16 = .ok (.ifCond .ne 6, 3) := by decide +kernel
theorem dX1_plain_19 : decode cX1_plain 19 = .ok (.bipush (-2), 2) := by decide +kernel
theorem dX1_plain_21 : decode cX1_plain 21 = .ok (.ireturn, 1) := by decide +kernel
theorem dX1_plain_22 : decode cX1_plain 22 = .ok (.aload_n 0, 1) := by decide +kernel
theorem dX1_plain_23 : decode cX1_plain 23 = .ok (.iload_n 1, 1) := by decide +kernel
theorem dX1_plain_24 : decode cX1_plain 24 = .ok (.invokevirtual 70, 3) := by decide +kernel
theorem dX1_plain_27 : decode cX1_plain 27 = .ok (.istore_n 3, 1) := by decide +kernel
theorem dX1_plain_28 : decode cX1_plain 28 = .ok (.iload_n 3, 1) := by decide +kernel
theorem dX1_plain_29 : decode cX1_plain 29 = .ok (.ifCond .ge 8, 3) := by decide +kernel
theorem dX1_plain_32 : decode cX1_plain 32 = .ok (.bipush (-6), 2) := by decide +kernel
theorem dX1_plain_34 : decode cX1_plain 34 = .ok (.goto 45, 3) := by decide +kernel
theorem dX1_plain_37 : decode cX1_plain 37 = .ok (.iload_n 2, 1) := by decide +kernel
theorem dX1_plain_38 : decode cX1_plain 38 = .ok (.ifCond .ne 7, 3) := by decide +kernel
theorem dX1_plain_41 : decode cX1_plain 41 = .ok (.iload_n 3, 1) := by decide +kernel
theorem dX1_plain_42 : decode cX1_plain 42 = .ok (.goto 37, 3) := by decide +kernel
theorem dX1_plain_45 : decode cX1_plain 45 = .ok (.iload_n 2, 1) := by decide +kernel
theorem dX1_plain_46 : decode cX1_plain 46 = .ok (.iconst 1, 1) := by decide +kernel
theorem dX1_plain_47 : decode cX1_plain 47 = .ok (.if_icmp .ne 12, 3) := by decide +kernel
theorem dX1_plain_50 : decode cX1_plain 50 = .ok (.aload_n 0, 1) := by decide +kernel
theorem dX1_plain_51 : decode cX1_plain 51 = .ok (.getfield 7, 3) := by decide +kernel
theorem dX1_plain_54 : decode cX1_plain 54 = .ok (.iload_n 1, 1) := by decide +kernel
theorem dX1_plain_55 : decode cX1_plain 55 = .ok (.idiv, 1) := by decide +kernel
theorem dX1_plain_56 : decode cX1_plain 56 = .ok (.goto 23, 3) := by decide +kernel
theorem dX1_plain_59 : decode cX1_plain 59 = .ok (.aload_n 0, 1) := by decide +kernel
theorem dX1_plain_60 : decode cX1_plain 60 = .ok (.getfield 7, 3) := by decide +kernel
theorem dX1_plain_63 : decode cX1_plain 63 = .ok (.aload_n 0, 1) := by decide +kernel
theorem dX1_plain_64 : decode cX1_plain 64 = .ok (.getfield 13, 3) := by decide +kernel
theorem dX1_plain_67 : decode cX1_plain 67 = .ok (.iload_n 3, 1) := by decide +kernel
theorem dX1_plain_68 : decode cX1_plain 68 = .ok (.iaload, 1) := by decide +kernel
theorem dX1_plain_69 : decode cX1_plain 69 = .ok (.imul, 1) := by decide +kernel
theorem dX1_plain_70 : decode cX1_plain 70 = .ok (.iload_n 1, 1) := by decide +kernel
theorem dX1_plain_71 : decode cX1_plain 71 = .ok (.idiv, 1) := by decide +kernel
theorem dX1_plain_72 : decode cX1_plain 72 = .ok (.aload_n 0, 1) := by decide +kernel
theorem dX1_plain_73 : decode cX1_plain 73 = .ok (.getfield 13, 3) := by decide +kernel
theorem dX1_plain_76 : decode cX1_plain 76 = .ok (.iload_n 3, 1) := by decide +kernel
theorem dX1_plain_77 : decode cX1_plain 77 = .ok (.iaload, 1) := by decide +kernel
theorem dX1_plain_78 : decode cX1_plain 78 = .ok (.irem, 1) := by decide +kernel
theorem dX1_plain_79 : decode cX1_plain 79 = .ok (.ireturn, 1) := by decide +kernel
theorem dX1_stepBeside_0 : decode cX1_stepBeside 0 = .ok (.aload_n 0, 1) := by decide +kernel
theorem dX1_stepBeside_1 : decode cX1_stepBeside 1 = .ok (.getfield 13, 3) := by decide +kernel
theorem dX1_stepBeside_4 : decode cX1_stepBeside 4 = .ok (.iload_n 2, 1) := by decide +kernel
theorem dX1_stepBeside_5 : decode cX1_stepBeside 5 = .ok (.iaload, 1) := by decide +kernel
theorem dX1_stepBeside_6 : decode cX1_stepBeside 6 = .ok (.i2l, 1) := by decide +kernel
theorem dX1_stepBeside_7 : decode cX1_stepBeside 7 = .ok (.aload_n 0, 1) := by decide +kernel
theorem dX1_stepBeside_8 : decode cX1_stepBeside 8 = .ok (.getfield 7, 3) := by decide +kernel
theorem dX1_stepBeside_11 : decode cX1_stepBeside 11 = .ok (.i2l, 1) := by decide +kernel
theorem dX1_stepBeside_12 : decode cX1_stepBeside 12 = .ok (.aload_n 0, 1) := by decide +kernel
theorem dX1_stepBeside_13 : decode cX1_stepBeside 13 = .ok (.getfield 13, 3) := by decide +kernel
theorem dX1_stepBeside_16 : decode cX1_stepBeside 16 = .ok (.iload_n 3, 1) := by decide +kernel
theorem dX1_stepBeside_17 : decode cX1_stepBeside 17 = .ok (.iaload, 1) := by decide +kernel
theorem dX1_stepBeside_18 : decode cX1_stepBeside 18 = .ok (.i2l, 1) := by decide +kernel
theorem dX1_stepBeside_19 : decode cX1_stepBeside 19 = .ok (.lmul, 1) := by decide +kernel
theorem dX1_stepBeside_20 : decode cX1_stepBeside 20 = .ok (.iload 4, 2) := by decide +kernel
theorem dX1_stepBeside_22 : decode cX1_stepBeside 22 = .ok (.i2l, 1) := by decide +kernel
theorem dX1_stepBeside_23 : decode cX1_stepBeside 23 = .ok (.iload_n 1, 1) := by decide +kernel
theorem dX1_stepBeside_24 : decode cX1_stepBeside 24 = .ok (.i2l, 1) := by decide +kernel
theorem dX1_stepBeside_25 : decode cX1_stepBeside 25 = .ok (.lmul, 1) := by decide +kernel
theorem dX1_stepBeside_26 : decode cX1_stepBeside 26 = .ok (.lsub, 1) := by decide +kernel
theorem dX1_stepBeside_27 : decode cX1_stepBeside 27 = .ok (.lmul, 1) := by decide +kernel
theorem dX1_stepBeside_28 : decode cX1_stepBeside 28 = .ok (.lstore 5, 2) := by decide +kernel
theorem dX1_stepBeside_30 : decode cX1_stepBeside 30 = .ok (.iload_n 1, 1) := by decide +kernel
theorem dX1_stepBeside_31 : decode cX1_stepBeside 31 = .ok (.i2l, 1) := by decide +kernel
theorem dX1_stepBeside_32 : decode cX1_stepBeside 32 = .ok (.aload_n 0, 1) := by decide +kernel
theorem dX1_stepBeside_33 : decode cX1_stepBeside 33 = .ok (.getfield 13, 3) := by decide +kernel
theorem dX1_stepBeside_36 : decode cX1_stepBeside 36 = .ok (.iload_n 3, 1) := by decide +kernel
theorem dX1_stepBeside_37 : decode cX1_stepBeside 37 = .ok (.iaload, 1) := by decide +kernel
theorem dX1_stepBeside_38 : decode cX1_stepBeside 38 = .ok (.i2l, 1) := by decide +kernel
theorem dX1_stepBeside_39 : decode cX1_stepBeside 39 = .ok (.lmul, 1) := by decide +kernel
theorem dX1_stepBeside_40 : decode cX1_stepBeside 40 = .ok (.lstore 7, 2) := by decide +kernel
theorem dX1_stepBeside_42 : decode cX1_stepBeside 42 = .ok (.lload 5, 2) := by decide +kernel
theorem dX1_stepBeside_44 : decode cX1_stepBeside 44 = .ok (.lload 7, 2) := by decide +kernel
theorem dX1_stepBeside_46 : decode cX1_stepBeside 46 = .ok (.lrem, 1) := by decide +kernel
theorem dX1_stepBeside_47 : decode cX1_stepBeside 47 = .ok (.lconst 0, 1) := by decide +kernel
theorem dX1_stepBeside_48 : decode cX1_stepBeside 48 = .ok (.lcmp, 1) := by decide +kernel
theorem dX1_stepBeside_49 : decode cX1_stepBeside 49 = .ok (.ifCond .ne 12, 3) := by decide +kernel
theorem dX1_stepBeside_52 : decode cX1_stepBeside 52 = .ok (.lload 5, 2) := by decide +kernel
theorem dX1_stepBeside_54 : decode cX1_stepBeside 54 = .ok (.lload 7, 2) := by decide +kernel
theorem dX1_stepBeside_56 : decode cX1_stepBeside 56 = .ok (.ldiv, 1) := by decide +kernel
theorem dX1_stepBeside_57 : decode cX1_stepBeside 57 = .ok (.l2i, 1) := by decide +kernel
theorem dX1_stepBeside_58 : decode cX1_stepBeside 58 = .ok (.goto 4, 3) := by decide +kernel
theorem dX1_stepBeside_61 : decode cX1_stepBeside 61 = .ok (.iconst 0, 1) := by decide +kernel
theorem dX1_stepBeside_62 : decode cX1_stepBeside 62 = .ok (.ireturn, 1) := by decide +kernel
set_option maxRecDepth 20000 in
theorem ggX1_compound_X1_isParts : GoodIn wsX1_compound wsX1_isParts := goodIn_r _ [9, 10, 11, 12, 13, 8, 14] (by decide +kernel) (by decide +kernel)
set_option maxRecDepth 20000 in
theorem gX1_compound_X1_isParts : GoodIn wsX1_compound (va_wsS RX1 67 yX1_isParts wsX1_isParts) := goodIn_app (goodIn_of _ (by decide +kernel)) ggX1_compound_X1_isParts
set_option maxRecDepth 20000 in
theorem ggX1_compound_X1_in : GoodIn wsX1_compound wsX1_in := goodIn_r _ [14] (by decide +kernel) (by decide +kernel)
set_option maxRecDepth 20000 in
theorem gX1_compound_X1_in : GoodIn wsX1_compound (va_wsS RX1 40 yX1_in wsX1_in) := goodIn_app (goodIn_of _ (by decide +kernel)) ggX1_compound_X1_in
set_option maxRecDepth 20000 in
theorem ggX1_compound_X1_stepBeside : GoodIn wsX1_compound wsX1_stepBeside := goodIn_r _ [18, 4, 19, 20, 21, 22, 23, 24, 25, 26, 27, 28] (by decide +kernel) (by decide +kernel)
set_option maxRecDepth 20000 in
theorem gX1_compound_X1_stepBeside : GoodIn wsX1_compound (wsV RX1 77 RX1 yX1_stepBeside wsX1_stepBeside) := goodIn_app (goodIn_of _ (by decide +kernel)) ggX1_compound_X1_stepBeside
theorem dX1_compound_0 : decode cX1_compound 0 = .ok (.iload_n 1, 1) := by decide +kernel
theorem dX1_compound_1 : decode cX1_compound 1 = .ok (.invokestatic 67, 3) := by decide +kernel
theorem dX1_compound_4 : decode cX1_compound 4 = .ok (.ifCond .eq 15, 3) := by decide +kernel
theorem dX1_compound_7 : decode cX1_compound 7 = .ok (.iload_n 2, 1) := by decide +kernel
theorem dX1_compound_8 : decode cX1_compound 8 = .ok (.i2l, 1) := by decide +kernel
theorem dX1_compound_9 : decode cX1_compound 9 = .ok (.lconst 0, 1) := by decide +kernel
theorem dX1_compound_10 : decode cX1_compound 10 = .ok (.ldc2_w 74, 3) := by decide +kernel
theorem dX1_compound_13 : decode cX1_compound 13 = .ok (.invokestatic 40, 3) := by decide +kernel
theorem dX1_compound_16 : decode cX1_compound 16 = .ok (.ifCond .ne 6, 3) := by decide +kernel
theorem dX1_compound_19 : decode cX1_compound 19 = .ok (.ldc 76, 2) := by decide +kernel
theorem dX1_compound_21 : decode cX1_compound 21 = .ok (.ireturn, 1) := by decide +kernel
theorem dX1_compound_22 : decode cX1_compound 22 = .ok (.iconst 0, 1) := by decide +kernel
theorem dX1_compound_23 : decode cX1_compound 23 = .ok (.istore_n 3, 1) := by decide +kernel
theorem dX1_compound_24 : decode cX1_compound 24 = .ok (.iload_n 3, 1) := by decide +kernel
theorem dX1_compound_25 : decode cX1_compound 25 = .ok (.aload_n 0, 1) := by decide +kernel
theorem dX1_compound_26 : decode cX1_compound 26 = .ok (.getfield 44, 3) := by decide +kernel
theorem dX1_compound_29 : decode cX1_compound 29 = .ok (.if_icmp .ge 122, 3) := by decide +kernel
theorem dX1_compound_32 : decode cX1_compound 32 = .ok (.iload_n 3, 1) := by decide +kernel
theorem dX1_compound_33 : decode cX1_compound 33 = .ok (.iconst 1, 1) := by decide +kernel
theorem dX1_compound_34 : decode cX1_compound 34 = .ok (.iadd, 1) := by decide +kernel
theorem dX1_compound_35 : decode cX1_compound 35 = .ok (.istore 4, 2) := by decide +kernel
theorem dX1_compound_37 : decode cX1_compound 37 = .ok (.iload 4, 2) := by decide +kernel
theorem dX1_compound_39 : decode cX1_compound 39 = .ok (.aload_n 0, 1) := by decide +kernel
theorem dX1_compound_40 : decode cX1_compound 40 = .ok (.getfield 44, 3) := by decide +kernel
theorem dX1_compound_43 : decode cX1_compound 43 = .ok (.if_icmp .ge 102, 3) := by decide +kernel
theorem dX1_compound_46 : decode cX1_compound 46 = .ok (.iconst 1, 1) := by decide +kernel
theorem dX1_compound_47 : decode cX1_compound 47 = .ok (.istore 5, 2) := by decide +kernel
theorem dX1_compound_49 : decode cX1_compound 49 = .ok (.iload 5, 2) := by decide +kernel
theorem dX1_compound_51 : decode cX1_compound 51 = .ok (.aload_n 0, 1) := by decide +kernel
theorem dX1_compound_52 : decode cX1_compound 52 = .ok (.getfield 13, 3) := by decide +kernel
theorem dX1_compound_55 : decode cX1_compound 55 = .ok (.iload 4, 2) := by decide +kernel
theorem dX1_compound_57 : decode cX1_compound 57 = .ok (.iaload, 1) := by decide +kernel
theorem dX1_compound_58 : decode cX1_compound 58 = .ok (.if_icmp .gt 81, 3) := by decide +kernel
theorem dX1_compound_61 : decode cX1_compound 61 = .ok (.iload 5, 2) := by decide +kernel
theorem dX1_compound_63 : decode cX1_compound 63 = .ok (.istore 6, 2) := by decide +kernel
theorem dX1_compound_65 : decode cX1_compound 65 = .ok (.iload 6, 2) := by decide +kernel
theorem dX1_compound_67 : decode cX1_compound 67 = .ok (.iload 5, 2) := by decide +kernel
theorem dX1_compound_69 : decode cX1_compound 69 = .ok (.ineg, 1) := by decide +kernel
theorem dX1_compound_70 : decode cX1_compound 70 = .ok (.if_icmp .lt 63, 3) := by decide +kernel
theorem dX1_compound_73 : decode cX1_compound 73 = .ok (.aload_n 0, 1) := by decide +kernel
theorem dX1_compound_74 : decode cX1_compound 74 = .ok (.iload_n 1, 1) := by decide +kernel
theorem dX1_compound_75 : decode cX1_compound 75 = .ok (.iload_n 3, 1) := by decide +kernel
theorem dX1_compound_76 : decode cX1_compound 76 = .ok (.iload 4, 2) := by decide +kernel
theorem dX1_compound_78 : decode cX1_compound 78 = .ok (.iload 6, 2) := by decide +kernel
theorem dX1_compound_80 : decode cX1_compound 80 = .ok (.invokevirtual 77, 3) := by decide +kernel
theorem dX1_compound_83 : decode cX1_compound 83 = .ok (.istore 7, 2) := by decide +kernel
theorem dX1_compound_85 : decode cX1_compound 85 = .ok (.iload 7, 2) := by decide +kernel
theorem dX1_compound_87 : decode cX1_compound 87 = .ok (.ifCond .eq 34, 3) := by decide +kernel
theorem dX1_compound_90 : decode cX1_compound 90 = .ok (.iload_n 2, 1) := by decide +kernel
theorem dX1_compound_91 : decode cX1_compound 91 = .ok (.ifCond .ne 7, 3) := by decide +kernel
theorem dX1_compound_94 : decode cX1_compound 94 = .ok (.iload_n 3, 1) := by decide +kernel
theorem dX1_compound_95 : decode cX1_compound 95 = .ok (.goto 25, 3) := by decide +kernel
theorem dX1_compound_98 : decode cX1_compound 98 = .ok (.iload_n 2, 1) := by decide +kernel
theorem dX1_compound_99 : decode cX1_compound 99 = .ok (.iconst 1, 1) := by decide +kernel
theorem dX1_compound_100 : decode cX1_compound 100 = .ok (.if_icmp .ne 8, 3) := by decide +kernel
theorem dX1_compound_103 : decode cX1_compound 103 = .ok (.iload 7, 2) := by decide +kernel
theorem dX1_compound_105 : decode cX1_compound 105 = .ok (.goto 15, 3) := by decide +kernel
theorem dX1_compound_108 : decode cX1_compound 108 = .ok (.iload_n 2, 1) := by decide +kernel
theorem dX1_compound_109 : decode cX1_compound 109 = .ok (.iconst 2, 1) := by decide +kernel
theorem dX1_compound_110 : decode cX1_compound 110 = .ok (.if_icmp .ne 8, 3) := by decide +kernel
theorem dX1_compound_113 : decode cX1_compound 113 = .ok (.iload 4, 2) := by decide +kernel
theorem dX1_compound_115 : decode cX1_compound 115 = .ok (.goto 5, 3) := by decide +kernel
theorem dX1_compound_118 : decode cX1_compound 118 = .ok (.iload 6, 2) := by decide +kernel
theorem dX1_compound_120 : decode cX1_compound 120 = .ok (.ireturn, 1) := by decide +kernel
theorem dX1_compound_121 : decode cX1_compound 121 = .ok (.iload 6, 2) := by decide +kernel
theorem dX1_compound_123 : decode cX1_compound 123 = .ok (.iconst 2, 1) := by decide +kernel
theorem dX1_compound_124 : decode cX1_compound 124 = .ok (.iload 5, 2) := by decide +kernel
theorem dX1_compound_126 : decode cX1_compound 126 = .ok (.imul, 1) := by decide +kernel
theorem dX1_compound_127 : decode cX1_compound 127 = .ok (.isub, 1) := by decide +kernel
theorem dX1_compound_128 : decode cX1_compound 128 = .ok (.istore 6, 2) := by decide +kernel
theorem dX1_compound_130 : decode cX1_compound 130 = .ok (.goto (-65), 3) := by decide +kernel
theorem dX1_compound_133 : decode cX1_compound 133 = .ok (.iinc 5 1, 3) := by decide +kernel
theorem dX1_compound_136 : decode cX1_compound 136 = .ok (.goto (-87), 3) := by decide +kernel
theorem dX1_compound_139 : decode cX1_compound 139 = .ok (.iinc 4 1, 3) := by decide +kernel
theorem dX1_compound_142 : decode cX1_compound 142 = .ok (.goto (-105), 3) := by decide +kernel
theorem dX1_compound_145 : decode cX1_compound 145 = .ok (.iinc 3 1, 3) := by decide +kernel
theorem dX1_compound_148 : decode cX1_compound 148 = .ok (.goto (-124), 3) := by decide +kernel
theorem dX1_compound_151 : decode cX1_compound 151 = .ok (.ldc 81, 2) := by decide +kernel
theorem dX1_compound_153 : decode cX1_compound 153 = .ok (.ireturn, 1) := by decide +kernel
set_option maxRecDepth 20000 in
theorem ggX1_isTrain_X1_put : GoodIn wsX1_isTrain wsX1_put := goodIn_r _ [7, 8, 9, 10, 11, 12, 13, 14, 15, 16, 17] (by decide +kernel) (by decide +kernel)
set_option maxRecDepth 20000 in
theorem gX1_isTrain_X1_put : GoodIn wsX1_isTrain (wsV RX1 82 RX1 yX1_put wsX1_put) := goodIn_app (goodIn_of _ (by decide +kernel)) ggX1_isTrain_X1_put
theorem dX1_isTrain_0 : decode cX1_isTrain 0 = .ok (.iconst 0, 1) := by decide +kernel
theorem dX1_isTrain_1 : decode cX1_isTrain 1 = .ok (.istore 5, 2) := by decide +kernel
theorem dX1_isTrain_3 : decode cX1_isTrain 3 = .ok (.iload 5, 2) := by decide +kernel
theorem dX1_isTrain_5 : decode cX1_isTrain 5 = .ok (.aload_n 0, 1) := by decide +kernel
theorem dX1_isTrain_6 : decode cX1_isTrain 6 = .ok (.getfield 47, 3) := by decide +kernel
theorem dX1_isTrain_9 : decode cX1_isTrain 9 = .ok (.if_icmp .ge 72, 3) := by decide +kernel
theorem dX1_isTrain_12 : decode cX1_isTrain 12 = .ok (.iconst 0, 1) := by decide +kernel
theorem dX1_isTrain_13 : decode cX1_isTrain 13 = .ok (.istore 6, 2) := by decide +kernel
theorem dX1_isTrain_15 : decode cX1_isTrain 15 = .ok (.iload 6, 2) := by decide +kernel
theorem dX1_isTrain_17 : decode cX1_isTrain 17 = .ok (.aload_n 0, 1) := by decide +kernel
theorem dX1_isTrain_18 : decode cX1_isTrain 18 = .ok (.getfield 47, 3) := by decide +kernel
theorem dX1_isTrain_21 : decode cX1_isTrain 21 = .ok (.if_icmp .ge 54, 3) := by decide +kernel
theorem dX1_isTrain_24 : decode cX1_isTrain 24 = .ok (.iload 5, 2) := by decide +kernel
theorem dX1_isTrain_26 : decode cX1_isTrain 26 = .ok (.iload 6, 2) := by decide +kernel
theorem dX1_isTrain_28 : decode cX1_isTrain 28 = .ok (.if_icmp .eq 41, 3) := by decide +kernel
theorem dX1_isTrain_31 : decode cX1_isTrain 31 = .ok (.aload_n 0, 1) := by decide +kernel
theorem dX1_isTrain_32 : decode cX1_isTrain 32 = .ok (.getfield 17, 3) := by decide +kernel
theorem dX1_isTrain_35 : decode cX1_isTrain 35 = .ok (.iload 5, 2) := by decide +kernel
theorem dX1_isTrain_37 : decode cX1_isTrain 37 = .ok (.iaload, 1) := by decide +kernel
theorem dX1_isTrain_38 : decode cX1_isTrain 38 = .ok (.i2l, 1) := by decide +kernel
theorem dX1_isTrain_39 : decode cX1_isTrain 39 = .ok (.lload_n 3, 1) := by decide +kernel
theorem dX1_isTrain_40 : decode cX1_isTrain 40 = .ok (.lmul, 1) := by decide +kernel
theorem dX1_isTrain_41 : decode cX1_isTrain 41 = .ok (.aload_n 0, 1) := by decide +kernel
theorem dX1_isTrain_42 : decode cX1_isTrain 42 = .ok (.getfield 17, 3) := by decide +kernel
theorem dX1_isTrain_45 : decode cX1_isTrain 45 = .ok (.iload 6, 2) := by decide +kernel
theorem dX1_isTrain_47 : decode cX1_isTrain 47 = .ok (.iaload, 1) := by decide +kernel
theorem dX1_isTrain_48 : decode cX1_isTrain 48 = .ok (.i2l, 1) := by decide +kernel
theorem dX1_isTrain_49 : decode cX1_isTrain 49 = .ok (.lload_n 1, 1) := by decide +kernel
theorem dX1_isTrain_50 : decode cX1_isTrain 50 = .ok (.lmul, 1) := by decide +kernel
theorem dX1_isTrain_51 : decode cX1_isTrain 51 = .ok (.lcmp, 1) := by decide +kernel
theorem dX1_isTrain_52 : decode cX1_isTrain 52 = .ok (.ifCond .ne 17, 3) := by decide +kernel
theorem dX1_isTrain_55 : decode cX1_isTrain 55 = .ok (.aload_n 0, 1) := by decide +kernel
theorem dX1_isTrain_56 : decode cX1_isTrain 56 = .ok (.iload 5, 2) := by decide +kernel
theorem dX1_isTrain_58 : decode cX1_isTrain 58 = .ok (.iload 6, 2) := by decide +kernel
theorem dX1_isTrain_60 : decode cX1_isTrain 60 = .ok (.bipush (-6), 2) := by decide +kernel
theorem dX1_isTrain_62 : decode cX1_isTrain 62 = .ok (.bipush (-6), 2) := by decide +kernel
theorem dX1_isTrain_64 : decode cX1_isTrain 64 = .ok (.invokevirtual 82, 3) := by decide +kernel
theorem dX1_isTrain_67 : decode cX1_isTrain 67 = .ok (.iconst 1, 1) := by decide +kernel
theorem dX1_isTrain_68 : decode cX1_isTrain 68 = .ok (.ireturn, 1) := by decide +kernel
theorem dX1_isTrain_69 : decode cX1_isTrain 69 = .ok (.iinc 6 1, 3) := by decide +kernel
theorem dX1_isTrain_72 : decode cX1_isTrain 72 = .ok (.goto (-57), 3) := by decide +kernel
theorem dX1_isTrain_75 : decode cX1_isTrain 75 = .ok (.iinc 5 1, 3) := by decide +kernel
theorem dX1_isTrain_78 : decode cX1_isTrain 78 = .ok (.goto (-75), 3) := by decide +kernel
theorem dX1_isTrain_81 : decode cX1_isTrain 81 = .ok (.iconst 0, 1) := by decide +kernel
theorem dX1_isTrain_82 : decode cX1_isTrain 82 = .ok (.istore 5, 2) := by decide +kernel
theorem dX1_isTrain_84 : decode cX1_isTrain 84 = .ok (.iload 5, 2) := by decide +kernel
theorem dX1_isTrain_86 : decode cX1_isTrain 86 = .ok (.sipush 10000, 3) := by decide +kernel
theorem dX1_isTrain_89 : decode cX1_isTrain 89 = .ok (.if_icmp .ge 202, 3) := by decide +kernel
theorem dX1_isTrain_92 : decode cX1_isTrain 92 = .ok (.iload 5, 2) := by decide +kernel
theorem dX1_isTrain_94 : decode cX1_isTrain 94 = .ok (.sipush 1000, 3) := by decide +kernel
theorem dX1_isTrain_97 : decode cX1_isTrain 97 = .ok (.idiv, 1) := by decide +kernel
theorem dX1_isTrain_98 : decode cX1_isTrain 98 = .ok (.istore 6, 2) := by decide +kernel
theorem dX1_isTrain_100 : decode cX1_isTrain 100 = .ok (.iload 5, 2) := by decide +kernel
theorem dX1_isTrain_102 : decode cX1_isTrain 102 = .ok (.bipush 100, 2) := by decide +kernel
theorem dX1_isTrain_104 : decode cX1_isTrain 104 = .ok (.idiv, 1) := by decide +kernel
theorem dX1_isTrain_105 : decode cX1_isTrain 105 = .ok (.bipush 10, 2) := by decide +kernel
theorem dX1_isTrain_107 : decode cX1_isTrain 107 = .ok (.irem, 1) := by decide +kernel
theorem dX1_isTrain_108 : decode cX1_isTrain 108 = .ok (.istore 7, 2) := by decide +kernel
theorem dX1_isTrain_110 : decode cX1_isTrain 110 = .ok (.iload 5, 2) := by decide +kernel
theorem dX1_isTrain_112 : decode cX1_isTrain 112 = .ok (.bipush 10, 2) := by decide +kernel
theorem dX1_isTrain_114 : decode cX1_isTrain 114 = .ok (.idiv, 1) := by decide +kernel
theorem dX1_isTrain_115 : decode cX1_isTrain 115 = .ok (.bipush 10, 2) := by decide +kernel
theorem dX1_isTrain_117 : decode cX1_isTrain 117 = .ok (.irem, 1) := by decide +kernel
theorem dX1_isTrain_118 : decode cX1_isTrain 118 = .ok (.istore 8, 2) := by decide +kernel
theorem dX1_isTrain_120 : decode cX1_isTrain 120 = .ok (.iload 5, 2) := by decide +kernel
theorem dX1_isTrain_122 : decode cX1_isTrain 122 = .ok (.bipush 10, 2) := by decide +kernel
theorem dX1_isTrain_124 : decode cX1_isTrain 124 = .ok (.irem, 1) := by decide +kernel
theorem dX1_isTrain_125 : decode cX1_isTrain 125 = .ok (.istore 9, 2) := by decide +kernel
theorem dX1_isTrain_127 : decode cX1_isTrain 127 = .ok (.iload 6, 2) := by decide +kernel
theorem dX1_isTrain_129 : decode cX1_isTrain 129 = .ok (.iload 7, 2) := by decide +kernel
theorem dX1_isTrain_131 : decode cX1_isTrain 131 = .ok (.if_icmp .eq 42, 3) := by decide +kernel
theorem dX1_isTrain_134 : decode cX1_isTrain 134 = .ok (.iload 6, 2) := by decide +kernel
theorem dX1_isTrain_136 : decode cX1_isTrain 136 = .ok (.iload 8, 2) := by decide +kernel
theorem dX1_isTrain_138 : decode cX1_isTrain 138 = .ok (.if_icmp .eq 35, 3) := by decide +kernel
theorem dX1_isTrain_141 : decode cX1_isTrain 141 = .ok (.iload 6, 2) := by decide +kernel
theorem dX1_isTrain_143 : decode cX1_isTrain 143 = .ok (.iload 9, 2) := by decide +kernel
theorem dX1_isTrain_145 : decode cX1_isTrain 145 = .ok (.if_icmp .eq 28, 3) := by decide +kernel
theorem dX1_isTrain_148 : decode cX1_isTrain 148 = .ok (.iload 7, 2) := by decide +kernel
theorem dX1_isTrain_150 : decode cX1_isTrain 150 = .ok (.iload 8, 2) := by decide +kernel
theorem dX1_isTrain_152 : decode cX1_isTrain 152 = .ok (.if_icmp .eq 21, 3) := by decide +kernel
theorem dX1_isTrain_155 : decode cX1_isTrain 155 = .ok (.iload 7, 2) := by decide +kernel
theorem dX1_isTrain_157 : decode cX1_isTrain 157 = .ok (.iload 9, 2) := by decide +kernel
theorem dX1_isTrain_159 : decode cX1_isTrain 159 = .ok (.if_icmp .eq 14, 3) := by decide +kernel
theorem dX1_isTrain_162 : decode cX1_isTrain 162 = .ok (.iload 8, 2) := by decide +kernel
theorem dX1_isTrain_164 : decode cX1_isTrain 164 = .ok (.iload 9, 2) := by decide +kernel
theorem dX1_isTrain_166 : decode cX1_isTrain 166 = .ok (.if_icmp .eq 7, 3) := by decide +kernel
theorem dX1_isTrain_169 : decode cX1_isTrain 169 = .ok (.iconst 1, 1) := by decide +kernel
theorem dX1_isTrain_170 : decode cX1_isTrain 170 = .ok (.goto 4, 3) := by decide +kernel
theorem dX1_isTrain_173 : decode cX1_isTrain 173 = .ok (.iconst 0, 1) := by decide +kernel
theorem dX1_isTrain_174 : decode cX1_isTrain 174 = .ok (.istore 10, 2) := by decide +kernel
theorem dX1_isTrain_176 : decode cX1_isTrain 176 = .ok (.iload 6, 2) := by decide +kernel
theorem dX1_isTrain_178 : decode cX1_isTrain 178 = .ok (.aload_n 0, 1) := by decide +kernel
theorem dX1_isTrain_179 : decode cX1_isTrain 179 = .ok (.getfield 47, 3) := by decide +kernel
theorem dX1_isTrain_182 : decode cX1_isTrain 182 = .ok (.if_icmp .ge 34, 3) := by decide +kernel
theorem dX1_isTrain_185 : decode cX1_isTrain 185 = .ok (.iload 7, 2) := by decide +kernel
theorem dX1_isTrain_187 : decode cX1_isTrain 187 = .ok (.aload_n 0, 1) := by decide +kernel
theorem dX1_isTrain_188 : decode cX1_isTrain 188 = .ok (.getfield 47, 3) := by decide +kernel
theorem dX1_isTrain_191 : decode cX1_isTrain 191 = .ok (.if_icmp .ge 25, 3) := by decide +kernel
theorem dX1_isTrain_194 : decode cX1_isTrain 194 = .ok (.iload 8, 2) := by decide +kernel
theorem dX1_isTrain_196 : decode cX1_isTrain 196 = .ok (.aload_n 0, 1) := by decide +kernel
theorem dX1_isTrain_197 : decode cX1_isTrain 197 = .ok (.getfield 47, 3) := by decide +kernel
theorem dX1_isTrain_200 : decode cX1_isTrain 200 = .ok (.if_icmp .ge 16, 3) := by decide +kernel
theorem dX1_isTrain_203 : decode cX1_isTrain 203 = .ok (.iload 9, 2) := by decide +kernel
theorem dX1_isTrain_205 : decode cX1_isTrain 205 = .ok (.aload_n 0, 1) := by decide +kernel
theorem dX1_isTrain_206 : decode cX1_isTrain 206 = .ok (.getfield 47, 3) := by decide +kernel
theorem dX1_isTrain_209 : decode cX1_isTrain 209 = .ok (.if_icmp .ge 7, 3) := by decide +kernel
theorem dX1_isTrain_212 : decode cX1_isTrain 212 = .ok (.iconst 1, 1) := by decide +kernel
theorem dX1_isTrain_213 : decode cX1_isTrain 213 = .ok (.goto 4, 3) := by decide +kernel
theorem dX1_isTrain_216 : decode cX1_isTrain 216 = .ok (.iconst 0, 1) := by decide +kernel
theorem dX1_isTrain_217 : decode cX1_isTrain 217 = .ok (.istore 11, 2) := by decide +kernel
theorem dX1_isTrain_219 : decode cX1_isTrain 219 = .ok (.iload 10, 2) := by decide +kernel
theorem dX1_isTrain_221 : decode cX1_isTrain 221 = .ok (.ifCond .eq 64, 3) := by decide +kernel
theorem dX1_isTrain_224 : decode cX1_isTrain 224 = .ok (.iload 11, 2) := by decide +kernel
theorem dX1_isTrain_226 : decode cX1_isTrain 226 = .ok (.ifCond .eq 59, 3) := by decide +kernel
theorem dX1_isTrain_229 : decode cX1_isTrain 229 = .ok (.aload_n 0, 1) := by decide +kernel
theorem dX1_isTrain_230 : decode cX1_isTrain 230 = .ok (.getfield 17, 3) := by decide +kernel
theorem dX1_isTrain_233 : decode cX1_isTrain 233 = .ok (.iload 6, 2) := by decide +kernel
theorem dX1_isTrain_235 : decode cX1_isTrain 235 = .ok (.iaload, 1) := by decide +kernel
theorem dX1_isTrain_236 : decode cX1_isTrain 236 = .ok (.i2l, 1) := by decide +kernel
theorem dX1_isTrain_237 : decode cX1_isTrain 237 = .ok (.aload_n 0, 1) := by decide +kernel
theorem dX1_isTrain_238 : decode cX1_isTrain 238 = .ok (.getfield 17, 3) := by decide +kernel
theorem dX1_isTrain_241 : decode cX1_isTrain 241 = .ok (.iload 8, 2) := by decide +kernel
theorem dX1_isTrain_243 : decode cX1_isTrain 243 = .ok (.iaload, 1) := by decide +kernel
theorem dX1_isTrain_244 : decode cX1_isTrain 244 = .ok (.i2l, 1) := by decide +kernel
theorem dX1_isTrain_245 : decode cX1_isTrain 245 = .ok (.lmul, 1) := by decide +kernel
theorem dX1_isTrain_246 : decode cX1_isTrain 246 = .ok (.lload_n 3, 1) := by decide +kernel
theorem dX1_isTrain_247 : decode cX1_isTrain 247 = .ok (.lmul, 1) := by decide +kernel
theorem dX1_isTrain_248 : decode cX1_isTrain 248 = .ok (.aload_n 0, 1) := by decide +kernel
theorem dX1_isTrain_249 : decode cX1_isTrain 249 = .ok (.getfield 17, 3) := by decide +kernel
theorem dX1_isTrain_252 : decode cX1_isTrain 252 = .ok (.iload 7, 2) := by decide +kernel
theorem dX1_isTrain_254 : decode cX1_isTrain 254 = .ok (.iaload, 1) := by decide +kernel
theorem dX1_isTrain_255 : decode cX1_isTrain 255 = .ok (.i2l, 1) := by decide +kernel
theorem dX1_isTrain_256 : decode cX1_isTrain 256 = .ok (.aload_n 0, 1) := by decide +kernel
theorem dX1_isTrain_257 : decode cX1_isTrain 257 = .ok (.getfield 17, 3) := by decide +kernel
theorem dX1_isTrain_260 : decode cX1_isTrain 260 = .ok (.iload 9, 2) := by decide +kernel
theorem dX1_isTrain_262 : decode cX1_isTrain 262 = .ok (.iaload, 1) := by decide +kernel
theorem dX1_isTrain_263 : decode cX1_isTrain 263 = .ok (.i2l, 1) := by decide +kernel
theorem dX1_isTrain_264 : decode cX1_isTrain 264 = .ok (.lmul, 1) := by decide +kernel
theorem dX1_isTrain_265 : decode cX1_isTrain 265 = .ok (.lload_n 1, 1) := by decide +kernel
theorem dX1_isTrain_266 : decode cX1_isTrain 266 = .ok (.lmul, 1) := by decide +kernel
theorem dX1_isTrain_267 : decode cX1_isTrain 267 = .ok (.lcmp, 1) := by decide +kernel
theorem dX1_isTrain_268 : decode cX1_isTrain 268 = .ok (.ifCond .ne 17, 3) := by decide +kernel
theorem dX1_isTrain_271 : decode cX1_isTrain 271 = .ok (.aload_n 0, 1) := by decide +kernel
theorem dX1_isTrain_272 : decode cX1_isTrain 272 = .ok (.iload 6, 2) := by decide +kernel
theorem dX1_isTrain_274 : decode cX1_isTrain 274 = .ok (.iload 7, 2) := by decide +kernel
theorem dX1_isTrain_276 : decode cX1_isTrain 276 = .ok (.iload 8, 2) := by decide +kernel
theorem dX1_isTrain_278 : decode cX1_isTrain 278 = .ok (.iload 9, 2) := by decide +kernel
theorem dX1_isTrain_280 : decode cX1_isTrain 280 = .ok (.invokevirtual 82, 3) := by decide +kernel
theorem dX1_isTrain_283 : decode cX1_isTrain 283 = .ok (.iconst 1, 1) := by decide +kernel
theorem dX1_isTrain_284 : decode cX1_isTrain 284 = .ok (.ireturn, 1) := by decide +kernel
theorem dX1_isTrain_285 : decode cX1_isTrain 285 = .ok (.iinc 5 1, 3) := by decide +kernel
theorem dX1_isTrain_288 : decode cX1_isTrain 288 = .ok (.goto (-204), 3) := by decide +kernel
theorem dX1_isTrain_291 : decode cX1_isTrain 291 = .ok (.iconst 0, 1) := by decide +kernel
theorem dX1_isTrain_292 : decode cX1_isTrain 292 = .ok (.ireturn, 1) := by decide +kernel
theorem dX1_put_0 : decode cX1_put 0 = .ok (.aload_n 0, 1) := by decide +kernel
theorem dX1_put_1 : decode cX1_put 1 = .ok (.getfield 29, 3) := by decide +kernel
theorem dX1_put_4 : decode cX1_put 4 = .ok (.iconst 0, 1) := by decide +kernel
theorem dX1_put_5 : decode cX1_put 5 = .ok (.iload_n 1, 1) := by decide +kernel
theorem dX1_put_6 : decode cX1_put 6 = .ok (.iastore, 1) := by decide +kernel
theorem dX1_put_7 : decode cX1_put 7 = .ok (.aload_n 0, 1) := by decide +kernel
theorem dX1_put_8 : decode cX1_put 8 = .ok (.getfield 29, 3) := by decide +kernel
theorem dX1_put_11 : decode cX1_put 11 = .ok (.iconst 1, 1) := by decide +kernel
theorem dX1_put_12 : decode cX1_put 12 = .ok (.iload_n 2, 1) := by decide +kernel
theorem dX1_put_13 : decode cX1_put 13 = .ok (.iastore, 1) := by decide +kernel
theorem dX1_put_14 : decode cX1_put 14 = .ok (.aload_n 0, 1) := by decide +kernel
theorem dX1_put_15 : decode cX1_put 15 = .ok (.getfield 29, 3) := by decide +kernel
theorem dX1_put_18 : decode cX1_put 18 = .ok (.iconst 2, 1) := by decide +kernel
theorem dX1_put_19 : decode cX1_put 19 = .ok (.iload_n 3, 1) := by decide +kernel
theorem dX1_put_20 : decode cX1_put 20 = .ok (.iastore, 1) := by decide +kernel
theorem dX1_put_21 : decode cX1_put 21 = .ok (.aload_n 0, 1) := by decide +kernel
theorem dX1_put_22 : decode cX1_put 22 = .ok (.getfield 29, 3) := by decide +kernel
theorem dX1_put_25 : decode cX1_put 25 = .ok (.iconst 3, 1) := by decide +kernel
theorem dX1_put_26 : decode cX1_put 26 = .ok (.iload 4, 2) := by decide +kernel
theorem dX1_put_28 : decode cX1_put 28 = .ok (.iastore, 1) := by decide +kernel
theorem dX1_put_29 : decode cX1_put 29 = .ok (.return_, 1) := by decide +kernel
set_option maxRecDepth 20000 in
theorem ggX1_train_X1_in : GoodIn wsX1_train wsX1_in := goodIn_r _ [7] (by decide +kernel) (by decide +kernel)
set_option maxRecDepth 20000 in
theorem gX1_train_X1_in : GoodIn wsX1_train (va_wsS RX1 40 yX1_in wsX1_in) := goodIn_app (goodIn_of _ (by decide +kernel)) ggX1_train_X1_in
set_option maxRecDepth 20000 in
theorem ggX1_train_X1_isTrain : GoodIn wsX1_train wsX1_isTrain := goodIn_r _ [11, 12, 13, 14, 15, 16, 6, 17, 3, 18, 19, 20, 21, 22, 23, 24, 25, 26] (by decide +kernel) (by decide +kernel)
set_option maxRecDepth 20000 in
theorem gX1_train_X1_isTrain : GoodIn wsX1_train (wsV RX1 88 RX1 yX1_isTrain wsX1_isTrain) := goodIn_app (goodIn_of _ (by decide +kernel)) ggX1_train_X1_isTrain
theorem dX1_train_0 : decode cX1_train 0 = .ok (.iload_n 1, 1) := by decide +kernel
theorem dX1_train_1 : decode cX1_train 1 = .ok (.i2l, 1) := by decide +kernel
theorem dX1_train_2 : decode cX1_train 2 = .ok (.lconst 1, 1) := by decide +kernel
theorem dX1_train_3 : decode cX1_train 3 = .ok (.ldc2_w 86, 3) := by decide +kernel
theorem dX1_train_6 : decode cX1_train 6 = .ok (.invokestatic 40, 3) := by decide +kernel
theorem dX1_train_9 : decode cX1_train 9 = .ok (.ifCond .eq 27, 3) := by decide +kernel
theorem dX1_train_12 : decode cX1_train 12 = .ok (.iload_n 2, 1) := by decide +kernel
theorem dX1_train_13 : decode cX1_train 13 = .ok (.i2l, 1) := by decide +kernel
theorem dX1_train_14 : decode cX1_train 14 = .ok (.lconst 1, 1) := by decide +kernel
theorem dX1_train_15 : decode cX1_train 15 = .ok (.ldc2_w 86, 3) := by decide +kernel
theorem dX1_train_18 : decode cX1_train 18 = .ok (.invokestatic 40, 3) := by decide +kernel
theorem dX1_train_21 : decode cX1_train 21 = .ok (.ifCond .eq 15, 3) := by decide +kernel
theorem dX1_train_24 : decode cX1_train 24 = .ok (.iload_n 3, 1) := by decide +kernel
theorem dX1_train_25 : decode cX1_train 25 = .ok (.i2l, 1) := by decide +kernel
theorem dX1_train_26 : decode cX1_train 26 = .ok (.lconst 0, 1) := by decide +kernel
theorem dX1_train_27 : decode cX1_train 27 = .ok (.ldc2_w 74, 3) := by decide +kernel
theorem dX1_train_30 : decode cX1_train 30 = .ok (.invokestatic 40, 3) := by decide +kernel
theorem dX1_train_33 : decode cX1_train 33 = .ok (.ifCond .ne 6, 3) := by decide +kernel
theorem dX1_train_36 : decode cX1_train 36 = .ok (.bipush (-2), 2) := by decide +kernel
theorem dX1_train_38 : decode cX1_train 38 = .ok (.ireturn, 1) := by decide +kernel
theorem dX1_train_39 : decode cX1_train 39 = .ok (.aload_n 0, 1) := by decide +kernel
theorem dX1_train_40 : decode cX1_train 40 = .ok (.iload_n 1, 1) := by decide +kernel
theorem dX1_train_41 : decode cX1_train 41 = .ok (.i2l, 1) := by decide +kernel
theorem dX1_train_42 : decode cX1_train 42 = .ok (.iload_n 2, 1) := by decide +kernel
theorem dX1_train_43 : decode cX1_train 43 = .ok (.i2l, 1) := by decide +kernel
theorem dX1_train_44 : decode cX1_train 44 = .ok (.invokevirtual 88, 3) := by decide +kernel
theorem dX1_train_47 : decode cX1_train 47 = .ok (.ifCond .eq 12, 3) := by decide +kernel
theorem dX1_train_50 : decode cX1_train 50 = .ok (.aload_n 0, 1) := by decide +kernel
theorem dX1_train_51 : decode cX1_train 51 = .ok (.getfield 29, 3) := by decide +kernel
theorem dX1_train_54 : decode cX1_train 54 = .ok (.iload_n 3, 1) := by decide +kernel
theorem dX1_train_55 : decode cX1_train 55 = .ok (.iaload, 1) := by decide +kernel
theorem dX1_train_56 : decode cX1_train 56 = .ok (.goto 5, 3) := by decide +kernel
theorem dX1_train_59 : decode cX1_train 59 = .ok (.bipush (-6), 2) := by decide +kernel
theorem dX1_train_61 : decode cX1_train 61 = .ok (.ireturn, 1) := by decide +kernel
set_option maxRecDepth 20000 in
theorem ggX1_differential_X1_isParts : GoodIn wsX1_differential wsX1_isParts := goodIn_r _ [7, 8, 9, 10, 11, 6, 12] (by decide +kernel) (by decide +kernel)
set_option maxRecDepth 20000 in
theorem gX1_differential_X1_isParts : GoodIn wsX1_differential (va_wsS RX1 67 yX1_isParts wsX1_isParts) := goodIn_app (goodIn_of _ (by decide +kernel)) ggX1_differential_X1_isParts
set_option maxRecDepth 20000 in
theorem ggX1_differential_X1_in : GoodIn wsX1_differential wsX1_in := goodIn_r _ [12] (by decide +kernel) (by decide +kernel)
set_option maxRecDepth 20000 in
theorem gX1_differential_X1_in : GoodIn wsX1_differential (va_wsS RX1 40 yX1_in wsX1_in) := goodIn_app (goodIn_of _ (by decide +kernel)) ggX1_differential_X1_in
set_option maxRecDepth 20000 in
theorem ggX1_differential_X1_plainOf : GoodIn wsX1_differential wsX1_plainOf := goodIn_r _ [16, 17, 2, 18, 29, 30, 31, 32, 33, 34, 35, 36, 37] (by decide +kernel) (by decide +kernel)
set_option maxRecDepth 20000 in
theorem gX1_differential_X1_plainOf : GoodIn wsX1_differential (wsV RX1 70 RX1 yX1_plainOf wsX1_plainOf) := goodIn_app (goodIn_of _ (by decide +kernel)) ggX1_differential_X1_plainOf
set_option maxRecDepth 20000 in
theorem ggX1_differential_X1_isTrain : GoodIn wsX1_differential wsX1_isTrain := goodIn_r _ [22, 23, 24, 25, 26, 27, 6, 28, 3, 29, 30, 31, 32, 33, 34, 35, 36, 37] (by decide +kernel) (by decide +kernel)
set_option maxRecDepth 20000 in
theorem gX1_differential_X1_isTrain : GoodIn wsX1_differential (wsV RX1 88 RX1 yX1_isTrain wsX1_isTrain) := goodIn_app (goodIn_of _ (by decide +kernel)) ggX1_differential_X1_isTrain
theorem dX1_differential_0 : decode cX1_differential 0 = .ok (.iload_n 1, 1) := by decide +kernel
theorem dX1_differential_1 : decode cX1_differential 1 = .ok (.invokestatic 67, 3) := by decide +kernel
theorem dX1_differential_4 : decode cX1_differential 4 = .ok (.ifCond .eq 15, 3) := by decide +kernel
theorem dX1_differential_7 : decode cX1_differential 7 = .ok (.iload_n 2, 1) := by decide +kernel
theorem dX1_differential_8 : decode cX1_differential 8 = .ok (.i2l, 1) := by decide +kernel
theorem dX1_differential_9 : decode cX1_differential 9 = .ok (.lconst 0, 1) := by decide +kernel
theorem dX1_differential_10 : decode cX1_differential 10 = .ok (.ldc2_w 92, 3) := by decide +kernel
theorem dX1_differential_13 : decode cX1_differential 13 = .ok (.invokestatic 40, 3) := by decide +kernel
theorem dX1_differential_16 : decode cX1_differential 16 = .ok (.ifCond .ne 6, 3) := by decide +kernel
theorem dX1_differential_19 : decode cX1_differential 19 = .ok (.bipush (-2), 2) := by decide +kernel
theorem dX1_differential_21 : decode cX1_differential 21 = .ok (.ireturn, 1) := by decide +kernel
theorem dX1_differential_22 : decode cX1_differential 22 = .ok (.iconst 2, 1) := by decide +kernel
theorem dX1_differential_23 : decode cX1_differential 23 = .ok (.istore_n 3, 1) := by decide +kernel
theorem dX1_differential_24 : decode cX1_differential 24 = .ok (.iload_n 3, 1) := by decide +kernel
theorem dX1_differential_25 : decode cX1_differential 25 = .ok (.bipush 22, 2) := by decide +kernel
theorem dX1_differential_27 : decode cX1_differential 27 = .ok (.if_icmp .ge 121, 3) := by decide +kernel
theorem dX1_differential_30 : decode cX1_differential 30 = .ok (.iload_n 3, 1) := by decide +kernel
theorem dX1_differential_31 : decode cX1_differential 31 = .ok (.iconst 2, 1) := by decide +kernel
theorem dX1_differential_32 : decode cX1_differential 32 = .ok (.idiv, 1) := by decide +kernel
theorem dX1_differential_33 : decode cX1_differential 33 = .ok (.istore 4, 2) := by decide +kernel
theorem dX1_differential_35 : decode cX1_differential 35 = .ok (.iload_n 3, 1) := by decide +kernel
theorem dX1_differential_36 : decode cX1_differential 36 = .ok (.iconst 2, 1) := by decide +kernel
theorem dX1_differential_37 : decode cX1_differential 37 = .ok (.irem, 1) := by decide +kernel
theorem dX1_differential_38 : decode cX1_differential 38 = .ok (.ifCond .ne 10, 3) := by decide +kernel
theorem dX1_differential_41 : decode cX1_differential 41 = .ok (.iload_n 1, 1) := by decide +kernel
theorem dX1_differential_42 : decode cX1_differential 42 = .ok (.iload 4, 2) := by decide +kernel
theorem dX1_differential_44 : decode cX1_differential 44 = .ok (.isub, 1) := by decide +kernel
theorem dX1_differential_45 : decode cX1_differential 45 = .ok (.goto 7, 3) := by decide +kernel
theorem dX1_differential_48 : decode cX1_differential 48 = .ok (.iload_n 1, 1) := by decide +kernel
theorem dX1_differential_49 : decode cX1_differential 49 = .ok (.iload 4, 2) := by decide +kernel
theorem dX1_differential_51 : decode cX1_differential 51 = .ok (.iadd, 1) := by decide +kernel
theorem dX1_differential_52 : decode cX1_differential 52 = .ok (.istore 5, 2) := by decide +kernel
theorem dX1_differential_54 : decode cX1_differential 54 = .ok (.iload 5, 2) := by decide +kernel
theorem dX1_differential_56 : decode cX1_differential 56 = .ok (.invokestatic 67, 3) := by decide +kernel
theorem dX1_differential_59 : decode cX1_differential 59 = .ok (.ifCond .eq 83, 3) := by decide +kernel
theorem dX1_differential_62 : decode cX1_differential 62 = .ok (.aload_n 0, 1) := by decide +kernel
theorem dX1_differential_63 : decode cX1_differential 63 = .ok (.iload 5, 2) := by decide +kernel
theorem dX1_differential_65 : decode cX1_differential 65 = .ok (.invokevirtual 70, 3) := by decide +kernel
theorem dX1_differential_68 : decode cX1_differential 68 = .ok (.ifCond .lt 74, 3) := by decide +kernel
theorem dX1_differential_71 : decode cX1_differential 71 = .ok (.aload_n 0, 1) := by decide +kernel
theorem dX1_differential_72 : decode cX1_differential 72 = .ok (.iload 4, 2) := by decide +kernel
theorem dX1_differential_74 : decode cX1_differential 74 = .ok (.i2l, 1) := by decide +kernel
theorem dX1_differential_75 : decode cX1_differential 75 = .ok (.aload_n 0, 1) := by decide +kernel
theorem dX1_differential_76 : decode cX1_differential 76 = .ok (.getfield 7, 3) := by decide +kernel
theorem dX1_differential_79 : decode cX1_differential 79 = .ok (.i2l, 1) := by decide +kernel
theorem dX1_differential_80 : decode cX1_differential 80 = .ok (.lmul, 1) := by decide +kernel
theorem dX1_differential_81 : decode cX1_differential 81 = .ok (.iload 5, 2) := by decide +kernel
theorem dX1_differential_83 : decode cX1_differential 83 = .ok (.i2l, 1) := by decide +kernel
theorem dX1_differential_84 : decode cX1_differential 84 = .ok (.invokevirtual 88, 3) := by decide +kernel
theorem dX1_differential_87 : decode cX1_differential 87 = .ok (.ifCond .eq 55, 3) := by decide +kernel
theorem dX1_differential_90 : decode cX1_differential 90 = .ok (.iload_n 2, 1) := by decide +kernel
theorem dX1_differential_91 : decode cX1_differential 91 = .ok (.ifCond .ne 8, 3) := by decide +kernel
theorem dX1_differential_94 : decode cX1_differential 94 = .ok (.iload 5, 2) := by decide +kernel
theorem dX1_differential_96 : decode cX1_differential 96 = .ok (.goto 45, 3) := by decide +kernel
theorem dX1_differential_99 : decode cX1_differential 99 = .ok (.iload_n 2, 1) := by decide +kernel
theorem dX1_differential_100 : decode cX1_differential 100 = .ok (.iconst 1, 1) := by decide +kernel
theorem dX1_differential_101 : decode cX1_differential 101 = .ok (.if_icmp .ne 12, 3) := by decide +kernel
theorem dX1_differential_104 : decode cX1_differential 104 = .ok (.aload_n 0, 1) := by decide +kernel
theorem dX1_differential_105 : decode cX1_differential 105 = .ok (.iload 5, 2) := by decide +kernel
theorem dX1_differential_107 : decode cX1_differential 107 = .ok (.invokevirtual 70, 3) := by decide +kernel
theorem dX1_differential_110 : decode cX1_differential 110 = .ok (.goto 31, 3) := by decide +kernel
theorem dX1_differential_113 : decode cX1_differential 113 = .ok (.iload_n 2, 1) := by decide +kernel
theorem dX1_differential_114 : decode cX1_differential 114 = .ok (.bipush 6, 2) := by decide +kernel
theorem dX1_differential_116 : decode cX1_differential 116 = .ok (.if_icmp .ne 17, 3) := by decide +kernel
theorem dX1_differential_119 : decode cX1_differential 119 = .ok (.iload 5, 2) := by decide +kernel
theorem dX1_differential_121 : decode cX1_differential 121 = .ok (.iload_n 1, 1) := by decide +kernel
theorem dX1_differential_122 : decode cX1_differential 122 = .ok (.if_icmp .le 7, 3) := by decide +kernel
theorem dX1_differential_125 : decode cX1_differential 125 = .ok (.iconst 1, 1) := by decide +kernel
theorem dX1_differential_126 : decode cX1_differential 126 = .ok (.goto 15, 3) := by decide +kernel
theorem dX1_differential_129 : decode cX1_differential 129 = .ok (.iconst 0, 1) := by decide +kernel
theorem dX1_differential_130 : decode cX1_differential 130 = .ok (.goto 11, 3) := by decide +kernel
theorem dX1_differential_133 : decode cX1_differential 133 = .ok (.aload_n 0, 1) := by decide +kernel
theorem dX1_differential_134 : decode cX1_differential 134 = .ok (.getfield 29, 3) := by decide +kernel
theorem dX1_differential_137 : decode cX1_differential 137 = .ok (.iload_n 2, 1) := by decide +kernel
theorem dX1_differential_138 : decode cX1_differential 138 = .ok (.iconst 2, 1) := by decide +kernel
theorem dX1_differential_139 : decode cX1_differential 139 = .ok (.isub, 1) := by decide +kernel
theorem dX1_differential_140 : decode cX1_differential 140 = .ok (.iaload, 1) := by decide +kernel
theorem dX1_differential_141 : decode cX1_differential 141 = .ok (.ireturn, 1) := by decide +kernel
theorem dX1_differential_142 : decode cX1_differential 142 = .ok (.iinc 3 1, 3) := by decide +kernel
theorem dX1_differential_145 : decode cX1_differential 145 = .ok (.goto (-121), 3) := by decide +kernel
theorem dX1_differential_148 : decode cX1_differential 148 = .ok (.bipush (-6), 2) := by decide +kernel
theorem dX1_differential_150 : decode cX1_differential 150 = .ok (.ireturn, 1) := by decide +kernel
theorem dX1_holeOf_0 : decode cX1_holeOf 0 = .ok (.ldc2_w 36, 3) := by decide +kernel
theorem dX1_holeOf_3 : decode cX1_holeOf 3 = .ok (.iload_n 3, 1) := by decide +kernel
theorem dX1_holeOf_4 : decode cX1_holeOf 4 = .ok (.i2l, 1) := by decide +kernel
theorem dX1_holeOf_5 : decode cX1_holeOf 5 = .ok (.lmul, 1) := by decide +kernel
theorem dX1_holeOf_6 : decode cX1_holeOf 6 = .ok (.aload_n 0, 1) := by decide +kernel
theorem dX1_holeOf_7 : decode cX1_holeOf 7 = .ok (.getfield 7, 3) := by decide +kernel
theorem dX1_holeOf_10 : decode cX1_holeOf 10 = .ok (.i2l, 1) := by decide +kernel
theorem dX1_holeOf_11 : decode cX1_holeOf 11 = .ok (.lmul, 1) := by decide +kernel
theorem dX1_holeOf_12 : decode cX1_holeOf 12 = .ok (.aload_n 0, 1) := by decide +kernel
theorem dX1_holeOf_13 : decode cX1_holeOf 13 = .ok (.getfield 13, 3) := by decide +kernel
theorem dX1_holeOf_16 : decode cX1_holeOf 16 = .ok (.iload_n 1, 1) := by decide +kernel
theorem dX1_holeOf_17 : decode cX1_holeOf 17 = .ok (.iaload, 1) := by decide +kernel
theorem dX1_holeOf_18 : decode cX1_holeOf 18 = .ok (.i2l, 1) := by decide +kernel
theorem dX1_holeOf_19 : decode cX1_holeOf 19 = .ok (.lmul, 1) := by decide +kernel
theorem dX1_holeOf_20 : decode cX1_holeOf 20 = .ok (.iload_n 2, 1) := by decide +kernel
theorem dX1_holeOf_21 : decode cX1_holeOf 21 = .ok (.i2l, 1) := by decide +kernel
theorem dX1_holeOf_22 : decode cX1_holeOf 22 = .ok (.ladd, 1) := by decide +kernel
theorem dX1_holeOf_23 : decode cX1_holeOf 23 = .ok (.ldc2_w 36, 3) := by decide +kernel
theorem dX1_holeOf_26 : decode cX1_holeOf 26 = .ok (.iload_n 2, 1) := by decide +kernel
theorem dX1_holeOf_27 : decode cX1_holeOf 27 = .ok (.i2l, 1) := by decide +kernel
theorem dX1_holeOf_28 : decode cX1_holeOf 28 = .ok (.lmul, 1) := by decide +kernel
theorem dX1_holeOf_29 : decode cX1_holeOf 29 = .ok (.ldiv, 1) := by decide +kernel
theorem dX1_holeOf_30 : decode cX1_holeOf 30 = .ok (.lreturn, 1) := by decide +kernel
set_option maxRecDepth 20000 in
theorem ggX1_isCut_X1_isParts : GoodIn wsX1_isCut wsX1_isParts := goodIn_r _ [4, 5, 6, 7, 8, 3, 9] (by decide +kernel) (by decide +kernel)
set_option maxRecDepth 20000 in
theorem gX1_isCut_X1_isParts : GoodIn wsX1_isCut (va_wsS RX1 67 yX1_isParts wsX1_isParts) := goodIn_app (goodIn_of _ (by decide +kernel)) ggX1_isCut_X1_isParts
set_option maxRecDepth 20000 in
theorem ggX1_isCut_X1_in : GoodIn wsX1_isCut wsX1_in := goodIn_r _ [9] (by decide +kernel) (by decide +kernel)
set_option maxRecDepth 20000 in
theorem gX1_isCut_X1_in : GoodIn wsX1_isCut (va_wsS RX1 40 yX1_in wsX1_in) := goodIn_app (goodIn_of _ (by decide +kernel)) ggX1_isCut_X1_in
theorem dX1_isCut_0 : decode cX1_isCut 0 = .ok (.iload_n 0, 1) := by decide +kernel
theorem dX1_isCut_1 : decode cX1_isCut 1 = .ok (.invokestatic 67, 3) := by decide +kernel
theorem dX1_isCut_4 : decode cX1_isCut 4 = .ok (.ifCond .eq 18, 3) := by decide +kernel
theorem dX1_isCut_7 : decode cX1_isCut 7 = .ok (.iload_n 1, 1) := by decide +kernel
theorem dX1_isCut_8 : decode cX1_isCut 8 = .ok (.i2l, 1) := by decide +kernel
theorem dX1_isCut_9 : decode cX1_isCut 9 = .ok (.lconst 0, 1) := by decide +kernel
theorem dX1_isCut_10 : decode cX1_isCut 10 = .ok (.iload_n 0, 1) := by decide +kernel
theorem dX1_isCut_11 : decode cX1_isCut 11 = .ok (.i2l, 1) := by decide +kernel
theorem dX1_isCut_12 : decode cX1_isCut 12 = .ok (.invokestatic 40, 3) := by decide +kernel
theorem dX1_isCut_15 : decode cX1_isCut 15 = .ok (.ifCond .eq 7, 3) := by decide +kernel
theorem dX1_isCut_18 : decode cX1_isCut 18 = .ok (.iconst 1, 1) := by decide +kernel
theorem dX1_isCut_19 : decode cX1_isCut 19 = .ok (.goto 4, 3) := by decide +kernel
theorem dX1_isCut_22 : decode cX1_isCut 22 = .ok (.iconst 0, 1) := by decide +kernel
theorem dX1_isCut_23 : decode cX1_isCut 23 = .ok (.ireturn, 1) := by decide +kernel
set_option maxRecDepth 20000 in
theorem ggX1_hole_X1_isCircle : GoodIn wsX1_hole wsX1_isCircle := goodIn_r _ [5, 6, 7, 8, 4, 9, 24, 25, 26, 27, 28, 29, 30, 31, 32] (by decide +kernel) (by decide +kernel)
set_option maxRecDepth 20000 in
theorem gX1_hole_X1_isCircle : GoodIn wsX1_hole (wsV RX1 58 RX1 yX1_isCircle wsX1_isCircle) := goodIn_app (goodIn_of _ (by decide +kernel)) ggX1_hole_X1_isCircle
set_option maxRecDepth 20000 in
theorem ggX1_hole_X1_isCut : GoodIn wsX1_hole wsX1_isCut := goodIn_r _ [12, 13, 14, 4, 15, 16, 17, 7, 8, 9] (by decide +kernel) (by decide +kernel)
set_option maxRecDepth 20000 in
theorem gX1_hole_X1_isCut : GoodIn wsX1_hole (va_wsS RX1 94 yX1_isCut wsX1_isCut) := goodIn_app (goodIn_of _ (by decide +kernel)) ggX1_hole_X1_isCut
set_option maxRecDepth 20000 in
theorem ggX1_hole_X1_holeOf : GoodIn wsX1_hole wsX1_holeOf := goodIn_r _ [21, 16, 22, 23, 24, 25, 26, 27, 28, 29, 30, 31, 32] (by decide +kernel) (by decide +kernel)
set_option maxRecDepth 20000 in
theorem gX1_hole_X1_holeOf : GoodIn wsX1_hole (wsV RX1 98 RX1 yX1_holeOf wsX1_holeOf) := goodIn_app (goodIn_of _ (by decide +kernel)) ggX1_hole_X1_holeOf
theorem dX1_hole_0 : decode cX1_hole 0 = .ok (.aload_n 0, 1) := by decide +kernel
theorem dX1_hole_1 : decode cX1_hole 1 = .ok (.iload_n 1, 1) := by decide +kernel
theorem dX1_hole_2 : decode cX1_hole 2 = .ok (.invokevirtual 58, 3) := by decide +kernel
theorem dX1_hole_5 : decode cX1_hole 5 = .ok (.ifCond .ne 5, 3) := by decide +kernel
theorem dX1_hole_8 : decode cX1_hole 8 = .ok (.iconst (-1), 1) := by decide +kernel
theorem dX1_hole_9 : decode cX1_hole 9 = .ok (.ireturn, 1) := by decide +kernel
theorem dX1_hole_10 : decode cX1_hole 10 = .ok (.iload_n 2, 1) := by decide +kernel
theorem dX1_hole_11 : decode cX1_hole 11 = .ok (.iload_n 3, 1) := by decide +kernel
theorem dX1_hole_12 : decode cX1_hole 12 = .ok (.invokestatic 94, 3) := by decide +kernel
theorem dX1_hole_15 : decode cX1_hole 15 = .ok (.ifCond .eq 14, 3) := by decide +kernel
theorem dX1_hole_18 : decode cX1_hole 18 = .ok (.aload_n 0, 1) := by decide +kernel
theorem dX1_hole_19 : decode cX1_hole 19 = .ok (.iload_n 1, 1) := by decide +kernel
theorem dX1_hole_20 : decode cX1_hole 20 = .ok (.iload_n 2, 1) := by decide +kernel
theorem dX1_hole_21 : decode cX1_hole 21 = .ok (.iload_n 3, 1) := by decide +kernel
theorem dX1_hole_22 : decode cX1_hole 22 = .ok (.invokevirtual 98, 3) := by decide +kernel
theorem dX1_hole_25 : decode cX1_hole 25 = .ok (.l2i, 1) := by decide +kernel
theorem dX1_hole_26 : decode cX1_hole 26 = .ok (.goto 5, 3) := by decide +kernel
theorem dX1_hole_29 : decode cX1_hole 29 = .ok (.bipush (-2), 2) := by decide +kernel
theorem dX1_hole_31 : decode cX1_hole 31 = .ok (.ireturn, 1) := by decide +kernel
set_option maxRecDepth 20000 in
theorem ggX1_missOf_X1_holeOf : GoodIn wsX1_missOf wsX1_holeOf := goodIn_r _ [7, 8, 1, 2, 9, 10, 11, 12, 13, 14, 15, 16, 17] (by decide +kernel) (by decide +kernel)
set_option maxRecDepth 20000 in
theorem gX1_missOf_X1_holeOf : GoodIn wsX1_missOf (wsV RX1 98 RX1 yX1_holeOf wsX1_holeOf) := goodIn_app (goodIn_of _ (by decide +kernel)) ggX1_missOf_X1_holeOf
theorem dX1_missOf_0 : decode cX1_missOf 0 = .ok (.aload_n 0, 1) := by decide +kernel
theorem dX1_missOf_1 : decode cX1_missOf 1 = .ok (.iload_n 1, 1) := by decide +kernel
theorem dX1_missOf_2 : decode cX1_missOf 2 = .ok (.iload_n 2, 1) := by decide +kernel
theorem dX1_missOf_3 : decode cX1_missOf 3 = .ok (.iload_n 3, 1) := by decide +kernel
theorem dX1_missOf_4 : decode cX1_missOf 4 = .ok (.invokevirtual 98, 3) := by decide +kernel
theorem dX1_missOf_7 : decode cX1_missOf 7 = .ok (.iload_n 2, 1) := by decide +kernel
theorem dX1_missOf_8 : decode cX1_missOf 8 = .ok (.i2l, 1) := by decide +kernel
theorem dX1_missOf_9 : decode cX1_missOf 9 = .ok (.lmul, 1) := by decide +kernel
theorem dX1_missOf_10 : decode cX1_missOf 10 = .ok (.iload_n 3, 1) := by decide +kernel
theorem dX1_missOf_11 : decode cX1_missOf 11 = .ok (.i2l, 1) := by decide +kernel
theorem dX1_missOf_12 : decode cX1_missOf 12 = .ok (.aload_n 0, 1) := by decide +kernel
theorem dX1_missOf_13 : decode cX1_missOf 13 = .ok (.getfield 7, 3) := by decide +kernel
theorem dX1_missOf_16 : decode cX1_missOf 16 = .ok (.i2l, 1) := by decide +kernel
theorem dX1_missOf_17 : decode cX1_missOf 17 = .ok (.lmul, 1) := by decide +kernel
theorem dX1_missOf_18 : decode cX1_missOf 18 = .ok (.aload_n 0, 1) := by decide +kernel
theorem dX1_missOf_19 : decode cX1_missOf 19 = .ok (.getfield 13, 3) := by decide +kernel
theorem dX1_missOf_22 : decode cX1_missOf 22 = .ok (.iload_n 1, 1) := by decide +kernel
theorem dX1_missOf_23 : decode cX1_missOf 23 = .ok (.iaload, 1) := by decide +kernel
theorem dX1_missOf_24 : decode cX1_missOf 24 = .ok (.i2l, 1) := by decide +kernel
theorem dX1_missOf_25 : decode cX1_missOf 25 = .ok (.lmul, 1) := by decide +kernel
theorem dX1_missOf_26 : decode cX1_missOf 26 = .ok (.lsub, 1) := by decide +kernel
theorem dX1_missOf_27 : decode cX1_missOf 27 = .ok (.lreturn, 1) := by decide +kernel
set_option maxRecDepth 20000 in
theorem ggX1_miss_X1_isCircle : GoodIn wsX1_miss wsX1_isCircle := goodIn_r _ [7, 8, 9, 10, 6, 11, 36, 37, 38, 39, 40, 41, 42, 43, 44] (by decide +kernel) (by decide +kernel)
set_option maxRecDepth 20000 in
theorem gX1_miss_X1_isCircle : GoodIn wsX1_miss (wsV RX1 58 RX1 yX1_isCircle wsX1_isCircle) := goodIn_app (goodIn_of _ (by decide +kernel)) ggX1_miss_X1_isCircle
set_option maxRecDepth 20000 in
theorem ggX1_miss_X1_isCut : GoodIn wsX1_miss wsX1_isCut := goodIn_r _ [14, 15, 16, 6, 17, 18, 19, 9, 10, 11] (by decide +kernel) (by decide +kernel)
set_option maxRecDepth 20000 in
theorem gX1_miss_X1_isCut : GoodIn wsX1_miss (va_wsS RX1 94 yX1_isCut wsX1_isCut) := goodIn_app (goodIn_of _ (by decide +kernel)) ggX1_miss_X1_isCut
set_option maxRecDepth 20000 in
theorem ggX1_miss_X1_in : GoodIn wsX1_miss wsX1_in := goodIn_r _ [11] (by decide +kernel) (by decide +kernel)
set_option maxRecDepth 20000 in
theorem gX1_miss_X1_in : GoodIn wsX1_miss (va_wsS RX1 40 yX1_in wsX1_in) := goodIn_app (goodIn_of _ (by decide +kernel)) ggX1_miss_X1_in
set_option maxRecDepth 20000 in
theorem ggX1_miss_X1_missOf : GoodIn wsX1_miss wsX1_missOf := goodIn_r _ [23, 24, 25, 26, 27, 28, 6, 29, 18, 36, 37, 38, 39, 40, 41, 42, 43, 44] (by decide +kernel) (by decide +kernel)
set_option maxRecDepth 20000 in
theorem gX1_miss_X1_missOf : GoodIn wsX1_miss (wsV RX1 103 RX1 yX1_missOf wsX1_missOf) := goodIn_app (goodIn_of _ (by decide +kernel)) ggX1_miss_X1_missOf
set_option maxRecDepth 20000 in
theorem ggX1_miss_X1_term : GoodIn wsX1_miss wsX1_term := goodIn_r _ [32, 33, 34, 6, 35] (by decide +kernel) (by decide +kernel)
set_option maxRecDepth 20000 in
theorem gX1_miss_X1_term : GoodIn wsX1_miss (va_wsS RX1 106 yX1_term wsX1_term) := goodIn_app (goodIn_of _ (by decide +kernel)) ggX1_miss_X1_term
theorem dX1_miss_0 : decode cX1_miss 0 = .ok (.aload_n 0, 1) := by decide +kernel
theorem dX1_miss_1 : decode cX1_miss 1 = .ok (.iload_n 1, 1) := by decide +kernel
theorem dX1_miss_2 : decode cX1_miss 2 = .ok (.invokevirtual 58, 3) := by decide +kernel
theorem dX1_miss_5 : decode cX1_miss 5 = .ok (.ifCond .ne 6, 3) := by decide +kernel
theorem dX1_miss_8 : decode cX1_miss 8 = .ok (.ldc 102, 2) := by decide +kernel
theorem dX1_miss_10 : decode cX1_miss 10 = .ok (.ireturn, 1) := by decide +kernel
theorem dX1_miss_11 : decode cX1_miss 11 = .ok (.iload_n 2, 1) := by decide +kernel
theorem dX1_miss_12 : decode cX1_miss 12 = .ok (.iload_n 3, 1) := by decide +kernel
theorem dX1_miss_13 : decode cX1_miss 13 = .ok (.invokestatic 94, 3) := by decide +kernel
theorem dX1_miss_16 : decode cX1_miss 16 = .ok (.ifCond .eq 31, 3) := by decide +kernel
theorem dX1_miss_19 : decode cX1_miss 19 = .ok (.iload 4, 2) := by decide +kernel
theorem dX1_miss_21 : decode cX1_miss 21 = .ok (.i2l, 1) := by decide +kernel
theorem dX1_miss_22 : decode cX1_miss 22 = .ok (.lconst 0, 1) := by decide +kernel
theorem dX1_miss_23 : decode cX1_miss 23 = .ok (.lconst 1, 1) := by decide +kernel
theorem dX1_miss_24 : decode cX1_miss 24 = .ok (.invokestatic 40, 3) := by decide +kernel
theorem dX1_miss_27 : decode cX1_miss 27 = .ok (.ifCond .eq 20, 3) := by decide +kernel
theorem dX1_miss_30 : decode cX1_miss 30 = .ok (.aload_n 0, 1) := by decide +kernel
theorem dX1_miss_31 : decode cX1_miss 31 = .ok (.iload_n 1, 1) := by decide +kernel
theorem dX1_miss_32 : decode cX1_miss 32 = .ok (.iload_n 2, 1) := by decide +kernel
theorem dX1_miss_33 : decode cX1_miss 33 = .ok (.iload_n 3, 1) := by decide +kernel
theorem dX1_miss_34 : decode cX1_miss 34 = .ok (.invokevirtual 103, 3) := by decide +kernel
theorem dX1_miss_37 : decode cX1_miss 37 = .ok (.iload_n 2, 1) := by decide +kernel
theorem dX1_miss_38 : decode cX1_miss 38 = .ok (.i2l, 1) := by decide +kernel
theorem dX1_miss_39 : decode cX1_miss 39 = .ok (.iload 4, 2) := by decide +kernel
theorem dX1_miss_41 : decode cX1_miss 41 = .ok (.invokestatic 106, 3) := by decide +kernel
theorem dX1_miss_44 : decode cX1_miss 44 = .ok (.goto 5, 3) := by decide +kernel
theorem dX1_miss_47 : decode cX1_miss 47 = .ok (.ldc 76, 2) := by decide +kernel
theorem dX1_miss_49 : decode cX1_miss 49 = .ok (.ireturn, 1) := by decide +kernel
set_option maxRecDepth 20000 in
theorem ggX1_worstOf_X1_missOf : GoodIn wsX1_worstOf wsX1_missOf := goodIn_r _ [5, 6, 7, 8, 9, 10, 4, 11, 12, 13, 14, 15, 16, 17, 18, 19, 20, 21] (by decide +kernel) (by decide +kernel)
set_option maxRecDepth 20000 in
theorem gX1_worstOf_X1_missOf : GoodIn wsX1_worstOf (wsV RX1 103 RX1 yX1_missOf wsX1_missOf) := goodIn_app (goodIn_of _ (by decide +kernel)) ggX1_worstOf_X1_missOf
theorem dX1_worstOf_0 : decode cX1_worstOf 0 = .ok (.lconst 0, 1) := by decide +kernel
theorem dX1_worstOf_1 : decode cX1_worstOf 1 = .ok (.lstore_n 3, 1) := by decide +kernel
theorem dX1_worstOf_2 : decode cX1_worstOf 2 = .ok (.iconst 0, 1) := by decide +kernel
theorem dX1_worstOf_3 : decode cX1_worstOf 3 = .ok (.istore 5, 2) := by decide +kernel
theorem dX1_worstOf_5 : decode cX1_worstOf 5 = .ok (.iload 5, 2) := by decide +kernel
theorem dX1_worstOf_7 : decode cX1_worstOf 7 = .ok (.iload_n 2, 1) := by decide +kernel
theorem dX1_worstOf_8 : decode cX1_worstOf 8 = .ok (.if_icmp .gt 50, 3) := by decide +kernel
theorem dX1_worstOf_11 : decode cX1_worstOf 11 = .ok (.aload_n 0, 1) := by decide +kernel
theorem dX1_worstOf_12 : decode cX1_worstOf 12 = .ok (.iload_n 1, 1) := by decide +kernel
theorem dX1_worstOf_13 : decode cX1_worstOf 13 = .ok (.iload_n 2, 1) := by decide +kernel
theorem dX1_worstOf_14 : decode cX1_worstOf 14 = .ok (.iload 5, 2) := by decide +kernel
theorem dX1_worstOf_16 : decode cX1_worstOf 16 = .ok (.invokevirtual 103, 3) := by decide +kernel
theorem dX1_worstOf_19 : decode cX1_worstOf 19 = .ok (.lstore 6, 2) := by decide +kernel
theorem dX1_worstOf_21 : decode cX1_worstOf 21 = .ok (.lload 6, 2) := by decide +kernel
theorem dX1_worstOf_23 : decode cX1_worstOf 23 = .ok (.lconst 0, 1) := by decide +kernel
theorem dX1_worstOf_24 : decode cX1_worstOf 24 = .ok (.lcmp, 1) := by decide +kernel
theorem dX1_worstOf_25 : decode cX1_worstOf 25 = .ok (.ifCond .ge 9, 3) := by decide +kernel
theorem dX1_worstOf_28 : decode cX1_worstOf 28 = .ok (.lload 6, 2) := by decide +kernel
theorem dX1_worstOf_30 : decode cX1_worstOf 30 = .ok (.lneg, 1) := by decide +kernel
theorem dX1_worstOf_31 : decode cX1_worstOf 31 = .ok (.goto 5, 3) := by decide +kernel
theorem dX1_worstOf_34 : decode cX1_worstOf 34 = .ok (.lload 6, 2) := by decide +kernel
theorem dX1_worstOf_36 : decode cX1_worstOf 36 = .ok (.lstore 6, 2) := by decide +kernel
theorem dX1_worstOf_38 : decode cX1_worstOf 38 = .ok (.lload 6, 2) := by decide +kernel
theorem dX1_worstOf_40 : decode cX1_worstOf 40 = .ok (.lload_n 3, 1) := by decide +kernel
theorem dX1_worstOf_41 : decode cX1_worstOf 41 = .ok (.lcmp, 1) := by decide +kernel
theorem dX1_worstOf_42 : decode cX1_worstOf 42 = .ok (.ifCond .le 8, 3) := by decide +kernel
theorem dX1_worstOf_45 : decode cX1_worstOf 45 = .ok (.lload 6, 2) := by decide +kernel
theorem dX1_worstOf_47 : decode cX1_worstOf 47 = .ok (.goto 4, 3) := by decide +kernel
theorem dX1_worstOf_50 : decode cX1_worstOf 50 = .ok (.lload_n 3, 1) := by decide +kernel
theorem dX1_worstOf_51 : decode cX1_worstOf 51 = .ok (.lstore_n 3, 1) := by decide +kernel
theorem dX1_worstOf_52 : decode cX1_worstOf 52 = .ok (.iinc 5 1, 3) := by decide +kernel
theorem dX1_worstOf_55 : decode cX1_worstOf 55 = .ok (.goto (-50), 3) := by decide +kernel
theorem dX1_worstOf_58 : decode cX1_worstOf 58 = .ok (.lload_n 3, 1) := by decide +kernel
theorem dX1_worstOf_59 : decode cX1_worstOf 59 = .ok (.lreturn, 1) := by decide +kernel
set_option maxRecDepth 20000 in
theorem ggX1_exact_X1_missOf : GoodIn wsX1_exact wsX1_missOf := goodIn_r _ [5, 6, 7, 8, 9, 10, 4, 11, 12, 13, 14, 15, 16, 17, 18, 19, 20, 21] (by decide +kernel) (by decide +kernel)
set_option maxRecDepth 20000 in
theorem gX1_exact_X1_missOf : GoodIn wsX1_exact (wsV RX1 103 RX1 yX1_missOf wsX1_missOf) := goodIn_app (goodIn_of _ (by decide +kernel)) ggX1_exact_X1_missOf
theorem dX1_exact_0 : decode cX1_exact 0 = .ok (.iconst 0, 1) := by decide +kernel
theorem dX1_exact_1 : decode cX1_exact 1 = .ok (.istore_n 3, 1) := by decide +kernel
theorem dX1_exact_2 : decode cX1_exact 2 = .ok (.iconst 0, 1) := by decide +kernel
theorem dX1_exact_3 : decode cX1_exact 3 = .ok (.istore 4, 2) := by decide +kernel
theorem dX1_exact_5 : decode cX1_exact 5 = .ok (.iload 4, 2) := by decide +kernel
theorem dX1_exact_7 : decode cX1_exact 7 = .ok (.iload_n 2, 1) := by decide +kernel
theorem dX1_exact_8 : decode cX1_exact 8 = .ok (.if_icmp .ge 30, 3) := by decide +kernel
theorem dX1_exact_11 : decode cX1_exact 11 = .ok (.iload_n 3, 1) := by decide +kernel
theorem dX1_exact_12 : decode cX1_exact 12 = .ok (.aload_n 0, 1) := by decide +kernel
theorem dX1_exact_13 : decode cX1_exact 13 = .ok (.iload_n 1, 1) := by decide +kernel
theorem dX1_exact_14 : decode cX1_exact 14 = .ok (.iload_n 2, 1) := by decide +kernel
theorem dX1_exact_15 : decode cX1_exact 15 = .ok (.iload 4, 2) := by decide +kernel
theorem dX1_exact_17 : decode cX1_exact 17 = .ok (.invokevirtual 103, 3) := by decide +kernel
theorem dX1_exact_20 : decode cX1_exact 20 = .ok (.lconst 0, 1) := by decide +kernel
theorem dX1_exact_21 : decode cX1_exact 21 = .ok (.lcmp, 1) := by decide +kernel
theorem dX1_exact_22 : decode cX1_exact 22 = .ok (.ifCond .ne 7, 3) := by decide +kernel
theorem dX1_exact_25 : decode cX1_exact 25 = .ok (.iconst 1, 1) := by decide +kernel
theorem dX1_exact_26 : decode cX1_exact 26 = .ok (.goto 4, 3) := by decide +kernel
theorem dX1_exact_29 : decode cX1_exact 29 = .ok (.iconst 0, 1) := by decide +kernel
theorem dX1_exact_30 : decode cX1_exact 30 = .ok (.iadd, 1) := by decide +kernel
theorem dX1_exact_31 : decode cX1_exact 31 = .ok (.istore_n 3, 1) := by decide +kernel
theorem dX1_exact_32 : decode cX1_exact 32 = .ok (.iinc 4 1, 3) := by decide +kernel
theorem dX1_exact_35 : decode cX1_exact 35 = .ok (.goto (-30), 3) := by decide +kernel
theorem dX1_exact_38 : decode cX1_exact 38 = .ok (.iload_n 3, 1) := by decide +kernel
theorem dX1_exact_39 : decode cX1_exact 39 = .ok (.ireturn, 1) := by decide +kernel
set_option maxRecDepth 20000 in
theorem ggX1_worst_X1_isCircle : GoodIn wsX1_worst wsX1_isCircle := goodIn_r _ [6, 7, 8, 9, 5, 10, 39, 40, 41, 42, 43, 44, 45, 46, 47] (by decide +kernel) (by decide +kernel)
set_option maxRecDepth 20000 in
theorem gX1_worst_X1_isCircle : GoodIn wsX1_worst (wsV RX1 58 RX1 yX1_isCircle wsX1_isCircle) := goodIn_app (goodIn_of _ (by decide +kernel)) ggX1_worst_X1_isCircle
set_option maxRecDepth 20000 in
theorem ggX1_worst_X1_isParts : GoodIn wsX1_worst wsX1_isParts := goodIn_r _ [13, 1, 14, 8, 9, 5, 10] (by decide +kernel) (by decide +kernel)
set_option maxRecDepth 20000 in
theorem gX1_worst_X1_isParts : GoodIn wsX1_worst (va_wsS RX1 67 yX1_isParts wsX1_isParts) := goodIn_app (goodIn_of _ (by decide +kernel)) ggX1_worst_X1_isParts
set_option maxRecDepth 20000 in
theorem ggX1_worst_X1_in : GoodIn wsX1_worst wsX1_in := goodIn_r _ [10] (by decide +kernel) (by decide +kernel)
set_option maxRecDepth 20000 in
theorem gX1_worst_X1_in : GoodIn wsX1_worst (va_wsS RX1 40 yX1_in wsX1_in) := goodIn_app (goodIn_of _ (by decide +kernel)) ggX1_worst_X1_in
set_option maxRecDepth 20000 in
theorem ggX1_worst_X1_exact : GoodIn wsX1_worst wsX1_exact := goodIn_r _ [18, 19, 20, 21, 5, 22, 23, 24, 25, 26, 27, 28, 1, 39, 40, 41, 42, 43, 44, 45, 46, 47] (by decide +kernel) (by decide +kernel)
set_option maxRecDepth 20000 in
theorem gX1_worst_X1_exact : GoodIn wsX1_worst (wsV RX1 110 RX1 yX1_exact wsX1_exact) := goodIn_app (goodIn_of _ (by decide +kernel)) ggX1_worst_X1_exact
set_option maxRecDepth 20000 in
theorem ggX1_worst_X1_worstOf : GoodIn wsX1_worst wsX1_worstOf := goodIn_r _ [32, 19, 20, 21, 5, 22, 23, 24, 25, 26, 27, 28, 1, 39, 40, 41, 42, 43, 44, 45, 46, 47] (by decide +kernel) (by decide +kernel)
set_option maxRecDepth 20000 in
theorem gX1_worst_X1_worstOf : GoodIn wsX1_worst (wsV RX1 114 RX1 yX1_worstOf wsX1_worstOf) := goodIn_app (goodIn_of _ (by decide +kernel)) ggX1_worst_X1_worstOf
set_option maxRecDepth 20000 in
theorem ggX1_worst_X1_term : GoodIn wsX1_worst wsX1_term := goodIn_r _ [35, 36, 37, 5, 38] (by decide +kernel) (by decide +kernel)
set_option maxRecDepth 20000 in
theorem gX1_worst_X1_term : GoodIn wsX1_worst (va_wsS RX1 106 yX1_term wsX1_term) := goodIn_app (goodIn_of _ (by decide +kernel)) ggX1_worst_X1_term
theorem dX1_worst_0 : decode cX1_worst 0 = .ok (.aload_n 0, 1) := by decide +kernel
theorem dX1_worst_1 : decode cX1_worst 1 = .ok (.iload_n 1, 1) := by decide +kernel
theorem dX1_worst_2 : decode cX1_worst 2 = .ok (.invokevirtual 58, 3) := by decide +kernel
theorem dX1_worst_5 : decode cX1_worst 5 = .ok (.ifCond .ne 5, 3) := by decide +kernel
theorem dX1_worst_8 : decode cX1_worst 8 = .ok (.iconst (-1), 1) := by decide +kernel
theorem dX1_worst_9 : decode cX1_worst 9 = .ok (.ireturn, 1) := by decide +kernel
theorem dX1_worst_10 : decode cX1_worst 10 = .ok (.iload_n 2, 1) := by decide +kernel
theorem dX1_worst_11 : decode cX1_worst 11 = .ok (.invokestatic 67, 3) := by decide +kernel
theorem dX1_worst_14 : decode cX1_worst 14 = .ok (.ifCond .eq 15, 3) := by decide +kernel
theorem dX1_worst_17 : decode cX1_worst 17 = .ok (.iload_n 3, 1) := by decide +kernel
theorem dX1_worst_18 : decode cX1_worst 18 = .ok (.i2l, 1) := by decide +kernel
theorem dX1_worst_19 : decode cX1_worst 19 = .ok (.lconst 0, 1) := by decide +kernel
theorem dX1_worst_20 : decode cX1_worst 20 = .ok (.ldc2_w 36, 3) := by decide +kernel
theorem dX1_worst_23 : decode cX1_worst 23 = .ok (.invokestatic 40, 3) := by decide +kernel
theorem dX1_worst_26 : decode cX1_worst 26 = .ok (.ifCond .ne 6, 3) := by decide +kernel
theorem dX1_worst_29 : decode cX1_worst 29 = .ok (.bipush (-2), 2) := by decide +kernel
theorem dX1_worst_31 : decode cX1_worst 31 = .ok (.ireturn, 1) := by decide +kernel
theorem dX1_worst_32 : decode cX1_worst 32 = .ok (.iload_n 3, 1) := by decide +kernel
theorem dX1_worst_33 : decode cX1_worst 33 = .ok (.iconst 2, 1) := by decide +kernel
theorem dX1_worst_34 : decode cX1_worst 34 = .ok (.if_icmp .ne 12, 3) := by decide +kernel
theorem dX1_worst_37 : decode cX1_worst 37 = .ok (.aload_n 0, 1) := by decide +kernel
theorem dX1_worst_38 : decode cX1_worst 38 = .ok (.iload_n 1, 1) := by decide +kernel
theorem dX1_worst_39 : decode cX1_worst 39 = .ok (.iload_n 2, 1) := by decide +kernel
theorem dX1_worst_40 : decode cX1_worst 40 = .ok (.invokevirtual 110, 3) := by decide +kernel
theorem dX1_worst_43 : decode cX1_worst 43 = .ok (.goto 15, 3) := by decide +kernel
theorem dX1_worst_46 : decode cX1_worst 46 = .ok (.aload_n 0, 1) := by decide +kernel
theorem dX1_worst_47 : decode cX1_worst 47 = .ok (.iload_n 1, 1) := by decide +kernel
theorem dX1_worst_48 : decode cX1_worst 48 = .ok (.iload_n 2, 1) := by decide +kernel
theorem dX1_worst_49 : decode cX1_worst 49 = .ok (.invokevirtual 114, 3) := by decide +kernel
theorem dX1_worst_52 : decode cX1_worst 52 = .ok (.iload_n 2, 1) := by decide +kernel
theorem dX1_worst_53 : decode cX1_worst 53 = .ok (.i2l, 1) := by decide +kernel
theorem dX1_worst_54 : decode cX1_worst 54 = .ok (.iload_n 3, 1) := by decide +kernel
theorem dX1_worst_55 : decode cX1_worst 55 = .ok (.invokestatic 106, 3) := by decide +kernel
theorem dX1_worst_58 : decode cX1_worst 58 = .ok (.ireturn, 1) := by decide +kernel
set_option maxRecDepth 20000 in
theorem ggX1_best_X1_isParts : GoodIn wsX1_best wsX1_isParts := goodIn_r _ [6, 7, 8, 9, 10, 5, 11] (by decide +kernel) (by decide +kernel)
set_option maxRecDepth 20000 in
theorem gX1_best_X1_isParts : GoodIn wsX1_best (va_wsS RX1 67 yX1_isParts wsX1_isParts) := goodIn_app (goodIn_of _ (by decide +kernel)) ggX1_best_X1_isParts
set_option maxRecDepth 20000 in
theorem ggX1_best_X1_worstOf : GoodIn wsX1_best wsX1_worstOf := goodIn_r _ [15, 16, 17, 18, 5, 19, 20, 2, 21, 22, 23, 24, 7, 25, 26, 27, 28, 29, 30, 31, 32, 33] (by decide +kernel) (by decide +kernel)
set_option maxRecDepth 20000 in
theorem gX1_best_X1_worstOf : GoodIn wsX1_best (wsV RX1 114 RX1 yX1_worstOf wsX1_worstOf) := goodIn_app (goodIn_of _ (by decide +kernel)) ggX1_best_X1_worstOf
theorem dX1_best_0 : decode cX1_best 0 = .ok (.iload_n 1, 1) := by decide +kernel
theorem dX1_best_1 : decode cX1_best 1 = .ok (.invokestatic 67, 3) := by decide +kernel
theorem dX1_best_4 : decode cX1_best 4 = .ok (.ifCond .ne 6, 3) := by decide +kernel
theorem dX1_best_7 : decode cX1_best 7 = .ok (.bipush (-2), 2) := by decide +kernel
theorem dX1_best_9 : decode cX1_best 9 = .ok (.ireturn, 1) := by decide +kernel
theorem dX1_best_10 : decode cX1_best 10 = .ok (.aload_n 0, 1) := by decide +kernel
theorem dX1_best_11 : decode cX1_best 11 = .ok (.getfield 44, 3) := by decide +kernel
theorem dX1_best_14 : decode cX1_best 14 = .ok (.ifCond .ne 6, 3) := by decide +kernel
theorem dX1_best_17 : decode cX1_best 17 = .ok (.bipush (-3), 2) := by decide +kernel
theorem dX1_best_19 : decode cX1_best 19 = .ok (.ireturn, 1) := by decide +kernel
theorem dX1_best_20 : decode cX1_best 20 = .ok (.iconst 0, 1) := by decide +kernel
theorem dX1_best_21 : decode cX1_best 21 = .ok (.istore_n 2, 1) := by decide +kernel
theorem dX1_best_22 : decode cX1_best 22 = .ok (.iconst 1, 1) := by decide +kernel
theorem dX1_best_23 : decode cX1_best 23 = .ok (.istore_n 3, 1) := by decide +kernel
theorem dX1_best_24 : decode cX1_best 24 = .ok (.iload_n 3, 1) := by decide +kernel
theorem dX1_best_25 : decode cX1_best 25 = .ok (.aload_n 0, 1) := by decide +kernel
theorem dX1_best_26 : decode cX1_best 26 = .ok (.getfield 44, 3) := by decide +kernel
theorem dX1_best_29 : decode cX1_best 29 = .ok (.if_icmp .ge 47, 3) := by decide +kernel
theorem dX1_best_32 : decode cX1_best 32 = .ok (.aload_n 0, 1) := by decide +kernel
theorem dX1_best_33 : decode cX1_best 33 = .ok (.iload_n 3, 1) := by decide +kernel
theorem dX1_best_34 : decode cX1_best 34 = .ok (.iload_n 1, 1) := by decide +kernel
theorem dX1_best_35 : decode cX1_best 35 = .ok (.invokevirtual 114, 3) := by decide +kernel
theorem dX1_best_38 : decode cX1_best 38 = .ok (.aload_n 0, 1) := by decide +kernel
theorem dX1_best_39 : decode cX1_best 39 = .ok (.getfield 13, 3) := by decide +kernel
theorem dX1_best_42 : decode cX1_best 42 = .ok (.iload_n 2, 1) := by decide +kernel
theorem dX1_best_43 : decode cX1_best 43 = .ok (.iaload, 1) := by decide +kernel
theorem dX1_best_44 : decode cX1_best 44 = .ok (.i2l, 1) := by decide +kernel
theorem dX1_best_45 : decode cX1_best 45 = .ok (.lmul, 1) := by decide +kernel
theorem dX1_best_46 : decode cX1_best 46 = .ok (.aload_n 0, 1) := by decide +kernel
theorem dX1_best_47 : decode cX1_best 47 = .ok (.iload_n 2, 1) := by decide +kernel
theorem dX1_best_48 : decode cX1_best 48 = .ok (.iload_n 1, 1) := by decide +kernel
theorem dX1_best_49 : decode cX1_best 49 = .ok (.invokevirtual 114, 3) := by decide +kernel
theorem dX1_best_52 : decode cX1_best 52 = .ok (.aload_n 0, 1) := by decide +kernel
theorem dX1_best_53 : decode cX1_best 53 = .ok (.getfield 13, 3) := by decide +kernel
theorem dX1_best_56 : decode cX1_best 56 = .ok (.iload_n 3, 1) := by decide +kernel
theorem dX1_best_57 : decode cX1_best 57 = .ok (.iaload, 1) := by decide +kernel
theorem dX1_best_58 : decode cX1_best 58 = .ok (.i2l, 1) := by decide +kernel
theorem dX1_best_59 : decode cX1_best 59 = .ok (.lmul, 1) := by decide +kernel
theorem dX1_best_60 : decode cX1_best 60 = .ok (.lcmp, 1) := by decide +kernel
theorem dX1_best_61 : decode cX1_best 61 = .ok (.ifCond .ge 7, 3) := by decide +kernel
theorem dX1_best_64 : decode cX1_best 64 = .ok (.iload_n 3, 1) := by decide +kernel
theorem dX1_best_65 : decode cX1_best 65 = .ok (.goto 4, 3) := by decide +kernel
theorem dX1_best_68 : decode cX1_best 68 = .ok (.iload_n 2, 1) := by decide +kernel
theorem dX1_best_69 : decode cX1_best 69 = .ok (.istore_n 2, 1) := by decide +kernel
theorem dX1_best_70 : decode cX1_best 70 = .ok (.iinc 3 1, 3) := by decide +kernel
theorem dX1_best_73 : decode cX1_best 73 = .ok (.goto (-49), 3) := by decide +kernel
theorem dX1_best_76 : decode cX1_best 76 = .ok (.iload_n 2, 1) := by decide +kernel
theorem dX1_best_77 : decode cX1_best 77 = .ok (.ireturn, 1) := by decide +kernel
set_option maxRecDepth 20000 in
theorem ggX1_error_X1_in : GoodIn wsX1_error wsX1_in := goodIn_r _ [8] (by decide +kernel) (by decide +kernel)
set_option maxRecDepth 20000 in
theorem gX1_error_X1_in : GoodIn wsX1_error (va_wsS RX1 40 yX1_in wsX1_in) := goodIn_app (goodIn_of _ (by decide +kernel)) ggX1_error_X1_in
theorem dX1_error_0 : decode cX1_error 0 = .ok (.iload_n 1, 1) := by decide +kernel
theorem dX1_error_1 : decode cX1_error 1 = .ok (.i2l, 1) := by decide +kernel
theorem dX1_error_2 : decode cX1_error 2 = .ok (.lconst 0, 1) := by decide +kernel
theorem dX1_error_3 : decode cX1_error 3 = .ok (.ldc2_w 118, 3) := by decide +kernel
theorem dX1_error_6 : decode cX1_error 6 = .ok (.invokestatic 40, 3) := by decide +kernel
theorem dX1_error_9 : decode cX1_error 9 = .ok (.ifCond .ne 7, 3) := by decide +kernel
theorem dX1_error_12 : decode cX1_error 12 = .ok (.sipush (-1001), 3) := by decide +kernel
theorem dX1_error_15 : decode cX1_error 15 = .ok (.ireturn, 1) := by decide +kernel
theorem dX1_error_16 : decode cX1_error 16 = .ok (.iload_n 2, 1) := by decide +kernel
theorem dX1_error_17 : decode cX1_error 17 = .ok (.i2l, 1) := by decide +kernel
theorem dX1_error_18 : decode cX1_error 18 = .ok (.ldc2_w 120, 3) := by decide +kernel
theorem dX1_error_21 : decode cX1_error 21 = .ok (.ldc2_w 122, 3) := by decide +kernel
theorem dX1_error_24 : decode cX1_error 24 = .ok (.invokestatic 40, 3) := by decide +kernel
theorem dX1_error_27 : decode cX1_error 27 = .ok (.ifCond .ne 7, 3) := by decide +kernel
theorem dX1_error_30 : decode cX1_error 30 = .ok (.sipush (-1002), 3) := by decide +kernel
theorem dX1_error_33 : decode cX1_error 33 = .ok (.ireturn, 1) := by decide +kernel
theorem dX1_error_34 : decode cX1_error 34 = .ok (.aload_n 0, 1) := by decide +kernel
theorem dX1_error_35 : decode cX1_error 35 = .ok (.getfield 20, 3) := by decide +kernel
theorem dX1_error_38 : decode cX1_error 38 = .ok (.iload_n 1, 1) := by decide +kernel
theorem dX1_error_39 : decode cX1_error 39 = .ok (.iaload, 1) := by decide +kernel
theorem dX1_error_40 : decode cX1_error 40 = .ok (.istore_n 3, 1) := by decide +kernel
theorem dX1_error_41 : decode cX1_error 41 = .ok (.aload_n 0, 1) := by decide +kernel
theorem dX1_error_42 : decode cX1_error 42 = .ok (.getfield 20, 3) := by decide +kernel
theorem dX1_error_45 : decode cX1_error 45 = .ok (.iload_n 1, 1) := by decide +kernel
theorem dX1_error_46 : decode cX1_error 46 = .ok (.iload_n 2, 1) := by decide +kernel
theorem dX1_error_47 : decode cX1_error 47 = .ok (.iastore, 1) := by decide +kernel
theorem dX1_error_48 : decode cX1_error 48 = .ok (.iload_n 3, 1) := by decide +kernel
theorem dX1_error_49 : decode cX1_error 49 = .ok (.ireturn, 1) := by decide +kernel
theorem dX1_errorAt_0 : decode cX1_errorAt 0 = .ok (.ldc2_w 124, 3) := by decide +kernel
theorem dX1_errorAt_3 : decode cX1_errorAt 3 = .ok (.iload_n 3, 1) := by decide +kernel
theorem dX1_errorAt_4 : decode cX1_errorAt 4 = .ok (.i2l, 1) := by decide +kernel
theorem dX1_errorAt_5 : decode cX1_errorAt 5 = .ok (.iload_n 2, 1) := by decide +kernel
theorem dX1_errorAt_6 : decode cX1_errorAt 6 = .ok (.i2l, 1) := by decide +kernel
theorem dX1_errorAt_7 : decode cX1_errorAt 7 = .ok (.lmul, 1) := by decide +kernel
theorem dX1_errorAt_8 : decode cX1_errorAt 8 = .ok (.aload_n 0, 1) := by decide +kernel
theorem dX1_errorAt_9 : decode cX1_errorAt 9 = .ok (.getfield 13, 3) := by decide +kernel
theorem dX1_errorAt_12 : decode cX1_errorAt 12 = .ok (.iload_n 1, 1) := by decide +kernel
theorem dX1_errorAt_13 : decode cX1_errorAt 13 = .ok (.iaload, 1) := by decide +kernel
theorem dX1_errorAt_14 : decode cX1_errorAt 14 = .ok (.i2l, 1) := by decide +kernel
theorem dX1_errorAt_15 : decode cX1_errorAt 15 = .ok (.lrem, 1) := by decide +kernel
theorem dX1_errorAt_16 : decode cX1_errorAt 16 = .ok (.lmul, 1) := by decide +kernel
theorem dX1_errorAt_17 : decode cX1_errorAt 17 = .ok (.lstore 4, 2) := by decide +kernel
theorem dX1_errorAt_19 : decode cX1_errorAt 19 = .ok (.lload 4, 2) := by decide +kernel
theorem dX1_errorAt_21 : decode cX1_errorAt 21 = .ok (.aload_n 0, 1) := by decide +kernel
theorem dX1_errorAt_22 : decode cX1_errorAt 22 = .ok (.getfield 13, 3) := by decide +kernel
theorem dX1_errorAt_25 : decode cX1_errorAt 25 = .ok (.iload_n 1, 1) := by decide +kernel
theorem dX1_errorAt_26 : decode cX1_errorAt 26 = .ok (.iaload, 1) := by decide +kernel
theorem dX1_errorAt_27 : decode cX1_errorAt 27 = .ok (.i2l, 1) := by decide +kernel
theorem dX1_errorAt_28 : decode cX1_errorAt 28 = .ok (.ldiv, 1) := by decide +kernel
theorem dX1_errorAt_29 : decode cX1_errorAt 29 = .ok (.l2i, 1) := by decide +kernel
theorem dX1_errorAt_30 : decode cX1_errorAt 30 = .ok (.istore 6, 2) := by decide +kernel
theorem dX1_errorAt_32 : decode cX1_errorAt 32 = .ok (.lload 4, 2) := by decide +kernel
theorem dX1_errorAt_34 : decode cX1_errorAt 34 = .ok (.aload_n 0, 1) := by decide +kernel
theorem dX1_errorAt_35 : decode cX1_errorAt 35 = .ok (.getfield 13, 3) := by decide +kernel
theorem dX1_errorAt_38 : decode cX1_errorAt 38 = .ok (.iload_n 1, 1) := by decide +kernel
theorem dX1_errorAt_39 : decode cX1_errorAt 39 = .ok (.iaload, 1) := by decide +kernel
theorem dX1_errorAt_40 : decode cX1_errorAt 40 = .ok (.i2l, 1) := by decide +kernel
theorem dX1_errorAt_41 : decode cX1_errorAt 41 = .ok (.lrem, 1) := by decide +kernel
theorem dX1_errorAt_42 : decode cX1_errorAt 42 = .ok (.lstore 7, 2) := by decide +kernel
theorem dX1_errorAt_44 : decode cX1_errorAt 44 = .ok (.aload_n 0, 1) := by decide +kernel
theorem dX1_errorAt_45 : decode cX1_errorAt 45 = .ok (.getfield 20, 3) := by decide +kernel
theorem dX1_errorAt_48 : decode cX1_errorAt 48 = .ok (.iload 6, 2) := by decide +kernel
theorem dX1_errorAt_50 : decode cX1_errorAt 50 = .ok (.iaload, 1) := by decide +kernel
theorem dX1_errorAt_51 : decode cX1_errorAt 51 = .ok (.i2l, 1) := by decide +kernel
theorem dX1_errorAt_52 : decode cX1_errorAt 52 = .ok (.aload_n 0, 1) := by decide +kernel
theorem dX1_errorAt_53 : decode cX1_errorAt 53 = .ok (.getfield 13, 3) := by decide +kernel
theorem dX1_errorAt_56 : decode cX1_errorAt 56 = .ok (.iload_n 1, 1) := by decide +kernel
theorem dX1_errorAt_57 : decode cX1_errorAt 57 = .ok (.iaload, 1) := by decide +kernel
theorem dX1_errorAt_58 : decode cX1_errorAt 58 = .ok (.i2l, 1) := by decide +kernel
theorem dX1_errorAt_59 : decode cX1_errorAt 59 = .ok (.lmul, 1) := by decide +kernel
theorem dX1_errorAt_60 : decode cX1_errorAt 60 = .ok (.aload_n 0, 1) := by decide +kernel
theorem dX1_errorAt_61 : decode cX1_errorAt 61 = .ok (.getfield 20, 3) := by decide +kernel
theorem dX1_errorAt_64 : decode cX1_errorAt 64 = .ok (.iload 6, 2) := by decide +kernel
theorem dX1_errorAt_66 : decode cX1_errorAt 66 = .ok (.iconst 1, 1) := by decide +kernel
theorem dX1_errorAt_67 : decode cX1_errorAt 67 = .ok (.iadd, 1) := by decide +kernel
theorem dX1_errorAt_68 : decode cX1_errorAt 68 = .ok (.bipush 8, 2) := by decide +kernel
theorem dX1_errorAt_70 : decode cX1_errorAt 70 = .ok (.irem, 1) := by decide +kernel
theorem dX1_errorAt_71 : decode cX1_errorAt 71 = .ok (.iaload, 1) := by decide +kernel
theorem dX1_errorAt_72 : decode cX1_errorAt 72 = .ok (.aload_n 0, 1) := by decide +kernel
theorem dX1_errorAt_73 : decode cX1_errorAt 73 = .ok (.getfield 20, 3) := by decide +kernel
theorem dX1_errorAt_76 : decode cX1_errorAt 76 = .ok (.iload 6, 2) := by decide +kernel
theorem dX1_errorAt_78 : decode cX1_errorAt 78 = .ok (.iaload, 1) := by decide +kernel
theorem dX1_errorAt_79 : decode cX1_errorAt 79 = .ok (.isub, 1) := by decide +kernel
theorem dX1_errorAt_80 : decode cX1_errorAt 80 = .ok (.i2l, 1) := by decide +kernel
theorem dX1_errorAt_81 : decode cX1_errorAt 81 = .ok (.lload 7, 2) := by decide +kernel
theorem dX1_errorAt_83 : decode cX1_errorAt 83 = .ok (.lmul, 1) := by decide +kernel
theorem dX1_errorAt_84 : decode cX1_errorAt 84 = .ok (.ladd, 1) := by decide +kernel
theorem dX1_errorAt_85 : decode cX1_errorAt 85 = .ok (.lreturn, 1) := by decide +kernel
set_option maxRecDepth 20000 in
theorem ggX1_isSteps_X1_in : GoodIn wsX1_isSteps wsX1_in := goodIn_r _ [5] (by decide +kernel) (by decide +kernel)
set_option maxRecDepth 20000 in
theorem gX1_isSteps_X1_in : GoodIn wsX1_isSteps (va_wsS RX1 40 yX1_in wsX1_in) := goodIn_app (goodIn_of _ (by decide +kernel)) ggX1_isSteps_X1_in
theorem dX1_isSteps_0 : decode cX1_isSteps 0 = .ok (.iload_n 0, 1) := by decide +kernel
theorem dX1_isSteps_1 : decode cX1_isSteps 1 = .ok (.i2l, 1) := by decide +kernel
theorem dX1_isSteps_2 : decode cX1_isSteps 2 = .ok (.lconst 1, 1) := by decide +kernel
theorem dX1_isSteps_3 : decode cX1_isSteps 3 = .ok (.ldc2_w 126, 3) := by decide +kernel
theorem dX1_isSteps_6 : decode cX1_isSteps 6 = .ok (.invokestatic 40, 3) := by decide +kernel
theorem dX1_isSteps_9 : decode cX1_isSteps 9 = .ok (.ireturn, 1) := by decide +kernel
set_option maxRecDepth 20000 in
theorem ggX1_spoilt_X1_isCircle : GoodIn wsX1_spoilt wsX1_isCircle := goodIn_r _ [9, 10, 11, 12, 8, 13, 30, 31, 32, 33, 34, 35, 36, 37, 38] (by decide +kernel) (by decide +kernel)
set_option maxRecDepth 20000 in
theorem gX1_spoilt_X1_isCircle : GoodIn wsX1_spoilt (wsV RX1 58 RX1 yX1_isCircle wsX1_isCircle) := goodIn_app (goodIn_of _ (by decide +kernel)) ggX1_spoilt_X1_isCircle
set_option maxRecDepth 20000 in
theorem ggX1_spoilt_X1_isSteps : GoodIn wsX1_spoilt wsX1_isSteps := goodIn_r _ [16, 17, 11, 12, 8, 13] (by decide +kernel) (by decide +kernel)
set_option maxRecDepth 20000 in
theorem gX1_spoilt_X1_isSteps : GoodIn wsX1_spoilt (va_wsS RX1 128 yX1_isSteps wsX1_isSteps) := goodIn_app (goodIn_of _ (by decide +kernel)) ggX1_spoilt_X1_isSteps
set_option maxRecDepth 20000 in
theorem ggX1_spoilt_X1_in : GoodIn wsX1_spoilt wsX1_in := goodIn_r _ [13] (by decide +kernel) (by decide +kernel)
set_option maxRecDepth 20000 in
theorem gX1_spoilt_X1_in : GoodIn wsX1_spoilt (va_wsS RX1 40 yX1_in wsX1_in) := goodIn_app (goodIn_of _ (by decide +kernel)) ggX1_spoilt_X1_in
set_option maxRecDepth 20000 in
theorem ggX1_spoilt_X1_errorAt : GoodIn wsX1_spoilt wsX1_errorAt := goodIn_r _ [21, 22, 4, 23, 30, 31, 32, 33, 34, 35, 36, 37, 38] (by decide +kernel) (by decide +kernel)
set_option maxRecDepth 20000 in
theorem gX1_spoilt_X1_errorAt : GoodIn wsX1_spoilt (wsV RX1 133 RX1 yX1_errorAt wsX1_errorAt) := goodIn_app (goodIn_of _ (by decide +kernel)) ggX1_spoilt_X1_errorAt
set_option maxRecDepth 20000 in
theorem ggX1_spoilt_X1_term : GoodIn wsX1_spoilt wsX1_term := goodIn_r _ [26, 27, 28, 8, 29] (by decide +kernel) (by decide +kernel)
set_option maxRecDepth 20000 in
theorem gX1_spoilt_X1_term : GoodIn wsX1_spoilt (va_wsS RX1 106 yX1_term wsX1_term) := goodIn_app (goodIn_of _ (by decide +kernel)) ggX1_spoilt_X1_term
theorem dX1_spoilt_0 : decode cX1_spoilt 0 = .ok (.aload_n 0, 1) := by decide +kernel
theorem dX1_spoilt_1 : decode cX1_spoilt 1 = .ok (.iload_n 1, 1) := by decide +kernel
theorem dX1_spoilt_2 : decode cX1_spoilt 2 = .ok (.invokevirtual 58, 3) := by decide +kernel
theorem dX1_spoilt_5 : decode cX1_spoilt 5 = .ok (.ifCond .ne 6, 3) := by decide +kernel
theorem dX1_spoilt_8 : decode cX1_spoilt 8 = .ok (.ldc 102, 2) := by decide +kernel
theorem dX1_spoilt_10 : decode cX1_spoilt 10 = .ok (.ireturn, 1) := by decide +kernel
theorem dX1_spoilt_11 : decode cX1_spoilt 11 = .ok (.iload_n 2, 1) := by decide +kernel
theorem dX1_spoilt_12 : decode cX1_spoilt 12 = .ok (.invokestatic 128, 3) := by decide +kernel
theorem dX1_spoilt_15 : decode cX1_spoilt 15 = .ok (.ifCond .eq 26, 3) := by decide +kernel
theorem dX1_spoilt_18 : decode cX1_spoilt 18 = .ok (.iload_n 3, 1) := by decide +kernel
theorem dX1_spoilt_19 : decode cX1_spoilt 19 = .ok (.i2l, 1) := by decide +kernel
theorem dX1_spoilt_20 : decode cX1_spoilt 20 = .ok (.lconst 0, 1) := by decide +kernel
theorem dX1_spoilt_21 : decode cX1_spoilt 21 = .ok (.ldc2_w 131, 3) := by decide +kernel
theorem dX1_spoilt_24 : decode cX1_spoilt 24 = .ok (.invokestatic 40, 3) := by decide +kernel
theorem dX1_spoilt_27 : decode cX1_spoilt 27 = .ok (.ifCond .eq 14, 3) := by decide +kernel
theorem dX1_spoilt_30 : decode cX1_spoilt 30 = .ok (.iload 4, 2) := by decide +kernel
theorem dX1_spoilt_32 : decode cX1_spoilt 32 = .ok (.i2l, 1) := by decide +kernel
theorem dX1_spoilt_33 : decode cX1_spoilt 33 = .ok (.lconst 0, 1) := by decide +kernel
theorem dX1_spoilt_34 : decode cX1_spoilt 34 = .ok (.lconst 1, 1) := by decide +kernel
theorem dX1_spoilt_35 : decode cX1_spoilt 35 = .ok (.invokestatic 40, 3) := by decide +kernel
theorem dX1_spoilt_38 : decode cX1_spoilt 38 = .ok (.ifCond .ne 6, 3) := by decide +kernel
theorem dX1_spoilt_41 : decode cX1_spoilt 41 = .ok (.ldc 76, 2) := by decide +kernel
theorem dX1_spoilt_43 : decode cX1_spoilt 43 = .ok (.ireturn, 1) := by decide +kernel
theorem dX1_spoilt_44 : decode cX1_spoilt 44 = .ok (.aload_n 0, 1) := by decide +kernel
theorem dX1_spoilt_45 : decode cX1_spoilt 45 = .ok (.iload_n 1, 1) := by decide +kernel
theorem dX1_spoilt_46 : decode cX1_spoilt 46 = .ok (.iload_n 2, 1) := by decide +kernel
theorem dX1_spoilt_47 : decode cX1_spoilt 47 = .ok (.iload_n 3, 1) := by decide +kernel
theorem dX1_spoilt_48 : decode cX1_spoilt 48 = .ok (.invokevirtual 133, 3) := by decide +kernel
theorem dX1_spoilt_51 : decode cX1_spoilt 51 = .ok (.aload_n 0, 1) := by decide +kernel
theorem dX1_spoilt_52 : decode cX1_spoilt 52 = .ok (.getfield 13, 3) := by decide +kernel
theorem dX1_spoilt_55 : decode cX1_spoilt 55 = .ok (.iload_n 1, 1) := by decide +kernel
theorem dX1_spoilt_56 : decode cX1_spoilt 56 = .ok (.iaload, 1) := by decide +kernel
theorem dX1_spoilt_57 : decode cX1_spoilt 57 = .ok (.i2l, 1) := by decide +kernel
theorem dX1_spoilt_58 : decode cX1_spoilt 58 = .ok (.iload 4, 2) := by decide +kernel
theorem dX1_spoilt_60 : decode cX1_spoilt 60 = .ok (.invokestatic 106, 3) := by decide +kernel
theorem dX1_spoilt_63 : decode cX1_spoilt 63 = .ok (.ireturn, 1) := by decide +kernel
set_option maxRecDepth 20000 in
theorem ggX1_extreme_X1_isCircle : GoodIn wsX1_extreme wsX1_isCircle := goodIn_r _ [6, 7, 8, 9, 5, 10, 22, 23, 24, 25, 26, 27, 28, 29, 30] (by decide +kernel) (by decide +kernel)
set_option maxRecDepth 20000 in
theorem gX1_extreme_X1_isCircle : GoodIn wsX1_extreme (wsV RX1 58 RX1 yX1_isCircle wsX1_isCircle) := goodIn_app (goodIn_of _ (by decide +kernel)) ggX1_extreme_X1_isCircle
set_option maxRecDepth 20000 in
theorem ggX1_extreme_X1_isSteps : GoodIn wsX1_extreme wsX1_isSteps := goodIn_r _ [13, 14, 8, 9, 5, 10] (by decide +kernel) (by decide +kernel)
set_option maxRecDepth 20000 in
theorem gX1_extreme_X1_isSteps : GoodIn wsX1_extreme (va_wsS RX1 128 yX1_isSteps wsX1_isSteps) := goodIn_app (goodIn_of _ (by decide +kernel)) ggX1_extreme_X1_isSteps
set_option maxRecDepth 20000 in
theorem ggX1_extreme_X1_in : GoodIn wsX1_extreme wsX1_in := goodIn_r _ [10] (by decide +kernel) (by decide +kernel)
set_option maxRecDepth 20000 in
theorem gX1_extreme_X1_in : GoodIn wsX1_extreme (va_wsS RX1 40 yX1_in wsX1_in) := goodIn_app (goodIn_of _ (by decide +kernel)) ggX1_extreme_X1_in
set_option maxRecDepth 20000 in
theorem ggX1_extreme_X1_errorAt : GoodIn wsX1_extreme wsX1_errorAt := goodIn_r _ [18, 19, 20, 21, 22, 23, 24, 25, 26, 27, 28, 29, 30] (by decide +kernel) (by decide +kernel)
set_option maxRecDepth 20000 in
theorem gX1_extreme_X1_errorAt : GoodIn wsX1_extreme (wsV RX1 133 RX1 yX1_errorAt wsX1_errorAt) := goodIn_app (goodIn_of _ (by decide +kernel)) ggX1_extreme_X1_errorAt
theorem dX1_extreme_0 : decode cX1_extreme 0 = .ok (.aload_n 0, 1) := by decide +kernel
theorem dX1_extreme_1 : decode cX1_extreme 1 = .ok (.iload_n 1, 1) := by decide +kernel
theorem dX1_extreme_2 : decode cX1_extreme 2 = .ok (.invokevirtual 58, 3) := by decide +kernel
theorem dX1_extreme_5 : decode cX1_extreme 5 = .ok (.ifCond .ne 5, 3) := by decide +kernel
theorem dX1_extreme_8 : decode cX1_extreme 8 = .ok (.iconst (-1), 1) := by decide +kernel
theorem dX1_extreme_9 : decode cX1_extreme 9 = .ok (.ireturn, 1) := by decide +kernel
theorem dX1_extreme_10 : decode cX1_extreme 10 = .ok (.iload_n 2, 1) := by decide +kernel
theorem dX1_extreme_11 : decode cX1_extreme 11 = .ok (.invokestatic 128, 3) := by decide +kernel
theorem dX1_extreme_14 : decode cX1_extreme 14 = .ok (.ifCond .eq 26, 3) := by decide +kernel
theorem dX1_extreme_17 : decode cX1_extreme 17 = .ok (.iload_n 3, 1) := by decide +kernel
theorem dX1_extreme_18 : decode cX1_extreme 18 = .ok (.i2l, 1) := by decide +kernel
theorem dX1_extreme_19 : decode cX1_extreme 19 = .ok (.lconst 0, 1) := by decide +kernel
theorem dX1_extreme_20 : decode cX1_extreme 20 = .ok (.ldc2_w 38, 3) := by decide +kernel
theorem dX1_extreme_23 : decode cX1_extreme 23 = .ok (.invokestatic 40, 3) := by decide +kernel
theorem dX1_extreme_26 : decode cX1_extreme 26 = .ok (.ifCond .eq 14, 3) := by decide +kernel
theorem dX1_extreme_29 : decode cX1_extreme 29 = .ok (.iload 4, 2) := by decide +kernel
theorem dX1_extreme_31 : decode cX1_extreme 31 = .ok (.i2l, 1) := by decide +kernel
theorem dX1_extreme_32 : decode cX1_extreme 32 = .ok (.lconst 0, 1) := by decide +kernel
theorem dX1_extreme_33 : decode cX1_extreme 33 = .ok (.lconst 1, 1) := by decide +kernel
theorem dX1_extreme_34 : decode cX1_extreme 34 = .ok (.invokestatic 40, 3) := by decide +kernel
theorem dX1_extreme_37 : decode cX1_extreme 37 = .ok (.ifCond .ne 6, 3) := by decide +kernel
theorem dX1_extreme_40 : decode cX1_extreme 40 = .ok (.bipush (-2), 2) := by decide +kernel
theorem dX1_extreme_42 : decode cX1_extreme 42 = .ok (.ireturn, 1) := by decide +kernel
theorem dX1_extreme_43 : decode cX1_extreme 43 = .ok (.iconst 0, 1) := by decide +kernel
theorem dX1_extreme_44 : decode cX1_extreme 44 = .ok (.istore 5, 2) := by decide +kernel
theorem dX1_extreme_46 : decode cX1_extreme 46 = .ok (.iconst 1, 1) := by decide +kernel
theorem dX1_extreme_47 : decode cX1_extreme 47 = .ok (.istore 6, 2) := by decide +kernel
theorem dX1_extreme_49 : decode cX1_extreme 49 = .ok (.iload 6, 2) := by decide +kernel
theorem dX1_extreme_51 : decode cX1_extreme 51 = .ok (.iload_n 3, 1) := by decide +kernel
theorem dX1_extreme_52 : decode cX1_extreme 52 = .ok (.if_icmp .gt 65, 3) := by decide +kernel
theorem dX1_extreme_55 : decode cX1_extreme 55 = .ok (.aload_n 0, 1) := by decide +kernel
theorem dX1_extreme_56 : decode cX1_extreme 56 = .ok (.iload_n 1, 1) := by decide +kernel
theorem dX1_extreme_57 : decode cX1_extreme 57 = .ok (.iload_n 2, 1) := by decide +kernel
theorem dX1_extreme_58 : decode cX1_extreme 58 = .ok (.iload 6, 2) := by decide +kernel
theorem dX1_extreme_60 : decode cX1_extreme 60 = .ok (.invokevirtual 133, 3) := by decide +kernel
theorem dX1_extreme_63 : decode cX1_extreme 63 = .ok (.lstore 7, 2) := by decide +kernel
theorem dX1_extreme_65 : decode cX1_extreme 65 = .ok (.aload_n 0, 1) := by decide +kernel
theorem dX1_extreme_66 : decode cX1_extreme 66 = .ok (.iload_n 1, 1) := by decide +kernel
theorem dX1_extreme_67 : decode cX1_extreme 67 = .ok (.iload_n 2, 1) := by decide +kernel
theorem dX1_extreme_68 : decode cX1_extreme 68 = .ok (.iload 5, 2) := by decide +kernel
theorem dX1_extreme_70 : decode cX1_extreme 70 = .ok (.invokevirtual 133, 3) := by decide +kernel
theorem dX1_extreme_73 : decode cX1_extreme 73 = .ok (.lstore 9, 2) := by decide +kernel
theorem dX1_extreme_75 : decode cX1_extreme 75 = .ok (.iload 4, 2) := by decide +kernel
theorem dX1_extreme_77 : decode cX1_extreme 77 = .ok (.ifCond .ne 11, 3) := by decide +kernel
theorem dX1_extreme_80 : decode cX1_extreme 80 = .ok (.lload 7, 2) := by decide +kernel
theorem dX1_extreme_82 : decode cX1_extreme 82 = .ok (.lload 9, 2) := by decide +kernel
theorem dX1_extreme_84 : decode cX1_extreme 84 = .ok (.lcmp, 1) := by decide +kernel
theorem dX1_extreme_85 : decode cX1_extreme 85 = .ok (.ifCond .gt 17, 3) := by decide +kernel
theorem dX1_extreme_88 : decode cX1_extreme 88 = .ok (.iload 4, 2) := by decide +kernel
theorem dX1_extreme_90 : decode cX1_extreme 90 = .ok (.iconst 1, 1) := by decide +kernel
theorem dX1_extreme_91 : decode cX1_extreme 91 = .ok (.if_icmp .ne 16, 3) := by decide +kernel
theorem dX1_extreme_94 : decode cX1_extreme 94 = .ok (.lload 7, 2) := by decide +kernel
theorem dX1_extreme_96 : decode cX1_extreme 96 = .ok (.lload 9, 2) := by decide +kernel
theorem dX1_extreme_98 : decode cX1_extreme 98 = .ok (.lcmp, 1) := by decide +kernel
theorem dX1_extreme_99 : decode cX1_extreme 99 = .ok (.ifCond .ge 8, 3) := by decide +kernel
theorem dX1_extreme_102 : decode cX1_extreme 102 = .ok (.iload 6, 2) := by decide +kernel
theorem dX1_extreme_104 : decode cX1_extreme 104 = .ok (.goto 5, 3) := by decide +kernel
theorem dX1_extreme_107 : decode cX1_extreme 107 = .ok (.iload 5, 2) := by decide +kernel
theorem dX1_extreme_109 : decode cX1_extreme 109 = .ok (.istore 5, 2) := by decide +kernel
theorem dX1_extreme_111 : decode cX1_extreme 111 = .ok (.iinc 6 1, 3) := by decide +kernel
theorem dX1_extreme_114 : decode cX1_extreme 114 = .ok (.goto (-65), 3) := by decide +kernel
theorem dX1_extreme_117 : decode cX1_extreme 117 = .ok (.iload 5, 2) := by decide +kernel
theorem dX1_extreme_119 : decode cX1_extreme 119 = .ok (.ireturn, 1) := by decide +kernel
set_option maxRecDepth 20000 in
theorem ggX1_near_X1_in : GoodIn wsX1_near wsX1_in := goodIn_r _ [6] (by decide +kernel) (by decide +kernel)
set_option maxRecDepth 20000 in
theorem gX1_near_X1_in : GoodIn wsX1_near (va_wsS RX1 40 yX1_in wsX1_in) := goodIn_app (goodIn_of _ (by decide +kernel)) ggX1_near_X1_in
theorem dX1_near_0 : decode cX1_near 0 = .ok (.iload_n 1, 1) := by decide +kernel
theorem dX1_near_1 : decode cX1_near 1 = .ok (.i2l, 1) := by decide +kernel
theorem dX1_near_2 : decode cX1_near 2 = .ok (.lconst 1, 1) := by decide +kernel
theorem dX1_near_3 : decode cX1_near 3 = .ok (.ldc2_w 86, 3) := by decide +kernel
theorem dX1_near_6 : decode cX1_near 6 = .ok (.invokestatic 40, 3) := by decide +kernel
theorem dX1_near_9 : decode cX1_near 9 = .ok (.ifCond .eq 38, 3) := by decide +kernel
theorem dX1_near_12 : decode cX1_near 12 = .ok (.iload_n 2, 1) := by decide +kernel
theorem dX1_near_13 : decode cX1_near 13 = .ok (.i2l, 1) := by decide +kernel
theorem dX1_near_14 : decode cX1_near 14 = .ok (.lconst 1, 1) := by decide +kernel
theorem dX1_near_15 : decode cX1_near 15 = .ok (.ldc2_w 86, 3) := by decide +kernel
theorem dX1_near_18 : decode cX1_near 18 = .ok (.invokestatic 40, 3) := by decide +kernel
theorem dX1_near_21 : decode cX1_near 21 = .ok (.ifCond .eq 26, 3) := by decide +kernel
theorem dX1_near_24 : decode cX1_near 24 = .ok (.iload_n 3, 1) := by decide +kernel
theorem dX1_near_25 : decode cX1_near 25 = .ok (.i2l, 1) := by decide +kernel
theorem dX1_near_26 : decode cX1_near 26 = .ok (.lconst 1, 1) := by decide +kernel
theorem dX1_near_27 : decode cX1_near 27 = .ok (.ldc2_w 131, 3) := by decide +kernel
theorem dX1_near_30 : decode cX1_near 30 = .ok (.invokestatic 40, 3) := by decide +kernel
theorem dX1_near_33 : decode cX1_near 33 = .ok (.ifCond .eq 14, 3) := by decide +kernel
theorem dX1_near_36 : decode cX1_near 36 = .ok (.iload 4, 2) := by decide +kernel
theorem dX1_near_38 : decode cX1_near 38 = .ok (.i2l, 1) := by decide +kernel
theorem dX1_near_39 : decode cX1_near 39 = .ok (.lconst 0, 1) := by decide +kernel
theorem dX1_near_40 : decode cX1_near 40 = .ok (.lconst 1, 1) := by decide +kernel
theorem dX1_near_41 : decode cX1_near 41 = .ok (.invokestatic 40, 3) := by decide +kernel
theorem dX1_near_44 : decode cX1_near 44 = .ok (.ifCond .ne 6, 3) := by decide +kernel
theorem dX1_near_47 : decode cX1_near 47 = .ok (.bipush (-2), 2) := by decide +kernel
theorem dX1_near_49 : decode cX1_near 49 = .ok (.ireturn, 1) := by decide +kernel
theorem dX1_near_50 : decode cX1_near 50 = .ok (.lconst 0, 1) := by decide +kernel
theorem dX1_near_51 : decode cX1_near 51 = .ok (.lstore 5, 2) := by decide +kernel
theorem dX1_near_53 : decode cX1_near 53 = .ok (.lconst 1, 1) := by decide +kernel
theorem dX1_near_54 : decode cX1_near 54 = .ok (.lstore 7, 2) := by decide +kernel
theorem dX1_near_56 : decode cX1_near 56 = .ok (.iload_n 1, 1) := by decide +kernel
theorem dX1_near_57 : decode cX1_near 57 = .ok (.i2l, 1) := by decide +kernel
theorem dX1_near_58 : decode cX1_near 58 = .ok (.lstore 9, 2) := by decide +kernel
theorem dX1_near_60 : decode cX1_near 60 = .ok (.lconst 1, 1) := by decide +kernel
theorem dX1_near_61 : decode cX1_near 61 = .ok (.lstore 11, 2) := by decide +kernel
theorem dX1_near_63 : decode cX1_near 63 = .ok (.lload 11, 2) := by decide +kernel
theorem dX1_near_65 : decode cX1_near 65 = .ok (.iload_n 3, 1) := by decide +kernel
theorem dX1_near_66 : decode cX1_near 66 = .ok (.i2l, 1) := by decide +kernel
theorem dX1_near_67 : decode cX1_near 67 = .ok (.lcmp, 1) := by decide +kernel
theorem dX1_near_68 : decode cX1_near 68 = .ok (.ifCond .gt 103, 3) := by decide +kernel
theorem dX1_near_71 : decode cX1_near 71 = .ok (.iload_n 1, 1) := by decide +kernel
theorem dX1_near_72 : decode cX1_near 72 = .ok (.i2l, 1) := by decide +kernel
theorem dX1_near_73 : decode cX1_near 73 = .ok (.lload 11, 2) := by decide +kernel
theorem dX1_near_75 : decode cX1_near 75 = .ok (.lmul, 1) := by decide +kernel
theorem dX1_near_76 : decode cX1_near 76 = .ok (.iload_n 2, 1) := by decide +kernel
theorem dX1_near_77 : decode cX1_near 77 = .ok (.i2l, 1) := by decide +kernel
theorem dX1_near_78 : decode cX1_near 78 = .ok (.ldiv, 1) := by decide +kernel
theorem dX1_near_79 : decode cX1_near 79 = .ok (.lstore 13, 2) := by decide +kernel
theorem dX1_near_81 : decode cX1_near 81 = .ok (.lload 13, 2) := by decide +kernel
theorem dX1_near_83 : decode cX1_near 83 = .ok (.iload_n 1, 1) := by decide +kernel
theorem dX1_near_84 : decode cX1_near 84 = .ok (.i2l, 1) := by decide +kernel
theorem dX1_near_85 : decode cX1_near 85 = .ok (.lload 11, 2) := by decide +kernel
theorem dX1_near_87 : decode cX1_near 87 = .ok (.lmul, 1) := by decide +kernel
theorem dX1_near_88 : decode cX1_near 88 = .ok (.iload_n 2, 1) := by decide +kernel
theorem dX1_near_89 : decode cX1_near 89 = .ok (.i2l, 1) := by decide +kernel
theorem dX1_near_90 : decode cX1_near 90 = .ok (.ldiv, 1) := by decide +kernel
theorem dX1_near_91 : decode cX1_near 91 = .ok (.lconst 1, 1) := by decide +kernel
theorem dX1_near_92 : decode cX1_near 92 = .ok (.ladd, 1) := by decide +kernel
theorem dX1_near_93 : decode cX1_near 93 = .ok (.lcmp, 1) := by decide +kernel
theorem dX1_near_94 : decode cX1_near 94 = .ok (.ifCond .gt 68, 3) := by decide +kernel
theorem dX1_near_97 : decode cX1_near 97 = .ok (.iload_n 1, 1) := by decide +kernel
theorem dX1_near_98 : decode cX1_near 98 = .ok (.i2l, 1) := by decide +kernel
theorem dX1_near_99 : decode cX1_near 99 = .ok (.lload 11, 2) := by decide +kernel
theorem dX1_near_101 : decode cX1_near 101 = .ok (.lmul, 1) := by decide +kernel
theorem dX1_near_102 : decode cX1_near 102 = .ok (.lload 13, 2) := by decide +kernel
theorem dX1_near_104 : decode cX1_near 104 = .ok (.iload_n 2, 1) := by decide +kernel
theorem dX1_near_105 : decode cX1_near 105 = .ok (.i2l, 1) := by decide +kernel
theorem dX1_near_106 : decode cX1_near 106 = .ok (.lmul, 1) := by decide +kernel
theorem dX1_near_107 : decode cX1_near 107 = .ok (.lsub, 1) := by decide +kernel
theorem dX1_near_108 : decode cX1_near 108 = .ok (.lstore 15, 2) := by decide +kernel
theorem dX1_near_110 : decode cX1_near 110 = .ok (.lload 15, 2) := by decide +kernel
theorem dX1_near_112 : decode cX1_near 112 = .ok (.lconst 0, 1) := by decide +kernel
theorem dX1_near_113 : decode cX1_near 113 = .ok (.lcmp, 1) := by decide +kernel
theorem dX1_near_114 : decode cX1_near 114 = .ok (.ifCond .ge 9, 3) := by decide +kernel
theorem dX1_near_117 : decode cX1_near 117 = .ok (.lload 15, 2) := by decide +kernel
theorem dX1_near_119 : decode cX1_near 119 = .ok (.lneg, 1) := by decide +kernel
theorem dX1_near_120 : decode cX1_near 120 = .ok (.goto 5, 3) := by decide +kernel
theorem dX1_near_123 : decode cX1_near 123 = .ok (.lload 15, 2) := by decide +kernel
theorem dX1_near_125 : decode cX1_near 125 = .ok (.lstore 15, 2) := by decide +kernel
theorem dX1_near_127 : decode cX1_near 127 = .ok (.lload 15, 2) := by decide +kernel
theorem dX1_near_129 : decode cX1_near 129 = .ok (.lload 7, 2) := by decide +kernel
theorem dX1_near_131 : decode cX1_near 131 = .ok (.lmul, 1) := by decide +kernel
theorem dX1_near_132 : decode cX1_near 132 = .ok (.lload 9, 2) := by decide +kernel
theorem dX1_near_134 : decode cX1_near 134 = .ok (.lload 11, 2) := by decide +kernel
theorem dX1_near_136 : decode cX1_near 136 = .ok (.lmul, 1) := by decide +kernel
theorem dX1_near_137 : decode cX1_near 137 = .ok (.lcmp, 1) := by decide +kernel
theorem dX1_near_138 : decode cX1_near 138 = .ok (.ifCond .ge 15, 3) := by decide +kernel
theorem dX1_near_141 : decode cX1_near 141 = .ok (.lload 15, 2) := by decide +kernel
theorem dX1_near_143 : decode cX1_near 143 = .ok (.lstore 9, 2) := by decide +kernel
theorem dX1_near_145 : decode cX1_near 145 = .ok (.lload 13, 2) := by decide +kernel
theorem dX1_near_147 : decode cX1_near 147 = .ok (.lstore 5, 2) := by decide +kernel
theorem dX1_near_149 : decode cX1_near 149 = .ok (.lload 11, 2) := by decide +kernel
theorem dX1_near_151 : decode cX1_near 151 = .ok (.lstore 7, 2) := by decide +kernel
theorem dX1_near_153 : decode cX1_near 153 = .ok (.lload 13, 2) := by decide +kernel
theorem dX1_near_155 : decode cX1_near 155 = .ok (.lconst 1, 1) := by decide +kernel
theorem dX1_near_156 : decode cX1_near 156 = .ok (.ladd, 1) := by decide +kernel
theorem dX1_near_157 : decode cX1_near 157 = .ok (.lstore 13, 2) := by decide +kernel
theorem dX1_near_159 : decode cX1_near 159 = .ok (.goto (-78), 3) := by decide +kernel
theorem dX1_near_162 : decode cX1_near 162 = .ok (.lload 11, 2) := by decide +kernel
theorem dX1_near_164 : decode cX1_near 164 = .ok (.lconst 1, 1) := by decide +kernel
theorem dX1_near_165 : decode cX1_near 165 = .ok (.ladd, 1) := by decide +kernel
theorem dX1_near_166 : decode cX1_near 166 = .ok (.lstore 11, 2) := by decide +kernel
theorem dX1_near_168 : decode cX1_near 168 = .ok (.goto (-105), 3) := by decide +kernel
theorem dX1_near_171 : decode cX1_near 171 = .ok (.iload 4, 2) := by decide +kernel
theorem dX1_near_173 : decode cX1_near 173 = .ok (.ifCond .ne 8, 3) := by decide +kernel
theorem dX1_near_176 : decode cX1_near 176 = .ok (.lload 5, 2) := by decide +kernel
theorem dX1_near_178 : decode cX1_near 178 = .ok (.goto 5, 3) := by decide +kernel
theorem dX1_near_181 : decode cX1_near 181 = .ok (.lload 7, 2) := by decide +kernel
theorem dX1_near_183 : decode cX1_near 183 = .ok (.l2i, 1) := by decide +kernel
theorem dX1_near_184 : decode cX1_near 184 = .ok (.ireturn, 1) := by decide +kernel
set_option maxRecDepth 20000 in
theorem ggX1_vernier_X1_in : GoodIn wsX1_vernier wsX1_in := goodIn_r _ [9] (by decide +kernel) (by decide +kernel)
set_option maxRecDepth 20000 in
theorem gX1_vernier_X1_in : GoodIn wsX1_vernier (va_wsS RX1 40 yX1_in wsX1_in) := goodIn_app (goodIn_of _ (by decide +kernel)) ggX1_vernier_X1_in
theorem dX1_vernier_0 : decode cX1_vernier 0 = .ok (.iload_n 1, 1) := by decide +kernel
theorem dX1_vernier_1 : decode cX1_vernier 1 = .ok (.i2l, 1) := by decide +kernel
theorem dX1_vernier_2 : decode cX1_vernier 2 = .ok (.ldc2_w 36, 3) := by decide +kernel
theorem dX1_vernier_5 : decode cX1_vernier 5 = .ok (.ldc2_w 136, 3) := by decide +kernel
theorem dX1_vernier_8 : decode cX1_vernier 8 = .ok (.invokestatic 40, 3) := by decide +kernel
theorem dX1_vernier_11 : decode cX1_vernier 11 = .ok (.ifCond .eq 17, 3) := by decide +kernel
theorem dX1_vernier_14 : decode cX1_vernier 14 = .ok (.iload_n 2, 1) := by decide +kernel
theorem dX1_vernier_15 : decode cX1_vernier 15 = .ok (.i2l, 1) := by decide +kernel
theorem dX1_vernier_16 : decode cX1_vernier 16 = .ok (.ldc2_w 36, 3) := by decide +kernel
theorem dX1_vernier_19 : decode cX1_vernier 19 = .ok (.ldc2_w 138, 3) := by decide +kernel
theorem dX1_vernier_22 : decode cX1_vernier 22 = .ok (.invokestatic 40, 3) := by decide +kernel
theorem dX1_vernier_25 : decode cX1_vernier 25 = .ok (.ifCond .ne 6, 3) := by decide +kernel
theorem dX1_vernier_28 : decode cX1_vernier 28 = .ok (.bipush (-2), 2) := by decide +kernel
theorem dX1_vernier_30 : decode cX1_vernier 30 = .ok (.ireturn, 1) := by decide +kernel
theorem dX1_vernier_31 : decode cX1_vernier 31 = .ok (.aload_n 0, 1) := by decide +kernel
theorem dX1_vernier_32 : decode cX1_vernier 32 = .ok (.iload_n 1, 1) := by decide +kernel
theorem dX1_vernier_33 : decode cX1_vernier 33 = .ok (.putfield 23, 3) := by decide +kernel
theorem dX1_vernier_36 : decode cX1_vernier 36 = .ok (.aload_n 0, 1) := by decide +kernel
theorem dX1_vernier_37 : decode cX1_vernier 37 = .ok (.iload_n 2, 1) := by decide +kernel
theorem dX1_vernier_38 : decode cX1_vernier 38 = .ok (.putfield 26, 3) := by decide +kernel
theorem dX1_vernier_41 : decode cX1_vernier 41 = .ok (.iconst 1, 1) := by decide +kernel
theorem dX1_vernier_42 : decode cX1_vernier 42 = .ok (.ireturn, 1) := by decide +kernel
theorem dX1_mainOf_0 : decode cX1_mainOf 0 = .ok (.lload_n 1, 1) := by decide +kernel
theorem dX1_mainOf_1 : decode cX1_mainOf 1 = .ok (.aload_n 0, 1) := by decide +kernel
theorem dX1_mainOf_2 : decode cX1_mainOf 2 = .ok (.getfield 23, 3) := by decide +kernel
theorem dX1_mainOf_5 : decode cX1_mainOf 5 = .ok (.i2l, 1) := by decide +kernel
theorem dX1_mainOf_6 : decode cX1_mainOf 6 = .ok (.lmul, 1) := by decide +kernel
theorem dX1_mainOf_7 : decode cX1_mainOf 7 = .ok (.lload_n 3, 1) := by decide +kernel
theorem dX1_mainOf_8 : decode cX1_mainOf 8 = .ok (.ldiv, 1) := by decide +kernel
theorem dX1_mainOf_9 : decode cX1_mainOf 9 = .ok (.lreturn, 1) := by decide +kernel
theorem dX1_lineOf_0 : decode cX1_lineOf 0 = .ok (.lload_n 1, 1) := by decide +kernel
theorem dX1_lineOf_1 : decode cX1_lineOf 1 = .ok (.aload_n 0, 1) := by decide +kernel
theorem dX1_lineOf_2 : decode cX1_lineOf 2 = .ok (.getfield 23, 3) := by decide +kernel
theorem dX1_lineOf_5 : decode cX1_lineOf 5 = .ok (.i2l, 1) := by decide +kernel
theorem dX1_lineOf_6 : decode cX1_lineOf 6 = .ok (.lmul, 1) := by decide +kernel
theorem dX1_lineOf_7 : decode cX1_lineOf 7 = .ok (.lload_n 3, 1) := by decide +kernel
theorem dX1_lineOf_8 : decode cX1_lineOf 8 = .ok (.lrem, 1) := by decide +kernel
theorem dX1_lineOf_9 : decode cX1_lineOf 9 = .ok (.lstore 5, 2) := by decide +kernel
theorem dX1_lineOf_11 : decode cX1_lineOf 11 = .ok (.ldc2_w 36, 3) := by decide +kernel
theorem dX1_lineOf_14 : decode cX1_lineOf 14 = .ok (.lload 5, 2) := by decide +kernel
theorem dX1_lineOf_16 : decode cX1_lineOf 16 = .ok (.lmul, 1) := by decide +kernel
theorem dX1_lineOf_17 : decode cX1_lineOf 17 = .ok (.aload_n 0, 1) := by decide +kernel
theorem dX1_lineOf_18 : decode cX1_lineOf 18 = .ok (.getfield 26, 3) := by decide +kernel
theorem dX1_lineOf_21 : decode cX1_lineOf 21 = .ok (.i2l, 1) := by decide +kernel
theorem dX1_lineOf_22 : decode cX1_lineOf 22 = .ok (.lmul, 1) := by decide +kernel
theorem dX1_lineOf_23 : decode cX1_lineOf 23 = .ok (.lload_n 3, 1) := by decide +kernel
theorem dX1_lineOf_24 : decode cX1_lineOf 24 = .ok (.ladd, 1) := by decide +kernel
theorem dX1_lineOf_25 : decode cX1_lineOf 25 = .ok (.lconst 1, 1) := by decide +kernel
theorem dX1_lineOf_26 : decode cX1_lineOf 26 = .ok (.lsub, 1) := by decide +kernel
theorem dX1_lineOf_27 : decode cX1_lineOf 27 = .ok (.ldc2_w 36, 3) := by decide +kernel
theorem dX1_lineOf_30 : decode cX1_lineOf 30 = .ok (.lload_n 3, 1) := by decide +kernel
theorem dX1_lineOf_31 : decode cX1_lineOf 31 = .ok (.lmul, 1) := by decide +kernel
theorem dX1_lineOf_32 : decode cX1_lineOf 32 = .ok (.ldiv, 1) := by decide +kernel
theorem dX1_lineOf_33 : decode cX1_lineOf 33 = .ok (.lreturn, 1) := by decide +kernel
set_option maxRecDepth 20000 in
theorem ggX1_readOf_X1_mainOf : GoodIn wsX1_readOf wsX1_mainOf := goodIn_r _ [6, 7, 13, 14, 15, 16, 17, 18, 19, 20, 21] (by decide +kernel) (by decide +kernel)
set_option maxRecDepth 20000 in
theorem gX1_readOf_X1_mainOf : GoodIn wsX1_readOf (wsV RX1 140 RX1 yX1_mainOf wsX1_mainOf) := goodIn_app (goodIn_of _ (by decide +kernel)) ggX1_readOf_X1_mainOf
set_option maxRecDepth 20000 in
theorem ggX1_readOf_X1_lineOf : GoodIn wsX1_readOf wsX1_lineOf := goodIn_r _ [11, 7, 12, 1, 13, 14, 15, 16, 17, 18, 19, 20, 21] (by decide +kernel) (by decide +kernel)
set_option maxRecDepth 20000 in
theorem gX1_readOf_X1_lineOf : GoodIn wsX1_readOf (wsV RX1 143 RX1 yX1_lineOf wsX1_lineOf) := goodIn_app (goodIn_of _ (by decide +kernel)) ggX1_readOf_X1_lineOf
theorem dX1_readOf_0 : decode cX1_readOf 0 = .ok (.aload_n 0, 1) := by decide +kernel
theorem dX1_readOf_1 : decode cX1_readOf 1 = .ok (.lload_n 1, 1) := by decide +kernel
theorem dX1_readOf_2 : decode cX1_readOf 2 = .ok (.lload_n 3, 1) := by decide +kernel
theorem dX1_readOf_3 : decode cX1_readOf 3 = .ok (.invokevirtual 140, 3) := by decide +kernel
theorem dX1_readOf_6 : decode cX1_readOf 6 = .ok (.aload_n 0, 1) := by decide +kernel
theorem dX1_readOf_7 : decode cX1_readOf 7 = .ok (.getfield 26, 3) := by decide +kernel
theorem dX1_readOf_10 : decode cX1_readOf 10 = .ok (.i2l, 1) := by decide +kernel
theorem dX1_readOf_11 : decode cX1_readOf 11 = .ok (.lmul, 1) := by decide +kernel
theorem dX1_readOf_12 : decode cX1_readOf 12 = .ok (.aload_n 0, 1) := by decide +kernel
theorem dX1_readOf_13 : decode cX1_readOf 13 = .ok (.lload_n 1, 1) := by decide +kernel
theorem dX1_readOf_14 : decode cX1_readOf 14 = .ok (.lload_n 3, 1) := by decide +kernel
theorem dX1_readOf_15 : decode cX1_readOf 15 = .ok (.invokevirtual 143, 3) := by decide +kernel
theorem dX1_readOf_18 : decode cX1_readOf 18 = .ok (.ladd, 1) := by decide +kernel
theorem dX1_readOf_19 : decode cX1_readOf 19 = .ok (.lreturn, 1) := by decide +kernel
set_option maxRecDepth 20000 in
theorem ggX1_isPlace_X1_in : GoodIn wsX1_isPlace wsX1_in := goodIn_r _ [5] (by decide +kernel) (by decide +kernel)
set_option maxRecDepth 20000 in
theorem gX1_isPlace_X1_in : GoodIn wsX1_isPlace (va_wsS RX1 40 yX1_in wsX1_in) := goodIn_app (goodIn_of _ (by decide +kernel)) ggX1_isPlace_X1_in
theorem dX1_isPlace_0 : decode cX1_isPlace 0 = .ok (.iload_n 1, 1) := by decide +kernel
theorem dX1_isPlace_1 : decode cX1_isPlace 1 = .ok (.i2l, 1) := by decide +kernel
theorem dX1_isPlace_2 : decode cX1_isPlace 2 = .ok (.lconst 1, 1) := by decide +kernel
theorem dX1_isPlace_3 : decode cX1_isPlace 3 = .ok (.ldc2_w 86, 3) := by decide +kernel
theorem dX1_isPlace_6 : decode cX1_isPlace 6 = .ok (.invokestatic 40, 3) := by decide +kernel
theorem dX1_isPlace_9 : decode cX1_isPlace 9 = .ok (.ifCond .eq 20, 3) := by decide +kernel
theorem dX1_isPlace_12 : decode cX1_isPlace 12 = .ok (.iload_n 0, 1) := by decide +kernel
theorem dX1_isPlace_13 : decode cX1_isPlace 13 = .ok (.i2l, 1) := by decide +kernel
theorem dX1_isPlace_14 : decode cX1_isPlace 14 = .ok (.lconst 0, 1) := by decide +kernel
theorem dX1_isPlace_15 : decode cX1_isPlace 15 = .ok (.iload_n 1, 1) := by decide +kernel
theorem dX1_isPlace_16 : decode cX1_isPlace 16 = .ok (.i2l, 1) := by decide +kernel
theorem dX1_isPlace_17 : decode cX1_isPlace 17 = .ok (.lconst 1, 1) := by decide +kernel
theorem dX1_isPlace_18 : decode cX1_isPlace 18 = .ok (.lsub, 1) := by decide +kernel
theorem dX1_isPlace_19 : decode cX1_isPlace 19 = .ok (.invokestatic 40, 3) := by decide +kernel
theorem dX1_isPlace_22 : decode cX1_isPlace 22 = .ok (.ifCond .eq 7, 3) := by decide +kernel
theorem dX1_isPlace_25 : decode cX1_isPlace 25 = .ok (.iconst 1, 1) := by decide +kernel
theorem dX1_isPlace_26 : decode cX1_isPlace 26 = .ok (.goto 4, 3) := by decide +kernel
theorem dX1_isPlace_29 : decode cX1_isPlace 29 = .ok (.iconst 0, 1) := by decide +kernel
theorem dX1_isPlace_30 : decode cX1_isPlace 30 = .ok (.ireturn, 1) := by decide +kernel
set_option maxRecDepth 20000 in
theorem ggX1_read_X1_isPlace : GoodIn wsX1_read wsX1_isPlace := goodIn_r _ [5, 6, 7, 8, 4, 9] (by decide +kernel) (by decide +kernel)
set_option maxRecDepth 20000 in
theorem gX1_read_X1_isPlace : GoodIn wsX1_read (va_wsS RX1 146 yX1_isPlace wsX1_isPlace) := goodIn_app (goodIn_of _ (by decide +kernel)) ggX1_read_X1_isPlace
set_option maxRecDepth 20000 in
theorem ggX1_read_X1_in : GoodIn wsX1_read wsX1_in := goodIn_r _ [9] (by decide +kernel) (by decide +kernel)
set_option maxRecDepth 20000 in
theorem gX1_read_X1_in : GoodIn wsX1_read (va_wsS RX1 40 yX1_in wsX1_in) := goodIn_app (goodIn_of _ (by decide +kernel)) ggX1_read_X1_in
set_option maxRecDepth 20000 in
theorem ggX1_read_X1_mainOf : GoodIn wsX1_read wsX1_mainOf := goodIn_r _ [13, 14, 24, 25, 26, 27, 28, 29, 30, 31, 32] (by decide +kernel) (by decide +kernel)
set_option maxRecDepth 20000 in
theorem gX1_read_X1_mainOf : GoodIn wsX1_read (wsV RX1 140 RX1 yX1_mainOf wsX1_mainOf) := goodIn_app (goodIn_of _ (by decide +kernel)) ggX1_read_X1_mainOf
set_option maxRecDepth 20000 in
theorem ggX1_read_X1_lineOf : GoodIn wsX1_read wsX1_lineOf := goodIn_r _ [18, 14, 1, 19, 24, 25, 26, 27, 28, 29, 30, 31, 32] (by decide +kernel) (by decide +kernel)
set_option maxRecDepth 20000 in
theorem gX1_read_X1_lineOf : GoodIn wsX1_read (wsV RX1 143 RX1 yX1_lineOf wsX1_lineOf) := goodIn_app (goodIn_of _ (by decide +kernel)) ggX1_read_X1_lineOf
set_option maxRecDepth 20000 in
theorem ggX1_read_X1_readOf : GoodIn wsX1_read wsX1_readOf := goodIn_r _ [23, 19, 10, 11, 12, 4, 13, 14, 15, 16, 17, 18, 1, 24, 25, 26, 27, 28, 29, 30, 31, 32] (by decide +kernel) (by decide +kernel)
set_option maxRecDepth 20000 in
theorem gX1_read_X1_readOf : GoodIn wsX1_read (wsV RX1 149 RX1 yX1_readOf wsX1_readOf) := goodIn_app (goodIn_of _ (by decide +kernel)) ggX1_read_X1_readOf
theorem dX1_read_0 : decode cX1_read 0 = .ok (.iload_n 1, 1) := by decide +kernel
theorem dX1_read_1 : decode cX1_read 1 = .ok (.iload_n 2, 1) := by decide +kernel
theorem dX1_read_2 : decode cX1_read 2 = .ok (.invokestatic 146, 3) := by decide +kernel
theorem dX1_read_5 : decode cX1_read 5 = .ok (.ifCond .eq 15, 3) := by decide +kernel
theorem dX1_read_8 : decode cX1_read 8 = .ok (.iload_n 3, 1) := by decide +kernel
theorem dX1_read_9 : decode cX1_read 9 = .ok (.i2l, 1) := by decide +kernel
theorem dX1_read_10 : decode cX1_read 10 = .ok (.lconst 0, 1) := by decide +kernel
theorem dX1_read_11 : decode cX1_read 11 = .ok (.ldc2_w 36, 3) := by decide +kernel
theorem dX1_read_14 : decode cX1_read 14 = .ok (.invokestatic 40, 3) := by decide +kernel
theorem dX1_read_17 : decode cX1_read 17 = .ok (.ifCond .ne 6, 3) := by decide +kernel
theorem dX1_read_20 : decode cX1_read 20 = .ok (.bipush (-2), 2) := by decide +kernel
theorem dX1_read_22 : decode cX1_read 22 = .ok (.ireturn, 1) := by decide +kernel
theorem dX1_read_23 : decode cX1_read 23 = .ok (.iload_n 3, 1) := by decide +kernel
theorem dX1_read_24 : decode cX1_read 24 = .ok (.ifCond .ne 14, 3) := by decide +kernel
theorem dX1_read_27 : decode cX1_read 27 = .ok (.aload_n 0, 1) := by decide +kernel
theorem dX1_read_28 : decode cX1_read 28 = .ok (.iload_n 1, 1) := by decide +kernel
theorem dX1_read_29 : decode cX1_read 29 = .ok (.i2l, 1) := by decide +kernel
theorem dX1_read_30 : decode cX1_read 30 = .ok (.iload_n 2, 1) := by decide +kernel
theorem dX1_read_31 : decode cX1_read 31 = .ok (.i2l, 1) := by decide +kernel
theorem dX1_read_32 : decode cX1_read 32 = .ok (.invokevirtual 140, 3) := by decide +kernel
theorem dX1_read_35 : decode cX1_read 35 = .ok (.goto 27, 3) := by decide +kernel
theorem dX1_read_38 : decode cX1_read 38 = .ok (.iload_n 3, 1) := by decide +kernel
theorem dX1_read_39 : decode cX1_read 39 = .ok (.iconst 1, 1) := by decide +kernel
theorem dX1_read_40 : decode cX1_read 40 = .ok (.if_icmp .ne 14, 3) := by decide +kernel
theorem dX1_read_43 : decode cX1_read 43 = .ok (.aload_n 0, 1) := by decide +kernel
theorem dX1_read_44 : decode cX1_read 44 = .ok (.iload_n 1, 1) := by decide +kernel
theorem dX1_read_45 : decode cX1_read 45 = .ok (.i2l, 1) := by decide +kernel
theorem dX1_read_46 : decode cX1_read 46 = .ok (.iload_n 2, 1) := by decide +kernel
theorem dX1_read_47 : decode cX1_read 47 = .ok (.i2l, 1) := by decide +kernel
theorem dX1_read_48 : decode cX1_read 48 = .ok (.invokevirtual 143, 3) := by decide +kernel
theorem dX1_read_51 : decode cX1_read 51 = .ok (.goto 11, 3) := by decide +kernel
theorem dX1_read_54 : decode cX1_read 54 = .ok (.aload_n 0, 1) := by decide +kernel
theorem dX1_read_55 : decode cX1_read 55 = .ok (.iload_n 1, 1) := by decide +kernel
theorem dX1_read_56 : decode cX1_read 56 = .ok (.i2l, 1) := by decide +kernel
theorem dX1_read_57 : decode cX1_read 57 = .ok (.iload_n 2, 1) := by decide +kernel
theorem dX1_read_58 : decode cX1_read 58 = .ok (.i2l, 1) := by decide +kernel
theorem dX1_read_59 : decode cX1_read 59 = .ok (.invokevirtual 149, 3) := by decide +kernel
theorem dX1_read_62 : decode cX1_read 62 = .ok (.l2i, 1) := by decide +kernel
theorem dX1_read_63 : decode cX1_read 63 = .ok (.ireturn, 1) := by decide +kernel
set_option maxRecDepth 20000 in
theorem ggX1_two_X1_isPlace : GoodIn wsX1_two wsX1_isPlace := goodIn_r _ [13, 6, 14, 15, 12, 16] (by decide +kernel) (by decide +kernel)
set_option maxRecDepth 20000 in
theorem gX1_two_X1_isPlace : GoodIn wsX1_two (va_wsS RX1 146 yX1_isPlace wsX1_isPlace) := goodIn_app (goodIn_of _ (by decide +kernel)) ggX1_two_X1_isPlace
set_option maxRecDepth 20000 in
theorem ggX1_two_X1_in : GoodIn wsX1_two wsX1_in := goodIn_r _ [16] (by decide +kernel) (by decide +kernel)
set_option maxRecDepth 20000 in
theorem gX1_two_X1_in : GoodIn wsX1_two (va_wsS RX1 40 yX1_in wsX1_in) := goodIn_app (goodIn_of _ (by decide +kernel)) ggX1_two_X1_in
set_option maxRecDepth 20000 in
theorem ggX1_two_X1_readOf : GoodIn wsX1_two wsX1_readOf := goodIn_r _ [20, 8, 21, 22, 23, 12, 24, 7, 25, 26, 27, 28, 5, 35, 36, 37, 38, 39, 40, 41, 42, 43] (by decide +kernel) (by decide +kernel)
set_option maxRecDepth 20000 in
theorem gX1_two_X1_readOf : GoodIn wsX1_two (wsV RX1 149 RX1 yX1_readOf wsX1_readOf) := goodIn_app (goodIn_of _ (by decide +kernel)) ggX1_two_X1_readOf
set_option maxRecDepth 20000 in
theorem ggX1_two_X1_term : GoodIn wsX1_two wsX1_term := goodIn_r _ [31, 32, 33, 12, 34] (by decide +kernel) (by decide +kernel)
set_option maxRecDepth 20000 in
theorem gX1_two_X1_term : GoodIn wsX1_two (va_wsS RX1 106 yX1_term wsX1_term) := goodIn_app (goodIn_of _ (by decide +kernel)) ggX1_two_X1_term
theorem dX1_two_0 : decode cX1_two 0 = .ok (.iload_n 1, 1) := by decide +kernel
theorem dX1_two_1 : decode cX1_two 1 = .ok (.iload_n 2, 1) := by decide +kernel
theorem dX1_two_2 : decode cX1_two 2 = .ok (.invokestatic 146, 3) := by decide +kernel
theorem dX1_two_5 : decode cX1_two 5 = .ok (.ifCond .eq 28, 3) := by decide +kernel
theorem dX1_two_8 : decode cX1_two 8 = .ok (.iload_n 3, 1) := by decide +kernel
theorem dX1_two_9 : decode cX1_two 9 = .ok (.i2l, 1) := by decide +kernel
theorem dX1_two_10 : decode cX1_two 10 = .ok (.ldc2_w 152, 3) := by decide +kernel
theorem dX1_two_13 : decode cX1_two 13 = .ok (.ldc2_w 38, 3) := by decide +kernel
theorem dX1_two_16 : decode cX1_two 16 = .ok (.invokestatic 40, 3) := by decide +kernel
theorem dX1_two_19 : decode cX1_two 19 = .ok (.ifCond .eq 14, 3) := by decide +kernel
theorem dX1_two_22 : decode cX1_two 22 = .ok (.iload 4, 2) := by decide +kernel
theorem dX1_two_24 : decode cX1_two 24 = .ok (.i2l, 1) := by decide +kernel
theorem dX1_two_25 : decode cX1_two 25 = .ok (.lconst 0, 1) := by decide +kernel
theorem dX1_two_26 : decode cX1_two 26 = .ok (.lconst 1, 1) := by decide +kernel
theorem dX1_two_27 : decode cX1_two 27 = .ok (.invokestatic 40, 3) := by decide +kernel
theorem dX1_two_30 : decode cX1_two 30 = .ok (.ifCond .ne 6, 3) := by decide +kernel
theorem dX1_two_33 : decode cX1_two 33 = .ok (.ldc 76, 2) := by decide +kernel
theorem dX1_two_35 : decode cX1_two 35 = .ok (.ireturn, 1) := by decide +kernel
theorem dX1_two_36 : decode cX1_two 36 = .ok (.ldc2_w 154, 3) := by decide +kernel
theorem dX1_two_39 : decode cX1_two 39 = .ok (.iload_n 2, 1) := by decide +kernel
theorem dX1_two_40 : decode cX1_two 40 = .ok (.i2l, 1) := by decide +kernel
theorem dX1_two_41 : decode cX1_two 41 = .ok (.lmul, 1) := by decide +kernel
theorem dX1_two_42 : decode cX1_two 42 = .ok (.lstore 5, 2) := by decide +kernel
theorem dX1_two_44 : decode cX1_two 44 = .ok (.ldc2_w 154, 3) := by decide +kernel
theorem dX1_two_47 : decode cX1_two 47 = .ok (.iload_n 1, 1) := by decide +kernel
theorem dX1_two_48 : decode cX1_two 48 = .ok (.i2l, 1) := by decide +kernel
theorem dX1_two_49 : decode cX1_two 49 = .ok (.lmul, 1) := by decide +kernel
theorem dX1_two_50 : decode cX1_two 50 = .ok (.ldc2_w 36, 3) := by decide +kernel
theorem dX1_two_53 : decode cX1_two 53 = .ok (.iload_n 3, 1) := by decide +kernel
theorem dX1_two_54 : decode cX1_two 54 = .ok (.i2l, 1) := by decide +kernel
theorem dX1_two_55 : decode cX1_two 55 = .ok (.lmul, 1) := by decide +kernel
theorem dX1_two_56 : decode cX1_two 56 = .ok (.iload_n 2, 1) := by decide +kernel
theorem dX1_two_57 : decode cX1_two 57 = .ok (.i2l, 1) := by decide +kernel
theorem dX1_two_58 : decode cX1_two 58 = .ok (.lmul, 1) := by decide +kernel
theorem dX1_two_59 : decode cX1_two 59 = .ok (.ladd, 1) := by decide +kernel
theorem dX1_two_60 : decode cX1_two 60 = .ok (.lload 5, 2) := by decide +kernel
theorem dX1_two_62 : decode cX1_two 62 = .ok (.ladd, 1) := by decide +kernel
theorem dX1_two_63 : decode cX1_two 63 = .ok (.lload 5, 2) := by decide +kernel
theorem dX1_two_65 : decode cX1_two 65 = .ok (.lrem, 1) := by decide +kernel
theorem dX1_two_66 : decode cX1_two 66 = .ok (.lstore 7, 2) := by decide +kernel
theorem dX1_two_68 : decode cX1_two 68 = .ok (.ldc2_w 154, 3) := by decide +kernel
theorem dX1_two_71 : decode cX1_two 71 = .ok (.iload_n 1, 1) := by decide +kernel
theorem dX1_two_72 : decode cX1_two 72 = .ok (.i2l, 1) := by decide +kernel
theorem dX1_two_73 : decode cX1_two 73 = .ok (.lmul, 1) := by decide +kernel
theorem dX1_two_74 : decode cX1_two 74 = .ok (.ldc2_w 86, 3) := by decide +kernel
theorem dX1_two_77 : decode cX1_two 77 = .ok (.iload_n 2, 1) := by decide +kernel
theorem dX1_two_78 : decode cX1_two 78 = .ok (.i2l, 1) := by decide +kernel
theorem dX1_two_79 : decode cX1_two 79 = .ok (.lmul, 1) := by decide +kernel
theorem dX1_two_80 : decode cX1_two 80 = .ok (.ladd, 1) := by decide +kernel
theorem dX1_two_81 : decode cX1_two 81 = .ok (.ldc2_w 36, 3) := by decide +kernel
theorem dX1_two_84 : decode cX1_two 84 = .ok (.iload_n 3, 1) := by decide +kernel
theorem dX1_two_85 : decode cX1_two 85 = .ok (.i2l, 1) := by decide +kernel
theorem dX1_two_86 : decode cX1_two 86 = .ok (.lmul, 1) := by decide +kernel
theorem dX1_two_87 : decode cX1_two 87 = .ok (.iload_n 2, 1) := by decide +kernel
theorem dX1_two_88 : decode cX1_two 88 = .ok (.i2l, 1) := by decide +kernel
theorem dX1_two_89 : decode cX1_two 89 = .ok (.lmul, 1) := by decide +kernel
theorem dX1_two_90 : decode cX1_two 90 = .ok (.lsub, 1) := by decide +kernel
theorem dX1_two_91 : decode cX1_two 91 = .ok (.lload 5, 2) := by decide +kernel
theorem dX1_two_93 : decode cX1_two 93 = .ok (.ladd, 1) := by decide +kernel
theorem dX1_two_94 : decode cX1_two 94 = .ok (.lload 5, 2) := by decide +kernel
theorem dX1_two_96 : decode cX1_two 96 = .ok (.lrem, 1) := by decide +kernel
theorem dX1_two_97 : decode cX1_two 97 = .ok (.lstore 9, 2) := by decide +kernel
theorem dX1_two_99 : decode cX1_two 99 = .ok (.aload_n 0, 1) := by decide +kernel
theorem dX1_two_100 : decode cX1_two 100 = .ok (.lload 7, 2) := by decide +kernel
theorem dX1_two_102 : decode cX1_two 102 = .ok (.lload 5, 2) := by decide +kernel
theorem dX1_two_104 : decode cX1_two 104 = .ok (.invokevirtual 149, 3) := by decide +kernel
theorem dX1_two_107 : decode cX1_two 107 = .ok (.lstore 11, 2) := by decide +kernel
theorem dX1_two_109 : decode cX1_two 109 = .ok (.aload_n 0, 1) := by decide +kernel
theorem dX1_two_110 : decode cX1_two 110 = .ok (.lload 9, 2) := by decide +kernel
theorem dX1_two_112 : decode cX1_two 112 = .ok (.lload 5, 2) := by decide +kernel
theorem dX1_two_114 : decode cX1_two 114 = .ok (.invokevirtual 149, 3) := by decide +kernel
theorem dX1_two_117 : decode cX1_two 117 = .ok (.lstore 13, 2) := by decide +kernel
theorem dX1_two_119 : decode cX1_two 119 = .ok (.aload_n 0, 1) := by decide +kernel
theorem dX1_two_120 : decode cX1_two 120 = .ok (.getfield 23, 3) := by decide +kernel
theorem dX1_two_123 : decode cX1_two 123 = .ok (.i2l, 1) := by decide +kernel
theorem dX1_two_124 : decode cX1_two 124 = .ok (.aload_n 0, 1) := by decide +kernel
theorem dX1_two_125 : decode cX1_two 125 = .ok (.getfield 26, 3) := by decide +kernel
theorem dX1_two_128 : decode cX1_two 128 = .ok (.i2l, 1) := by decide +kernel
theorem dX1_two_129 : decode cX1_two 129 = .ok (.lmul, 1) := by decide +kernel
theorem dX1_two_130 : decode cX1_two 130 = .ok (.lstore 15, 2) := by decide +kernel
theorem dX1_two_132 : decode cX1_two 132 = .ok (.ldc2_w 36, 3) := by decide +kernel
theorem dX1_two_135 : decode cX1_two 135 = .ok (.lload 11, 2) := by decide +kernel
theorem dX1_two_137 : decode cX1_two 137 = .ok (.lload 13, 2) := by decide +kernel
theorem dX1_two_139 : decode cX1_two 139 = .ok (.ladd, 1) := by decide +kernel
theorem dX1_two_140 : decode cX1_two 140 = .ok (.lmul, 1) := by decide +kernel
theorem dX1_two_141 : decode cX1_two 141 = .ok (.lload 11, 2) := by decide +kernel
theorem dX1_two_143 : decode cX1_two 143 = .ok (.lload 13, 2) := by decide +kernel
theorem dX1_two_145 : decode cX1_two 145 = .ok (.lcmp, 1) := by decide +kernel
theorem dX1_two_146 : decode cX1_two 146 = .ok (.ifCond .le 8, 3) := by decide +kernel
theorem dX1_two_149 : decode cX1_two 149 = .ok (.lload 15, 2) := by decide +kernel
theorem dX1_two_151 : decode cX1_two 151 = .ok (.goto 6, 3) := by decide +kernel
theorem dX1_two_154 : decode cX1_two 154 = .ok (.lload 15, 2) := by decide +kernel
theorem dX1_two_156 : decode cX1_two 156 = .ok (.lneg, 1) := by decide +kernel
theorem dX1_two_157 : decode cX1_two 157 = .ok (.ladd, 1) := by decide +kernel
theorem dX1_two_158 : decode cX1_two 158 = .ok (.ldc2_w 156, 3) := by decide +kernel
theorem dX1_two_161 : decode cX1_two 161 = .ok (.iload 4, 2) := by decide +kernel
theorem dX1_two_163 : decode cX1_two 163 = .ok (.invokestatic 106, 3) := by decide +kernel
theorem dX1_two_166 : decode cX1_two 166 = .ok (.ireturn, 1) := by decide +kernel
theorem dX1_told_0 : decode cX1_told 0 = .ok (.iload_n 1, 1) := by decide +kernel
theorem dX1_told_1 : decode cX1_told 1 = .ok (.tableswitch 60 0 4 #[35, 40, 45, 50, 55], 35) := by decide +kernel
theorem dX1_told_36 : decode cX1_told 36 = .ok (.aload_n 0, 1) := by decide +kernel
theorem dX1_told_37 : decode cX1_told 37 = .ok (.getfield 7, 3) := by decide +kernel
theorem dX1_told_40 : decode cX1_told 40 = .ok (.ireturn, 1) := by decide +kernel
theorem dX1_told_41 : decode cX1_told 41 = .ok (.aload_n 0, 1) := by decide +kernel
theorem dX1_told_42 : decode cX1_told 42 = .ok (.getfield 44, 3) := by decide +kernel
theorem dX1_told_45 : decode cX1_told 45 = .ok (.ireturn, 1) := by decide +kernel
theorem dX1_told_46 : decode cX1_told 46 = .ok (.aload_n 0, 1) := by decide +kernel
theorem dX1_told_47 : decode cX1_told 47 = .ok (.getfield 47, 3) := by decide +kernel
theorem dX1_told_50 : decode cX1_told 50 = .ok (.ireturn, 1) := by decide +kernel
theorem dX1_told_51 : decode cX1_told 51 = .ok (.aload_n 0, 1) := by decide +kernel
theorem dX1_told_52 : decode cX1_told 52 = .ok (.getfield 23, 3) := by decide +kernel
theorem dX1_told_55 : decode cX1_told 55 = .ok (.ireturn, 1) := by decide +kernel
theorem dX1_told_56 : decode cX1_told 56 = .ok (.aload_n 0, 1) := by decide +kernel
theorem dX1_told_57 : decode cX1_told 57 = .ok (.getfield 26, 3) := by decide +kernel
theorem dX1_told_60 : decode cX1_told 60 = .ok (.ireturn, 1) := by decide +kernel
theorem dX1_told_61 : decode cX1_told 61 = .ok (.bipush (-2), 2) := by decide +kernel
theorem dX1_told_63 : decode cX1_told 63 = .ok (.ireturn, 1) := by decide +kernel
theorem dJ9_floorMod_f86c9_0 : decode cJ9_floorMod_f86c9 0 = .ok (.lload_n 0, 1) := by decide +kernel
theorem dJ9_floorMod_f86c9_1 : decode cJ9_floorMod_f86c9 1 = .ok (.lload_n 2, 1) := by decide +kernel
theorem dJ9_floorMod_f86c9_2 : decode cJ9_floorMod_f86c9 2 = .ok (.lrem, 1) := by decide +kernel
theorem dJ9_floorMod_f86c9_3 : decode cJ9_floorMod_f86c9 3 = .ok (.lstore 4, 2) := by decide +kernel
theorem dJ9_floorMod_f86c9_5 : decode cJ9_floorMod_f86c9 5 = .ok (.lload_n 0, 1) := by decide +kernel
theorem dJ9_floorMod_f86c9_6 : decode cJ9_floorMod_f86c9 6 = .ok (.lload_n 2, 1) := by decide +kernel
theorem dJ9_floorMod_f86c9_7 : decode cJ9_floorMod_f86c9 7 = .ok (.lxor, 1) := by decide +kernel
theorem dJ9_floorMod_f86c9_8 : decode cJ9_floorMod_f86c9 8 = .ok (.lconst 0, 1) := by decide +kernel
theorem dJ9_floorMod_f86c9_9 : decode cJ9_floorMod_f86c9 9 = .ok (.lcmp, 1) := by decide +kernel
theorem dJ9_floorMod_f86c9_10 : decode cJ9_floorMod_f86c9 10 = .ok (.ifCond .ge 15, 3) := by decide +kernel
theorem dJ9_floorMod_f86c9_13 : decode cJ9_floorMod_f86c9 13 = .ok (.lload 4, 2) := by decide +kernel
theorem dJ9_floorMod_f86c9_15 : decode cJ9_floorMod_f86c9 15 = .ok (.lconst 0, 1) := by decide +kernel
theorem dJ9_floorMod_f86c9_16 : decode cJ9_floorMod_f86c9 16 = .ok (.lcmp, 1) := by decide +kernel
theorem dJ9_floorMod_f86c9_17 : decode cJ9_floorMod_f86c9 17 = .ok (.ifCond .eq 8, 3) := by decide +kernel
theorem dJ9_floorMod_f86c9_20 : decode cJ9_floorMod_f86c9 20 = .ok (.lload 4, 2) := by decide +kernel
theorem dJ9_floorMod_f86c9_22 : decode cJ9_floorMod_f86c9 22 = .ok (.lload_n 2, 1) := by decide +kernel
theorem dJ9_floorMod_f86c9_23 : decode cJ9_floorMod_f86c9 23 = .ok (.ladd, 1) := by decide +kernel
theorem dJ9_floorMod_f86c9_24 : decode cJ9_floorMod_f86c9 24 = .ok (.lreturn, 1) := by decide +kernel
theorem dJ9_floorMod_f86c9_25 : decode cJ9_floorMod_f86c9 25 = .ok (.lload 4, 2) := by decide +kernel
theorem dJ9_floorMod_f86c9_27 : decode cJ9_floorMod_f86c9 27 = .ok (.lreturn, 1) := by decide +kernel
theorem dJ9_abs_0f7a4_0 : decode cJ9_abs_0f7a4 0 = .ok (.iload_n 0, 1) := by decide +kernel
theorem dJ9_abs_0f7a4_1 : decode cJ9_abs_0f7a4 1 = .ok (.ifCond .ge 8, 3) := by decide +kernel
theorem dJ9_abs_0f7a4_4 : decode cJ9_abs_0f7a4 4 = .ok (.iload_n 0, 1) := by decide +kernel
theorem dJ9_abs_0f7a4_5 : decode cJ9_abs_0f7a4 5 = .ok (.ineg, 1) := by decide +kernel
theorem dJ9_abs_0f7a4_6 : decode cJ9_abs_0f7a4 6 = .ok (.goto 4, 3) := by decide +kernel
theorem dJ9_abs_0f7a4_9 : decode cJ9_abs_0f7a4 9 = .ok (.iload_n 0, 1) := by decide +kernel
theorem dJ9_abs_0f7a4_10 : decode cJ9_abs_0f7a4 10 = .ok (.ireturn, 1) := by decide +kernel
theorem dJ9_abs_067f4_0 : decode cJ9_abs_067f4 0 = .ok (.lload_n 0, 1) := by decide +kernel
theorem dJ9_abs_067f4_1 : decode cJ9_abs_067f4 1 = .ok (.lconst 0, 1) := by decide +kernel
theorem dJ9_abs_067f4_2 : decode cJ9_abs_067f4 2 = .ok (.lcmp, 1) := by decide +kernel
theorem dJ9_abs_067f4_3 : decode cJ9_abs_067f4 3 = .ok (.ifCond .ge 8, 3) := by decide +kernel
theorem dJ9_abs_067f4_6 : decode cJ9_abs_067f4 6 = .ok (.lload_n 0, 1) := by decide +kernel
theorem dJ9_abs_067f4_7 : decode cJ9_abs_067f4 7 = .ok (.lneg, 1) := by decide +kernel
theorem dJ9_abs_067f4_8 : decode cJ9_abs_067f4 8 = .ok (.goto 4, 3) := by decide +kernel
theorem dJ9_abs_067f4_11 : decode cJ9_abs_067f4 11 = .ok (.lload_n 0, 1) := by decide +kernel
theorem dJ9_abs_067f4_12 : decode cJ9_abs_067f4 12 = .ok (.lreturn, 1) := by decide +kernel
theorem dJ9_max_7cf53_0 : decode cJ9_max_7cf53 0 = .ok (.iload_n 0, 1) := by decide +kernel
theorem dJ9_max_7cf53_1 : decode cJ9_max_7cf53 1 = .ok (.iload_n 1, 1) := by decide +kernel
theorem dJ9_max_7cf53_2 : decode cJ9_max_7cf53 2 = .ok (.if_icmp .lt 7, 3) := by decide +kernel
theorem dJ9_max_7cf53_5 : decode cJ9_max_7cf53 5 = .ok (.iload_n 0, 1) := by decide +kernel
theorem dJ9_max_7cf53_6 : decode cJ9_max_7cf53 6 = .ok (.goto 4, 3) := by decide +kernel
theorem dJ9_max_7cf53_9 : decode cJ9_max_7cf53 9 = .ok (.iload_n 1, 1) := by decide +kernel
theorem dJ9_max_7cf53_10 : decode cJ9_max_7cf53 10 = .ok (.ireturn, 1) := by decide +kernel
end
section
set_option maxRecDepth 20000 in
theorem ggL_law_X0_init : GoodIn wsL_law wsX0_init := goodIn_r _ [8, 9, 10, 11, 12, 13, 14, 15, 16, 17, 18, 19, 450, 451, 452, 453, 454, 455, 456, 457, 458] (by decide +kernel) (by decide +kernel)
set_option maxRecDepth 20000 in
theorem gL_law_X0_init : GoodIn wsL_law (wsX0_init) := ggL_law_X0_init
set_option maxRecDepth 20000 in
theorem ggL_law_X1_init : GoodIn wsL_law wsX1_init := goodIn_r _ [22, 23, 10, 11, 24, 12, 25, 26, 27, 28, 29, 30, 459, 460, 461, 462, 463, 464, 465, 466, 467] (by decide +kernel) (by decide +kernel)
set_option maxRecDepth 20000 in
theorem gL_law_X1_init : GoodIn wsL_law (wsX1_init) := ggL_law_X1_init
set_option maxRecDepth 20000 in
theorem ggL_law_X0_wheel : GoodIn wsL_law wsX0_wheel := goodIn_r _ [34, 17, 35, 36, 2, 37, 450, 451, 452, 453, 454, 455, 456, 457, 458] (by decide +kernel) (by decide +kernel)
set_option maxRecDepth 20000 in
theorem gL_law_X0_wheel : GoodIn wsL_law (wsV RL 13 RX0 yX0_wheel wsX0_wheel) := goodIn_app (goodIn_of _ (by decide +kernel)) ggL_law_X0_wheel
set_option maxRecDepth 20000 in
theorem ggL_law_X1_wheel : GoodIn wsL_law wsX1_wheel := goodIn_r _ [41, 42, 43, 24, 44, 45, 5, 46, 459, 460, 461, 462, 463, 464, 465, 466, 467] (by decide +kernel) (by decide +kernel)
set_option maxRecDepth 20000 in
theorem gL_law_X1_wheel : GoodIn wsL_law (wsV RL 17 RX1 yX1_wheel wsX1_wheel) := goodIn_app (goodIn_of _ (by decide +kernel)) ggL_law_X1_wheel
set_option maxRecDepth 20000 in
theorem ggL_law_X0_circle : GoodIn wsL_law wsX0_circle := goodIn_r _ [50, 51, 13, 35, 36, 2, 37, 52, 53, 54, 55, 450, 451, 452, 453, 454, 455, 456, 457, 458] (by decide +kernel) (by decide +kernel)
set_option maxRecDepth 20000 in
theorem gL_law_X0_circle : GoodIn wsL_law (wsV RL 18 RX0 yX0_circle wsX0_circle) := goodIn_app (goodIn_of _ (by decide +kernel)) ggL_law_X0_circle
set_option maxRecDepth 20000 in
theorem ggL_law_X1_circle : GoodIn wsL_law wsX1_circle := goodIn_r _ [59, 60, 61, 62, 25, 44, 45, 5, 46, 459, 460, 461, 462, 463, 464, 465, 466, 467] (by decide +kernel) (by decide +kernel)
set_option maxRecDepth 20000 in
theorem gL_law_X1_circle : GoodIn wsL_law (wsV RL 21 RX1 yX1_circle wsX1_circle) := goodIn_app (goodIn_of _ (by decide +kernel)) ggL_law_X1_circle
set_option maxRecDepth 20000 in
theorem ggL_law_X0_holes : GoodIn wsL_law wsX0_holes := goodIn_r _ [66, 67, 68, 69, 2, 70, 51, 13, 450, 451, 452, 453, 454, 455, 456, 457, 458] (by decide +kernel) (by decide +kernel)
set_option maxRecDepth 20000 in
theorem gL_law_X0_holes : GoodIn wsL_law (wsV RL 22 RX0 yX0_holes wsX0_holes) := goodIn_app (goodIn_of _ (by decide +kernel)) ggL_law_X0_holes
set_option maxRecDepth 20000 in
theorem ggL_law_X1_holes : GoodIn wsL_law wsX1_holes := goodIn_r _ [74, 25, 75, 76, 77, 5, 78, 62, 44, 45, 46, 459, 460, 461, 462, 463, 464, 465, 466, 467] (by decide +kernel) (by decide +kernel)
set_option maxRecDepth 20000 in
theorem gL_law_X1_holes : GoodIn wsL_law (wsV RL 25 RX1 yX1_holes wsX1_holes) := goodIn_app (goodIn_of _ (by decide +kernel)) ggL_law_X1_holes
set_option maxRecDepth 20000 in
theorem ggL_law_X0_gear : GoodIn wsL_law wsX0_gear := goodIn_r _ [82, 83, 14, 35, 36, 2, 37, 450, 451, 452, 453, 454, 455, 456, 457, 458] (by decide +kernel) (by decide +kernel)
set_option maxRecDepth 20000 in
theorem gL_law_X0_gear : GoodIn wsL_law (wsV RL 26 RX0 yX0_gear wsX0_gear) := goodIn_app (goodIn_of _ (by decide +kernel)) ggL_law_X0_gear
set_option maxRecDepth 20000 in
theorem ggL_law_X1_gear : GoodIn wsL_law wsX1_gear := goodIn_r _ [87, 88, 61, 89, 26, 44, 45, 5, 46, 459, 460, 461, 462, 463, 464, 465, 466, 467] (by decide +kernel) (by decide +kernel)
set_option maxRecDepth 20000 in
theorem gL_law_X1_gear : GoodIn wsL_law (wsV RL 29 RX1 yX1_gear wsX1_gear) := goodIn_app (goodIn_of _ (by decide +kernel)) ggL_law_X1_gear
set_option maxRecDepth 20000 in
theorem ggL_law_X0_teeth : GoodIn wsL_law wsX0_teeth := goodIn_r _ [93, 83, 14, 450, 451, 452, 453, 454, 455, 456, 457, 458] (by decide +kernel) (by decide +kernel)
set_option maxRecDepth 20000 in
theorem gL_law_X0_teeth : GoodIn wsL_law (wsV RL 30 RX0 yX0_teeth wsX0_teeth) := goodIn_app (goodIn_of _ (by decide +kernel)) ggL_law_X0_teeth
set_option maxRecDepth 20000 in
theorem ggL_law_X1_teeth : GoodIn wsL_law wsX1_teeth := goodIn_r _ [97, 26, 98, 99, 100, 5, 101, 89, 44, 45, 46, 459, 460, 461, 462, 463, 464, 465, 466, 467] (by decide +kernel) (by decide +kernel)
set_option maxRecDepth 20000 in
theorem gL_law_X1_teeth : GoodIn wsL_law (wsV RL 33 RX1 yX1_teeth wsX1_teeth) := goodIn_app (goodIn_of _ (by decide +kernel)) ggL_law_X1_teeth
set_option maxRecDepth 20000 in
theorem ggL_law_X0_plain : GoodIn wsL_law wsX0_plain := goodIn_r _ [105, 17, 106, 107, 2, 108, 35, 36, 37, 109, 110, 111, 112, 51, 13, 113, 114, 115, 67, 68, 69, 70, 450, 451, 452, 453, 454, 455, 456, 457, 458] (by decide +kernel) (by decide +kernel)
set_option maxRecDepth 20000 in
theorem gL_law_X0_plain : GoodIn wsL_law (wsV RL 34 RX0 yX0_plain wsX0_plain) := goodIn_app (goodIn_of _ (by decide +kernel)) ggL_law_X0_plain
set_option maxRecDepth 20000 in
theorem ggL_law_X1_plain : GoodIn wsL_law wsX1_plain := goodIn_r _ [119, 120, 24, 25, 121, 122, 5, 123, 124, 44, 45, 46, 125, 126, 127, 128, 62, 459, 460, 461, 462, 463, 464, 465, 466, 467] (by decide +kernel) (by decide +kernel)
set_option maxRecDepth 20000 in
theorem gL_law_X1_plain : GoodIn wsL_law (wsV RL 38 RX1 yX1_plain wsX1_plain) := goodIn_app (goodIn_of _ (by decide +kernel)) ggL_law_X1_plain
set_option maxRecDepth 20000 in
theorem ggL_law_X0_compound : GoodIn wsL_law wsX0_compound := goodIn_r _ [132, 133, 51, 13, 134, 106, 107, 2, 108, 35, 36, 37, 135, 136, 137, 138, 139, 140, 141, 142, 17, 113, 114, 115, 143, 144, 145, 146, 450, 451, 452, 453, 454, 455, 456, 457, 458] (by decide +kernel) (by decide +kernel)
set_option maxRecDepth 20000 in
theorem gL_law_X0_compound : GoodIn wsL_law (wsV RL 39 RX0 yX0_compound wsX0_compound) := goodIn_app (goodIn_of _ (by decide +kernel)) ggL_law_X0_compound
set_option maxRecDepth 20000 in
theorem ggL_law_X1_compound : GoodIn wsL_law wsX1_compound := goodIn_r _ [150, 151, 152, 62, 25, 153, 121, 122, 5, 123, 120, 124, 44, 45, 46, 154, 155, 156, 157, 24, 459, 460, 461, 462, 463, 464, 465, 466, 467] (by decide +kernel) (by decide +kernel)
set_option maxRecDepth 20000 in
theorem gL_law_X1_compound : GoodIn wsL_law (wsV RL 42 RX1 yX1_compound wsX1_compound) := goodIn_app (goodIn_of _ (by decide +kernel)) ggL_law_X1_compound
set_option maxRecDepth 20000 in
theorem ggL_law_X0_differential : GoodIn wsL_law wsX0_differential := goodIn_r _ [161, 16, 106, 107, 2, 108, 35, 36, 37, 162, 163, 164, 165, 166, 167, 168, 169, 170, 171, 172, 173, 17, 109, 110, 111, 112, 51, 13, 113, 114, 115, 174, 175, 176, 177, 178, 179, 180, 181, 83, 14, 182, 183, 184, 185, 186, 187, 188, 189, 190, 191, 192, 193, 194, 195, 196, 197, 450, 451, 452, 453, 454, 455, 456, 457, 458] (by decide +kernel) (by decide +kernel)
set_option maxRecDepth 20000 in
theorem gL_law_X0_differential : GoodIn wsL_law (wsV RL 43 RX0 yX0_differential wsX0_differential) := goodIn_app (goodIn_of _ (by decide +kernel)) ggL_law_X0_differential
set_option maxRecDepth 20000 in
theorem ggL_law_X1_differential : GoodIn wsL_law wsX1_differential := goodIn_r _ [201, 202, 24, 30, 121, 122, 5, 123, 120, 124, 44, 45, 46, 125, 126, 127, 128, 62, 25, 203, 204, 205, 206, 89, 26, 207, 208, 209, 210, 459, 460, 461, 462, 463, 464, 465, 466, 467] (by decide +kernel) (by decide +kernel)
set_option maxRecDepth 20000 in
theorem gL_law_X1_differential : GoodIn wsL_law (wsV RL 46 RX1 yX1_differential wsX1_differential) := goodIn_app (goodIn_of _ (by decide +kernel)) ggL_law_X1_differential
set_option maxRecDepth 20000 in
theorem ggL_law_X0_train : GoodIn wsL_law wsX0_train := goodIn_r _ [214, 16, 215, 216, 2, 217, 218, 35, 36, 37, 174, 175, 176, 177, 178, 179, 180, 181, 83, 14, 113, 114, 115, 182, 183, 184, 185, 186, 187, 188, 189, 190, 191, 192, 193, 194, 195, 196, 197, 450, 451, 452, 453, 454, 455, 456, 457, 458] (by decide +kernel) (by decide +kernel)
set_option maxRecDepth 20000 in
theorem gL_law_X0_train : GoodIn wsL_law (wsV RL 47 RX0 yX0_train wsX0_train) := goodIn_app (goodIn_of _ (by decide +kernel)) ggL_law_X0_train
set_option maxRecDepth 20000 in
theorem ggL_law_X1_train : GoodIn wsL_law wsX1_train := goodIn_r _ [222, 223, 151, 30, 44, 45, 5, 46, 203, 204, 205, 206, 89, 26, 207, 208, 209, 210, 459, 460, 461, 462, 463, 464, 465, 466, 467] (by decide +kernel) (by decide +kernel)
set_option maxRecDepth 20000 in
theorem gL_law_X1_train : GoodIn wsL_law (wsV RL 51 RX1 yX1_train wsX1_train) := goodIn_app (goodIn_of _ (by decide +kernel)) ggL_law_X1_train
set_option maxRecDepth 20000 in
theorem ggL_law_X0_hole : GoodIn wsL_law wsX0_hole := goodIn_r _ [227, 67, 68, 69, 2, 70, 51, 13, 106, 107, 108, 35, 36, 37, 228, 229, 230, 231, 17, 232, 233, 234, 235, 450, 451, 452, 453, 454, 455, 456, 457, 458] (by decide +kernel) (by decide +kernel)
set_option maxRecDepth 20000 in
theorem gL_law_X0_hole : GoodIn wsL_law (wsV RL 52 RX0 yX0_hole wsX0_hole) := goodIn_app (goodIn_of _ (by decide +kernel)) ggL_law_X0_hole
set_option maxRecDepth 20000 in
theorem ggL_law_X1_hole : GoodIn wsL_law wsX1_hole := goodIn_r _ [239, 75, 76, 77, 5, 78, 62, 44, 45, 46, 240, 241, 242, 121, 122, 123, 120, 124, 243, 244, 245, 246, 24, 25, 459, 460, 461, 462, 463, 464, 465, 466, 467] (by decide +kernel) (by decide +kernel)
set_option maxRecDepth 20000 in
theorem gL_law_X1_hole : GoodIn wsL_law (wsV RL 55 RX1 yX1_hole wsX1_hole) := goodIn_app (goodIn_of _ (by decide +kernel)) ggL_law_X1_hole
set_option maxRecDepth 20000 in
theorem ggL_law_X0_miss : GoodIn wsL_law wsX0_miss := goodIn_r _ [250, 251, 133, 67, 68, 69, 2, 70, 51, 13, 106, 107, 108, 35, 36, 37, 252, 253, 254, 255, 17, 228, 229, 230, 231, 232, 233, 234, 235, 256, 257, 258, 259, 260, 172, 261, 262, 263, 264, 450, 451, 452, 453, 454, 455, 456, 457, 458] (by decide +kernel) (by decide +kernel)
set_option maxRecDepth 20000 in
theorem gL_law_X0_miss : GoodIn wsL_law (wsV RL 56 RX0 yX0_miss wsX0_miss) := goodIn_app (goodIn_of _ (by decide +kernel)) ggL_law_X0_miss
set_option maxRecDepth 20000 in
theorem ggL_law_X1_miss : GoodIn wsL_law wsX1_miss := goodIn_r _ [268, 269, 152, 75, 76, 77, 5, 78, 62, 44, 45, 46, 240, 241, 242, 121, 122, 123, 120, 124, 270, 271, 272, 273, 24, 25, 243, 244, 245, 246, 274, 275, 276, 277, 278, 279, 459, 460, 461, 462, 463, 464, 465, 466, 467] (by decide +kernel) (by decide +kernel)
set_option maxRecDepth 20000 in
theorem gL_law_X1_miss : GoodIn wsL_law (wsV RL 60 RX1 yX1_miss wsX1_miss) := goodIn_app (goodIn_of _ (by decide +kernel)) ggL_law_X1_miss
set_option maxRecDepth 20000 in
theorem ggL_law_X0_worst : GoodIn wsL_law wsX0_worst := goodIn_r _ [283, 67, 68, 69, 2, 70, 51, 13, 106, 107, 108, 35, 36, 37, 284, 285, 286, 287, 252, 253, 254, 255, 17, 228, 229, 230, 231, 232, 233, 234, 235, 288, 289, 290, 291, 170, 171, 172, 173, 292, 293, 294, 256, 257, 258, 259, 260, 261, 262, 263, 264, 450, 451, 452, 453, 454, 455, 456, 457, 458] (by decide +kernel) (by decide +kernel)
set_option maxRecDepth 20000 in
theorem gL_law_X0_worst : GoodIn wsL_law (wsV RL 61 RX0 yX0_worst wsX0_worst) := goodIn_app (goodIn_of _ (by decide +kernel)) ggL_law_X0_worst
set_option maxRecDepth 20000 in
theorem ggL_law_X1_worst : GoodIn wsL_law wsX1_worst := goodIn_r _ [298, 120, 75, 76, 77, 5, 78, 62, 44, 45, 46, 121, 122, 123, 124, 299, 300, 301, 302, 270, 271, 272, 273, 24, 25, 243, 244, 245, 246, 303, 304, 305, 306, 274, 275, 276, 277, 278, 279, 459, 460, 461, 462, 463, 464, 465, 466, 467] (by decide +kernel) (by decide +kernel)
set_option maxRecDepth 20000 in
theorem gL_law_X1_worst : GoodIn wsL_law (wsV RL 64 RX1 yX1_worst wsX1_worst) := goodIn_app (goodIn_of _ (by decide +kernel)) ggL_law_X1_worst
set_option maxRecDepth 20000 in
theorem ggL_law_X0_best : GoodIn wsL_law wsX0_best := goodIn_r _ [310, 51, 13, 106, 107, 2, 108, 35, 36, 37, 288, 289, 290, 291, 170, 171, 172, 173, 292, 293, 294, 252, 253, 254, 255, 17, 228, 229, 230, 231, 232, 233, 234, 235, 450, 451, 452, 453, 454, 455, 456, 457, 458] (by decide +kernel) (by decide +kernel)
set_option maxRecDepth 20000 in
theorem gL_law_X0_best : GoodIn wsL_law (wsV RL 65 RX0 yX0_best wsX0_best) := goodIn_app (goodIn_of _ (by decide +kernel)) ggL_law_X0_best
set_option maxRecDepth 20000 in
theorem ggL_law_X1_best : GoodIn wsL_law wsX1_best := goodIn_r _ [314, 62, 25, 121, 122, 5, 123, 120, 124, 44, 45, 46, 303, 304, 305, 306, 270, 271, 272, 273, 24, 243, 244, 245, 246, 459, 460, 461, 462, 463, 464, 465, 466, 467] (by decide +kernel) (by decide +kernel)
set_option maxRecDepth 20000 in
theorem gL_law_X1_best : GoodIn wsL_law (wsV RL 68 RX1 yX1_best wsX1_best) := goodIn_app (goodIn_of _ (by decide +kernel)) ggL_law_X1_best
set_option maxRecDepth 20000 in
theorem ggL_law_X0_error : GoodIn wsL_law wsX0_error := goodIn_r _ [318, 15, 35, 36, 2, 37, 450, 451, 452, 453, 454, 455, 456, 457, 458] (by decide +kernel) (by decide +kernel)
set_option maxRecDepth 20000 in
theorem gL_law_X0_error : GoodIn wsL_law (wsV RL 69 RX0 yX0_error wsX0_error) := goodIn_app (goodIn_of _ (by decide +kernel)) ggL_law_X0_error
set_option maxRecDepth 20000 in
theorem ggL_law_X1_error : GoodIn wsL_law wsX1_error := goodIn_r _ [322, 323, 324, 325, 27, 44, 45, 5, 46, 459, 460, 461, 462, 463, 464, 465, 466, 467] (by decide +kernel) (by decide +kernel)
set_option maxRecDepth 20000 in
theorem gL_law_X1_error : GoodIn wsL_law (wsV RL 72 RX1 yX1_error wsX1_error) := goodIn_app (goodIn_of _ (by decide +kernel)) ggL_law_X1_error
set_option maxRecDepth 20000 in
theorem ggL_law_X0_spoilt : GoodIn wsL_law wsX0_spoilt := goodIn_r _ [329, 251, 133, 67, 68, 69, 2, 70, 51, 13, 330, 331, 332, 333, 35, 36, 37, 334, 335, 336, 337, 15, 256, 257, 258, 259, 260, 172, 261, 262, 263, 264, 450, 451, 452, 453, 454, 455, 456, 457, 458] (by decide +kernel) (by decide +kernel)
set_option maxRecDepth 20000 in
theorem gL_law_X0_spoilt : GoodIn wsL_law (wsV RL 73 RX0 yX0_spoilt wsX0_spoilt) := goodIn_app (goodIn_of _ (by decide +kernel)) ggL_law_X0_spoilt
set_option maxRecDepth 20000 in
theorem ggL_law_X1_spoilt : GoodIn wsL_law wsX1_spoilt := goodIn_r _ [341, 269, 342, 152, 25, 75, 76, 77, 5, 78, 62, 44, 45, 46, 343, 344, 345, 346, 347, 348, 349, 350, 351, 27, 274, 275, 276, 277, 278, 279, 459, 460, 461, 462, 463, 464, 465, 466, 467] (by decide +kernel) (by decide +kernel)
set_option maxRecDepth 20000 in
theorem gL_law_X1_spoilt : GoodIn wsL_law (wsV RL 76 RX1 yX1_spoilt wsX1_spoilt) := goodIn_app (goodIn_of _ (by decide +kernel)) ggL_law_X1_spoilt
set_option maxRecDepth 20000 in
theorem ggL_law_X0_extreme : GoodIn wsL_law wsX0_extreme := goodIn_r _ [355, 67, 68, 69, 2, 70, 51, 13, 330, 331, 332, 333, 35, 36, 37, 334, 335, 336, 337, 15, 450, 451, 452, 453, 454, 455, 456, 457, 458] (by decide +kernel) (by decide +kernel)
set_option maxRecDepth 20000 in
theorem gL_law_X0_extreme : GoodIn wsL_law (wsV RL 77 RX0 yX0_extreme wsX0_extreme) := goodIn_app (goodIn_of _ (by decide +kernel)) ggL_law_X0_extreme
set_option maxRecDepth 20000 in
theorem ggL_law_X1_extreme : GoodIn wsL_law wsX1_extreme := goodIn_r _ [359, 124, 75, 76, 77, 5, 78, 62, 44, 45, 46, 343, 344, 345, 346, 347, 348, 349, 350, 351, 25, 27, 459, 460, 461, 462, 463, 464, 465, 466, 467] (by decide +kernel) (by decide +kernel)
set_option maxRecDepth 20000 in
theorem gL_law_X1_extreme : GoodIn wsL_law (wsV RL 80 RX1 yX1_extreme wsX1_extreme) := goodIn_app (goodIn_of _ (by decide +kernel)) ggL_law_X1_extreme
set_option maxRecDepth 20000 in
theorem ggL_law_X0_near : GoodIn wsL_law wsX0_near := goodIn_r _ [363, 215, 216, 2, 217, 218, 35, 36, 37, 364, 365, 366, 367, 368, 369, 259, 260, 172, 261, 370, 371, 372, 235] (by decide +kernel) (by decide +kernel)
set_option maxRecDepth 20000 in
theorem gL_law_X0_near : GoodIn wsL_law (wsV RL 81 RX0 yX0_near wsX0_near) := goodIn_app (goodIn_of _ (by decide +kernel)) ggL_law_X0_near
set_option maxRecDepth 20000 in
theorem ggL_law_X1_near : GoodIn wsL_law wsX1_near := goodIn_r _ [376, 223, 342, 44, 45, 5, 46] (by decide +kernel) (by decide +kernel)
set_option maxRecDepth 20000 in
theorem gL_law_X1_near : GoodIn wsL_law (wsV RL 84 RX1 yX1_near wsX1_near) := goodIn_app (goodIn_of _ (by decide +kernel)) ggL_law_X1_near
set_option maxRecDepth 20000 in
theorem ggL_law_X0_vernier : GoodIn wsL_law wsX0_vernier := goodIn_r _ [380, 18, 19, 35, 36, 2, 37, 450, 451, 452, 453, 454, 455, 456, 457, 458] (by decide +kernel) (by decide +kernel)
set_option maxRecDepth 20000 in
theorem gL_law_X0_vernier : GoodIn wsL_law (wsV RL 85 RX0 yX0_vernier wsX0_vernier) := goodIn_app (goodIn_of _ (by decide +kernel)) ggL_law_X0_vernier
set_option maxRecDepth 20000 in
theorem ggL_law_X1_vernier : GoodIn wsL_law wsX1_vernier := goodIn_r _ [384, 120, 385, 386, 28, 29, 44, 45, 5, 46, 459, 460, 461, 462, 463, 464, 465, 466, 467] (by decide +kernel) (by decide +kernel)
set_option maxRecDepth 20000 in
theorem gL_law_X1_vernier : GoodIn wsL_law (wsV RL 88 RX1 yX1_vernier wsX1_vernier) := goodIn_app (goodIn_of _ (by decide +kernel)) ggL_law_X1_vernier
set_option maxRecDepth 20000 in
theorem ggL_law_X0_read : GoodIn wsL_law wsX0_read := goodIn_r _ [390, 391, 392, 2, 393, 218, 35, 36, 37, 394, 395, 396, 397, 18, 398, 399, 400, 401, 19, 370, 371, 372, 235, 402, 403, 404, 405, 450, 451, 452, 453, 454, 455, 456, 457, 458] (by decide +kernel) (by decide +kernel)
set_option maxRecDepth 20000 in
theorem gL_law_X0_read : GoodIn wsL_law (wsV RL 89 RX0 yX0_read wsX0_read) := goodIn_app (goodIn_of _ (by decide +kernel)) ggL_law_X0_read
set_option maxRecDepth 20000 in
theorem ggL_law_X1_read : GoodIn wsL_law wsX1_read := goodIn_r _ [409, 120, 410, 411, 5, 412, 223, 44, 45, 46, 413, 414, 415, 416, 28, 417, 418, 419, 420, 29, 421, 422, 423, 424, 459, 460, 461, 462, 463, 464, 465, 466, 467] (by decide +kernel) (by decide +kernel)
set_option maxRecDepth 20000 in
theorem gL_law_X1_read : GoodIn wsL_law (wsV RL 92 RX1 yX1_read wsX1_read) := goodIn_app (goodIn_of _ (by decide +kernel)) ggL_law_X1_read
set_option maxRecDepth 20000 in
theorem ggL_law_X0_two : GoodIn wsL_law wsX0_two := goodIn_r _ [428, 133, 429, 235, 18, 19, 430, 391, 392, 2, 393, 218, 35, 36, 37, 431, 432, 433, 434, 402, 403, 404, 405, 394, 395, 396, 397, 398, 399, 400, 401, 370, 371, 372, 256, 257, 258, 259, 260, 172, 261, 262, 263, 264, 450, 451, 452, 453, 454, 455, 456, 457, 458] (by decide +kernel) (by decide +kernel)
set_option maxRecDepth 20000 in
theorem gL_law_X0_two : GoodIn wsL_law (wsV RL 93 RX0 yX0_two wsX0_two) := goodIn_app (goodIn_of _ (by decide +kernel)) ggL_law_X0_two
set_option maxRecDepth 20000 in
theorem ggL_law_X1_two : GoodIn wsL_law wsX1_two := goodIn_r _ [438, 439, 124, 152, 440, 120, 223, 28, 29, 441, 410, 411, 5, 412, 44, 45, 46, 421, 422, 423, 424, 413, 414, 415, 416, 417, 418, 419, 420, 274, 275, 276, 277, 278, 279, 459, 460, 461, 462, 463, 464, 465, 466, 467] (by decide +kernel) (by decide +kernel)
set_option maxRecDepth 20000 in
theorem gL_law_X1_two : GoodIn wsL_law (wsV RL 96 RX1 yX1_two wsX1_two) := goodIn_app (goodIn_of _ (by decide +kernel)) ggL_law_X1_two
set_option maxRecDepth 20000 in
theorem ggL_law_X0_told : GoodIn wsL_law wsX0_told := goodIn_r _ [445, 17, 51, 83, 18, 19, 450, 451, 452, 453, 454, 455, 456, 457, 458] (by decide +kernel) (by decide +kernel)
set_option maxRecDepth 20000 in
theorem gL_law_X0_told : GoodIn wsL_law (wsV RL 97 RX0 yX0_told wsX0_told) := goodIn_app (goodIn_of _ (by decide +kernel)) ggL_law_X0_told
set_option maxRecDepth 20000 in
theorem ggL_law_X1_told : GoodIn wsL_law wsX1_told := goodIn_r _ [449, 24, 62, 89, 28, 29, 459, 460, 461, 462, 463, 464, 465, 466, 467] (by decide +kernel) (by decide +kernel)
set_option maxRecDepth 20000 in
theorem gL_law_X1_told : GoodIn wsL_law (wsV RL 100 RX1 yX1_told wsX1_told) := goodIn_app (goodIn_of _ (by decide +kernel)) ggL_law_X1_told
theorem dL_law_0 : decode cL_law 0 = .ok (.new 7, 3) := by decide +kernel
theorem dL_law_3 : decode cL_law 3 = .ok (.dup, 1) := by decide +kernel
theorem dL_law_4 : decode cL_law 4 = .ok (.invokespecial 9, 3) := by decide +kernel
theorem dL_law_7 : decode cL_law 7 = .ok (.astore_n 1, 1) := by decide +kernel
theorem dL_law_8 : decode cL_law 8 = .ok (.new 10, 3) := by decide +kernel
theorem dL_law_11 : decode cL_law 11 = .ok (.dup, 1) := by decide +kernel
theorem dL_law_12 : decode cL_law 12 = .ok (.invokespecial 12, 3) := by decide +kernel
theorem dL_law_15 : decode cL_law 15 = .ok (.astore_n 2, 1) := by decide +kernel
theorem dL_law_16 : decode cL_law 16 = .ok (.iconst 0, 1) := by decide +kernel
theorem dL_law_17 : decode cL_law 17 = .ok (.istore_n 3, 1) := by decide +kernel
theorem dL_law_18 : decode cL_law 18 = .ok (.iload_n 3, 1) := by decide +kernel
theorem dL_law_19 : decode cL_law 19 = .ok (.aload_n 0, 1) := by decide +kernel
theorem dL_law_20 : decode cL_law 20 = .ok (.arraylength, 1) := by decide +kernel
theorem dL_law_21 : decode cL_law 21 = .ok (.iconst 5, 1) := by decide +kernel
theorem dL_law_22 : decode cL_law 22 = .ok (.isub, 1) := by decide +kernel
theorem dL_law_23 : decode cL_law 23 = .ok (.if_icmp .gt 878, 3) := by decide +kernel
theorem dL_law_26 : decode cL_law 26 = .ok (.aload_n 0, 1) := by decide +kernel
theorem dL_law_27 : decode cL_law 27 = .ok (.iload_n 3, 1) := by decide +kernel
theorem dL_law_28 : decode cL_law 28 = .ok (.iaload, 1) := by decide +kernel
theorem dL_law_29 : decode cL_law 29 = .ok (.bipush 31, 2) := by decide +kernel
theorem dL_law_31 : decode cL_law 31 = .ok (.iand, 1) := by decide +kernel
theorem dL_law_32 : decode cL_law 32 = .ok (.tableswitch 863 0 20 #[100, 123, 146, 169, 192, 215, 248, 281, 314, 357, 400, 453, 496, 519, 552, 605, 658, 711, 744, 787, 840], 100) := by decide +kernel
theorem dL_law_132 : decode cL_law 132 = .ok (.aload_n 1, 1) := by decide +kernel
theorem dL_law_133 : decode cL_law 133 = .ok (.aload_n 0, 1) := by decide +kernel
theorem dL_law_134 : decode cL_law 134 = .ok (.iload_n 3, 1) := by decide +kernel
theorem dL_law_135 : decode cL_law 135 = .ok (.iconst 1, 1) := by decide +kernel
theorem dL_law_136 : decode cL_law 136 = .ok (.iadd, 1) := by decide +kernel
theorem dL_law_137 : decode cL_law 137 = .ok (.iaload, 1) := by decide +kernel
theorem dL_law_138 : decode cL_law 138 = .ok (.invokevirtual 13, 3) := by decide +kernel
theorem dL_law_141 : decode cL_law 141 = .ok (.aload_n 2, 1) := by decide +kernel
theorem dL_law_142 : decode cL_law 142 = .ok (.aload_n 0, 1) := by decide +kernel
theorem dL_law_143 : decode cL_law 143 = .ok (.iload_n 3, 1) := by decide +kernel
theorem dL_law_144 : decode cL_law 144 = .ok (.iconst 1, 1) := by decide +kernel
theorem dL_law_145 : decode cL_law 145 = .ok (.iadd, 1) := by decide +kernel
theorem dL_law_146 : decode cL_law 146 = .ok (.iaload, 1) := by decide +kernel
theorem dL_law_147 : decode cL_law 147 = .ok (.invokevirtual 17, 3) := by decide +kernel
theorem dL_law_150 : decode cL_law 150 = .ok (.if_icmp .eq 745, 3) := by decide +kernel
theorem dL_law_153 : decode cL_law 153 = .ok (.iconst 0, 1) := by decide +kernel
theorem dL_law_154 : decode cL_law 154 = .ok (.ireturn, 1) := by decide +kernel
theorem dL_law_155 : decode cL_law 155 = .ok (.aload_n 1, 1) := by decide +kernel
theorem dL_law_156 : decode cL_law 156 = .ok (.aload_n 0, 1) := by decide +kernel
theorem dL_law_157 : decode cL_law 157 = .ok (.iload_n 3, 1) := by decide +kernel
theorem dL_law_158 : decode cL_law 158 = .ok (.iconst 1, 1) := by decide +kernel
theorem dL_law_159 : decode cL_law 159 = .ok (.iadd, 1) := by decide +kernel
theorem dL_law_160 : decode cL_law 160 = .ok (.iaload, 1) := by decide +kernel
theorem dL_law_161 : decode cL_law 161 = .ok (.invokevirtual 18, 3) := by decide +kernel
theorem dL_law_164 : decode cL_law 164 = .ok (.aload_n 2, 1) := by decide +kernel
theorem dL_law_165 : decode cL_law 165 = .ok (.aload_n 0, 1) := by decide +kernel
theorem dL_law_166 : decode cL_law 166 = .ok (.iload_n 3, 1) := by decide +kernel
theorem dL_law_167 : decode cL_law 167 = .ok (.iconst 1, 1) := by decide +kernel
theorem dL_law_168 : decode cL_law 168 = .ok (.iadd, 1) := by decide +kernel
theorem dL_law_169 : decode cL_law 169 = .ok (.iaload, 1) := by decide +kernel
theorem dL_law_170 : decode cL_law 170 = .ok (.invokevirtual 21, 3) := by decide +kernel
theorem dL_law_173 : decode cL_law 173 = .ok (.if_icmp .eq 722, 3) := by decide +kernel
theorem dL_law_176 : decode cL_law 176 = .ok (.iconst 0, 1) := by decide +kernel
theorem dL_law_177 : decode cL_law 177 = .ok (.ireturn, 1) := by decide +kernel
theorem dL_law_178 : decode cL_law 178 = .ok (.aload_n 1, 1) := by decide +kernel
theorem dL_law_179 : decode cL_law 179 = .ok (.aload_n 0, 1) := by decide +kernel
theorem dL_law_180 : decode cL_law 180 = .ok (.iload_n 3, 1) := by decide +kernel
theorem dL_law_181 : decode cL_law 181 = .ok (.iconst 1, 1) := by decide +kernel
theorem dL_law_182 : decode cL_law 182 = .ok (.iadd, 1) := by decide +kernel
theorem dL_law_183 : decode cL_law 183 = .ok (.iaload, 1) := by decide +kernel
theorem dL_law_184 : decode cL_law 184 = .ok (.invokevirtual 22, 3) := by decide +kernel
theorem dL_law_187 : decode cL_law 187 = .ok (.aload_n 2, 1) := by decide +kernel
theorem dL_law_188 : decode cL_law 188 = .ok (.aload_n 0, 1) := by decide +kernel
theorem dL_law_189 : decode cL_law 189 = .ok (.iload_n 3, 1) := by decide +kernel
theorem dL_law_190 : decode cL_law 190 = .ok (.iconst 1, 1) := by decide +kernel
theorem dL_law_191 : decode cL_law 191 = .ok (.iadd, 1) := by decide +kernel
theorem dL_law_192 : decode cL_law 192 = .ok (.iaload, 1) := by decide +kernel
theorem dL_law_193 : decode cL_law 193 = .ok (.invokevirtual 25, 3) := by decide +kernel
theorem dL_law_196 : decode cL_law 196 = .ok (.if_icmp .eq 699, 3) := by decide +kernel
theorem dL_law_199 : decode cL_law 199 = .ok (.iconst 0, 1) := by decide +kernel
theorem dL_law_200 : decode cL_law 200 = .ok (.ireturn, 1) := by decide +kernel
theorem dL_law_201 : decode cL_law 201 = .ok (.aload_n 1, 1) := by decide +kernel
theorem dL_law_202 : decode cL_law 202 = .ok (.aload_n 0, 1) := by decide +kernel
theorem dL_law_203 : decode cL_law 203 = .ok (.iload_n 3, 1) := by decide +kernel
theorem dL_law_204 : decode cL_law 204 = .ok (.iconst 1, 1) := by decide +kernel
theorem dL_law_205 : decode cL_law 205 = .ok (.iadd, 1) := by decide +kernel
theorem dL_law_206 : decode cL_law 206 = .ok (.iaload, 1) := by decide +kernel
theorem dL_law_207 : decode cL_law 207 = .ok (.invokevirtual 26, 3) := by decide +kernel
theorem dL_law_210 : decode cL_law 210 = .ok (.aload_n 2, 1) := by decide +kernel
theorem dL_law_211 : decode cL_law 211 = .ok (.aload_n 0, 1) := by decide +kernel
theorem dL_law_212 : decode cL_law 212 = .ok (.iload_n 3, 1) := by decide +kernel
theorem dL_law_213 : decode cL_law 213 = .ok (.iconst 1, 1) := by decide +kernel
theorem dL_law_214 : decode cL_law 214 = .ok (.iadd, 1) := by decide +kernel
theorem dL_law_215 : decode cL_law 215 = .ok (.iaload, 1) := by decide +kernel
theorem dL_law_216 : decode cL_law 216 = .ok (.invokevirtual 29, 3) := by decide +kernel
theorem dL_law_219 : decode cL_law 219 = .ok (.if_icmp .eq 676, 3) := by decide +kernel
theorem dL_law_222 : decode cL_law 222 = .ok (.iconst 0, 1) := by decide +kernel
theorem dL_law_223 : decode cL_law 223 = .ok (.ireturn, 1) := by decide +kernel
theorem dL_law_224 : decode cL_law 224 = .ok (.aload_n 1, 1) := by decide +kernel
theorem dL_law_225 : decode cL_law 225 = .ok (.aload_n 0, 1) := by decide +kernel
theorem dL_law_226 : decode cL_law 226 = .ok (.iload_n 3, 1) := by decide +kernel
theorem dL_law_227 : decode cL_law 227 = .ok (.iconst 1, 1) := by decide +kernel
theorem dL_law_228 : decode cL_law 228 = .ok (.iadd, 1) := by decide +kernel
theorem dL_law_229 : decode cL_law 229 = .ok (.iaload, 1) := by decide +kernel
theorem dL_law_230 : decode cL_law 230 = .ok (.invokevirtual 30, 3) := by decide +kernel
theorem dL_law_233 : decode cL_law 233 = .ok (.aload_n 2, 1) := by decide +kernel
theorem dL_law_234 : decode cL_law 234 = .ok (.aload_n 0, 1) := by decide +kernel
theorem dL_law_235 : decode cL_law 235 = .ok (.iload_n 3, 1) := by decide +kernel
theorem dL_law_236 : decode cL_law 236 = .ok (.iconst 1, 1) := by decide +kernel
theorem dL_law_237 : decode cL_law 237 = .ok (.iadd, 1) := by decide +kernel
theorem dL_law_238 : decode cL_law 238 = .ok (.iaload, 1) := by decide +kernel
theorem dL_law_239 : decode cL_law 239 = .ok (.invokevirtual 33, 3) := by decide +kernel
theorem dL_law_242 : decode cL_law 242 = .ok (.if_icmp .eq 653, 3) := by decide +kernel
theorem dL_law_245 : decode cL_law 245 = .ok (.iconst 0, 1) := by decide +kernel
theorem dL_law_246 : decode cL_law 246 = .ok (.ireturn, 1) := by decide +kernel
theorem dL_law_247 : decode cL_law 247 = .ok (.aload_n 1, 1) := by decide +kernel
theorem dL_law_248 : decode cL_law 248 = .ok (.aload_n 0, 1) := by decide +kernel
theorem dL_law_249 : decode cL_law 249 = .ok (.iload_n 3, 1) := by decide +kernel
theorem dL_law_250 : decode cL_law 250 = .ok (.iconst 1, 1) := by decide +kernel
theorem dL_law_251 : decode cL_law 251 = .ok (.iadd, 1) := by decide +kernel
theorem dL_law_252 : decode cL_law 252 = .ok (.iaload, 1) := by decide +kernel
theorem dL_law_253 : decode cL_law 253 = .ok (.aload_n 0, 1) := by decide +kernel
theorem dL_law_254 : decode cL_law 254 = .ok (.iload_n 3, 1) := by decide +kernel
theorem dL_law_255 : decode cL_law 255 = .ok (.iconst 2, 1) := by decide +kernel
theorem dL_law_256 : decode cL_law 256 = .ok (.iadd, 1) := by decide +kernel
theorem dL_law_257 : decode cL_law 257 = .ok (.iaload, 1) := by decide +kernel
theorem dL_law_258 : decode cL_law 258 = .ok (.invokevirtual 34, 3) := by decide +kernel
theorem dL_law_261 : decode cL_law 261 = .ok (.aload_n 2, 1) := by decide +kernel
theorem dL_law_262 : decode cL_law 262 = .ok (.aload_n 0, 1) := by decide +kernel
theorem dL_law_263 : decode cL_law 263 = .ok (.iload_n 3, 1) := by decide +kernel
theorem dL_law_264 : decode cL_law 264 = .ok (.iconst 1, 1) := by decide +kernel
theorem dL_law_265 : decode cL_law 265 = .ok (.iadd, 1) := by decide +kernel
theorem dL_law_266 : decode cL_law 266 = .ok (.iaload, 1) := by decide +kernel
theorem dL_law_267 : decode cL_law 267 = .ok (.aload_n 0, 1) := by decide +kernel
theorem dL_law_268 : decode cL_law 268 = .ok (.iload_n 3, 1) := by decide +kernel
theorem dL_law_269 : decode cL_law 269 = .ok (.iconst 2, 1) := by decide +kernel
theorem dL_law_270 : decode cL_law 270 = .ok (.iadd, 1) := by decide +kernel
theorem dL_law_271 : decode cL_law 271 = .ok (.iaload, 1) := by decide +kernel
theorem dL_law_272 : decode cL_law 272 = .ok (.invokevirtual 38, 3) := by decide +kernel
theorem dL_law_275 : decode cL_law 275 = .ok (.if_icmp .eq 620, 3) := by decide +kernel
theorem dL_law_278 : decode cL_law 278 = .ok (.iconst 0, 1) := by decide +kernel
theorem dL_law_279 : decode cL_law 279 = .ok (.ireturn, 1) := by decide +kernel
theorem dL_law_280 : decode cL_law 280 = .ok (.aload_n 1, 1) := by decide +kernel
theorem dL_law_281 : decode cL_law 281 = .ok (.aload_n 0, 1) := by decide +kernel
theorem dL_law_282 : decode cL_law 282 = .ok (.iload_n 3, 1) := by decide +kernel
theorem dL_law_283 : decode cL_law 283 = .ok (.iconst 1, 1) := by decide +kernel
theorem dL_law_284 : decode cL_law 284 = .ok (.iadd, 1) := by decide +kernel
theorem dL_law_285 : decode cL_law 285 = .ok (.iaload, 1) := by decide +kernel
theorem dL_law_286 : decode cL_law 286 = .ok (.aload_n 0, 1) := by decide +kernel
theorem dL_law_287 : decode cL_law 287 = .ok (.iload_n 3, 1) := by decide +kernel
theorem dL_law_288 : decode cL_law 288 = .ok (.iconst 2, 1) := by decide +kernel
theorem dL_law_289 : decode cL_law 289 = .ok (.iadd, 1) := by decide +kernel
theorem dL_law_290 : decode cL_law 290 = .ok (.iaload, 1) := by decide +kernel
theorem dL_law_291 : decode cL_law 291 = .ok (.invokevirtual 39, 3) := by decide +kernel
theorem dL_law_294 : decode cL_law 294 = .ok (.aload_n 2, 1) := by decide +kernel
theorem dL_law_295 : decode cL_law 295 = .ok (.aload_n 0, 1) := by decide +kernel
theorem dL_law_296 : decode cL_law 296 = .ok (.iload_n 3, 1) := by decide +kernel
theorem dL_law_297 : decode cL_law 297 = .ok (.iconst 1, 1) := by decide +kernel
theorem dL_law_298 : decode cL_law 298 = .ok (.iadd, 1) := by decide +kernel
theorem dL_law_299 : decode cL_law 299 = .ok (.iaload, 1) := by decide +kernel
theorem dL_law_300 : decode cL_law 300 = .ok (.aload_n 0, 1) := by decide +kernel
theorem dL_law_301 : decode cL_law 301 = .ok (.iload_n 3, 1) := by decide +kernel
theorem dL_law_302 : decode cL_law 302 = .ok (.iconst 2, 1) := by decide +kernel
theorem dL_law_303 : decode cL_law 303 = .ok (.iadd, 1) := by decide +kernel
theorem dL_law_304 : decode cL_law 304 = .ok (.iaload, 1) := by decide +kernel
theorem dL_law_305 : decode cL_law 305 = .ok (.invokevirtual 42, 3) := by decide +kernel
theorem dL_law_308 : decode cL_law 308 = .ok (.if_icmp .eq 587, 3) := by decide +kernel
theorem dL_law_311 : decode cL_law 311 = .ok (.iconst 0, 1) := by decide +kernel
theorem dL_law_312 : decode cL_law 312 = .ok (.ireturn, 1) := by decide +kernel
theorem dL_law_313 : decode cL_law 313 = .ok (.aload_n 1, 1) := by decide +kernel
theorem dL_law_314 : decode cL_law 314 = .ok (.aload_n 0, 1) := by decide +kernel
theorem dL_law_315 : decode cL_law 315 = .ok (.iload_n 3, 1) := by decide +kernel
theorem dL_law_316 : decode cL_law 316 = .ok (.iconst 1, 1) := by decide +kernel
theorem dL_law_317 : decode cL_law 317 = .ok (.iadd, 1) := by decide +kernel
theorem dL_law_318 : decode cL_law 318 = .ok (.iaload, 1) := by decide +kernel
theorem dL_law_319 : decode cL_law 319 = .ok (.aload_n 0, 1) := by decide +kernel
theorem dL_law_320 : decode cL_law 320 = .ok (.iload_n 3, 1) := by decide +kernel
theorem dL_law_321 : decode cL_law 321 = .ok (.iconst 2, 1) := by decide +kernel
theorem dL_law_322 : decode cL_law 322 = .ok (.iadd, 1) := by decide +kernel
theorem dL_law_323 : decode cL_law 323 = .ok (.iaload, 1) := by decide +kernel
theorem dL_law_324 : decode cL_law 324 = .ok (.invokevirtual 43, 3) := by decide +kernel
theorem dL_law_327 : decode cL_law 327 = .ok (.aload_n 2, 1) := by decide +kernel
theorem dL_law_328 : decode cL_law 328 = .ok (.aload_n 0, 1) := by decide +kernel
theorem dL_law_329 : decode cL_law 329 = .ok (.iload_n 3, 1) := by decide +kernel
theorem dL_law_330 : decode cL_law 330 = .ok (.iconst 1, 1) := by decide +kernel
theorem dL_law_331 : decode cL_law 331 = .ok (.iadd, 1) := by decide +kernel
theorem dL_law_332 : decode cL_law 332 = .ok (.iaload, 1) := by decide +kernel
theorem dL_law_333 : decode cL_law 333 = .ok (.aload_n 0, 1) := by decide +kernel
theorem dL_law_334 : decode cL_law 334 = .ok (.iload_n 3, 1) := by decide +kernel
theorem dL_law_335 : decode cL_law 335 = .ok (.iconst 2, 1) := by decide +kernel
theorem dL_law_336 : decode cL_law 336 = .ok (.iadd, 1) := by decide +kernel
theorem dL_law_337 : decode cL_law 337 = .ok (.iaload, 1) := by decide +kernel
theorem dL_law_338 : decode cL_law 338 = .ok (.invokevirtual 46, 3) := by decide +kernel
theorem dL_law_341 : decode cL_law 341 = .ok (.if_icmp .eq 554, 3) := by decide +kernel
theorem dL_law_344 : decode cL_law 344 = .ok (.iconst 0, 1) := by decide +kernel
theorem dL_law_345 : decode cL_law 345 = .ok (.ireturn, 1) := by decide +kernel
theorem dL_law_346 : decode cL_law 346 = .ok (.aload_n 1, 1) := by decide +kernel
theorem dL_law_347 : decode cL_law 347 = .ok (.aload_n 0, 1) := by decide +kernel
theorem dL_law_348 : decode cL_law 348 = .ok (.iload_n 3, 1) := by decide +kernel
theorem dL_law_349 : decode cL_law 349 = .ok (.iconst 1, 1) := by decide +kernel
theorem dL_law_350 : decode cL_law 350 = .ok (.iadd, 1) := by decide +kernel
theorem dL_law_351 : decode cL_law 351 = .ok (.iaload, 1) := by decide +kernel
theorem dL_law_352 : decode cL_law 352 = .ok (.aload_n 0, 1) := by decide +kernel
theorem dL_law_353 : decode cL_law 353 = .ok (.iload_n 3, 1) := by decide +kernel
theorem dL_law_354 : decode cL_law 354 = .ok (.iconst 2, 1) := by decide +kernel
theorem dL_law_355 : decode cL_law 355 = .ok (.iadd, 1) := by decide +kernel
theorem dL_law_356 : decode cL_law 356 = .ok (.iaload, 1) := by decide +kernel
theorem dL_law_357 : decode cL_law 357 = .ok (.aload_n 0, 1) := by decide +kernel
theorem dL_law_358 : decode cL_law 358 = .ok (.iload_n 3, 1) := by decide +kernel
theorem dL_law_359 : decode cL_law 359 = .ok (.iconst 3, 1) := by decide +kernel
theorem dL_law_360 : decode cL_law 360 = .ok (.iadd, 1) := by decide +kernel
theorem dL_law_361 : decode cL_law 361 = .ok (.iaload, 1) := by decide +kernel
theorem dL_law_362 : decode cL_law 362 = .ok (.invokevirtual 47, 3) := by decide +kernel
theorem dL_law_365 : decode cL_law 365 = .ok (.aload_n 2, 1) := by decide +kernel
theorem dL_law_366 : decode cL_law 366 = .ok (.aload_n 0, 1) := by decide +kernel
theorem dL_law_367 : decode cL_law 367 = .ok (.iload_n 3, 1) := by decide +kernel
theorem dL_law_368 : decode cL_law 368 = .ok (.iconst 1, 1) := by decide +kernel
theorem dL_law_369 : decode cL_law 369 = .ok (.iadd, 1) := by decide +kernel
theorem dL_law_370 : decode cL_law 370 = .ok (.iaload, 1) := by decide +kernel
theorem dL_law_371 : decode cL_law 371 = .ok (.aload_n 0, 1) := by decide +kernel
theorem dL_law_372 : decode cL_law 372 = .ok (.iload_n 3, 1) := by decide +kernel
theorem dL_law_373 : decode cL_law 373 = .ok (.iconst 2, 1) := by decide +kernel
theorem dL_law_374 : decode cL_law 374 = .ok (.iadd, 1) := by decide +kernel
theorem dL_law_375 : decode cL_law 375 = .ok (.iaload, 1) := by decide +kernel
theorem dL_law_376 : decode cL_law 376 = .ok (.aload_n 0, 1) := by decide +kernel
theorem dL_law_377 : decode cL_law 377 = .ok (.iload_n 3, 1) := by decide +kernel
theorem dL_law_378 : decode cL_law 378 = .ok (.iconst 3, 1) := by decide +kernel
theorem dL_law_379 : decode cL_law 379 = .ok (.iadd, 1) := by decide +kernel
theorem dL_law_380 : decode cL_law 380 = .ok (.iaload, 1) := by decide +kernel
theorem dL_law_381 : decode cL_law 381 = .ok (.invokevirtual 51, 3) := by decide +kernel
theorem dL_law_384 : decode cL_law 384 = .ok (.if_icmp .eq 511, 3) := by decide +kernel
theorem dL_law_387 : decode cL_law 387 = .ok (.iconst 0, 1) := by decide +kernel
theorem dL_law_388 : decode cL_law 388 = .ok (.ireturn, 1) := by decide +kernel
theorem dL_law_389 : decode cL_law 389 = .ok (.aload_n 1, 1) := by decide +kernel
theorem dL_law_390 : decode cL_law 390 = .ok (.aload_n 0, 1) := by decide +kernel
theorem dL_law_391 : decode cL_law 391 = .ok (.iload_n 3, 1) := by decide +kernel
theorem dL_law_392 : decode cL_law 392 = .ok (.iconst 1, 1) := by decide +kernel
theorem dL_law_393 : decode cL_law 393 = .ok (.iadd, 1) := by decide +kernel
theorem dL_law_394 : decode cL_law 394 = .ok (.iaload, 1) := by decide +kernel
theorem dL_law_395 : decode cL_law 395 = .ok (.aload_n 0, 1) := by decide +kernel
theorem dL_law_396 : decode cL_law 396 = .ok (.iload_n 3, 1) := by decide +kernel
theorem dL_law_397 : decode cL_law 397 = .ok (.iconst 2, 1) := by decide +kernel
theorem dL_law_398 : decode cL_law 398 = .ok (.iadd, 1) := by decide +kernel
theorem dL_law_399 : decode cL_law 399 = .ok (.iaload, 1) := by decide +kernel
theorem dL_law_400 : decode cL_law 400 = .ok (.aload_n 0, 1) := by decide +kernel
theorem dL_law_401 : decode cL_law 401 = .ok (.iload_n 3, 1) := by decide +kernel
theorem dL_law_402 : decode cL_law 402 = .ok (.iconst 3, 1) := by decide +kernel
theorem dL_law_403 : decode cL_law 403 = .ok (.iadd, 1) := by decide +kernel
theorem dL_law_404 : decode cL_law 404 = .ok (.iaload, 1) := by decide +kernel
theorem dL_law_405 : decode cL_law 405 = .ok (.invokevirtual 52, 3) := by decide +kernel
theorem dL_law_408 : decode cL_law 408 = .ok (.aload_n 2, 1) := by decide +kernel
theorem dL_law_409 : decode cL_law 409 = .ok (.aload_n 0, 1) := by decide +kernel
theorem dL_law_410 : decode cL_law 410 = .ok (.iload_n 3, 1) := by decide +kernel
theorem dL_law_411 : decode cL_law 411 = .ok (.iconst 1, 1) := by decide +kernel
theorem dL_law_412 : decode cL_law 412 = .ok (.iadd, 1) := by decide +kernel
theorem dL_law_413 : decode cL_law 413 = .ok (.iaload, 1) := by decide +kernel
theorem dL_law_414 : decode cL_law 414 = .ok (.aload_n 0, 1) := by decide +kernel
theorem dL_law_415 : decode cL_law 415 = .ok (.iload_n 3, 1) := by decide +kernel
theorem dL_law_416 : decode cL_law 416 = .ok (.iconst 2, 1) := by decide +kernel
theorem dL_law_417 : decode cL_law 417 = .ok (.iadd, 1) := by decide +kernel
theorem dL_law_418 : decode cL_law 418 = .ok (.iaload, 1) := by decide +kernel
theorem dL_law_419 : decode cL_law 419 = .ok (.aload_n 0, 1) := by decide +kernel
theorem dL_law_420 : decode cL_law 420 = .ok (.iload_n 3, 1) := by decide +kernel
theorem dL_law_421 : decode cL_law 421 = .ok (.iconst 3, 1) := by decide +kernel
theorem dL_law_422 : decode cL_law 422 = .ok (.iadd, 1) := by decide +kernel
theorem dL_law_423 : decode cL_law 423 = .ok (.iaload, 1) := by decide +kernel
theorem dL_law_424 : decode cL_law 424 = .ok (.invokevirtual 55, 3) := by decide +kernel
theorem dL_law_427 : decode cL_law 427 = .ok (.if_icmp .eq 468, 3) := by decide +kernel
theorem dL_law_430 : decode cL_law 430 = .ok (.iconst 0, 1) := by decide +kernel
theorem dL_law_431 : decode cL_law 431 = .ok (.ireturn, 1) := by decide +kernel
theorem dL_law_432 : decode cL_law 432 = .ok (.aload_n 1, 1) := by decide +kernel
theorem dL_law_433 : decode cL_law 433 = .ok (.aload_n 0, 1) := by decide +kernel
theorem dL_law_434 : decode cL_law 434 = .ok (.iload_n 3, 1) := by decide +kernel
theorem dL_law_435 : decode cL_law 435 = .ok (.iconst 1, 1) := by decide +kernel
theorem dL_law_436 : decode cL_law 436 = .ok (.iadd, 1) := by decide +kernel
theorem dL_law_437 : decode cL_law 437 = .ok (.iaload, 1) := by decide +kernel
theorem dL_law_438 : decode cL_law 438 = .ok (.aload_n 0, 1) := by decide +kernel
theorem dL_law_439 : decode cL_law 439 = .ok (.iload_n 3, 1) := by decide +kernel
theorem dL_law_440 : decode cL_law 440 = .ok (.iconst 2, 1) := by decide +kernel
theorem dL_law_441 : decode cL_law 441 = .ok (.iadd, 1) := by decide +kernel
theorem dL_law_442 : decode cL_law 442 = .ok (.iaload, 1) := by decide +kernel
theorem dL_law_443 : decode cL_law 443 = .ok (.aload_n 0, 1) := by decide +kernel
theorem dL_law_444 : decode cL_law 444 = .ok (.iload_n 3, 1) := by decide +kernel
theorem dL_law_445 : decode cL_law 445 = .ok (.iconst 3, 1) := by decide +kernel
theorem dL_law_446 : decode cL_law 446 = .ok (.iadd, 1) := by decide +kernel
theorem dL_law_447 : decode cL_law 447 = .ok (.iaload, 1) := by decide +kernel
theorem dL_law_448 : decode cL_law 448 = .ok (.aload_n 0, 1) := by decide +kernel
theorem dL_law_449 : decode cL_law 449 = .ok (.iload_n 3, 1) := by decide +kernel
theorem dL_law_450 : decode cL_law 450 = .ok (.iconst 4, 1) := by decide +kernel
theorem dL_law_451 : decode cL_law 451 = .ok (.iadd, 1) := by decide +kernel
theorem dL_law_452 : decode cL_law 452 = .ok (.iaload, 1) := by decide +kernel
theorem dL_law_453 : decode cL_law 453 = .ok (.invokevirtual 56, 3) := by decide +kernel
theorem dL_law_456 : decode cL_law 456 = .ok (.aload_n 2, 1) := by decide +kernel
theorem dL_law_457 : decode cL_law 457 = .ok (.aload_n 0, 1) := by decide +kernel
theorem dL_law_458 : decode cL_law 458 = .ok (.iload_n 3, 1) := by decide +kernel
theorem dL_law_459 : decode cL_law 459 = .ok (.iconst 1, 1) := by decide +kernel
theorem dL_law_460 : decode cL_law 460 = .ok (.iadd, 1) := by decide +kernel
theorem dL_law_461 : decode cL_law 461 = .ok (.iaload, 1) := by decide +kernel
theorem dL_law_462 : decode cL_law 462 = .ok (.aload_n 0, 1) := by decide +kernel
theorem dL_law_463 : decode cL_law 463 = .ok (.iload_n 3, 1) := by decide +kernel
theorem dL_law_464 : decode cL_law 464 = .ok (.iconst 2, 1) := by decide +kernel
theorem dL_law_465 : decode cL_law 465 = .ok (.iadd, 1) := by decide +kernel
theorem dL_law_466 : decode cL_law 466 = .ok (.iaload, 1) := by decide +kernel
theorem dL_law_467 : decode cL_law 467 = .ok (.aload_n 0, 1) := by decide +kernel
theorem dL_law_468 : decode cL_law 468 = .ok (.iload_n 3, 1) := by decide +kernel
theorem dL_law_469 : decode cL_law 469 = .ok (.iconst 3, 1) := by decide +kernel
theorem dL_law_470 : decode cL_law 470 = .ok (.iadd, 1) := by decide +kernel
theorem dL_law_471 : decode cL_law 471 = .ok (.iaload, 1) := by decide +kernel
theorem dL_law_472 : decode cL_law 472 = .ok (.aload_n 0, 1) := by decide +kernel
theorem dL_law_473 : decode cL_law 473 = .ok (.iload_n 3, 1) := by decide +kernel
theorem dL_law_474 : decode cL_law 474 = .ok (.iconst 4, 1) := by decide +kernel
theorem dL_law_475 : decode cL_law 475 = .ok (.iadd, 1) := by decide +kernel
theorem dL_law_476 : decode cL_law 476 = .ok (.iaload, 1) := by decide +kernel
theorem dL_law_477 : decode cL_law 477 = .ok (.invokevirtual 60, 3) := by decide +kernel
theorem dL_law_480 : decode cL_law 480 = .ok (.if_icmp .eq 415, 3) := by decide +kernel
theorem dL_law_483 : decode cL_law 483 = .ok (.iconst 0, 1) := by decide +kernel
theorem dL_law_484 : decode cL_law 484 = .ok (.ireturn, 1) := by decide +kernel
theorem dL_law_485 : decode cL_law 485 = .ok (.aload_n 1, 1) := by decide +kernel
theorem dL_law_486 : decode cL_law 486 = .ok (.aload_n 0, 1) := by decide +kernel
theorem dL_law_487 : decode cL_law 487 = .ok (.iload_n 3, 1) := by decide +kernel
theorem dL_law_488 : decode cL_law 488 = .ok (.iconst 1, 1) := by decide +kernel
theorem dL_law_489 : decode cL_law 489 = .ok (.iadd, 1) := by decide +kernel
theorem dL_law_490 : decode cL_law 490 = .ok (.iaload, 1) := by decide +kernel
theorem dL_law_491 : decode cL_law 491 = .ok (.aload_n 0, 1) := by decide +kernel
theorem dL_law_492 : decode cL_law 492 = .ok (.iload_n 3, 1) := by decide +kernel
theorem dL_law_493 : decode cL_law 493 = .ok (.iconst 2, 1) := by decide +kernel
theorem dL_law_494 : decode cL_law 494 = .ok (.iadd, 1) := by decide +kernel
theorem dL_law_495 : decode cL_law 495 = .ok (.iaload, 1) := by decide +kernel
theorem dL_law_496 : decode cL_law 496 = .ok (.aload_n 0, 1) := by decide +kernel
theorem dL_law_497 : decode cL_law 497 = .ok (.iload_n 3, 1) := by decide +kernel
theorem dL_law_498 : decode cL_law 498 = .ok (.iconst 3, 1) := by decide +kernel
theorem dL_law_499 : decode cL_law 499 = .ok (.iadd, 1) := by decide +kernel
theorem dL_law_500 : decode cL_law 500 = .ok (.iaload, 1) := by decide +kernel
theorem dL_law_501 : decode cL_law 501 = .ok (.invokevirtual 61, 3) := by decide +kernel
theorem dL_law_504 : decode cL_law 504 = .ok (.aload_n 2, 1) := by decide +kernel
theorem dL_law_505 : decode cL_law 505 = .ok (.aload_n 0, 1) := by decide +kernel
theorem dL_law_506 : decode cL_law 506 = .ok (.iload_n 3, 1) := by decide +kernel
theorem dL_law_507 : decode cL_law 507 = .ok (.iconst 1, 1) := by decide +kernel
theorem dL_law_508 : decode cL_law 508 = .ok (.iadd, 1) := by decide +kernel
theorem dL_law_509 : decode cL_law 509 = .ok (.iaload, 1) := by decide +kernel
theorem dL_law_510 : decode cL_law 510 = .ok (.aload_n 0, 1) := by decide +kernel
theorem dL_law_511 : decode cL_law 511 = .ok (.iload_n 3, 1) := by decide +kernel
theorem dL_law_512 : decode cL_law 512 = .ok (.iconst 2, 1) := by decide +kernel
theorem dL_law_513 : decode cL_law 513 = .ok (.iadd, 1) := by decide +kernel
theorem dL_law_514 : decode cL_law 514 = .ok (.iaload, 1) := by decide +kernel
theorem dL_law_515 : decode cL_law 515 = .ok (.aload_n 0, 1) := by decide +kernel
theorem dL_law_516 : decode cL_law 516 = .ok (.iload_n 3, 1) := by decide +kernel
theorem dL_law_517 : decode cL_law 517 = .ok (.iconst 3, 1) := by decide +kernel
theorem dL_law_518 : decode cL_law 518 = .ok (.iadd, 1) := by decide +kernel
theorem dL_law_519 : decode cL_law 519 = .ok (.iaload, 1) := by decide +kernel
theorem dL_law_520 : decode cL_law 520 = .ok (.invokevirtual 64, 3) := by decide +kernel
theorem dL_law_523 : decode cL_law 523 = .ok (.if_icmp .eq 372, 3) := by decide +kernel
theorem dL_law_526 : decode cL_law 526 = .ok (.iconst 0, 1) := by decide +kernel
theorem dL_law_527 : decode cL_law 527 = .ok (.ireturn, 1) := by decide +kernel
theorem dL_law_528 : decode cL_law 528 = .ok (.aload_n 1, 1) := by decide +kernel
theorem dL_law_529 : decode cL_law 529 = .ok (.aload_n 0, 1) := by decide +kernel
theorem dL_law_530 : decode cL_law 530 = .ok (.iload_n 3, 1) := by decide +kernel
theorem dL_law_531 : decode cL_law 531 = .ok (.iconst 1, 1) := by decide +kernel
theorem dL_law_532 : decode cL_law 532 = .ok (.iadd, 1) := by decide +kernel
theorem dL_law_533 : decode cL_law 533 = .ok (.iaload, 1) := by decide +kernel
theorem dL_law_534 : decode cL_law 534 = .ok (.invokevirtual 65, 3) := by decide +kernel
theorem dL_law_537 : decode cL_law 537 = .ok (.aload_n 2, 1) := by decide +kernel
theorem dL_law_538 : decode cL_law 538 = .ok (.aload_n 0, 1) := by decide +kernel
theorem dL_law_539 : decode cL_law 539 = .ok (.iload_n 3, 1) := by decide +kernel
theorem dL_law_540 : decode cL_law 540 = .ok (.iconst 1, 1) := by decide +kernel
theorem dL_law_541 : decode cL_law 541 = .ok (.iadd, 1) := by decide +kernel
theorem dL_law_542 : decode cL_law 542 = .ok (.iaload, 1) := by decide +kernel
theorem dL_law_543 : decode cL_law 543 = .ok (.invokevirtual 68, 3) := by decide +kernel
theorem dL_law_546 : decode cL_law 546 = .ok (.if_icmp .eq 349, 3) := by decide +kernel
theorem dL_law_549 : decode cL_law 549 = .ok (.iconst 0, 1) := by decide +kernel
theorem dL_law_550 : decode cL_law 550 = .ok (.ireturn, 1) := by decide +kernel
theorem dL_law_551 : decode cL_law 551 = .ok (.aload_n 1, 1) := by decide +kernel
theorem dL_law_552 : decode cL_law 552 = .ok (.aload_n 0, 1) := by decide +kernel
theorem dL_law_553 : decode cL_law 553 = .ok (.iload_n 3, 1) := by decide +kernel
theorem dL_law_554 : decode cL_law 554 = .ok (.iconst 1, 1) := by decide +kernel
theorem dL_law_555 : decode cL_law 555 = .ok (.iadd, 1) := by decide +kernel
theorem dL_law_556 : decode cL_law 556 = .ok (.iaload, 1) := by decide +kernel
theorem dL_law_557 : decode cL_law 557 = .ok (.aload_n 0, 1) := by decide +kernel
theorem dL_law_558 : decode cL_law 558 = .ok (.iload_n 3, 1) := by decide +kernel
theorem dL_law_559 : decode cL_law 559 = .ok (.iconst 2, 1) := by decide +kernel
theorem dL_law_560 : decode cL_law 560 = .ok (.iadd, 1) := by decide +kernel
theorem dL_law_561 : decode cL_law 561 = .ok (.iaload, 1) := by decide +kernel
theorem dL_law_562 : decode cL_law 562 = .ok (.invokevirtual 69, 3) := by decide +kernel
theorem dL_law_565 : decode cL_law 565 = .ok (.aload_n 2, 1) := by decide +kernel
theorem dL_law_566 : decode cL_law 566 = .ok (.aload_n 0, 1) := by decide +kernel
theorem dL_law_567 : decode cL_law 567 = .ok (.iload_n 3, 1) := by decide +kernel
theorem dL_law_568 : decode cL_law 568 = .ok (.iconst 1, 1) := by decide +kernel
theorem dL_law_569 : decode cL_law 569 = .ok (.iadd, 1) := by decide +kernel
theorem dL_law_570 : decode cL_law 570 = .ok (.iaload, 1) := by decide +kernel
theorem dL_law_571 : decode cL_law 571 = .ok (.aload_n 0, 1) := by decide +kernel
theorem dL_law_572 : decode cL_law 572 = .ok (.iload_n 3, 1) := by decide +kernel
theorem dL_law_573 : decode cL_law 573 = .ok (.iconst 2, 1) := by decide +kernel
theorem dL_law_574 : decode cL_law 574 = .ok (.iadd, 1) := by decide +kernel
theorem dL_law_575 : decode cL_law 575 = .ok (.iaload, 1) := by decide +kernel
theorem dL_law_576 : decode cL_law 576 = .ok (.invokevirtual 72, 3) := by decide +kernel
theorem dL_law_579 : decode cL_law 579 = .ok (.if_icmp .eq 316, 3) := by decide +kernel
theorem dL_law_582 : decode cL_law 582 = .ok (.iconst 0, 1) := by decide +kernel
theorem dL_law_583 : decode cL_law 583 = .ok (.ireturn, 1) := by decide +kernel
theorem dL_law_584 : decode cL_law 584 = .ok (.aload_n 1, 1) := by decide +kernel
theorem dL_law_585 : decode cL_law 585 = .ok (.aload_n 0, 1) := by decide +kernel
theorem dL_law_586 : decode cL_law 586 = .ok (.iload_n 3, 1) := by decide +kernel
theorem dL_law_587 : decode cL_law 587 = .ok (.iconst 1, 1) := by decide +kernel
theorem dL_law_588 : decode cL_law 588 = .ok (.iadd, 1) := by decide +kernel
theorem dL_law_589 : decode cL_law 589 = .ok (.iaload, 1) := by decide +kernel
theorem dL_law_590 : decode cL_law 590 = .ok (.aload_n 0, 1) := by decide +kernel
theorem dL_law_591 : decode cL_law 591 = .ok (.iload_n 3, 1) := by decide +kernel
theorem dL_law_592 : decode cL_law 592 = .ok (.iconst 2, 1) := by decide +kernel
theorem dL_law_593 : decode cL_law 593 = .ok (.iadd, 1) := by decide +kernel
theorem dL_law_594 : decode cL_law 594 = .ok (.iaload, 1) := by decide +kernel
theorem dL_law_595 : decode cL_law 595 = .ok (.aload_n 0, 1) := by decide +kernel
theorem dL_law_596 : decode cL_law 596 = .ok (.iload_n 3, 1) := by decide +kernel
theorem dL_law_597 : decode cL_law 597 = .ok (.iconst 3, 1) := by decide +kernel
theorem dL_law_598 : decode cL_law 598 = .ok (.iadd, 1) := by decide +kernel
theorem dL_law_599 : decode cL_law 599 = .ok (.iaload, 1) := by decide +kernel
theorem dL_law_600 : decode cL_law 600 = .ok (.aload_n 0, 1) := by decide +kernel
theorem dL_law_601 : decode cL_law 601 = .ok (.iload_n 3, 1) := by decide +kernel
theorem dL_law_602 : decode cL_law 602 = .ok (.iconst 4, 1) := by decide +kernel
theorem dL_law_603 : decode cL_law 603 = .ok (.iadd, 1) := by decide +kernel
theorem dL_law_604 : decode cL_law 604 = .ok (.iaload, 1) := by decide +kernel
theorem dL_law_605 : decode cL_law 605 = .ok (.invokevirtual 73, 3) := by decide +kernel
theorem dL_law_608 : decode cL_law 608 = .ok (.aload_n 2, 1) := by decide +kernel
theorem dL_law_609 : decode cL_law 609 = .ok (.aload_n 0, 1) := by decide +kernel
theorem dL_law_610 : decode cL_law 610 = .ok (.iload_n 3, 1) := by decide +kernel
theorem dL_law_611 : decode cL_law 611 = .ok (.iconst 1, 1) := by decide +kernel
theorem dL_law_612 : decode cL_law 612 = .ok (.iadd, 1) := by decide +kernel
theorem dL_law_613 : decode cL_law 613 = .ok (.iaload, 1) := by decide +kernel
theorem dL_law_614 : decode cL_law 614 = .ok (.aload_n 0, 1) := by decide +kernel
theorem dL_law_615 : decode cL_law 615 = .ok (.iload_n 3, 1) := by decide +kernel
theorem dL_law_616 : decode cL_law 616 = .ok (.iconst 2, 1) := by decide +kernel
theorem dL_law_617 : decode cL_law 617 = .ok (.iadd, 1) := by decide +kernel
theorem dL_law_618 : decode cL_law 618 = .ok (.iaload, 1) := by decide +kernel
theorem dL_law_619 : decode cL_law 619 = .ok (.aload_n 0, 1) := by decide +kernel
theorem dL_law_620 : decode cL_law 620 = .ok (.iload_n 3, 1) := by decide +kernel
theorem dL_law_621 : decode cL_law 621 = .ok (.iconst 3, 1) := by decide +kernel
theorem dL_law_622 : decode cL_law 622 = .ok (.iadd, 1) := by decide +kernel
theorem dL_law_623 : decode cL_law 623 = .ok (.iaload, 1) := by decide +kernel
theorem dL_law_624 : decode cL_law 624 = .ok (.aload_n 0, 1) := by decide +kernel
theorem dL_law_625 : decode cL_law 625 = .ok (.iload_n 3, 1) := by decide +kernel
theorem dL_law_626 : decode cL_law 626 = .ok (.iconst 4, 1) := by decide +kernel
theorem dL_law_627 : decode cL_law 627 = .ok (.iadd, 1) := by decide +kernel
theorem dL_law_628 : decode cL_law 628 = .ok (.iaload, 1) := by decide +kernel
theorem dL_law_629 : decode cL_law 629 = .ok (.invokevirtual 76, 3) := by decide +kernel
theorem dL_law_632 : decode cL_law 632 = .ok (.if_icmp .eq 263, 3) := by decide +kernel
theorem dL_law_635 : decode cL_law 635 = .ok (.iconst 0, 1) := by decide +kernel
theorem dL_law_636 : decode cL_law 636 = .ok (.ireturn, 1) := by decide +kernel
theorem dL_law_637 : decode cL_law 637 = .ok (.aload_n 1, 1) := by decide +kernel
theorem dL_law_638 : decode cL_law 638 = .ok (.aload_n 0, 1) := by decide +kernel
theorem dL_law_639 : decode cL_law 639 = .ok (.iload_n 3, 1) := by decide +kernel
theorem dL_law_640 : decode cL_law 640 = .ok (.iconst 1, 1) := by decide +kernel
theorem dL_law_641 : decode cL_law 641 = .ok (.iadd, 1) := by decide +kernel
theorem dL_law_642 : decode cL_law 642 = .ok (.iaload, 1) := by decide +kernel
theorem dL_law_643 : decode cL_law 643 = .ok (.aload_n 0, 1) := by decide +kernel
theorem dL_law_644 : decode cL_law 644 = .ok (.iload_n 3, 1) := by decide +kernel
theorem dL_law_645 : decode cL_law 645 = .ok (.iconst 2, 1) := by decide +kernel
theorem dL_law_646 : decode cL_law 646 = .ok (.iadd, 1) := by decide +kernel
theorem dL_law_647 : decode cL_law 647 = .ok (.iaload, 1) := by decide +kernel
theorem dL_law_648 : decode cL_law 648 = .ok (.aload_n 0, 1) := by decide +kernel
theorem dL_law_649 : decode cL_law 649 = .ok (.iload_n 3, 1) := by decide +kernel
theorem dL_law_650 : decode cL_law 650 = .ok (.iconst 3, 1) := by decide +kernel
theorem dL_law_651 : decode cL_law 651 = .ok (.iadd, 1) := by decide +kernel
theorem dL_law_652 : decode cL_law 652 = .ok (.iaload, 1) := by decide +kernel
theorem dL_law_653 : decode cL_law 653 = .ok (.aload_n 0, 1) := by decide +kernel
theorem dL_law_654 : decode cL_law 654 = .ok (.iload_n 3, 1) := by decide +kernel
theorem dL_law_655 : decode cL_law 655 = .ok (.iconst 4, 1) := by decide +kernel
theorem dL_law_656 : decode cL_law 656 = .ok (.iadd, 1) := by decide +kernel
theorem dL_law_657 : decode cL_law 657 = .ok (.iaload, 1) := by decide +kernel
theorem dL_law_658 : decode cL_law 658 = .ok (.invokevirtual 77, 3) := by decide +kernel
theorem dL_law_661 : decode cL_law 661 = .ok (.aload_n 2, 1) := by decide +kernel
theorem dL_law_662 : decode cL_law 662 = .ok (.aload_n 0, 1) := by decide +kernel
theorem dL_law_663 : decode cL_law 663 = .ok (.iload_n 3, 1) := by decide +kernel
theorem dL_law_664 : decode cL_law 664 = .ok (.iconst 1, 1) := by decide +kernel
theorem dL_law_665 : decode cL_law 665 = .ok (.iadd, 1) := by decide +kernel
theorem dL_law_666 : decode cL_law 666 = .ok (.iaload, 1) := by decide +kernel
theorem dL_law_667 : decode cL_law 667 = .ok (.aload_n 0, 1) := by decide +kernel
theorem dL_law_668 : decode cL_law 668 = .ok (.iload_n 3, 1) := by decide +kernel
theorem dL_law_669 : decode cL_law 669 = .ok (.iconst 2, 1) := by decide +kernel
theorem dL_law_670 : decode cL_law 670 = .ok (.iadd, 1) := by decide +kernel
theorem dL_law_671 : decode cL_law 671 = .ok (.iaload, 1) := by decide +kernel
theorem dL_law_672 : decode cL_law 672 = .ok (.aload_n 0, 1) := by decide +kernel
theorem dL_law_673 : decode cL_law 673 = .ok (.iload_n 3, 1) := by decide +kernel
theorem dL_law_674 : decode cL_law 674 = .ok (.iconst 3, 1) := by decide +kernel
theorem dL_law_675 : decode cL_law 675 = .ok (.iadd, 1) := by decide +kernel
theorem dL_law_676 : decode cL_law 676 = .ok (.iaload, 1) := by decide +kernel
theorem dL_law_677 : decode cL_law 677 = .ok (.aload_n 0, 1) := by decide +kernel
theorem dL_law_678 : decode cL_law 678 = .ok (.iload_n 3, 1) := by decide +kernel
theorem dL_law_679 : decode cL_law 679 = .ok (.iconst 4, 1) := by decide +kernel
theorem dL_law_680 : decode cL_law 680 = .ok (.iadd, 1) := by decide +kernel
theorem dL_law_681 : decode cL_law 681 = .ok (.iaload, 1) := by decide +kernel
theorem dL_law_682 : decode cL_law 682 = .ok (.invokevirtual 80, 3) := by decide +kernel
theorem dL_law_685 : decode cL_law 685 = .ok (.if_icmp .eq 210, 3) := by decide +kernel
theorem dL_law_688 : decode cL_law 688 = .ok (.iconst 0, 1) := by decide +kernel
theorem dL_law_689 : decode cL_law 689 = .ok (.ireturn, 1) := by decide +kernel
theorem dL_law_690 : decode cL_law 690 = .ok (.aload_n 1, 1) := by decide +kernel
theorem dL_law_691 : decode cL_law 691 = .ok (.aload_n 0, 1) := by decide +kernel
theorem dL_law_692 : decode cL_law 692 = .ok (.iload_n 3, 1) := by decide +kernel
theorem dL_law_693 : decode cL_law 693 = .ok (.iconst 1, 1) := by decide +kernel
theorem dL_law_694 : decode cL_law 694 = .ok (.iadd, 1) := by decide +kernel
theorem dL_law_695 : decode cL_law 695 = .ok (.iaload, 1) := by decide +kernel
theorem dL_law_696 : decode cL_law 696 = .ok (.aload_n 0, 1) := by decide +kernel
theorem dL_law_697 : decode cL_law 697 = .ok (.iload_n 3, 1) := by decide +kernel
theorem dL_law_698 : decode cL_law 698 = .ok (.iconst 2, 1) := by decide +kernel
theorem dL_law_699 : decode cL_law 699 = .ok (.iadd, 1) := by decide +kernel
theorem dL_law_700 : decode cL_law 700 = .ok (.iaload, 1) := by decide +kernel
theorem dL_law_701 : decode cL_law 701 = .ok (.aload_n 0, 1) := by decide +kernel
theorem dL_law_702 : decode cL_law 702 = .ok (.iload_n 3, 1) := by decide +kernel
theorem dL_law_703 : decode cL_law 703 = .ok (.iconst 3, 1) := by decide +kernel
theorem dL_law_704 : decode cL_law 704 = .ok (.iadd, 1) := by decide +kernel
theorem dL_law_705 : decode cL_law 705 = .ok (.iaload, 1) := by decide +kernel
theorem dL_law_706 : decode cL_law 706 = .ok (.aload_n 0, 1) := by decide +kernel
theorem dL_law_707 : decode cL_law 707 = .ok (.iload_n 3, 1) := by decide +kernel
theorem dL_law_708 : decode cL_law 708 = .ok (.iconst 4, 1) := by decide +kernel
theorem dL_law_709 : decode cL_law 709 = .ok (.iadd, 1) := by decide +kernel
theorem dL_law_710 : decode cL_law 710 = .ok (.iaload, 1) := by decide +kernel
theorem dL_law_711 : decode cL_law 711 = .ok (.invokevirtual 81, 3) := by decide +kernel
theorem dL_law_714 : decode cL_law 714 = .ok (.aload_n 2, 1) := by decide +kernel
theorem dL_law_715 : decode cL_law 715 = .ok (.aload_n 0, 1) := by decide +kernel
theorem dL_law_716 : decode cL_law 716 = .ok (.iload_n 3, 1) := by decide +kernel
theorem dL_law_717 : decode cL_law 717 = .ok (.iconst 1, 1) := by decide +kernel
theorem dL_law_718 : decode cL_law 718 = .ok (.iadd, 1) := by decide +kernel
theorem dL_law_719 : decode cL_law 719 = .ok (.iaload, 1) := by decide +kernel
theorem dL_law_720 : decode cL_law 720 = .ok (.aload_n 0, 1) := by decide +kernel
theorem dL_law_721 : decode cL_law 721 = .ok (.iload_n 3, 1) := by decide +kernel
theorem dL_law_722 : decode cL_law 722 = .ok (.iconst 2, 1) := by decide +kernel
theorem dL_law_723 : decode cL_law 723 = .ok (.iadd, 1) := by decide +kernel
theorem dL_law_724 : decode cL_law 724 = .ok (.iaload, 1) := by decide +kernel
theorem dL_law_725 : decode cL_law 725 = .ok (.aload_n 0, 1) := by decide +kernel
theorem dL_law_726 : decode cL_law 726 = .ok (.iload_n 3, 1) := by decide +kernel
theorem dL_law_727 : decode cL_law 727 = .ok (.iconst 3, 1) := by decide +kernel
theorem dL_law_728 : decode cL_law 728 = .ok (.iadd, 1) := by decide +kernel
theorem dL_law_729 : decode cL_law 729 = .ok (.iaload, 1) := by decide +kernel
theorem dL_law_730 : decode cL_law 730 = .ok (.aload_n 0, 1) := by decide +kernel
theorem dL_law_731 : decode cL_law 731 = .ok (.iload_n 3, 1) := by decide +kernel
theorem dL_law_732 : decode cL_law 732 = .ok (.iconst 4, 1) := by decide +kernel
theorem dL_law_733 : decode cL_law 733 = .ok (.iadd, 1) := by decide +kernel
theorem dL_law_734 : decode cL_law 734 = .ok (.iaload, 1) := by decide +kernel
theorem dL_law_735 : decode cL_law 735 = .ok (.invokevirtual 84, 3) := by decide +kernel
theorem dL_law_738 : decode cL_law 738 = .ok (.if_icmp .eq 157, 3) := by decide +kernel
theorem dL_law_741 : decode cL_law 741 = .ok (.iconst 0, 1) := by decide +kernel
theorem dL_law_742 : decode cL_law 742 = .ok (.ireturn, 1) := by decide +kernel
theorem dL_law_743 : decode cL_law 743 = .ok (.aload_n 1, 1) := by decide +kernel
theorem dL_law_744 : decode cL_law 744 = .ok (.aload_n 0, 1) := by decide +kernel
theorem dL_law_745 : decode cL_law 745 = .ok (.iload_n 3, 1) := by decide +kernel
theorem dL_law_746 : decode cL_law 746 = .ok (.iconst 1, 1) := by decide +kernel
theorem dL_law_747 : decode cL_law 747 = .ok (.iadd, 1) := by decide +kernel
theorem dL_law_748 : decode cL_law 748 = .ok (.iaload, 1) := by decide +kernel
theorem dL_law_749 : decode cL_law 749 = .ok (.aload_n 0, 1) := by decide +kernel
theorem dL_law_750 : decode cL_law 750 = .ok (.iload_n 3, 1) := by decide +kernel
theorem dL_law_751 : decode cL_law 751 = .ok (.iconst 2, 1) := by decide +kernel
theorem dL_law_752 : decode cL_law 752 = .ok (.iadd, 1) := by decide +kernel
theorem dL_law_753 : decode cL_law 753 = .ok (.iaload, 1) := by decide +kernel
theorem dL_law_754 : decode cL_law 754 = .ok (.invokevirtual 85, 3) := by decide +kernel
theorem dL_law_757 : decode cL_law 757 = .ok (.aload_n 2, 1) := by decide +kernel
theorem dL_law_758 : decode cL_law 758 = .ok (.aload_n 0, 1) := by decide +kernel
theorem dL_law_759 : decode cL_law 759 = .ok (.iload_n 3, 1) := by decide +kernel
theorem dL_law_760 : decode cL_law 760 = .ok (.iconst 1, 1) := by decide +kernel
theorem dL_law_761 : decode cL_law 761 = .ok (.iadd, 1) := by decide +kernel
theorem dL_law_762 : decode cL_law 762 = .ok (.iaload, 1) := by decide +kernel
theorem dL_law_763 : decode cL_law 763 = .ok (.aload_n 0, 1) := by decide +kernel
theorem dL_law_764 : decode cL_law 764 = .ok (.iload_n 3, 1) := by decide +kernel
theorem dL_law_765 : decode cL_law 765 = .ok (.iconst 2, 1) := by decide +kernel
theorem dL_law_766 : decode cL_law 766 = .ok (.iadd, 1) := by decide +kernel
theorem dL_law_767 : decode cL_law 767 = .ok (.iaload, 1) := by decide +kernel
theorem dL_law_768 : decode cL_law 768 = .ok (.invokevirtual 88, 3) := by decide +kernel
theorem dL_law_771 : decode cL_law 771 = .ok (.if_icmp .eq 124, 3) := by decide +kernel
theorem dL_law_774 : decode cL_law 774 = .ok (.iconst 0, 1) := by decide +kernel
theorem dL_law_775 : decode cL_law 775 = .ok (.ireturn, 1) := by decide +kernel
theorem dL_law_776 : decode cL_law 776 = .ok (.aload_n 1, 1) := by decide +kernel
theorem dL_law_777 : decode cL_law 777 = .ok (.aload_n 0, 1) := by decide +kernel
theorem dL_law_778 : decode cL_law 778 = .ok (.iload_n 3, 1) := by decide +kernel
theorem dL_law_779 : decode cL_law 779 = .ok (.iconst 1, 1) := by decide +kernel
theorem dL_law_780 : decode cL_law 780 = .ok (.iadd, 1) := by decide +kernel
theorem dL_law_781 : decode cL_law 781 = .ok (.iaload, 1) := by decide +kernel
theorem dL_law_782 : decode cL_law 782 = .ok (.aload_n 0, 1) := by decide +kernel
theorem dL_law_783 : decode cL_law 783 = .ok (.iload_n 3, 1) := by decide +kernel
theorem dL_law_784 : decode cL_law 784 = .ok (.iconst 2, 1) := by decide +kernel
theorem dL_law_785 : decode cL_law 785 = .ok (.iadd, 1) := by decide +kernel
theorem dL_law_786 : decode cL_law 786 = .ok (.iaload, 1) := by decide +kernel
theorem dL_law_787 : decode cL_law 787 = .ok (.aload_n 0, 1) := by decide +kernel
theorem dL_law_788 : decode cL_law 788 = .ok (.iload_n 3, 1) := by decide +kernel
theorem dL_law_789 : decode cL_law 789 = .ok (.iconst 3, 1) := by decide +kernel
theorem dL_law_790 : decode cL_law 790 = .ok (.iadd, 1) := by decide +kernel
theorem dL_law_791 : decode cL_law 791 = .ok (.iaload, 1) := by decide +kernel
theorem dL_law_792 : decode cL_law 792 = .ok (.invokevirtual 89, 3) := by decide +kernel
theorem dL_law_795 : decode cL_law 795 = .ok (.aload_n 2, 1) := by decide +kernel
theorem dL_law_796 : decode cL_law 796 = .ok (.aload_n 0, 1) := by decide +kernel
theorem dL_law_797 : decode cL_law 797 = .ok (.iload_n 3, 1) := by decide +kernel
theorem dL_law_798 : decode cL_law 798 = .ok (.iconst 1, 1) := by decide +kernel
theorem dL_law_799 : decode cL_law 799 = .ok (.iadd, 1) := by decide +kernel
theorem dL_law_800 : decode cL_law 800 = .ok (.iaload, 1) := by decide +kernel
theorem dL_law_801 : decode cL_law 801 = .ok (.aload_n 0, 1) := by decide +kernel
theorem dL_law_802 : decode cL_law 802 = .ok (.iload_n 3, 1) := by decide +kernel
theorem dL_law_803 : decode cL_law 803 = .ok (.iconst 2, 1) := by decide +kernel
theorem dL_law_804 : decode cL_law 804 = .ok (.iadd, 1) := by decide +kernel
theorem dL_law_805 : decode cL_law 805 = .ok (.iaload, 1) := by decide +kernel
theorem dL_law_806 : decode cL_law 806 = .ok (.aload_n 0, 1) := by decide +kernel
theorem dL_law_807 : decode cL_law 807 = .ok (.iload_n 3, 1) := by decide +kernel
theorem dL_law_808 : decode cL_law 808 = .ok (.iconst 3, 1) := by decide +kernel
theorem dL_law_809 : decode cL_law 809 = .ok (.iadd, 1) := by decide +kernel
theorem dL_law_810 : decode cL_law 810 = .ok (.iaload, 1) := by decide +kernel
theorem dL_law_811 : decode cL_law 811 = .ok (.invokevirtual 92, 3) := by decide +kernel
theorem dL_law_814 : decode cL_law 814 = .ok (.if_icmp .eq 81, 3) := by decide +kernel
theorem dL_law_817 : decode cL_law 817 = .ok (.iconst 0, 1) := by decide +kernel
theorem dL_law_818 : decode cL_law 818 = .ok (.ireturn, 1) := by decide +kernel
theorem dL_law_819 : decode cL_law 819 = .ok (.aload_n 1, 1) := by decide +kernel
theorem dL_law_820 : decode cL_law 820 = .ok (.aload_n 0, 1) := by decide +kernel
theorem dL_law_821 : decode cL_law 821 = .ok (.iload_n 3, 1) := by decide +kernel
theorem dL_law_822 : decode cL_law 822 = .ok (.iconst 1, 1) := by decide +kernel
theorem dL_law_823 : decode cL_law 823 = .ok (.iadd, 1) := by decide +kernel
theorem dL_law_824 : decode cL_law 824 = .ok (.iaload, 1) := by decide +kernel
theorem dL_law_825 : decode cL_law 825 = .ok (.aload_n 0, 1) := by decide +kernel
theorem dL_law_826 : decode cL_law 826 = .ok (.iload_n 3, 1) := by decide +kernel
theorem dL_law_827 : decode cL_law 827 = .ok (.iconst 2, 1) := by decide +kernel
theorem dL_law_828 : decode cL_law 828 = .ok (.iadd, 1) := by decide +kernel
theorem dL_law_829 : decode cL_law 829 = .ok (.iaload, 1) := by decide +kernel
theorem dL_law_830 : decode cL_law 830 = .ok (.aload_n 0, 1) := by decide +kernel
theorem dL_law_831 : decode cL_law 831 = .ok (.iload_n 3, 1) := by decide +kernel
theorem dL_law_832 : decode cL_law 832 = .ok (.iconst 3, 1) := by decide +kernel
theorem dL_law_833 : decode cL_law 833 = .ok (.iadd, 1) := by decide +kernel
theorem dL_law_834 : decode cL_law 834 = .ok (.iaload, 1) := by decide +kernel
theorem dL_law_835 : decode cL_law 835 = .ok (.aload_n 0, 1) := by decide +kernel
theorem dL_law_836 : decode cL_law 836 = .ok (.iload_n 3, 1) := by decide +kernel
theorem dL_law_837 : decode cL_law 837 = .ok (.iconst 4, 1) := by decide +kernel
theorem dL_law_838 : decode cL_law 838 = .ok (.iadd, 1) := by decide +kernel
theorem dL_law_839 : decode cL_law 839 = .ok (.iaload, 1) := by decide +kernel
theorem dL_law_840 : decode cL_law 840 = .ok (.invokevirtual 93, 3) := by decide +kernel
theorem dL_law_843 : decode cL_law 843 = .ok (.aload_n 2, 1) := by decide +kernel
theorem dL_law_844 : decode cL_law 844 = .ok (.aload_n 0, 1) := by decide +kernel
theorem dL_law_845 : decode cL_law 845 = .ok (.iload_n 3, 1) := by decide +kernel
theorem dL_law_846 : decode cL_law 846 = .ok (.iconst 1, 1) := by decide +kernel
theorem dL_law_847 : decode cL_law 847 = .ok (.iadd, 1) := by decide +kernel
theorem dL_law_848 : decode cL_law 848 = .ok (.iaload, 1) := by decide +kernel
theorem dL_law_849 : decode cL_law 849 = .ok (.aload_n 0, 1) := by decide +kernel
theorem dL_law_850 : decode cL_law 850 = .ok (.iload_n 3, 1) := by decide +kernel
theorem dL_law_851 : decode cL_law 851 = .ok (.iconst 2, 1) := by decide +kernel
theorem dL_law_852 : decode cL_law 852 = .ok (.iadd, 1) := by decide +kernel
theorem dL_law_853 : decode cL_law 853 = .ok (.iaload, 1) := by decide +kernel
theorem dL_law_854 : decode cL_law 854 = .ok (.aload_n 0, 1) := by decide +kernel
theorem dL_law_855 : decode cL_law 855 = .ok (.iload_n 3, 1) := by decide +kernel
theorem dL_law_856 : decode cL_law 856 = .ok (.iconst 3, 1) := by decide +kernel
theorem dL_law_857 : decode cL_law 857 = .ok (.iadd, 1) := by decide +kernel
theorem dL_law_858 : decode cL_law 858 = .ok (.iaload, 1) := by decide +kernel
theorem dL_law_859 : decode cL_law 859 = .ok (.aload_n 0, 1) := by decide +kernel
theorem dL_law_860 : decode cL_law 860 = .ok (.iload_n 3, 1) := by decide +kernel
theorem dL_law_861 : decode cL_law 861 = .ok (.iconst 4, 1) := by decide +kernel
theorem dL_law_862 : decode cL_law 862 = .ok (.iadd, 1) := by decide +kernel
theorem dL_law_863 : decode cL_law 863 = .ok (.iaload, 1) := by decide +kernel
theorem dL_law_864 : decode cL_law 864 = .ok (.invokevirtual 96, 3) := by decide +kernel
theorem dL_law_867 : decode cL_law 867 = .ok (.if_icmp .eq 28, 3) := by decide +kernel
theorem dL_law_870 : decode cL_law 870 = .ok (.iconst 0, 1) := by decide +kernel
theorem dL_law_871 : decode cL_law 871 = .ok (.ireturn, 1) := by decide +kernel
theorem dL_law_872 : decode cL_law 872 = .ok (.aload_n 1, 1) := by decide +kernel
theorem dL_law_873 : decode cL_law 873 = .ok (.aload_n 0, 1) := by decide +kernel
theorem dL_law_874 : decode cL_law 874 = .ok (.iload_n 3, 1) := by decide +kernel
theorem dL_law_875 : decode cL_law 875 = .ok (.iconst 1, 1) := by decide +kernel
theorem dL_law_876 : decode cL_law 876 = .ok (.iadd, 1) := by decide +kernel
theorem dL_law_877 : decode cL_law 877 = .ok (.iaload, 1) := by decide +kernel
theorem dL_law_878 : decode cL_law 878 = .ok (.invokevirtual 97, 3) := by decide +kernel
theorem dL_law_881 : decode cL_law 881 = .ok (.aload_n 2, 1) := by decide +kernel
theorem dL_law_882 : decode cL_law 882 = .ok (.aload_n 0, 1) := by decide +kernel
theorem dL_law_883 : decode cL_law 883 = .ok (.iload_n 3, 1) := by decide +kernel
theorem dL_law_884 : decode cL_law 884 = .ok (.iconst 1, 1) := by decide +kernel
theorem dL_law_885 : decode cL_law 885 = .ok (.iadd, 1) := by decide +kernel
theorem dL_law_886 : decode cL_law 886 = .ok (.iaload, 1) := by decide +kernel
theorem dL_law_887 : decode cL_law 887 = .ok (.invokevirtual 100, 3) := by decide +kernel
theorem dL_law_890 : decode cL_law 890 = .ok (.if_icmp .eq 5, 3) := by decide +kernel
theorem dL_law_893 : decode cL_law 893 = .ok (.iconst 0, 1) := by decide +kernel
theorem dL_law_894 : decode cL_law 894 = .ok (.ireturn, 1) := by decide +kernel
theorem dL_law_895 : decode cL_law 895 = .ok (.iinc 3 5, 3) := by decide +kernel
theorem dL_law_898 : decode cL_law 898 = .ok (.goto (-880), 3) := by decide +kernel
theorem dL_law_901 : decode cL_law 901 = .ok (.iconst 1, 1) := by decide +kernel
theorem dL_law_902 : decode cL_law 902 = .ok (.ireturn, 1) := by decide +kernel
end
section
theorem mem_r {big ws : List Cond} (ps : List Nat) (hp : ws = ps.filterMap (fun i => big[i]?)) : ∀ w ∈ ws, w ∈ big := by
  intro w hw
  rw [hp] at hw
  obtain ⟨i, -, hi⟩ := List.mem_filterMap.mp hw
  exact List.mem_of_getElem? hi
theorem inX0 : ∀ w ∈ wsX00, w ∈ lw_tbl := mem_r [57, 59, 61, 63, 65, 67, 69, 71, 73] (by decide +kernel)
theorem inX1 : ∀ w ∈ wsX10, w ∈ lw_tbl := mem_r [320, 322, 324, 326, 328, 330, 332, 334, 336] (by decide +kernel)
theorem wsL_law_in_1 : ∀ w ∈ wsL_law_r1, w ∈ lw_tbl := mem_r [40, 41, 37, 305, 306, 38, 42, 43, 44, 45, 46, 47, 76, 48, 49, 50, 51, 54, 55, 56, 307, 308, 309, 310] (by decide +kernel)
theorem wsL_law_in_2 : ∀ w ∈ wsL_law_r2, w ∈ lw_tbl := mem_r [311, 313, 315, 316, 317, 318, 319, 77, 78, 79, 80, 81, 82, 83, 339, 340, 341, 342, 343, 344, 345, 346, 347, 84] (by decide +kernel)
theorem wsL_law_in_3 : ∀ w ∈ wsL_law_r3, w ∈ lw_tbl := mem_r [85, 86, 87, 52, 88, 90, 0, 91, 348, 349, 350, 351, 352, 353, 312, 92, 93, 94, 95, 96, 98, 1, 99, 354] (by decide +kernel)
theorem wsL_law_in_4 : ∀ w ∈ wsL_law_r4, w ∈ lw_tbl := mem_r [355, 356, 357, 358, 360, 22, 361, 100, 101, 102, 103, 53, 362, 363, 364, 365, 366, 314, 104, 105, 106, 107, 367, 368] (by decide +kernel)
theorem wsL_law_in_5 : ∀ w ∈ wsL_law_r5, w ∈ lw_tbl := mem_r [369, 370, 371, 373, 23, 374, 108, 109, 110, 111, 112, 113, 114, 115, 117, 2, 118, 119, 120, 121, 375, 376, 377, 378] (by decide +kernel)
theorem wsL_law_in_6 : ∀ w ∈ wsL_law_r6, w ∈ lw_tbl := mem_r [382, 379, 380, 381, 383, 384, 386, 24, 387, 122, 123, 124, 125, 126, 139, 127, 129, 3, 130, 131, 133, 4, 134, 135] (by decide +kernel)
theorem wsL_law_in_7 : ∀ w ∈ wsL_law_r7, w ∈ lw_tbl := mem_r [137, 5, 138, 388, 389, 390, 391, 392, 393, 398, 394, 396, 25, 397, 140, 141, 142, 143, 144, 146, 6, 147, 148, 150] (by decide +kernel)
theorem wsL_law_in_8 : ∀ w ∈ wsL_law_r8, w ∈ lw_tbl := mem_r [7, 151, 152, 153, 39, 154, 155, 157, 8, 158, 159, 161, 9, 162, 163, 165, 10, 166, 167, 169, 11, 170, 171, 173] (by decide +kernel)
theorem wsL_law_in_9 : ∀ w ∈ wsL_law_r9, w ∈ lw_tbl := mem_r [12, 174, 175, 177, 13, 178, 412, 413, 414, 415, 416, 404, 406, 26, 407, 408, 410, 27, 411, 179, 180, 181, 182, 183] (by decide +kernel)
theorem wsL_law_in_10 : ∀ w ∈ wsL_law_r10, w ∈ lw_tbl := mem_r [184, 185, 186, 399, 400, 401, 402, 403, 187, 188, 189, 190, 191, 193, 14, 194, 195, 196, 197, 198, 417, 418, 419, 420] (by decide +kernel)
theorem wsL_law_in_11 : ∀ w ∈ wsL_law_r11, w ∈ lw_tbl := mem_r [421, 422, 423, 424, 426, 28, 427, 199, 200, 201, 202, 203, 204, 206, 15, 207, 208, 209, 210, 211, 212, 213, 214, 215] (by decide +kernel)
theorem wsL_law_in_12 : ∀ w ∈ wsL_law_r12, w ∈ lw_tbl := mem_r [216, 428, 429, 430, 431, 432, 433, 435, 29, 436, 437, 438, 439, 440, 441, 442, 217, 218, 219, 220, 221, 223, 16, 224] (by decide +kernel)
theorem wsL_law_in_13 : ∀ w ∈ wsL_law_r13, w ∈ lw_tbl := mem_r [225, 227, 17, 228, 229, 230, 231, 443, 444, 445, 446, 447, 449, 30, 450, 451, 453, 31, 454, 232, 233, 234, 235, 455] (by decide +kernel)
theorem wsL_law_in_14 : ∀ w ∈ wsL_law_r14, w ∈ lw_tbl := mem_r [456, 457, 458, 236, 237, 238, 239, 459, 460, 461, 462, 463, 464, 465, 240, 241, 242, 243, 244, 245, 246, 247, 248, 250] (by decide +kernel)
theorem wsL_law_in_15 : ∀ w ∈ wsL_law_r15, w ∈ lw_tbl := mem_r [18, 251, 466, 467, 468, 469, 474, 470, 471, 472, 473, 475, 477, 32, 478, 479, 252, 253, 254, 255, 480, 481, 482, 483] (by decide +kernel)
theorem wsL_law_in_16 : ∀ w ∈ wsL_law_r16, w ∈ lw_tbl := mem_r [256, 257, 258, 259, 260, 261, 262, 263, 264, 265, 266, 267, 268, 484, 485, 486, 487, 269, 270, 271, 272, 488, 489, 490] (by decide +kernel)
theorem wsL_law_in_17 : ∀ w ∈ wsL_law_r17, w ∈ lw_tbl := mem_r [491, 492, 493, 273, 274, 275, 276, 277, 278, 279, 280, 282, 19, 283, 284, 286, 20, 287, 288, 290, 21, 291, 494, 495] (by decide +kernel)
theorem wsL_law_in_18 : ∀ w ∈ wsL_law_r18, w ∈ lw_tbl := mem_r [496, 497, 498, 499, 500, 501, 503, 33, 504, 505, 507, 34, 508, 509, 511, 35, 512, 292, 293, 294, 295, 296, 300, 297] (by decide +kernel)
theorem wsL_law_in_19 : ∀ w ∈ wsL_law_r19, w ∈ lw_tbl := mem_r [298, 39, 299, 513, 514, 515, 516, 517, 518, 519, 301, 302, 303, 304, 520, 521, 522, 523] (by decide +kernel)
theorem wsL_law_in : ∀ w ∈ wsL_law, w ∈ lw_tbl := by
  intro w h
  rcases List.mem_append.mp h with h | h
  · rcases List.mem_append.mp h with h | h
    · rcases List.mem_append.mp h with h | h
      · skip
        rcases List.mem_append.mp h with h | h
        · exact wsL_law_in_1 w h
        rcases List.mem_append.mp h with h | h
        · exact wsL_law_in_2 w h
        rcases List.mem_append.mp h with h | h
        · exact wsL_law_in_3 w h
        rcases List.mem_append.mp h with h | h
        · exact wsL_law_in_4 w h
        rcases List.mem_append.mp h with h | h
        · exact wsL_law_in_5 w h
        rcases List.mem_append.mp h with h | h
        · exact wsL_law_in_6 w h
        rcases List.mem_append.mp h with h | h
        · exact wsL_law_in_7 w h
        rcases List.mem_append.mp h with h | h
        · exact wsL_law_in_8 w h
        rcases List.mem_append.mp h with h | h
        · exact wsL_law_in_9 w h
        rcases List.mem_append.mp h with h | h
        · exact wsL_law_in_10 w h
        rcases List.mem_append.mp h with h | h
        · exact wsL_law_in_11 w h
        rcases List.mem_append.mp h with h | h
        · exact wsL_law_in_12 w h
        rcases List.mem_append.mp h with h | h
        · exact wsL_law_in_13 w h
        rcases List.mem_append.mp h with h | h
        · exact wsL_law_in_14 w h
        rcases List.mem_append.mp h with h | h
        · exact wsL_law_in_15 w h
        rcases List.mem_append.mp h with h | h
        · exact wsL_law_in_16 w h
        rcases List.mem_append.mp h with h | h
        · exact wsL_law_in_17 w h
        rcases List.mem_append.mp h with h | h
        · exact wsL_law_in_18 w h
        exact wsL_law_in_19 w h
      · exact inX0 w h
    · exact inX1 w h
  · cases h
end
section
/-! numbers: an int on the machine is shown as the Int that it stands for -/
abbrev inI (a : Int) : Prop := -2147483648 ≤ a ∧ a ≤ 2147483647
abbrev inL (a : Int) : Prop := -9223372036854775808 ≤ a ∧ a ≤ 9223372036854775807
def jI (a : Int) : Value := .int (Int32.ofInt a)
def jL (a : Int) : Value := .long (Int64.ofInt a)
def jF (H : Int → Int) : Nat → Int32 := fun k => Int32.ofInt (H (k : Int))
noncomputable def bI (P : Prop) : Int := @ite _ P (Classical.propDecidable P) 1 0
theorem bI_t {P : Prop} (h : P) : (1 : Int) = bI P := by
  unfold bI
  exact (@if_pos P (Classical.propDecidable P) h _ _ _).symm
theorem bI_f {P : Prop} (h : ¬ P) : (0 : Int) = bI P := by
  unfold bI
  exact (@if_neg P (Classical.propDecidable P) h _ _ _).symm
theorem bI_c {P : Prop} : (bI P = 1 ∧ P) ∨ (bI P = 0 ∧ ¬ P) := by
  by_cases h : P
  · exact Or.inl ⟨(bI_t h).symm, h⟩
  · exact Or.inr ⟨(bI_f h).symm, h⟩
theorem bI_x {P Q : Prop} (h : P ↔ Q) : bI P = bI Q := by rw [propext h]
theorem tI {a : Int} (h : inI a) : (Int32.ofInt a).toInt = a := Int32.toInt_ofInt_of_le (by omega) (by omega)
theorem tL {a : Int} (h : inL a) : (Int64.ofInt a).toInt = a := Int64.toInt_ofInt_of_le (by omega) (by omega)
theorem inI_toInt (x : Int32) : inI x.toInt := by
  have h1 := x.le_toInt
  have h2 := x.toInt_lt
  omega
theorem jI_toInt (x : Int32) : Value.int x = jI x.toInt := by
  unfold jI
  rw [Int32.ofInt_toInt]
theorem oI_inj {a b : Int} (ha : inI a) (hb : inI b) : Int32.ofInt a = Int32.ofInt b ↔ a = b := by
  rw [← Int32.toInt_inj, tI ha, tI hb]
theorem oI_lt {a b : Int} (ha : inI a) (hb : inI b) : Int32.ofInt a < Int32.ofInt b ↔ a < b := by
  rw [Int32.lt_iff_toInt_lt, tI ha, tI hb]
theorem oI_le {a b : Int} (ha : inI a) (hb : inI b) : Int32.ofInt a ≤ Int32.ofInt b ↔ a ≤ b := by
  rw [Int32.le_iff_toInt_le, tI ha, tI hb]
theorem oI_zero : (0 : Int32) = Int32.ofInt 0 := by decide
theorem in0 : inI 0 := by decide
theorem oL_inj {a b : Int} (ha : inL a) (hb : inL b) : Int64.ofInt a = Int64.ofInt b ↔ a = b := by
  rw [← Int64.toInt_inj, tL ha, tL hb]
theorem oL_lt {a b : Int} (ha : inL a) (hb : inL b) : Int64.ofInt a < Int64.ofInt b ↔ a < b := by
  rw [Int64.lt_iff_toInt_lt, tL ha, tL hb]
theorem oI_div {a b : Int} (ha : inI a) (hb : 0 < b ∧ b ≤ 2147483647) : Int32.ofInt a / Int32.ofInt b = Int32.ofInt (a.tdiv b) := by
  have hb2 : inI b := by omega
  rw [← Int32.toInt_inj, Int32.toInt_div_of_ne_right, tI ha, tI hb2, tI]
  · have h1 := Int.natAbs_tdiv_le_natAbs a b
    by_cases h : a = -2147483648
    · subst h
      by_cases h9 : b = 1
      · subst h9
        decide
      · have h3 : Int.tdiv (-2147483648) b = -(Int.tdiv 2147483648 b) := Int.neg_tdiv ..
        have h4 := Int.tdiv_eq_ediv_of_nonneg (a := 2147483648) (b := b) (by decide)
        have h5 : (2147483648 : Int) / b ≤ 2147483648 / 2 := by
          refine Int.ediv_le_of_le_mul (by omega) ?_
          have : (2147483648 : Int) / 2 = 1073741824 := by decide
          omega
        have h6 : 0 ≤ (2147483648 : Int) / b := Int.ediv_nonneg (by decide) (by omega)
        have : (2147483648 : Int) / 2 = 1073741824 := by decide
        omega
    · omega
  · intro h
    have h2 := congrArg Int32.toInt h
    rw [tI hb2] at h2
    have h3 : (-1 : Int32).toInt = -1 := by decide
    omega
theorem oL_div {a b : Int} (ha : inL a) (hb : 0 < b ∧ b ≤ 9223372036854775807) (ha2 : -9223372036854775808 < a) : Int64.ofInt a / Int64.ofInt b = Int64.ofInt (a.tdiv b) := by
  have hb2 : inL b := by omega
  rw [← Int64.toInt_inj, Int64.toInt_div_of_ne_right, tL ha, tL hb2, tL]
  · have h1 := Int.natAbs_tdiv_le_natAbs a b
    omega
  · intro h
    have h2 := congrArg Int64.toInt h
    rw [tL hb2] at h2
    have h3 : (-1 : Int64).toInt = -1 := by decide
    omega
theorem oI_ne {b : Int} (hb : 0 < b ∧ b ≤ 2147483647) : ¬ Int32.ofInt b = 0 := by
  rw [oI_zero, oI_inj (by omega) in0]
  omega
theorem oL_ne {b : Int} (hb : 0 < b ∧ b ≤ 9223372036854775807) : ¬ Int64.ofInt b = 0 := by
  have h : (0 : Int64) = Int64.ofInt 0 := by decide
  rw [h, oL_inj (by omega) (by decide)]
  omega
theorem oI_rem {a b : Int} (ha : inI a) (hb : 0 < b ∧ b ≤ 2147483647) : Int32.ofInt a - Int32.ofInt a / Int32.ofInt b * Int32.ofInt b = Int32.ofInt (a.tmod b) := by
  rw [oI_div ha hb, ← Int32.ofInt_mul, ← Int32.ofInt_sub, Int.tmod_def, Int.mul_comm b]
theorem oL_rem {a b : Int} (ha : inL a) (hb : 0 < b ∧ b ≤ 9223372036854775807) (ha2 : -9223372036854775808 < a) : Int64.ofInt a - Int64.ofInt a / Int64.ofInt b * Int64.ofInt b = Int64.ofInt (a.tmod b) := by
  rw [oL_div ha hb ha2, ← Int64.ofInt_mul, ← Int64.ofInt_sub, Int.tmod_def, Int.mul_comm b]
theorem o_i2l {a : Int} (ha : inI a) : (Int32.ofInt a).toInt64 = Int64.ofInt a := by
  rw [← Int64.toInt_inj, Int32.toInt_toInt64, tI ha, tL (by omega)]
theorem o_nat {a : Int} (ha : inI a) : (Int32.ofInt a).toNatClampNeg = a.toNat := Int32.toNatClampNeg_ofInt_of_le (by omega) (by omega)
theorem o_in {a : Int} {n : Nat} (h : 0 ≤ a ∧ a < (n : Int)) (ha : inI a) : vp_in (Int32.ofInt a) n := by
  unfold vp_in
  rw [o_nat ha, oI_zero, oI_lt ha in0]
  omega
theorem jF_at {H : Int → Int} {a : Int} (h : 0 ≤ a) (ha : inI a) : jF H (Int32.ofInt a).toNatClampNeg = Int32.ofInt (H a) := by
  rw [o_nat ha]
  unfold jF
  rw [Int.toNat_of_nonneg h]
def jU (H : Int → Int) (k x : Int) : Int → Int := fun j => if j = k then x else H j
theorem jU_self (H : Int → Int) (k x : Int) : jU H k x k = x := by simp [jU]
theorem jU_ne (H : Int → Int) {k j : Int} (x : Int) (h : j ≠ k) : jU H k x j = H j := by simp [jU, h]
theorem jF_up {H : Int → Int} {a x : Int} (h : 0 ≤ a) (ha : inI a) : upd (jF H) (Int32.ofInt a).toNatClampNeg (Int32.ofInt x) = jF (jU H a x) := by
  rw [o_nat ha]
  funext q
  unfold upd jF jU
  by_cases hq : q = a.toNat
  · rw [if_pos hq, if_pos (by omega)]
  · rw [if_neg hq, if_neg (by omega)]
/-! intervals -/
theorem iv_add {a b la ua lb ub lo hi : Int} (ha : la ≤ a ∧ a ≤ ua) (hb : lb ≤ b ∧ b ≤ ub) (h : (decide (lo ≤ la + lb) && decide (ua + ub ≤ hi)) = true) : lo ≤ a + b ∧ a + b ≤ hi := by
  simp only [Bool.and_eq_true, decide_eq_true_eq] at h
  omega
theorem iv_sub {a b la ua lb ub lo hi : Int} (ha : la ≤ a ∧ a ≤ ua) (hb : lb ≤ b ∧ b ≤ ub) (h : (decide (lo ≤ la - ub) && decide (ua - lb ≤ hi)) = true) : lo ≤ a - b ∧ a - b ≤ hi := by
  simp only [Bool.and_eq_true, decide_eq_true_eq] at h
  omega
theorem iv_neg {a la ua lo hi : Int} (ha : la ≤ a ∧ a ≤ ua) (h : (decide (lo ≤ -ua) && decide (-la ≤ hi)) = true) : lo ≤ -a ∧ -a ≤ hi := by
  simp only [Bool.and_eq_true, decide_eq_true_eq] at h
  omega
theorem iv_mulp {a b la ua lb ub lo hi : Int} (ha : la ≤ a ∧ a ≤ ua) (hb : lb ≤ b ∧ b ≤ ub) (h : (decide (0 ≤ la) && (decide (0 ≤ lb) && (decide (lo ≤ la * lb) && decide (ua * ub ≤ hi)))) = true) : lo ≤ a * b ∧ a * b ≤ hi := by
  simp only [Bool.and_eq_true, decide_eq_true_eq] at h
  have h1 : la * lb ≤ a * b := Int.mul_le_mul ha.1 hb.1 h.2.1 (by omega)
  have h2 : a * b ≤ ua * ub := Int.mul_le_mul ha.2 hb.2 (by omega) (by omega)
  omega
theorem mul_lo {a b A B : Int} (ha : -A ≤ a ∧ a ≤ A) (hb : -B ≤ b ∧ b ≤ B) : -(A * B) ≤ a * b ∧ a * b ≤ A * B := by
  have hA : 0 ≤ A := by omega
  have hB : 0 ≤ B := by omega
  have h1 : a.natAbs ≤ A.natAbs := by omega
  have h2 : b.natAbs ≤ B.natAbs := by omega
  have h3 : (a * b).natAbs ≤ (A * B).natAbs := by
    rw [Int.natAbs_mul, Int.natAbs_mul]
    exact Nat.mul_le_mul h1 h2
  have h4 : 0 ≤ A * B := Int.mul_nonneg hA hB
  omega
theorem iv_mul {a b la ua lb ub lo hi : Int} (A B : Int) (ha : la ≤ a ∧ a ≤ ua) (hb : lb ≤ b ∧ b ≤ ub) (h : (decide (-A ≤ la) && (decide (ua ≤ A) && (decide (-B ≤ lb) && (decide (ub ≤ B) && (decide (lo ≤ -(A * B)) && decide (A * B ≤ hi)))))) = true) : lo ≤ a * b ∧ a * b ≤ hi := by
  simp only [Bool.and_eq_true, decide_eq_true_eq] at h
  have h1 := mul_lo (a := a) (b := b) (A := A) (B := B) (by omega) (by omega)
  omega
theorem iv_div {a b la ua lo hi : Int} (ha : la ≤ a ∧ a ≤ ua) (hb : 0 < b) (h : (decide (0 ≤ la) && (decide (lo ≤ 0) && decide (ua ≤ hi))) = true) : lo ≤ a / b ∧ a / b ≤ hi := by
  simp only [Bool.and_eq_true, decide_eq_true_eq] at h
  have h1 : 0 ≤ a / b := Int.ediv_nonneg (by omega) (by omega)
  have h2 : a / b ≤ a := Int.ediv_le_self b (by omega)
  omega
theorem iv_mod {a b lb ub lo hi : Int} (hb : lb ≤ b ∧ b ≤ ub) (h : (decide (0 < lb) && (decide (lo ≤ 0) && decide (ub - 1 ≤ hi))) = true) : lo ≤ a % b ∧ a % b ≤ hi := by
  simp only [Bool.and_eq_true, decide_eq_true_eq] at h
  have h1 := Int.emod_nonneg a (b := b) (by omega)
  have h2 := Int.emod_lt_of_pos a (b := b) (by omega)
  omega
theorem iv_tdiv {a b la ua lo hi : Int} (ha : la ≤ a ∧ a ≤ ua) (h : (decide (lo ≤ la) && (decide (lo ≤ -ua) && (decide (ua ≤ hi) && decide (-la ≤ hi)))) = true) : lo ≤ a.tdiv b ∧ a.tdiv b ≤ hi := by
  simp only [Bool.and_eq_true, decide_eq_true_eq] at h
  have h1 := Int.natAbs_tdiv_le_natAbs a b
  omega
theorem iv_tmod {a b lb ub lo hi : Int} (hb : lb ≤ b ∧ b ≤ ub) (h : (decide (0 < lb) && (decide (lo ≤ -(ub - 1)) && decide (ub - 1 ≤ hi))) = true) : lo ≤ a.tmod b ∧ a.tmod b ≤ hi := by
  simp only [Bool.and_eq_true, decide_eq_true_eq] at h
  have h1 := Int.tmod_lt_of_pos a (b := b) (by omega)
  have h2 := Int.tmod_lt_of_pos (-a) (b := b) (by omega)
  rw [Int.neg_tmod] at h2
  omega
theorem iv_i {a lo hi : Int} (ha : lo ≤ a ∧ a ≤ hi) (h : (decide (-2147483648 ≤ lo) && decide (hi ≤ 2147483647)) = true) : inI a := by
  simp only [Bool.and_eq_true, decide_eq_true_eq] at h
  omega
theorem iv_l {a lo hi : Int} (ha : lo ≤ a ∧ a ≤ hi) (h : (decide (-9223372036854775808 ≤ lo) && decide (hi ≤ 9223372036854775807)) = true) : inL a := by
  simp only [Bool.and_eq_true, decide_eq_true_eq] at h
  omega
theorem iv_pi {a lo hi : Int} (ha : lo ≤ a ∧ a ≤ hi) (h : (decide (0 < lo) && decide (hi ≤ 2147483647)) = true) : 0 < a ∧ a ≤ 2147483647 := by
  simp only [Bool.and_eq_true, decide_eq_true_eq] at h
  omega
theorem iv_pl {a lo hi : Int} (ha : lo ≤ a ∧ a ≤ hi) (h : (decide (0 < lo) && decide (hi ≤ 9223372036854775807)) = true) : 0 < a ∧ a ≤ 9223372036854775807 := by
  simp only [Bool.and_eq_true, decide_eq_true_eq] at h
  omega
theorem iv_ix {a lo hi : Int} {n : Nat} (ha : lo ≤ a ∧ a ≤ hi) (h : (decide (0 ≤ lo) && (decide (hi < (n : Int)) && decide (hi ≤ 2147483647))) = true) : 0 ≤ a ∧ a < (n : Int) ∧ inI a := by
  simp only [Bool.and_eq_true, decide_eq_true_eq] at h
  omega
theorem iv_nn {a lo hi : Int} (ha : lo ≤ a ∧ a ≤ hi) (h : decide (0 ≤ lo) = true) : 0 ≤ a := by
  simp only [decide_eq_true_eq] at h
  omega
theorem iv_gt {a lo hi : Int} (ha : lo ≤ a ∧ a ≤ hi) (h : decide (-9223372036854775808 < lo) = true) : -9223372036854775808 < a := by
  simp only [decide_eq_true_eq] at h
  omega
theorem iv_w {a la ua lo hi : Int} (ha : la ≤ a ∧ a ≤ ua) (h : (decide (lo ≤ la) && decide (ua ≤ hi)) = true) : lo ≤ a ∧ a ≤ hi := by
  simp only [Bool.and_eq_true, decide_eq_true_eq] at h
  omega
/-! rows -/
section JR
variable {p : Program} {l : Launch} {e : Env} {R : Room} {s : State} {m : MethodId} {args : Array Value} {below : List Frame} {meth : Method} {c : Code} {H : Heap} {locs : List Loc} {cells slots : Nat} {Q : State → Prop}
variable {cc : ByteArray} {nL : Nat} {Ts : List Cond} {own : String} {pc : Nat} {ls : Array Slot} {rest : List Value}
theorem j_iconst (S : CallFix p m c cc nL s args Ts own) {n : Int} (hdg : decode cc pc = .ok (.iconst n, 1)) (k : W p l e R s m args below meth c H locs cells slots Q (F0 m (pc + 1) ls (jI n :: rest))) : W p l e R s m args below meth c H locs cells slots Q (F0 m pc ls rest) := lv_iconst S.1 S.2.1 hdg rfl k
theorem j_bipush (S : CallFix p m c cc nL s args Ts own) {n : Int} (hdg : decode cc pc = .ok (.bipush n, 2)) (hv : (Int8.ofInt n).toInt32 = Int32.ofInt n) (k : W p l e R s m args below meth c H locs cells slots Q (F0 m (pc + 2) ls (jI n :: rest))) : W p l e R s m args below meth c H locs cells slots Q (F0 m pc ls rest) := lv_bipush S.1 S.2.1 hdg hv k
theorem j_sipush (S : CallFix p m c cc nL s args Ts own) {n : Int} (hdg : decode cc pc = .ok (.sipush n, 3)) (hv : (Int16.ofInt n).toInt32 = Int32.ofInt n) (k : W p l e R s m args below meth c H locs cells slots Q (F0 m (pc + 3) ls (jI n :: rest))) : W p l e R s m args below meth c H locs cells slots Q (F0 m pc ls rest) := lv_sipush S.1 S.2.1 hdg hv k
theorem j_lconst (S : CallFix p m c cc nL s args Ts own) {n : Fin 2} {a : Int} (hdg : decode cc pc = .ok (.lconst n, 1)) (hv : Int64.ofNat (n : Nat) = Int64.ofInt a) (k : W p l e R s m args below meth c H locs cells slots Q (F0 m (pc + 1) ls (jL a :: rest))) : W p l e R s m args below meth c H locs cells slots Q (F0 m pc ls rest) := lv_lconst S.1 S.2.1 hdg hv k
theorem j_ldc (S : CallFix p m c cc nL s args Ts own) {index : Nat} {v : Int32} {n : Int} (hc : (Jvm.Cond.constant own index v).before args s = true) (hv : v = Int32.ofInt n) (hdg : decode cc pc = .ok (.ldc index, 2)) (k : W p l e R s m args below meth c H locs cells slots Q (F0 m (pc + 2) ls (jI n :: rest))) : W p l e R s m args below meth c H locs cells slots Q (F0 m pc ls rest) := by
  subst hv
  exact lv_ldc S.1 S.2.1 S.2.2.2.1 hc hdg k
theorem j_ldc2 (S : CallFix p m c cc nL s args Ts own) {index : Nat} {v : Int64} {n : Int} (hc : (Jvm.Cond.constantLong own index v).before args s = true) (hv : v = Int64.ofInt n) (hdg : decode cc pc = .ok (.ldc2_w index, 3)) (k : W p l e R s m args below meth c H locs cells slots Q (F0 m (pc + 3) ls (jL n :: rest))) : W p l e R s m args below meth c H locs cells slots Q (F0 m pc ls rest) := by
  subst hv
  exact lv_ldc2 S.1 S.2.1 S.2.2.2.1 hc hdg k
theorem j_iload_n (S : CallFix p m c cc nL s args Ts own) {k : Fin 4} {i : Nat} {x : Int} (hdg : decode cc pc = .ok (.iload_n k, 1)) (hi : (k : Nat) = i) (hl : ls[i]? = some (.val (jI x))) (kk : W p l e R s m args below meth c H locs cells slots Q (F0 m (pc + 1) ls (jI x :: rest))) : W p l e R s m args below meth c H locs cells slots Q (F0 m pc ls rest) := lv_iload_n S.1 S.2.1 hdg hi hl kk
theorem j_iload (S : CallFix p m c cc nL s args Ts own) {i : Nat} {x : Int} (hdg : decode cc pc = .ok (.iload i, 2)) (hl : ls[i]? = some (.val (jI x))) (kk : W p l e R s m args below meth c H locs cells slots Q (F0 m (pc + 2) ls (jI x :: rest))) : W p l e R s m args below meth c H locs cells slots Q (F0 m pc ls rest) := lv_iload S.1 S.2.1 hdg hl kk
theorem j_lload_n (S : CallFix p m c cc nL s args Ts own) {k : Fin 4} {i : Nat} {x : Int} (hdg : decode cc pc = .ok (.lload_n k, 1)) (hi : (k : Nat) = i) (hl : ls[i]? = some (.val (jL x))) (kk : W p l e R s m args below meth c H locs cells slots Q (F0 m (pc + 1) ls (jL x :: rest))) : W p l e R s m args below meth c H locs cells slots Q (F0 m pc ls rest) := lv_lload_n S.1 S.2.1 hdg hi hl kk
theorem j_lload (S : CallFix p m c cc nL s args Ts own) {i : Nat} {x : Int} (hdg : decode cc pc = .ok (.lload i, 2)) (hl : ls[i]? = some (.val (jL x))) (kk : W p l e R s m args below meth c H locs cells slots Q (F0 m (pc + 2) ls (jL x :: rest))) : W p l e R s m args below meth c H locs cells slots Q (F0 m pc ls rest) := lv_lload S.1 S.2.1 hdg hl kk
theorem j_istore_n (S : CallFix p m c cc nL s args Ts own) {k : Fin 4} {i : Nat} {x : Int} {lv lv' : List (Nat × Value)} (hdg : decode cc pc = .ok (.istore_n k, 1)) (hi : (k : Nat) = i) (h : lv_has ls nL lv) (hn : i < nL) (hl : (i, jI x) :: lv.filter (fun q => !(q.1 == i) && !(q.1 + 1 == i && q.2.category == 2)) = lv') (kk : ∀ ls' : Array Slot, lv_has ls' nL lv' → W p l e R s m args below meth c H locs cells slots Q (F0 m (pc + 1) ls' rest)) : W p l e R s m args below meth c H locs cells slots Q (F0 m pc ls (jI x :: rest)) := lv_istore_n S.1 S.2.1 hdg hi h hn hl kk
theorem j_istore (S : CallFix p m c cc nL s args Ts own) {i : Nat} {x : Int} {lv lv' : List (Nat × Value)} (hdg : decode cc pc = .ok (.istore i, 2)) (h : lv_has ls nL lv) (hn : i < nL) (hl : (i, jI x) :: lv.filter (fun q => !(q.1 == i) && !(q.1 + 1 == i && q.2.category == 2)) = lv') (kk : ∀ ls' : Array Slot, lv_has ls' nL lv' → W p l e R s m args below meth c H locs cells slots Q (F0 m (pc + 2) ls' rest)) : W p l e R s m args below meth c H locs cells slots Q (F0 m pc ls (jI x :: rest)) := lv_istore S.1 S.2.1 hdg h hn hl kk
theorem j_lstore_n (S : CallFix p m c cc nL s args Ts own) {k : Fin 4} {i : Nat} {x : Int} {lv lv' : List (Nat × Value)} (hdg : decode cc pc = .ok (.lstore_n k, 1)) (hi : (k : Nat) = i) (h : lv_has ls nL lv) (hn : i + 1 < nL) (hl : (i, jL x) :: lv.filter (fun q => !(q.1 == i) && (!(q.1 == i + 1) && !(q.1 + 1 == i && q.2.category == 2))) = lv') (kk : ∀ ls' : Array Slot, lv_has ls' nL lv' → W p l e R s m args below meth c H locs cells slots Q (F0 m (pc + 1) ls' rest)) : W p l e R s m args below meth c H locs cells slots Q (F0 m pc ls (jL x :: rest)) := lv_lstore_n S.1 S.2.1 hdg hi h hn hl kk
theorem j_lstore (S : CallFix p m c cc nL s args Ts own) {i : Nat} {x : Int} {lv lv' : List (Nat × Value)} (hdg : decode cc pc = .ok (.lstore i, 2)) (h : lv_has ls nL lv) (hn : i + 1 < nL) (hl : (i, jL x) :: lv.filter (fun q => !(q.1 == i) && (!(q.1 == i + 1) && !(q.1 + 1 == i && q.2.category == 2))) = lv') (kk : ∀ ls' : Array Slot, lv_has ls' nL lv' → W p l e R s m args below meth c H locs cells slots Q (F0 m (pc + 2) ls' rest)) : W p l e R s m args below meth c H locs cells slots Q (F0 m pc ls (jL x :: rest)) := lv_lstore S.1 S.2.1 hdg h hn hl kk
theorem j_iinc (S : CallFix p m c cc nL s args Ts own) {i k : Nat} {n x y : Int} {lv lv' : List (Nat × Value)} (hdg : decode cc pc = .ok (.iinc i n, 3)) (h : lv_has ls nL lv) (hk : lv[k]? = some (i, jI x)) (hy : x + n = y) (hn : i < nL) (hl : (i, jI y) :: lv.filter (fun q => !(q.1 == i) && !(q.1 + 1 == i && q.2.category == 2)) = lv') (kk : ∀ ls' : Array Slot, lv_has ls' nL lv' → W p l e R s m args below meth c H locs cells slots Q (F0 m (pc + 3) ls' rest)) : W p l e R s m args below meth c H locs cells slots Q (F0 m pc ls rest) := lv_iinc S.1 S.2.1 hdg h hk (by rw [← hy, Int32.ofInt_add]) hn hl kk
theorem j_iadd (S : CallFix p m c cc nL s args Ts own) {a b : Int} (hdg : decode cc pc = .ok (.iadd, 1)) (k : W p l e R s m args below meth c H locs cells slots Q (F0 m (pc + 1) ls (jI (a + b) :: rest))) : W p l e R s m args below meth c H locs cells slots Q (F0 m pc ls (jI b :: jI a :: rest)) := lv_iadd S.1 S.2.1 hdg (by rw [← Int32.ofInt_add]; exact k)
theorem j_ladd (S : CallFix p m c cc nL s args Ts own) {a b : Int} (hdg : decode cc pc = .ok (.ladd, 1)) (k : W p l e R s m args below meth c H locs cells slots Q (F0 m (pc + 1) ls (jL (a + b) :: rest))) : W p l e R s m args below meth c H locs cells slots Q (F0 m pc ls (jL b :: jL a :: rest)) := lv_ladd S.1 S.2.1 hdg (by rw [← Int64.ofInt_add]; exact k)
theorem j_isub (S : CallFix p m c cc nL s args Ts own) {a b : Int} (hdg : decode cc pc = .ok (.isub, 1)) (k : W p l e R s m args below meth c H locs cells slots Q (F0 m (pc + 1) ls (jI (a - b) :: rest))) : W p l e R s m args below meth c H locs cells slots Q (F0 m pc ls (jI b :: jI a :: rest)) := lv_isub S.1 S.2.1 hdg (by rw [← Int32.ofInt_sub]; exact k)
theorem j_lsub (S : CallFix p m c cc nL s args Ts own) {a b : Int} (hdg : decode cc pc = .ok (.lsub, 1)) (k : W p l e R s m args below meth c H locs cells slots Q (F0 m (pc + 1) ls (jL (a - b) :: rest))) : W p l e R s m args below meth c H locs cells slots Q (F0 m pc ls (jL b :: jL a :: rest)) := lv_lsub S.1 S.2.1 hdg (by rw [← Int64.ofInt_sub]; exact k)
theorem j_imul (S : CallFix p m c cc nL s args Ts own) {a b : Int} (hdg : decode cc pc = .ok (.imul, 1)) (k : W p l e R s m args below meth c H locs cells slots Q (F0 m (pc + 1) ls (jI (a * b) :: rest))) : W p l e R s m args below meth c H locs cells slots Q (F0 m pc ls (jI b :: jI a :: rest)) := lv_imul S.1 S.2.1 hdg (by rw [← Int32.ofInt_mul]; exact k)
theorem j_lmul (S : CallFix p m c cc nL s args Ts own) {a b : Int} (hdg : decode cc pc = .ok (.lmul, 1)) (k : W p l e R s m args below meth c H locs cells slots Q (F0 m (pc + 1) ls (jL (a * b) :: rest))) : W p l e R s m args below meth c H locs cells slots Q (F0 m pc ls (jL b :: jL a :: rest)) := lv_lmul S.1 S.2.1 hdg (by rw [← Int64.ofInt_mul]; exact k)
theorem j_ineg (S : CallFix p m c cc nL s args Ts own) {a : Int} (hdg : decode cc pc = .ok (.ineg, 1)) (k : W p l e R s m args below meth c H locs cells slots Q (F0 m (pc + 1) ls (jI (-a) :: rest))) : W p l e R s m args below meth c H locs cells slots Q (F0 m pc ls (jI a :: rest)) := lv_ineg S.1 S.2.1 hdg (by rw [← Int32.ofInt_neg]; exact k)
theorem j_lneg (S : CallFix p m c cc nL s args Ts own) {a : Int} (hdg : decode cc pc = .ok (.lneg, 1)) (k : W p l e R s m args below meth c H locs cells slots Q (F0 m (pc + 1) ls (jL (-a) :: rest))) : W p l e R s m args below meth c H locs cells slots Q (F0 m pc ls (jL a :: rest)) := lv_lneg S.1 S.2.1 hdg (by rw [← Int64.ofInt_neg]; exact k)
theorem j_idiv (S : CallFix p m c cc nL s args Ts own) {a b : Int} (hdg : decode cc pc = .ok (.idiv, 1)) (ha : inI a) (hb : 0 < b ∧ b ≤ 2147483647) (k : W p l e R s m args below meth c H locs cells slots Q (F0 m (pc + 1) ls (jI (a.tdiv b) :: rest))) : W p l e R s m args below meth c H locs cells slots Q (F0 m pc ls (jI b :: jI a :: rest)) := lv_idiv S.1 S.2.1 hdg (oI_ne hb) (by rw [oI_div ha hb]; exact k)
theorem j_idivp (S : CallFix p m c cc nL s args Ts own) {a b : Int} (hdg : decode cc pc = .ok (.idiv, 1)) (ha : inI a) (hb : 0 < b ∧ b ≤ 2147483647) (h0 : 0 ≤ a) (k : W p l e R s m args below meth c H locs cells slots Q (F0 m (pc + 1) ls (jI (a / b) :: rest))) : W p l e R s m args below meth c H locs cells slots Q (F0 m pc ls (jI b :: jI a :: rest)) := j_idiv S hdg ha hb (by rw [Int.tdiv_eq_ediv_of_nonneg h0]; exact k)
theorem j_irem (S : CallFix p m c cc nL s args Ts own) {a b : Int} (hdg : decode cc pc = .ok (.irem, 1)) (ha : inI a) (hb : 0 < b ∧ b ≤ 2147483647) (k : W p l e R s m args below meth c H locs cells slots Q (F0 m (pc + 1) ls (jI (a.tmod b) :: rest))) : W p l e R s m args below meth c H locs cells slots Q (F0 m pc ls (jI b :: jI a :: rest)) := lv_irem S.1 S.2.1 hdg (oI_ne hb) (by rw [oI_rem ha hb]; exact k)
theorem j_iremp (S : CallFix p m c cc nL s args Ts own) {a b : Int} (hdg : decode cc pc = .ok (.irem, 1)) (ha : inI a) (hb : 0 < b ∧ b ≤ 2147483647) (h0 : 0 ≤ a) (k : W p l e R s m args below meth c H locs cells slots Q (F0 m (pc + 1) ls (jI (a % b) :: rest))) : W p l e R s m args below meth c H locs cells slots Q (F0 m pc ls (jI b :: jI a :: rest)) := j_irem S hdg ha hb (by rw [Int.tmod_eq_emod_of_nonneg h0]; exact k)
theorem j_ldiv (S : CallFix p m c cc nL s args Ts own) {a b : Int} (hdg : decode cc pc = .ok (.ldiv, 1)) (ha : inL a) (hb : 0 < b ∧ b ≤ 9223372036854775807) (h2 : -9223372036854775808 < a) (k : W p l e R s m args below meth c H locs cells slots Q (F0 m (pc + 1) ls (jL (a.tdiv b) :: rest))) : W p l e R s m args below meth c H locs cells slots Q (F0 m pc ls (jL b :: jL a :: rest)) := lv_ldiv S.1 S.2.1 hdg (oL_ne hb) (by rw [oL_div ha hb h2]; exact k)
theorem j_ldivp (S : CallFix p m c cc nL s args Ts own) {a b : Int} (hdg : decode cc pc = .ok (.ldiv, 1)) (ha : inL a) (hb : 0 < b ∧ b ≤ 9223372036854775807) (h0 : 0 ≤ a) (k : W p l e R s m args below meth c H locs cells slots Q (F0 m (pc + 1) ls (jL (a / b) :: rest))) : W p l e R s m args below meth c H locs cells slots Q (F0 m pc ls (jL b :: jL a :: rest)) := j_ldiv S hdg ha hb (by omega) (by rw [Int.tdiv_eq_ediv_of_nonneg h0]; exact k)
theorem j_lrem (S : CallFix p m c cc nL s args Ts own) {a b : Int} (hdg : decode cc pc = .ok (.lrem, 1)) (ha : inL a) (hb : 0 < b ∧ b ≤ 9223372036854775807) (h2 : -9223372036854775808 < a) (k : W p l e R s m args below meth c H locs cells slots Q (F0 m (pc + 1) ls (jL (a.tmod b) :: rest))) : W p l e R s m args below meth c H locs cells slots Q (F0 m pc ls (jL b :: jL a :: rest)) := lv_lrem S.1 S.2.1 hdg (oL_ne hb) (by rw [oL_rem ha hb h2]; exact k)
theorem j_lremp (S : CallFix p m c cc nL s args Ts own) {a b : Int} (hdg : decode cc pc = .ok (.lrem, 1)) (ha : inL a) (hb : 0 < b ∧ b ≤ 9223372036854775807) (h0 : 0 ≤ a) (k : W p l e R s m args below meth c H locs cells slots Q (F0 m (pc + 1) ls (jL (a % b) :: rest))) : W p l e R s m args below meth c H locs cells slots Q (F0 m pc ls (jL b :: jL a :: rest)) := j_lrem S hdg ha hb (by omega) (by rw [Int.tmod_eq_emod_of_nonneg h0]; exact k)
theorem j_i2l (S : CallFix p m c cc nL s args Ts own) {a : Int} (hdg : decode cc pc = .ok (.i2l, 1)) (ha : inI a) (k : W p l e R s m args below meth c H locs cells slots Q (F0 m (pc + 1) ls (jL a :: rest))) : W p l e R s m args below meth c H locs cells slots Q (F0 m pc ls (jI a :: rest)) := lv_i2l S.1 S.2.1 hdg (o_i2l ha) k
theorem j_l2i (S : CallFix p m c cc nL s args Ts own) {a : Int} (hdg : decode cc pc = .ok (.l2i, 1)) (k : W p l e R s m args below meth c H locs cells slots Q (F0 m (pc + 1) ls (jI a :: rest))) : W p l e R s m args below meth c H locs cells slots Q (F0 m pc ls (jL a :: rest)) := lv_l2i S.1 S.2.1 hdg Int64.toInt32_ofInt k
theorem j_goto (S : CallFix p m c cc nL s args Ts own) {off : Int} {tgt : Nat} (hdg : decode cc pc = .ok (.goto off, 3)) (ht : (pc : Int) + off = (tgt : Int)) (k : W p l e R s m args below meth c H locs cells slots Q (F0 m tgt ls rest)) : W p l e R s m args below meth c H locs cells slots Q (F0 m pc ls rest) := lv_goto S.1 S.2.1 hdg ht k
theorem j_as {a b : Int} (h : a = b) (k : W p l e R s m args below meth c H locs cells slots Q (F0 m pc ls (jI b :: rest))) : W p l e R s m args below meth c H locs cells slots Q (F0 m pc ls (jI a :: rest)) := h ▸ k
theorem j_asl {a b : Int} (h : a = b) (k : W p l e R s m args below meth c H locs cells slots Q (F0 m pc ls (jL b :: rest))) : W p l e R s m args below meth c H locs cells slots Q (F0 m pc ls (jL a :: rest)) := h ▸ k
theorem j_icmp_eq (S : CallFix p m c cc nL s args Ts own) {a b off : Int} {tgt : Nat} (hdg : decode cc pc = .ok (.if_icmp .eq off, 3)) (ht : (pc : Int) + off = (tgt : Int)) (ha : inI a) (hb : inI b) (kt : a = b → W p l e R s m args below meth c H locs cells slots Q (F0 m tgt ls rest)) (kf : ¬ a = b → W p l e R s m args below meth c H locs cells slots Q (F0 m (pc + 3) ls rest)) : W p l e R s m args below meth c H locs cells slots Q (F0 m pc ls (jI b :: jI a :: rest)) := lv_icmp_eq S.1 S.2.1 hdg ht (fun h => kt ((oI_inj ha hb).mp h)) (fun h => kf (fun q => h ((oI_inj ha hb).mpr q)))
theorem j_if_eq (S : CallFix p m c cc nL s args Ts own) {a off : Int} {tgt : Nat} (hdg : decode cc pc = .ok (.ifCond .eq off, 3)) (ht : (pc : Int) + off = (tgt : Int)) (ha : inI a) (kt : a = 0 → W p l e R s m args below meth c H locs cells slots Q (F0 m tgt ls rest)) (kf : ¬ a = 0 → W p l e R s m args below meth c H locs cells slots Q (F0 m (pc + 3) ls rest)) : W p l e R s m args below meth c H locs cells slots Q (F0 m pc ls (jI a :: rest)) := by
  have hb : inI 0 := in0
  refine lv_if_eq S.1 S.2.1 hdg ht ?_ ?_ <;> rw [oI_zero]
  · exact (fun h => kt ((oI_inj ha hb).mp h))
  · exact (fun h => kf (fun q => h ((oI_inj ha hb).mpr q)))
theorem j_icmp_ne (S : CallFix p m c cc nL s args Ts own) {a b off : Int} {tgt : Nat} (hdg : decode cc pc = .ok (.if_icmp .ne off, 3)) (ht : (pc : Int) + off = (tgt : Int)) (ha : inI a) (hb : inI b) (kt : ¬ a = b → W p l e R s m args below meth c H locs cells slots Q (F0 m tgt ls rest)) (kf : a = b → W p l e R s m args below meth c H locs cells slots Q (F0 m (pc + 3) ls rest)) : W p l e R s m args below meth c H locs cells slots Q (F0 m pc ls (jI b :: jI a :: rest)) := lv_icmp_ne S.1 S.2.1 hdg ht (fun h => kt (fun q => h ((oI_inj ha hb).mpr q))) (fun h => kf ((oI_inj ha hb).mp h))
theorem j_if_ne (S : CallFix p m c cc nL s args Ts own) {a off : Int} {tgt : Nat} (hdg : decode cc pc = .ok (.ifCond .ne off, 3)) (ht : (pc : Int) + off = (tgt : Int)) (ha : inI a) (kt : ¬ a = 0 → W p l e R s m args below meth c H locs cells slots Q (F0 m tgt ls rest)) (kf : a = 0 → W p l e R s m args below meth c H locs cells slots Q (F0 m (pc + 3) ls rest)) : W p l e R s m args below meth c H locs cells slots Q (F0 m pc ls (jI a :: rest)) := by
  have hb : inI 0 := in0
  refine lv_if_ne S.1 S.2.1 hdg ht ?_ ?_ <;> rw [oI_zero]
  · exact (fun h => kt (fun q => h ((oI_inj ha hb).mpr q)))
  · exact (fun h => kf ((oI_inj ha hb).mp h))
theorem j_icmp_lt (S : CallFix p m c cc nL s args Ts own) {a b off : Int} {tgt : Nat} (hdg : decode cc pc = .ok (.if_icmp .lt off, 3)) (ht : (pc : Int) + off = (tgt : Int)) (ha : inI a) (hb : inI b) (kt : a < b → W p l e R s m args below meth c H locs cells slots Q (F0 m tgt ls rest)) (kf : b ≤ a → W p l e R s m args below meth c H locs cells slots Q (F0 m (pc + 3) ls rest)) : W p l e R s m args below meth c H locs cells slots Q (F0 m pc ls (jI b :: jI a :: rest)) := lv_icmp_lt S.1 S.2.1 hdg ht (fun h => kt ((oI_lt ha hb).mp h)) (fun h => kf (Int.not_lt.mp (fun q => h ((oI_lt ha hb).mpr q))))
theorem j_if_lt (S : CallFix p m c cc nL s args Ts own) {a off : Int} {tgt : Nat} (hdg : decode cc pc = .ok (.ifCond .lt off, 3)) (ht : (pc : Int) + off = (tgt : Int)) (ha : inI a) (kt : a < 0 → W p l e R s m args below meth c H locs cells slots Q (F0 m tgt ls rest)) (kf : 0 ≤ a → W p l e R s m args below meth c H locs cells slots Q (F0 m (pc + 3) ls rest)) : W p l e R s m args below meth c H locs cells slots Q (F0 m pc ls (jI a :: rest)) := by
  have hb : inI 0 := in0
  refine lv_if_lt S.1 S.2.1 hdg ht ?_ ?_ <;> rw [oI_zero]
  · exact (fun h => kt ((oI_lt ha hb).mp h))
  · exact (fun h => kf (Int.not_lt.mp (fun q => h ((oI_lt ha hb).mpr q))))
theorem j_icmp_ge (S : CallFix p m c cc nL s args Ts own) {a b off : Int} {tgt : Nat} (hdg : decode cc pc = .ok (.if_icmp .ge off, 3)) (ht : (pc : Int) + off = (tgt : Int)) (ha : inI a) (hb : inI b) (kt : b ≤ a → W p l e R s m args below meth c H locs cells slots Q (F0 m tgt ls rest)) (kf : a < b → W p l e R s m args below meth c H locs cells slots Q (F0 m (pc + 3) ls rest)) : W p l e R s m args below meth c H locs cells slots Q (F0 m pc ls (jI b :: jI a :: rest)) := lv_icmp_ge S.1 S.2.1 hdg ht (fun h => kt ((oI_le hb ha).mp h)) (fun h => kf (Int.not_le.mp (fun q => h ((oI_le hb ha).mpr q))))
theorem j_if_ge (S : CallFix p m c cc nL s args Ts own) {a off : Int} {tgt : Nat} (hdg : decode cc pc = .ok (.ifCond .ge off, 3)) (ht : (pc : Int) + off = (tgt : Int)) (ha : inI a) (kt : 0 ≤ a → W p l e R s m args below meth c H locs cells slots Q (F0 m tgt ls rest)) (kf : a < 0 → W p l e R s m args below meth c H locs cells slots Q (F0 m (pc + 3) ls rest)) : W p l e R s m args below meth c H locs cells slots Q (F0 m pc ls (jI a :: rest)) := by
  have hb : inI 0 := in0
  refine lv_if_ge S.1 S.2.1 hdg ht ?_ ?_ <;> rw [oI_zero]
  · exact (fun h => kt ((oI_le hb ha).mp h))
  · exact (fun h => kf (Int.not_le.mp (fun q => h ((oI_le hb ha).mpr q))))
theorem j_icmp_gt (S : CallFix p m c cc nL s args Ts own) {a b off : Int} {tgt : Nat} (hdg : decode cc pc = .ok (.if_icmp .gt off, 3)) (ht : (pc : Int) + off = (tgt : Int)) (ha : inI a) (hb : inI b) (kt : b < a → W p l e R s m args below meth c H locs cells slots Q (F0 m tgt ls rest)) (kf : a ≤ b → W p l e R s m args below meth c H locs cells slots Q (F0 m (pc + 3) ls rest)) : W p l e R s m args below meth c H locs cells slots Q (F0 m pc ls (jI b :: jI a :: rest)) := lv_icmp_gt S.1 S.2.1 hdg ht (fun h => kt ((oI_lt hb ha).mp h)) (fun h => kf (Int.not_lt.mp (fun q => h ((oI_lt hb ha).mpr q))))
theorem j_if_gt (S : CallFix p m c cc nL s args Ts own) {a off : Int} {tgt : Nat} (hdg : decode cc pc = .ok (.ifCond .gt off, 3)) (ht : (pc : Int) + off = (tgt : Int)) (ha : inI a) (kt : 0 < a → W p l e R s m args below meth c H locs cells slots Q (F0 m tgt ls rest)) (kf : a ≤ 0 → W p l e R s m args below meth c H locs cells slots Q (F0 m (pc + 3) ls rest)) : W p l e R s m args below meth c H locs cells slots Q (F0 m pc ls (jI a :: rest)) := by
  have hb : inI 0 := in0
  refine lv_if_gt S.1 S.2.1 hdg ht ?_ ?_ <;> rw [oI_zero]
  · exact (fun h => kt ((oI_lt hb ha).mp h))
  · exact (fun h => kf (Int.not_lt.mp (fun q => h ((oI_lt hb ha).mpr q))))
theorem j_icmp_le (S : CallFix p m c cc nL s args Ts own) {a b off : Int} {tgt : Nat} (hdg : decode cc pc = .ok (.if_icmp .le off, 3)) (ht : (pc : Int) + off = (tgt : Int)) (ha : inI a) (hb : inI b) (kt : a ≤ b → W p l e R s m args below meth c H locs cells slots Q (F0 m tgt ls rest)) (kf : b < a → W p l e R s m args below meth c H locs cells slots Q (F0 m (pc + 3) ls rest)) : W p l e R s m args below meth c H locs cells slots Q (F0 m pc ls (jI b :: jI a :: rest)) := lv_icmp_le S.1 S.2.1 hdg ht (fun h => kt ((oI_le ha hb).mp h)) (fun h => kf (Int.not_le.mp (fun q => h ((oI_le ha hb).mpr q))))
theorem j_if_le (S : CallFix p m c cc nL s args Ts own) {a off : Int} {tgt : Nat} (hdg : decode cc pc = .ok (.ifCond .le off, 3)) (ht : (pc : Int) + off = (tgt : Int)) (ha : inI a) (kt : a ≤ 0 → W p l e R s m args below meth c H locs cells slots Q (F0 m tgt ls rest)) (kf : 0 < a → W p l e R s m args below meth c H locs cells slots Q (F0 m (pc + 3) ls rest)) : W p l e R s m args below meth c H locs cells slots Q (F0 m pc ls (jI a :: rest)) := by
  have hb : inI 0 := in0
  refine lv_if_le S.1 S.2.1 hdg ht ?_ ?_ <;> rw [oI_zero]
  · exact (fun h => kt ((oI_le ha hb).mp h))
  · exact (fun h => kf (Int.not_le.mp (fun q => h ((oI_le ha hb).mpr q))))
theorem j_ifb_eq (S : CallFix p m c cc nL s args Ts own) {P : Prop} {off : Int} {tgt : Nat} (hdg : decode cc pc = .ok (.ifCond .eq off, 3)) (ht : (pc : Int) + off = (tgt : Int)) (kt : ¬ P → W p l e R s m args below meth c H locs cells slots Q (F0 m tgt ls rest)) (kf : P → W p l e R s m args below meth c H locs cells slots Q (F0 m (pc + 3) ls rest)) : W p l e R s m args below meth c H locs cells slots Q (F0 m pc ls (jI (bI P) :: rest)) := by
  rcases @bI_c P with ⟨e, h⟩ | ⟨e, h⟩ <;> rw [e]
  · exact j_if_eq S hdg ht (by decide) (fun q => absurd q (by decide)) (fun _ => kf h)
  · exact j_if_eq S hdg ht (by decide) (fun _ => kt h) (fun q => absurd rfl q)
theorem j_ifb_ne (S : CallFix p m c cc nL s args Ts own) {P : Prop} {off : Int} {tgt : Nat} (hdg : decode cc pc = .ok (.ifCond .ne off, 3)) (ht : (pc : Int) + off = (tgt : Int)) (kt : P → W p l e R s m args below meth c H locs cells slots Q (F0 m tgt ls rest)) (kf : ¬ P → W p l e R s m args below meth c H locs cells slots Q (F0 m (pc + 3) ls rest)) : W p l e R s m args below meth c H locs cells slots Q (F0 m pc ls (jI (bI P) :: rest)) := by
  rcases @bI_c P with ⟨e, h⟩ | ⟨e, h⟩ <;> rw [e]
  · exact j_if_ne S hdg ht (by decide) (fun _ => kt h) (fun q => absurd q (by decide))
  · exact j_if_ne S hdg ht (by decide) (fun q => absurd rfl q) (fun _ => kf h)
theorem lc_gt {a b : Int} (ha : inL a) (hb : inL b) (h : b < a) : lg_cmp (Int64.ofInt a) (Int64.ofInt b) = Int32.ofInt 1 := by
  unfold lg_cmp
  rw [if_pos ((oL_lt hb ha).mpr h)]
  rfl
theorem lc_eq {a b : Int} (h : a = b) : lg_cmp (Int64.ofInt a) (Int64.ofInt b) = Int32.ofInt 0 := by
  subst h
  unfold lg_cmp
  rw [if_neg (by rw [gt_iff_lt, Int64.lt_iff_toInt_lt]; omega), if_pos rfl]
  rfl
theorem lc_lt {a b : Int} (ha : inL a) (hb : inL b) (h : a < b) : lg_cmp (Int64.ofInt a) (Int64.ofInt b) = Int32.ofInt (-1) := by
  unfold lg_cmp
  rw [if_neg (by rw [gt_iff_lt, oL_lt hb ha]; omega), if_neg (by rw [oL_inj ha hb]; omega)]
  rfl
theorem j_lcmp_eq (S : CallFix p m c cc nL s args Ts own) {a b off : Int} {tgt pc1 : Nat} (hpc : pc + 1 = pc1) (hdg : decode cc pc = .ok (.lcmp, 1)) (hdg2 : decode cc pc1 = .ok (.ifCond .eq off, 3)) (ht : (pc1 : Int) + off = (tgt : Int)) (ha : inL a) (hb : inL b) (kt : a = b → W p l e R s m args below meth c H locs cells slots Q (F0 m tgt ls rest)) (kf : ¬ a = b → W p l e R s m args below meth c H locs cells slots Q (F0 m (pc1 + 3) ls rest)) : W p l e R s m args below meth c H locs cells slots Q (F0 m pc ls (jL b :: jL a :: rest)) := by
  subst hpc
  refine W.lcmp S.1 S.2.1 hdg ?_
  rcases Int.lt_trichotomy a b with h | h | h
  · rw [lc_lt ha hb h]
    exact j_if_eq (a := -1) S hdg2 ht (by decide) (fun q => kt (by omega)) (fun q => kf (by omega))
  · rw [lc_eq h]
    exact j_if_eq (a := 0) S hdg2 ht (by decide) (fun q => kt (by omega)) (fun q => kf (by omega))
  · rw [lc_gt ha hb h]
    exact j_if_eq (a := 1) S hdg2 ht (by decide) (fun q => kt (by omega)) (fun q => kf (by omega))
theorem j_lcmp_ne (S : CallFix p m c cc nL s args Ts own) {a b off : Int} {tgt pc1 : Nat} (hpc : pc + 1 = pc1) (hdg : decode cc pc = .ok (.lcmp, 1)) (hdg2 : decode cc pc1 = .ok (.ifCond .ne off, 3)) (ht : (pc1 : Int) + off = (tgt : Int)) (ha : inL a) (hb : inL b) (kt : ¬ a = b → W p l e R s m args below meth c H locs cells slots Q (F0 m tgt ls rest)) (kf : a = b → W p l e R s m args below meth c H locs cells slots Q (F0 m (pc1 + 3) ls rest)) : W p l e R s m args below meth c H locs cells slots Q (F0 m pc ls (jL b :: jL a :: rest)) := by
  subst hpc
  refine W.lcmp S.1 S.2.1 hdg ?_
  rcases Int.lt_trichotomy a b with h | h | h
  · rw [lc_lt ha hb h]
    exact j_if_ne (a := -1) S hdg2 ht (by decide) (fun q => kt (by omega)) (fun q => kf (by omega))
  · rw [lc_eq h]
    exact j_if_ne (a := 0) S hdg2 ht (by decide) (fun q => kt (by omega)) (fun q => kf (by omega))
  · rw [lc_gt ha hb h]
    exact j_if_ne (a := 1) S hdg2 ht (by decide) (fun q => kt (by omega)) (fun q => kf (by omega))
theorem j_lcmp_lt (S : CallFix p m c cc nL s args Ts own) {a b off : Int} {tgt pc1 : Nat} (hpc : pc + 1 = pc1) (hdg : decode cc pc = .ok (.lcmp, 1)) (hdg2 : decode cc pc1 = .ok (.ifCond .lt off, 3)) (ht : (pc1 : Int) + off = (tgt : Int)) (ha : inL a) (hb : inL b) (kt : a < b → W p l e R s m args below meth c H locs cells slots Q (F0 m tgt ls rest)) (kf : b ≤ a → W p l e R s m args below meth c H locs cells slots Q (F0 m (pc1 + 3) ls rest)) : W p l e R s m args below meth c H locs cells slots Q (F0 m pc ls (jL b :: jL a :: rest)) := by
  subst hpc
  refine W.lcmp S.1 S.2.1 hdg ?_
  rcases Int.lt_trichotomy a b with h | h | h
  · rw [lc_lt ha hb h]
    exact j_if_lt (a := -1) S hdg2 ht (by decide) (fun q => kt (by omega)) (fun q => kf (by omega))
  · rw [lc_eq h]
    exact j_if_lt (a := 0) S hdg2 ht (by decide) (fun q => kt (by omega)) (fun q => kf (by omega))
  · rw [lc_gt ha hb h]
    exact j_if_lt (a := 1) S hdg2 ht (by decide) (fun q => kt (by omega)) (fun q => kf (by omega))
theorem j_lcmp_ge (S : CallFix p m c cc nL s args Ts own) {a b off : Int} {tgt pc1 : Nat} (hpc : pc + 1 = pc1) (hdg : decode cc pc = .ok (.lcmp, 1)) (hdg2 : decode cc pc1 = .ok (.ifCond .ge off, 3)) (ht : (pc1 : Int) + off = (tgt : Int)) (ha : inL a) (hb : inL b) (kt : b ≤ a → W p l e R s m args below meth c H locs cells slots Q (F0 m tgt ls rest)) (kf : a < b → W p l e R s m args below meth c H locs cells slots Q (F0 m (pc1 + 3) ls rest)) : W p l e R s m args below meth c H locs cells slots Q (F0 m pc ls (jL b :: jL a :: rest)) := by
  subst hpc
  refine W.lcmp S.1 S.2.1 hdg ?_
  rcases Int.lt_trichotomy a b with h | h | h
  · rw [lc_lt ha hb h]
    exact j_if_ge (a := -1) S hdg2 ht (by decide) (fun q => kt (by omega)) (fun q => kf (by omega))
  · rw [lc_eq h]
    exact j_if_ge (a := 0) S hdg2 ht (by decide) (fun q => kt (by omega)) (fun q => kf (by omega))
  · rw [lc_gt ha hb h]
    exact j_if_ge (a := 1) S hdg2 ht (by decide) (fun q => kt (by omega)) (fun q => kf (by omega))
theorem j_lcmp_gt (S : CallFix p m c cc nL s args Ts own) {a b off : Int} {tgt pc1 : Nat} (hpc : pc + 1 = pc1) (hdg : decode cc pc = .ok (.lcmp, 1)) (hdg2 : decode cc pc1 = .ok (.ifCond .gt off, 3)) (ht : (pc1 : Int) + off = (tgt : Int)) (ha : inL a) (hb : inL b) (kt : b < a → W p l e R s m args below meth c H locs cells slots Q (F0 m tgt ls rest)) (kf : a ≤ b → W p l e R s m args below meth c H locs cells slots Q (F0 m (pc1 + 3) ls rest)) : W p l e R s m args below meth c H locs cells slots Q (F0 m pc ls (jL b :: jL a :: rest)) := by
  subst hpc
  refine W.lcmp S.1 S.2.1 hdg ?_
  rcases Int.lt_trichotomy a b with h | h | h
  · rw [lc_lt ha hb h]
    exact j_if_gt (a := -1) S hdg2 ht (by decide) (fun q => kt (by omega)) (fun q => kf (by omega))
  · rw [lc_eq h]
    exact j_if_gt (a := 0) S hdg2 ht (by decide) (fun q => kt (by omega)) (fun q => kf (by omega))
  · rw [lc_gt ha hb h]
    exact j_if_gt (a := 1) S hdg2 ht (by decide) (fun q => kt (by omega)) (fun q => kf (by omega))
theorem j_lcmp_le (S : CallFix p m c cc nL s args Ts own) {a b off : Int} {tgt pc1 : Nat} (hpc : pc + 1 = pc1) (hdg : decode cc pc = .ok (.lcmp, 1)) (hdg2 : decode cc pc1 = .ok (.ifCond .le off, 3)) (ht : (pc1 : Int) + off = (tgt : Int)) (ha : inL a) (hb : inL b) (kt : a ≤ b → W p l e R s m args below meth c H locs cells slots Q (F0 m tgt ls rest)) (kf : b < a → W p l e R s m args below meth c H locs cells slots Q (F0 m (pc1 + 3) ls rest)) : W p l e R s m args below meth c H locs cells slots Q (F0 m pc ls (jL b :: jL a :: rest)) := by
  subst hpc
  refine W.lcmp S.1 S.2.1 hdg ?_
  rcases Int.lt_trichotomy a b with h | h | h
  · rw [lc_lt ha hb h]
    exact j_if_le (a := -1) S hdg2 ht (by decide) (fun q => kt (by omega)) (fun q => kf (by omega))
  · rw [lc_eq h]
    exact j_if_le (a := 0) S hdg2 ht (by decide) (fun q => kt (by omega)) (fun q => kf (by omega))
  · rw [lc_gt ha hb h]
    exact j_if_le (a := 1) S hdg2 ht (by decide) (fun q => kt (by omega)) (fun q => kf (by omega))
theorem j_iald (S : CallFix p m c cc nL s args Ts own) {D : va_G} {cl : List vw_C} {tys : List (ClassId × FieldType)} {ws : va_W} {a : Nat} (hK : va_K D cl tys s) (hP : va_P D cl ws H) (q0 t0 : Nat) {cA : ClassId} {n : Nat} {f : Int → Int} (ha : ws[q0]? = some (a, .inl (cA, n, .inl (jF f)))) (ht : tys[t0]? = some (cA, .int)) {i : Int} (hin : 0 ≤ i ∧ i < (n : Int) ∧ inI i) (hdg : decode cc pc = .ok (.iaload, 1)) (kk : W p l e R s m args below meth c H locs cells slots Q (F0 m (pc + 1) ls (jI (f i) :: rest))) : W p l e R s m args below meth c H locs cells slots Q (F0 m pc ls (jI i :: .ref a :: rest)) := by
  refine va_iald S.1 S.2.1 hK hP q0 t0 ha ht (o_in ⟨hin.1, hin.2.1⟩ hin.2.2) hdg ?_
  rw [jF_at hin.1 hin.2.2]
  exact kk
theorem j_iast (S : CallFix p m c cc nL s args Ts own) {D : va_G} {cl : List vw_C} {A : Nat → Prop} {tys : List (ClassId × FieldType)} {ws ws1 : va_W} {H0 : Heap} {a : Nat} (hK : va_K D cl tys s) (hP : va_P D cl ws H) (hD : va_D A ws) (hS : va_S A H0 H locs) (q0 t0 : Nat) {cA : ClassId} {n : Nat} {f : Int → Int} (ha : ws[q0]? = some (a, .inl (cA, n, .inl (jF f)))) (ht : tys[t0]? = some (cA, .int)) {i x : Int} (hin : 0 ≤ i ∧ i < (n : Int) ∧ inI i) (h1 : ws.set q0 (a, .inl (cA, n, .inl (jF (jU f i x)))) = ws1) (hdg : decode cc pc = .ok (.iastore, 1)) (kk : ∀ (H1 : Heap) (locs1 : List Loc), va_P D cl ws1 H1 → va_D A ws1 → va_S A H0 H1 locs1 → W p l e R s m args below meth c H1 locs1 cells slots Q (F0 m (pc + 1) ls rest)) : W p l e R s m args below meth c H locs cells slots Q (F0 m pc ls (jI x :: jI i :: .ref a :: rest)) := by
  subst h1
  refine va_iast S.1 S.2.1 hK hP hD hS q0 t0 ha ht (o_in ⟨hin.1, hin.2.1⟩ hin.2.2) hdg ?_
  rw [jF_up hin.1 hin.2.2]
  exact kk
end JR
end
section
/-! worlds and contracts -/
abbrev SOK (H T E : Int → Int) (cc gc w d v : Int) : Prop := (0 ≤ cc ∧ cc ≤ 8) ∧ (0 ≤ gc ∧ gc ≤ 10) ∧ (10 ≤ w ∧ w ≤ 200) ∧ (2 ≤ d ∧ d ≤ 720) ∧ (2 ≤ v ∧ v ≤ 60) ∧ (∀ j, 0 ≤ j → j < cc → 5 ≤ H j ∧ H j ≤ 120) ∧ (∀ j, 0 ≤ j → j < gc → 12 ≤ T j ∧ T j ≤ 120) ∧ (∀ j, 0 ≤ j → j < 8 → -100 ≤ E j ∧ E j ≤ 100)
abbrev XW (h a0 a1 a2 a3 : Nat) (cA : ClassId) (H T E F : Int → Int) (cc gc w d v : Int) : va_W := [(h, .inr (0, [.ref a0, .ref a1, .ref a2, .ref a3, jI cc, jI gc, jI w, jI d, jI v])), (a0, .inl (cA, 8, .inl (jF H))), (a1, .inl (cA, 10, .inl (jF T))), (a2, .inl (cA, 8, .inl (jF E))), (a3, .inl (cA, 4, .inl (jF F)))]
abbrev MW (h a0 a1 a2 a3 : Nat) (cA : ClassId) (H T E F : Int → Int) (cc gc w d v : Int) : va_W := [(h, .inr (1, [jI w, jI cc, .ref a0, jI gc, .ref a1, .ref a2, jI d, jI v, .ref a3])), (a0, .inl (cA, 8, .inl (jF H))), (a1, .inl (cA, 10, .inl (jF T))), (a2, .inl (cA, 8, .inl (jF E))), (a3, .inl (cA, 4, .inl (jF F)))]
def WB (D : va_G) (ws : va_W) (cA : ClassId) : State → Prop := fun U => va_P D vwCl ws U.heap ∧ va_K D vwCl [(cA, .int)] U
def W0 : State → Prop := fun _ => True
def QI (post : Int → Prop) : Array Value → State → Outcome → State → Prop := fun _ st oc t => ∃ i : Int, oc = .returned (some (jI i)) ∧ post i ∧ t.heap = st.heap
def QL (post : Int → Prop) : Array Value → State → Outcome → State → Prop := fun _ st oc t => ∃ i : Int, oc = .returned (some (jL i)) ∧ post i ∧ t.heap = st.heap
abbrev MI (l : Launch) (y : MethodName) (ws : List Cond) (rm : Room) (as : List Value) (B : State → Prop) (post : Int → Prop) : Prop := Met l y ws rm (va_Pc as B) (QI post) 0 0 (fun _ => False)
abbrev ML (l : Launch) (y : MethodName) (ws : List Cond) (rm : Room) (as : List Value) (B : State → Prop) (post : Int → Prop) : Prop := Met l y ws rm (va_Pc as B) (QL post) 0 0 (fun _ => False)
def WM (D : va_G) (ws : va_W) (cA : ClassId) (sz : Nat) : State → Prop := fun U => U.heap.size = sz ∧ va_P D vwCl ws U.heap ∧ va_K D vwCl [(cA, .int)] U ∧ va_D (fun _ => True) ws
def WA (D : va_G) (cA : ClassId) (A : Nat → Prop) (ws : va_W) (t : State) : Prop := va_P D vwCl ws t.heap ∧ va_K D vwCl [(cA, .int)] t ∧ va_D A ws
abbrev MMI {S : Type} (l : Launch) (y : MethodName) (ws : List Cond) (rm : Room) (as : List Value) (D : va_G) (cA : ClassId) (w0 : va_W) (Wd : S → va_W) (sz : Nat) (post : Int → S → Prop) : Prop := Met l y ws rm (va_Pc as (WM D w0 cA sz)) (va_Qi (fun r u => ∃ i : Int, r = Int32.ofInt i ∧ post i u) (fun u t => WA D cA (va_A w0 sz) (Wd u) t) (va_A w0 sz)) 0 0 (va_A w0 sz)
abbrev MMV {S : Type} (l : Launch) (y : MethodName) (ws : List Cond) (rm : Room) (as : List Value) (D : va_G) (cA : ClassId) (w0 : va_W) (Wd : S → va_W) (sz : Nat) (post : S → Prop) : Prop := Met l y ws rm (va_Pc as (WM D w0 cA sz)) (va_Qv post (fun u t => WA D cA (va_A w0 sz) (Wd u) t) (va_A w0 sz)) 0 0 (va_A w0 sz)
theorem MI_of {l : Launch} {y : MethodName} {ws ws' : List Cond} {rm : Room} {as : List Value} {B : State → Prop} {post : Int → Prop} {cc : ByteArray} {maxL : Nat} (hy : plainName y.cls = true) (hw : ws = Cond.code y cc maxL (some .int) :: ws') (hn : (lg_sl as).length ≤ maxL)
    (body : ∀ (p : Program) (e : Env) (s : State) (m : MethodId) (args : Array Value) (below : List Frame) (meth : Method) (c : Code) (Q : State → Prop) (ls : Array Slot), CallFix p m c cc maxL s args ws y.cls → (∀ (i : Int) (pc : Nat) (ls' : Array Slot), post i → decode cc pc = .ok (.ireturn, 1) → W p l e rm s m args below meth c s.heap [] 0 0 Q (F0 m pc ls' [jI i])) → B s → lv_has ls maxL (lv_args 0 as) → W p l e rm s m args below meth c s.heap [] 0 0 Q (F0 m 0 ls [])) : MI l y ws rm as B post := by
  refine Met.ofW (cc := cc) (maxL := maxL) (ret := some .int) hy hw ?_
  intro p e s m args below meth c s₁ B' hml hv
  obtain ⟨rfl, hB⟩ := hv
  have hlocks := B'.notSynchronized
  rw [lg_entry_eq]
  exact body p e s m _ below meth c _ _ ⟨B'.exec, B'.bytes, hml, findClass_of_methodNamed B'.named, atoms_spec (ws := ws) B'.pre⟩ (fun i pc ls' hp hd => W.iret B'.exec B'.bytes B'.returns (fun t ht hW => ⟨i, rfl, hp, ht⟩) (fun _ h => by cases h) hd) hB (lv_entry as hn)
theorem nar_b {i : Int} (h : i = 0 ∨ i = 1) : narrow .boolean (jI i) = jI i := by
  rcases h with rfl | rfl <;> rfl
theorem MZ_of {l : Launch} {y : MethodName} {ws ws' : List Cond} {rm : Room} {as : List Value} {B : State → Prop} {post : Int → Prop} {cc : ByteArray} {maxL : Nat} (hy : plainName y.cls = true) (hw : ws = Cond.code y cc maxL (some .boolean) :: ws') (hn : (lg_sl as).length ≤ maxL)
    (body : ∀ (p : Program) (e : Env) (s : State) (m : MethodId) (args : Array Value) (below : List Frame) (meth : Method) (c : Code) (Q : State → Prop) (ls : Array Slot), CallFix p m c cc maxL s args ws y.cls → (∀ (i : Int) (pc : Nat) (ls' : Array Slot), (i = 0 ∨ i = 1) → post i → decode cc pc = .ok (.ireturn, 1) → W p l e rm s m args below meth c s.heap [] 0 0 Q (F0 m pc ls' [jI i])) → B s → lv_has ls maxL (lv_args 0 as) → W p l e rm s m args below meth c s.heap [] 0 0 Q (F0 m 0 ls [])) : MI l y ws rm as B post := by
  refine Met.ofW (cc := cc) (maxL := maxL) (ret := some .boolean) hy hw ?_
  intro p e s m args below meth c s₁ B' hml hv
  obtain ⟨rfl, hB⟩ := hv
  have hlocks := B'.notSynchronized
  rw [lg_entry_eq]
  exact body p e s m _ below meth c _ _ ⟨B'.exec, B'.bytes, hml, findClass_of_methodNamed B'.named, atoms_spec (ws := ws) B'.pre⟩ (fun i pc ls' hb hp hd => W.zret B'.exec B'.bytes B'.returns (nar_b hb) (fun t ht hW => ⟨i, rfl, hp, ht⟩) (fun _ h => by cases h) hd) hB (lv_entry as hn)
theorem ML_of {l : Launch} {y : MethodName} {ws ws' : List Cond} {rm : Room} {as : List Value} {B : State → Prop} {post : Int → Prop} {cc : ByteArray} {maxL : Nat} (hy : plainName y.cls = true) (hw : ws = Cond.code y cc maxL (some .long) :: ws') (hn : (lg_sl as).length ≤ maxL)
    (body : ∀ (p : Program) (e : Env) (s : State) (m : MethodId) (args : Array Value) (below : List Frame) (meth : Method) (c : Code) (Q : State → Prop) (ls : Array Slot), CallFix p m c cc maxL s args ws y.cls → (∀ (i : Int) (pc : Nat) (ls' : Array Slot), post i → decode cc pc = .ok (.lreturn, 1) → W p l e rm s m args below meth c s.heap [] 0 0 Q (F0 m pc ls' [jL i])) → B s → lv_has ls maxL (lv_args 0 as) → W p l e rm s m args below meth c s.heap [] 0 0 Q (F0 m 0 ls [])) : ML l y ws rm as B post := by
  refine Met.ofW (cc := cc) (maxL := maxL) (ret := some .long) hy hw ?_
  intro p e s m args below meth c s₁ B' hml hv
  obtain ⟨rfl, hB⟩ := hv
  have hlocks := B'.notSynchronized
  rw [lg_entry_eq]
  exact body p e s m _ below meth c _ _ ⟨B'.exec, B'.bytes, hml, findClass_of_methodNamed B'.named, atoms_spec (ws := ws) B'.pre⟩ (fun i pc ls' hp hd => W.lret B'.exec B'.bytes B'.returns (fun t ht hW => ⟨i, rfl, hp, ht⟩) (fun _ h => by cases h) hd) hB (lv_entry as hn)
theorem MMI_of {S : Type} {l : Launch} {y : MethodName} {ws ws' : List Cond} {rm : Room} {as : List Value} {D : va_G} {cA : ClassId} {w0 : va_W} {Wd : S → va_W} {sz : Nat} {post : Int → S → Prop} {cc : ByteArray} {maxL : Nat} {ty : FieldType} (hty : ty = .int ∨ ty = .boolean) (hy : plainName y.cls = true) (hw : ws = Cond.code y cc maxL (some ty) :: ws') (hn : (lg_sl as).length ≤ maxL)
    (body : ∀ (p : Program) (e : Env) (s : State) (m : MethodId) (args : Array Value) (below : List Frame) (meth : Method) (c : Code) (Q : State → Prop) (ls : Array Slot) (A : Nat → Prop), CallFix p m c cc maxL s args ws y.cls → (∀ (i : Int) (u : S) (H1 : Heap) (locs1 : List Loc) (pc : Nat) (ls' : Array Slot), (ty = .boolean → (i = 0 ∨ i = 1)) → post i u → va_P D vwCl (Wd u) H1 → va_D A (Wd u) → va_S A s.heap H1 locs1 → decode cc pc = .ok (.ireturn, 1) → W p l e rm s m args below meth c H1 locs1 0 0 Q (F0 m pc ls' [jI i])) → va_P D vwCl w0 s.heap → va_K D vwCl [(cA, .int)] s → va_D A w0 → va_S A s.heap s.heap [] → (∀ q, s.heap.size ≤ q → A q) → lv_has ls maxL (lv_args 0 as) → W p l e rm s m args below meth c s.heap [] 0 0 Q (F0 m 0 ls [])) : MMI l y ws rm as D cA w0 Wd sz post := by
  refine Met.ofW (cc := cc) (maxL := maxL) (ret := some ty) hy hw ?_
  intro p e s m args below meth c s₁ B' hml hv
  obtain ⟨rfl, hsz, hP, hK, hD0⟩ := hv
  subst hsz
  have hlocks := B'.notSynchronized
  rw [lg_entry_eq]
  refine body p e s m _ below meth c _ _ (va_A w0 s.heap.size) ⟨B'.exec, B'.bytes, hml, findClass_of_methodNamed B'.named, atoms_spec (ws := ws) B'.pre⟩ (fun i u H1 locs1 pc ls' hb hp hP1 hD1 hS1 hd => ?_) hP hK hD0.self va_S.rf (fun q h => Or.inr h) (lv_entry as hn)
  have hq : ∀ t : State, t.heap = H1 → s.WarmedH t.vm → va_Qi (fun r u => ∃ i : Int, r = Int32.ofInt i ∧ post i u) (fun u t => WA D cA (va_A w0 s.heap.size) (Wd u) t) (va_A w0 s.heap.size) as.toArray s (.returned (some (.int (Int32.ofInt i)))) t := fun t ht hW => ⟨⟨_, u, rfl, ⟨i, rfl, hp⟩, by rw [ht]; exact hP1, va_K.moved hW.alike hK, hD1⟩, hS1.F ht⟩
  rcases hty with rfl | rfl
  · exact W.iret B'.exec B'.bytes B'.returns hq hS1.2.2 hd
  · exact W.zret B'.exec B'.bytes B'.returns (nar_b (hb rfl)) hq hS1.2.2 hd
theorem MMV_of {S : Type} {l : Launch} {y : MethodName} {ws ws' : List Cond} {rm : Room} {as : List Value} {D : va_G} {cA : ClassId} {w0 : va_W} {Wd : S → va_W} {sz : Nat} {post : S → Prop} {cc : ByteArray} {maxL : Nat} (hy : plainName y.cls = true) (hw : ws = Cond.code y cc maxL none :: ws') (hn : (lg_sl as).length ≤ maxL)
    (body : ∀ (p : Program) (e : Env) (s : State) (m : MethodId) (args : Array Value) (below : List Frame) (meth : Method) (c : Code) (Q : State → Prop) (ls : Array Slot) (A : Nat → Prop), CallFix p m c cc maxL s args ws y.cls → (∀ (u : S) (H1 : Heap) (locs1 : List Loc) (pc : Nat) (ls' : Array Slot), post u → va_P D vwCl (Wd u) H1 → va_D A (Wd u) → va_S A s.heap H1 locs1 → decode cc pc = .ok (.return_, 1) → W p l e rm s m args below meth c H1 locs1 0 0 Q (F0 m pc ls' [])) → va_P D vwCl w0 s.heap → va_K D vwCl [(cA, .int)] s → va_D A w0 → va_S A s.heap s.heap [] → (∀ q, s.heap.size ≤ q → A q) → lv_has ls maxL (lv_args 0 as) → W p l e rm s m args below meth c s.heap [] 0 0 Q (F0 m 0 ls [])) : MMV l y ws rm as D cA w0 Wd sz post := by
  refine Met.ofW (cc := cc) (maxL := maxL) (ret := none) hy hw ?_
  intro p e s m args below meth c s₁ B' hml hv
  obtain ⟨rfl, hsz, hP, hK, hD0⟩ := hv
  subst hsz
  have hlocks := B'.notSynchronized
  rw [lg_entry_eq]
  refine body p e s m _ below meth c _ _ (va_A w0 s.heap.size) ⟨B'.exec, B'.bytes, hml, findClass_of_methodNamed B'.named, atoms_spec (ws := ws) B'.pre⟩ (fun u H1 locs1 pc ls' hp hP1 hD1 hS1 hd => ?_) hP hK hD0.self va_S.rf (fun q h => Or.inr h) (lv_entry as hn)
  exact W.vret B'.exec B'.bytes B'.returns (fun t ht hW => ⟨⟨u, rfl, hp, by rw [ht]; exact hP1, va_K.moved hW.alike hK, hD1⟩, hS1.F ht⟩) hS1.2.2 hd
theorem WB_blind {D : va_G} {ws : va_W} {cA : ClassId} {as : List Value} : FrameBlind (va_Pc as (WB D ws cA)) := fun a U g mk q => ⟨q.1, q.2.1, va_K.moved (u := U) (U := U.calling g mk a) (Vm.Alike.refl U.vm) q.2.2⟩
theorem WM_blind {D : va_G} {ws : va_W} {cA : ClassId} {sz : Nat} {as : List Value} : FrameBlind (va_Pc as (WM D ws cA sz)) := fun a U g mk q => ⟨q.1, q.2.1, q.2.2.1, va_K.moved (u := U) (U := U.calling g mk a) (Vm.Alike.refl U.vm) q.2.2.2.1, q.2.2.2.2⟩
section JC
variable {p : Program} {l : Launch} {e : Env} {R : Room} {s : State} {m : MethodId} {args : Array Value} {below : List Frame} {meth : Method} {c : Code} {H : Heap} {locs : List Loc} {cells slots : Nat} {Q : State → Prop}
variable {cc bytes : ByteArray} {nL maxL n index : Nat} {Ts ws : List Cond} {own C : String} {pc : Nat} {ls : Array Slot} {st0 As : List Value} {y : MethodName} {rm : Room} {ret : Option FieldType} {post : Int → Prop} {b : Addr} {D : va_G} {wx : va_W} {cA : ClassId}
theorem j_get (S : CallFix p m c cc nL s args Ts own) {CT : String} {T : u_T} {N ci : Nat} {a : Nat} {rest : List Value} (hin : ∀ w ∈ u_ws CT T N, w ∈ Ts) (hK : va_K D vwCl [(cA, .int)] s) (hP : va_P D vwCl wx H) {fs : List Value} (he : wx[0]? = some (a, .inr (ci, fs))) (hc : vwCl[ci]? = some (CT, T, N)) (k : Nat) (hk : k < N) (hlink : (Cond.fieldLink own index (T k).1 (T k).2.1 (T k).2.2.1) ∈ Ts) {v : Value} (hv : fs[k]? = some v) (hdg : decode cc pc = .ok (.getfield index, 3)) (kk : W p l e R s m args below meth c H locs cells slots Q (F0 m (pc + 3) ls (v :: rest))) : W p l e R s m args below meth c H locs cells slots Q (F0 m pc ls (.ref a :: rest)) :=
  va_get S.1 S.2.1 S.2.2.2.2 hin S.2.2.2.1 hK hP 0 he hc k hk (S.2.2.2.2 _ hlink) (fun _ h => h) hv hdg kk
theorem j_put (S : CallFix p m c cc nL s args Ts own) {CT : String} {T : u_T} {N ci : Nat} {a : Nat} {A : Nat → Prop} {H0 : Heap} {rest : List Value} (hin : ∀ w ∈ u_ws CT T N, w ∈ Ts) (ty0 : Nat → FieldType) (hty : ∀ k, k < N → parseFieldDescriptor (T k).2.2.1 = some (ty0 k)) (hnm : ∀ a, a < N → ∀ b, b < N → a ≠ b → (T a).2.1 ≠ (T b).2.1) (hK : va_K D vwCl [(cA, .int)] s) (hP : va_P D vwCl wx H) (hD : va_D A wx) (hS : va_S A H0 H locs) {fs : List Value} {wx1 : va_W} {x : Int} (he : wx[0]? = some (a, .inr (ci, fs))) (hc : vwCl[ci]? = some (CT, T, N)) (k : Nat) (hk : k < N) (hlink : (Cond.fieldLink own index (T k).1 (T k).2.1 (T k).2.2.1) ∈ Ts) (hfin : (T k).2.2.2 = false) (hd : parseFieldDescriptor (T k).2.2.1 = some .int) (hl : k < fs.length) (h1 : wx.set 0 (a, .inr (ci, fs.set k (jI x))) = wx1) (hdg : decode cc pc = .ok (.putfield index, 3)) (kk : ∀ (H1 : Heap) (locs1 : List Loc), va_P D vwCl wx1 H1 → va_D A wx1 → va_S A H0 H1 locs1 → W p l e R s m args below meth c H1 locs1 cells slots Q (F0 m (pc + 3) ls rest)) : W p l e R s m args below meth c H locs cells slots Q (F0 m pc ls (jI x :: .ref a :: rest)) := by
  subst h1
  exact va_put S.1 S.2.1 S.2.2.2.2 hin ty0 hty hnm S.2.2.2.1 hK hP hD hS 0 he hc k hk (S.2.2.2.2 _ hlink) (fun _ h => h) hfin hd rfl rfl hl hdg kk
theorem j_csi (S : CallFix p m c cc nL s args Ts own) (hM : MI l y ws rm As W0 post) (cw : CallB R s args own index y bytes maxL ret ws rm 0 0 n ∧ (Cond.static y).before args s = true) (rest : List Value) (hst : st0 = As.reverse ++ rest) (hn : As.length = n) (hsz : ls.size = nL) (hW : (rest.map fun v => v.category).sum ≤ 8) (hf : cells ≤ R.cells ∧ slots ≤ R.slots) (hdg : decode cc pc = .ok (.invokestatic index, 3)) (kk : ∀ i : Int, post i → W p l e R s m args below meth c H locs cells slots Q (F0 m (pc + 3) ls (jI i :: rest))) : W p l e R s m args below meth c H locs cells slots Q (F0 m pc ls st0) := by
  have hr := W.runS (e := e) (H := H) (locs := locs) (below := below) (meth := meth) (g := F0 m pc ls st0) S hM cw ⟨fun _ _ _ _ q => ⟨q.1, trivial⟩, fun _ _ _ => ⟨rfl, trivial⟩⟩ rfl hn hsz hst (lv_room hW) hdg hf
  intro T hT X
  obtain ⟨v, st₀, t, T', L, h0, X', hL, e1, ⟨i, hv, hp, hh⟩, st⟩ := hr T hT X
  cases hv
  obtain ⟨t2, a1, b1⟩ := kk i hp T' (by rw [e1, hh, h0]) (Stand.forget X' (fun q h => (hL q h).elim))
  exact ⟨t2, st t2 a1, b1⟩
theorem j_csl (S : CallFix p m c cc nL s args Ts own) (hM : ML l y ws rm As W0 post) (cw : CallB R s args own index y bytes maxL ret ws rm 0 0 n ∧ (Cond.static y).before args s = true) (rest : List Value) (hst : st0 = As.reverse ++ rest) (hn : As.length = n) (hsz : ls.size = nL) (hW : (rest.map fun v => v.category).sum ≤ 8) (hf : cells ≤ R.cells ∧ slots ≤ R.slots) (hdg : decode cc pc = .ok (.invokestatic index, 3)) (kk : ∀ i : Int, post i → W p l e R s m args below meth c H locs cells slots Q (F0 m (pc + 3) ls (jL i :: rest))) : W p l e R s m args below meth c H locs cells slots Q (F0 m pc ls st0) := by
  have hr := W.runS (e := e) (H := H) (locs := locs) (below := below) (meth := meth) (g := F0 m pc ls st0) S hM cw ⟨fun _ _ _ _ q => ⟨q.1, trivial⟩, fun _ _ _ => ⟨rfl, trivial⟩⟩ rfl hn hsz hst (lv_room hW) hdg hf
  intro T hT X
  obtain ⟨v, st₀, t, T', L, h0, X', hL, e1, ⟨i, hv, hp, hh⟩, st⟩ := hr T hT X
  cases hv
  obtain ⟨t2, a1, b1⟩ := kk i hp T' (by rw [e1, hh, h0]) (Stand.forget X' (fun q h => (hL q h).elim))
  exact ⟨t2, st t2 a1, b1⟩
theorem j_cvi (S : CallFix p m c cc nL s args Ts own) (hM : MI l y ws rm (.ref b :: As) (WB D wx cA) post) (cw : CallW R s args own C index y bytes maxL ret ws rm 0 0 n) (hK : va_K D vwCl [(cA, .int)] s) (hP : va_P D vwCl wx H) {ci : Nat} {q : vw_C} {fs : List Value} (hc : vwCl[ci]? = some q) (hq : q.1 = C) (he : wx[0]? = some (b, .inr (ci, fs))) (rest : List Value) (hst : st0 = As.reverse ++ .ref b :: rest) (hn : As.length = n) (hsz : ls.size = nL) (hW : (rest.map fun v => v.category).sum ≤ 8) (hf : cells ≤ R.cells ∧ slots ≤ R.slots) (hdg : decode cc pc = .ok (.invokevirtual index, 3)) (kk : ∀ i : Int, post i → W p l e R s m args below meth c H locs cells slots Q (F0 m (pc + 3) ls (jI i :: rest))) : W p l e R s m args below meth c H locs cells slots Q (F0 m pc ls st0) := by
  subst hq
  have hr := W.runV (e := e) (H := H) (locs := locs) (below := below) (meth := meth) (g := F0 m pc ls st0) S hM cw ⟨WB_blind, va_recv hK hP hc he, fun U hU hW => ⟨rfl, by rw [hU]; exact hP, va_K.moved hW.alike hK⟩⟩ rfl hn hsz hst (lv_room hW) hdg hf
  intro T hT X
  obtain ⟨v, st₀, t, T', L, h0, X', hL, e1, ⟨i, hv, hp, hh⟩, st⟩ := hr T hT X
  cases hv
  obtain ⟨t2, a1, b1⟩ := kk i hp T' (by rw [e1, hh, h0]) (Stand.forget X' (fun q h => (hL q h).elim))
  exact ⟨t2, st t2 a1, b1⟩
theorem j_cvl (S : CallFix p m c cc nL s args Ts own) (hM : ML l y ws rm (.ref b :: As) (WB D wx cA) post) (cw : CallW R s args own C index y bytes maxL ret ws rm 0 0 n) (hK : va_K D vwCl [(cA, .int)] s) (hP : va_P D vwCl wx H) {ci : Nat} {q : vw_C} {fs : List Value} (hc : vwCl[ci]? = some q) (hq : q.1 = C) (he : wx[0]? = some (b, .inr (ci, fs))) (rest : List Value) (hst : st0 = As.reverse ++ .ref b :: rest) (hn : As.length = n) (hsz : ls.size = nL) (hW : (rest.map fun v => v.category).sum ≤ 8) (hf : cells ≤ R.cells ∧ slots ≤ R.slots) (hdg : decode cc pc = .ok (.invokevirtual index, 3)) (kk : ∀ i : Int, post i → W p l e R s m args below meth c H locs cells slots Q (F0 m (pc + 3) ls (jL i :: rest))) : W p l e R s m args below meth c H locs cells slots Q (F0 m pc ls st0) := by
  subst hq
  have hr := W.runV (e := e) (H := H) (locs := locs) (below := below) (meth := meth) (g := F0 m pc ls st0) S hM cw ⟨WB_blind, va_recv hK hP hc he, fun U hU hW => ⟨rfl, by rw [hU]; exact hP, va_K.moved hW.alike hK⟩⟩ rfl hn hsz hst (lv_room hW) hdg hf
  intro T hT X
  obtain ⟨v, st₀, t, T', L, h0, X', hL, e1, ⟨i, hv, hp, hh⟩, st⟩ := hr T hT X
  cases hv
  obtain ⟨t2, a1, b1⟩ := kk i hp T' (by rw [e1, hh, h0]) (Stand.forget X' (fun q h => (hL q h).elim))
  exact ⟨t2, st t2 a1, b1⟩
/-- a call that writes in its own world wc, which is a part of the caller's -/
theorem j_cvm {U : Type} {Wd : U → va_W} {post : Int → U → Prop} {wc wr : va_W} {A : Nat → Prop} {H0 : Heap} (isC isR : List Nat) (S : CallFix p m c cc nL s args Ts own) (hM : MMI l y ws rm (.ref b :: As) D cA wc Wd H.size post) (cw : CallW R s args own C index y bytes maxL ret ws rm 0 0 n) (hK : va_K D vwCl [(cA, .int)] s) (hP : va_P D vwCl wx H) (hD : va_D A wx) (hS : va_S A H0 H locs) (hA : ∀ q, H0.size ≤ q → A q) (hC : isC.map (fun i => wx[i]?) = wc.map some) (hR : isR.map (fun i => wx[i]?) = wr.map some) (hcn : va_nd isC = true) (hrn : va_nd isR = true) (hdis : ∀ i ∈ isR, i ∉ isC) {ci : Nat} {q : vw_C} {fs : List Value} (hc : vwCl[ci]? = some q) (hq : q.1 = C) (he : wc[0]? = some (b, .inr (ci, fs))) (rest : List Value) (hst : st0 = As.reverse ++ .ref b :: rest) (hn : As.length = n) (hsz : ls.size = nL) (hW : (rest.map fun v => v.category).sum ≤ 8) (hf : cells ≤ R.cells ∧ slots ≤ R.slots) (hdg : decode cc pc = .ok (.invokevirtual index, 3)) (kk : ∀ (i : Int) (u : U) (H1 : Heap) (locs1 : List Loc), post i u → va_P D vwCl (wr ++ Wd u) H1 → va_D A (wr ++ Wd u) → va_S A H0 H1 locs1 → W p l e R s m args below meth c H1 locs1 cells slots Q (F0 m (pc + 3) ls (jI i :: rest))) : W p l e R s m args below meth c H locs cells slots Q (F0 m pc ls st0) := by
  subst hq
  have hPc : va_P D vwCl wc H := hP.by (fun k => (isC[k]?).getD 0) (fun k q hk => by
    obtain ⟨i, h1, h2⟩ := va_in_of isC hC hk
    rw [h1]
    exact h2)
  have hDc : va_D A wc := hD.sub isC hcn hC
  have hFc := va_free (wc := wc) hD hS hA isC hC
  refine va_calli (va_runV (H := H) (locs := locs) (below := below) (meth := meth) (g := F0 m pc ls st0) (rest := rest) S hM cw ⟨WM_blind, va_recv hK hPc hc he, fun U hU hW => ⟨rfl, by rw [hU], by rw [hU]; exact hPc, va_K.moved hW.alike hK, hDc.weaken (fun _ _ _ _ => trivial)⟩⟩ rfl hn hsz hst (lv_room hW) hdg hf) hS (fun q _ h => hFc q h) hFc (fun r u t H1 locs1 ht hvm hw hB hz1 hk1 hS1 => ?_)
  obtain ⟨i, rfl, hp⟩ := hw
  obtain ⟨hP1, hK1, hD1⟩ := hB
  rw [ht] at hP1
  obtain ⟨hP2, hD2⟩ := va_join (wr := wr) (w1 := Wd u) hP hD isC isR hC hR hrn hdis hk1 hFc hP1 hD1
  exact kk i u H1 locs1 hp hP2 hD2 hS1
theorem j_cvv {U : Type} {Wd : U → va_W} {post : U → Prop} {wc wr : va_W} {A : Nat → Prop} {H0 : Heap} (isC isR : List Nat) (S : CallFix p m c cc nL s args Ts own) (hM : MMV l y ws rm (.ref b :: As) D cA wc Wd H.size post) (cw : CallW R s args own C index y bytes maxL ret ws rm 0 0 n) (hK : va_K D vwCl [(cA, .int)] s) (hP : va_P D vwCl wx H) (hD : va_D A wx) (hS : va_S A H0 H locs) (hA : ∀ q, H0.size ≤ q → A q) (hC : isC.map (fun i => wx[i]?) = wc.map some) (hR : isR.map (fun i => wx[i]?) = wr.map some) (hcn : va_nd isC = true) (hrn : va_nd isR = true) (hdis : ∀ i ∈ isR, i ∉ isC) {ci : Nat} {q : vw_C} {fs : List Value} (hc : vwCl[ci]? = some q) (hq : q.1 = C) (he : wc[0]? = some (b, .inr (ci, fs))) (rest : List Value) (hst : st0 = As.reverse ++ .ref b :: rest) (hn : As.length = n) (hsz : ls.size = nL) (hW : (rest.map fun v => v.category).sum ≤ 8) (hf : cells ≤ R.cells ∧ slots ≤ R.slots) (hdg : decode cc pc = .ok (.invokevirtual index, 3)) (kk : ∀ (u : U) (H1 : Heap) (locs1 : List Loc), post u → va_P D vwCl (wr ++ Wd u) H1 → va_D A (wr ++ Wd u) → va_S A H0 H1 locs1 → W p l e R s m args below meth c H1 locs1 cells slots Q (F0 m (pc + 3) ls rest)) : W p l e R s m args below meth c H locs cells slots Q (F0 m pc ls st0) := by
  subst hq
  have hPc : va_P D vwCl wc H := hP.by (fun k => (isC[k]?).getD 0) (fun k q hk => by
    obtain ⟨i, h1, h2⟩ := va_in_of isC hC hk
    rw [h1]
    exact h2)
  have hDc : va_D A wc := hD.sub isC hcn hC
  have hFc := va_free (wc := wc) hD hS hA isC hC
  refine va_callv (va_runV (H := H) (locs := locs) (below := below) (meth := meth) (g := F0 m pc ls st0) (rest := rest) S hM cw ⟨WM_blind, va_recv hK hPc hc he, fun U hU hW => ⟨rfl, by rw [hU], by rw [hU]; exact hPc, va_K.moved hW.alike hK, hDc.weaken (fun _ _ _ _ => trivial)⟩⟩ rfl hn hsz hst (lv_room hW) hdg hf) hS (fun q _ h => hFc q h) hFc (fun u t H1 locs1 ht hvm hw hB hz1 hk1 hS1 => ?_)
  obtain ⟨hP1, hK1, hD1⟩ := hB
  rw [ht] at hP1
  obtain ⟨hP2, hD2⟩ := va_join (wr := wr) (w1 := Wd u) hP hD isC isR hC hR hrn hdis hk1 hFc hP1 hD1
  exact kk u H1 locs1 hw hP2 hD2 hS1
/-- Math's own -/
theorem j_mabs (S : CallFix p m c cc nL s args Ts own) (hsz : ls.size = nL) (hlink : Cond.methodLink own index Lib.Math.abs.name ∈ Ts) (hstat : Cond.static Lib.Math.abs.name ∈ Ts) (hini : Cond.initialized "java/lang/Math" ∈ Ts) (hcode : Cond.code Lib.Math.abs.name Lib.Math.abs.code 1 (some .int) ∈ Ts) (hf : 1 ≤ R.frames) {rest : List Value} (hl : (rest.map fun v => v.category).sum + 13 ≤ R.locals) (hcs : cells ≤ R.cells ∧ slots ≤ R.slots) {a lo hi : Int} (ha : lo ≤ a ∧ a ≤ hi) (hb : (decide (-2147483647 ≤ lo) && decide (hi ≤ 2147483647)) = true) (hdg : decode cc pc = .ok (.invokestatic index, 3)) (kk : W p l e R s m args below meth c H locs cells slots Q (F0 m (pc + 3) ls (jI ((a.natAbs : Nat) : Int) :: rest))) : W p l e R s m args below meth c H locs cells slots Q (F0 m pc ls (jI a :: rest)) := by
  simp only [Bool.and_eq_true, decide_eq_true_eq] at hb
  refine va_mabs S.1 S.2.1 (by rw [S.2.2.1, hsz]) S.2.2.2.1 (S.2.2.2.2 _ hlink) (S.2.2.2.2 _ hstat) (S.2.2.2.2 _ hini) (S.2.2.2.2 _ hcode) hf hl hcs.1 hcs.2 hdg ?_
  have e : (if (0 : Int32) ≤ Int32.ofInt a then Int32.ofInt a else 0 - Int32.ofInt a) = Int32.ofInt ((a.natAbs : Nat) : Int) := by
    rw [oI_zero]
    by_cases h : 0 ≤ a
    · rw [if_pos ((oI_le in0 (by omega)).mpr h)]
      congr 1
      omega
    · rw [if_neg (fun q => h ((oI_le in0 (by omega)).mp q)), ← Int32.ofInt_sub]
      congr 1
      omega
  rw [e]
  exact kk
theorem j_mabsl (S : CallFix p m c cc nL s args Ts own) (hsz : ls.size = nL) (hlink : Cond.methodLink own index Lib.MathLoose.abs_long.x ∈ Ts) (hstat : Cond.static Lib.MathLoose.abs_long.x ∈ Ts) (hini : Cond.initialized "java/lang/Math" ∈ Ts) (hcode : Cond.code Lib.MathLoose.abs_long.x Lib.MathLoose.abs_long.code 2 (some .long) ∈ Ts) (hf : 1 ≤ R.frames) {rest : List Value} (hl : (rest.map fun v => v.category).sum + 13 ≤ R.locals) (hcs : cells ≤ R.cells ∧ slots ≤ R.slots) {a lo hi : Int} (ha : lo ≤ a ∧ a ≤ hi) (hb : (decide (-9223372036854775807 ≤ lo) && decide (hi ≤ 9223372036854775807)) = true) (hdg : decode cc pc = .ok (.invokestatic index, 3)) (kk : W p l e R s m args below meth c H locs cells slots Q (F0 m (pc + 3) ls (jL ((a.natAbs : Nat) : Int) :: rest))) : W p l e R s m args below meth c H locs cells slots Q (F0 m pc ls (jL a :: rest)) := by
  simp only [Bool.and_eq_true, decide_eq_true_eq] at hb
  refine va_mabs_long S.1 S.2.1 (by rw [S.2.2.1, hsz]) S.2.2.2.1 (S.2.2.2.2 _ hlink) (S.2.2.2.2 _ hstat) (S.2.2.2.2 _ hini) (S.2.2.2.2 _ hcode) hf hl hcs.1 hcs.2 hdg ?_
  have e : (if (0 : Int64) < Int64.ofInt a then Int64.ofInt a else -Int64.ofInt a) = Int64.ofInt ((a.natAbs : Nat) : Int) := by
    have hz : (0 : Int64) = Int64.ofInt 0 := by decide
    rw [hz]
    by_cases h : 0 < a
    · rw [if_pos ((oL_lt (by decide) (by omega)).mpr h)]
      congr 1
      omega
    · rw [if_neg (fun q => h ((oL_lt (by decide) (by omega)).mp q)), ← Int64.ofInt_neg]
      congr 1
      omega
  rw [e]
  exact kk
theorem j_mmax (S : CallFix p m c cc nL s args Ts own) (hsz : ls.size = nL) (hlink : Cond.methodLink own index Lib.Math.max.name ∈ Ts) (hstat : Cond.static Lib.Math.max.name ∈ Ts) (hini : Cond.initialized "java/lang/Math" ∈ Ts) (hcode : Cond.code Lib.Math.max.name Lib.Math.max.code 2 (some .int) ∈ Ts) (hf : 1 ≤ R.frames) {rest : List Value} (hl : (rest.map fun v => v.category).sum + 13 ≤ R.locals) (hcs : cells ≤ R.cells ∧ slots ≤ R.slots) {a b : Int} (ha : inI a) (hb : inI b) (hdg : decode cc pc = .ok (.invokestatic index, 3)) (kk : W p l e R s m args below meth c H locs cells slots Q (F0 m (pc + 3) ls (jI (max a b) :: rest))) : W p l e R s m args below meth c H locs cells slots Q (F0 m pc ls (jI b :: jI a :: rest)) := by
  refine va_mmax S.1 S.2.1 (by rw [S.2.2.1, hsz]) S.2.2.2.1 (S.2.2.2.2 _ hlink) (S.2.2.2.2 _ hstat) (S.2.2.2.2 _ hini) (S.2.2.2.2 _ hcode) hf hl hcs.1 hcs.2 hdg ?_
  have e : (if Int32.ofInt a < Int32.ofInt b then Int32.ofInt b else Int32.ofInt a) = Int32.ofInt (max a b) := by
    by_cases h : a < b
    · rw [if_pos ((oI_lt ha hb).mpr h)]
      congr 1
      omega
    · rw [if_neg (fun q => h ((oI_lt ha hb).mp q))]
      congr 1
      omega
  rw [e]
  exact kk
end JC
end
section
/-! the mathematical values that both sides answer -/
theorem iv_n (n : Int) : n ≤ n ∧ n ≤ n := ⟨Int.le_refl n, Int.le_refl n⟩
theorem bI_01 {P : Prop} : bI P = 0 ∨ bI P = 1 := by
  rcases @bI_c P with h | h
  · exact Or.inr h.1
  · exact Or.inl h.1
def sp_holesAt (cc : Int) (H : Int → Int) (x : Int) : Int := if 0 ≤ x ∧ x < cc then H x else 0
def sp_holes (cc : Int) (H : Int → Int) (x : Int) : Int := if 0 ≤ x ∧ x < cc then H x else -1
theorem sp_holesAt_in {cc x : Int} {H : Int → Int} (h : 0 ≤ x ∧ x < cc) : sp_holesAt cc H x = H x := if_pos h
theorem sp_holesAt_out {cc x : Int} {H : Int → Int} (h : ¬ (0 ≤ x ∧ x < cc)) : sp_holesAt cc H x = 0 := if_neg h
/-- upper by lower, if whole; else 0 -/
def sp_eq (up low : Int) : Int := if low < 1 ∨ up.tmod low ≠ 0 then 0 else up.tdiv low
theorem sp_eq_0 {up low : Int} (h : low < 1 ∨ up.tmod low ≠ 0) : sp_eq up low = 0 := if_pos h
theorem sp_eq_1 {up low : Int} (h1 : 1 ≤ low) (h2 : up.tmod low = 0) : sp_eq up low = up.tdiv low := if_neg (by omega)
/-- nearest, of two the lesser; the greater -/
def sp_nol (up low : Int) : Int := (2 * up + low - 1) / (2 * low)
def sp_nog (up low : Int) : Int := (2 * up + low) / (2 * low)
/-- PLAIN -/
def plr (w : Int) (H : Int → Int) (n : Int) : Nat → Int
  | 0 => -6
  | k + 1 => if (w * H k).tmod n = 0 ∧ (plr w H n k = -6 ∨ H k < H (plr w H n k)) then (k : Int) else plr w H n k
def sp_pl (w : Int) (H : Int → Int) (n c : Int) : Int := plr w H n c.toNat
theorem sp_pl_0 {w n : Int} {H : Int → Int} : sp_pl w H n 0 = -6 := rfl
theorem sp_pl_s {w n c : Int} {H : Int → Int} (hc : 0 ≤ c) : sp_pl w H n (c + 1) = if (w * H c).tmod n = 0 ∧ (sp_pl w H n c = -6 ∨ H c < H (sp_pl w H n c)) then c else sp_pl w H n c := by
  have h1 : (c + 1).toNat = c.toNat + 1 := by omega
  have h2 : ((c.toNat : Nat) : Int) = c := by omega
  unfold sp_pl
  rw [h1, plr, h2]
theorem plr_rng (w : Int) (H : Int → Int) (n : Int) : ∀ k : Nat, plr w H n k = -6 ∨ (0 ≤ plr w H n k ∧ plr w H n k < (k : Int)) := by
  intro k
  induction k with
  | zero => exact Or.inl rfl
  | succ k ih =>
    rw [plr]
    split
    · right
      omega
    · omega
theorem sp_pl_rng {w n c : Int} {H : Int → Int} (hc : 0 ≤ c) : sp_pl w H n c = -6 ∨ (0 ≤ sp_pl w H n c ∧ sp_pl w H n c < c) := by
  have h := plr_rng w H n c.toNat
  unfold sp_pl
  omega
theorem sp_pl_iv {w n c : Int} {H : Int → Int} (hc : 0 ≤ c ∧ c ≤ 8) : -6 ≤ sp_pl w H n c ∧ sp_pl w H n c ≤ 7 := by
  have h := @sp_pl_rng w n c H hc.1
  omega
def sp_plain (w cc : Int) (H : Int → Int) (n what : Int) : Int := if (n < 2 ∨ 1000 < n) ∨ (what < 0 ∨ 2 < what) then -2 else if sp_pl w H n cc = -6 then -6 else if what = 0 then sp_pl w H n cc else if what = 1 then w / n else w % n * H (sp_pl w H n cc) / n
/-- COMPOUND -/
def sp_fs (w hh hk n b : Int) : Int := sp_eq (hh * (w * hk - b * n)) (n * hk)
def ssr (f : Int → Int) : Nat → Int → Int
  | 0, _ => 0
  | k + 1, s => if f s ≠ 0 then s else if f (-s) ≠ 0 then -s else ssr f k (s + 1)
def sp_ss (w hh hk n s : Int) : Int := ssr (sp_fs w hh hk n) (hk + 1 - s).toNat s
theorem sp_ss_end {w hh hk n s : Int} (h : hk < s) : sp_ss w hh hk n s = 0 := by
  unfold sp_ss
  rw [show (hk + 1 - s).toNat = 0 by omega]
  rfl
theorem sp_ss_s {w hh hk n s : Int} (h : s ≤ hk) : sp_ss w hh hk n s = if sp_fs w hh hk n s ≠ 0 then s else if sp_fs w hh hk n (-s) ≠ 0 then -s else sp_ss w hh hk n (s + 1) := by
  unfold sp_ss
  rw [show (hk + 1 - s).toNat = (hk + 1 - (s + 1)).toNat + 1 by omega, ssr]
theorem ssr_rng (f : Int → Int) : ∀ (k : Nat) (s B : Int), 1 ≤ s → s + k ≤ B + 1 → -B ≤ ssr f k s ∧ ssr f k s ≤ B := by
  intro k
  induction k with
  | zero =>
    intro s B h1 h2
    show -B ≤ (0 : Int) ∧ (0 : Int) ≤ B
    omega
  | succ k ih =>
    intro s B h1 h2
    have h3 := ih (s + 1) B (by omega) (by omega)
    rw [ssr]
    split
    · omega
    · split <;> omega
theorem sp_ss_iv {w hh hk n : Int} (h : 5 ≤ hk ∧ hk ≤ 120) : -120 ≤ sp_ss w hh hk n 1 ∧ sp_ss w hh hk n 1 ≤ 120 := by
  have := ssr_rng (sp_fs w hh hk n) (hk + 1 - 1).toNat 1 120 (by omega) (by omega)
  exact this
def sp_sec (w : Int) (H : Int → Int) (n h k : Int) : Int := sp_ss w (H h) (H k) n 1
def sp_ct (w : Int) (H : Int → Int) (n h k b what : Int) : Int := if what = 0 then h else if what = 1 then sp_fs w (H h) (H k) n b else if what = 2 then k else b
/-- the answer of compound -/
def P_compound (w cc : Int) (H : Int → Int) (n what i : Int) : Prop :=
  (((n < 2 ∨ 1000 < n) ∨ (what < 0 ∨ 3 < what)) ∧ i = -1000000002) ∨
  (¬ ((n < 2 ∨ 1000 < n) ∨ (what < 0 ∨ 3 < what)) ∧ (∀ h k, 0 ≤ h → h < k → k < cc → sp_sec w H n h k = 0) ∧ i = -1000000005) ∨
  (¬ ((n < 2 ∨ 1000 < n) ∨ (what < 0 ∨ 3 < what)) ∧ ∃ h k, (0 ≤ h ∧ h < k ∧ k < cc) ∧ sp_sec w H n h k ≠ 0 ∧ (∀ h' k', 0 ≤ h' → h' < k' → k' < cc → (h' < h ∨ (h' = h ∧ k' < k)) → sp_sec w H n h' k' = 0) ∧ i = sp_ct w H n h k (sp_sec w H n h k) what)
theorem P_compound_det {w cc n what i j : Int} {H : Int → Int} (hi : P_compound w cc H n what i) (hj : P_compound w cc H n what j) : i = j := by
  rcases hi with ⟨a1, a2⟩ | ⟨a0, a1, a2⟩ | ⟨a0, h, k, a1, a2, a3, a4⟩ <;> rcases hj with ⟨b1, b2⟩ | ⟨b0, b1, b2⟩ | ⟨b0, h', k', b1, b2, b3, b4⟩
  · omega
  · exact absurd a1 b0
  · exact absurd a1 b0
  · exact absurd b1 a0
  · omega
  · exact absurd (a1 h' k' b1.1 b1.2.1 b1.2.2) b2
  · exact absurd b1 a0
  · exact absurd (b1 h k a1.1 a1.2.1 a1.2.2) a2
  · have e1 : ¬ (h' < h ∨ (h' = h ∧ k' < k)) := fun q => b2 (a3 h' k' b1.1 b1.2.1 b1.2.2 q)
    have e2 : ¬ (h < h' ∨ (h = h' ∧ k < k')) := fun q => a2 (b3 h k a1.1 a1.2.1 a1.2.2 q)
    have e3 : h = h' := by omega
    have e4 : k = k' := by omega
    subst e3
    subst e4
    rw [a4, b4]
/-- cuts -/
def sp_hn (w hc n i : Int) : Int := sp_nog (i * w * hc) n
def sp_ms (w hc n i : Int) : Int := sp_hn w hc n i * n - i * w * hc
def wfr (w hc n : Int) : Nat → Int
  | 0 => 0
  | k + 1 => max (wfr w hc n k) ((Int.natAbs (sp_ms w hc n k) : Nat) : Int)
def sp_wf (w hc n i : Int) : Int := wfr w hc n i.toNat
theorem sp_wf_0 {w hc n : Int} : sp_wf w hc n 0 = 0 := rfl
theorem sp_wf_s {w hc n i : Int} (hi : 0 ≤ i) : sp_wf w hc n (i + 1) = max (sp_wf w hc n i) ((Int.natAbs (sp_ms w hc n i) : Nat) : Int) := by
  unfold sp_wf
  rw [show (i + 1).toNat = i.toNat + 1 by omega, wfr, show ((i.toNat : Nat) : Int) = i by omega]
def sp_wu (w hc n : Int) : Int := sp_wf w hc n (n + 1)
def xfr (w hc n : Int) : Nat → Int
  | 0 => 0
  | k + 1 => if sp_ms w hc n k = 0 then xfr w hc n k + 1 else xfr w hc n k
def sp_xf (w hc n i : Int) : Int := xfr w hc n i.toNat
theorem sp_xf_0 {w hc n : Int} : sp_xf w hc n 0 = 0 := rfl
theorem sp_xf_s {w hc n i : Int} (hi : 0 ≤ i) : sp_xf w hc n (i + 1) = if sp_ms w hc n i = 0 then sp_xf w hc n i + 1 else sp_xf w hc n i := by
  unfold sp_xf
  rw [show (i + 1).toNat = i.toNat + 1 by omega, xfr, show ((i.toNat : Nat) : Int) = i by omega]
theorem nog_bd {x n : Int} (hn : 0 < n) : -n ≤ 2 * (sp_nog x n * n - x) ∧ 2 * (sp_nog x n * n - x) ≤ n := by
  unfold sp_nog
  have h1 := Int.emod_add_mul_ediv (2 * x + n) (2 * n)
  have h2 := Int.emod_nonneg (2 * x + n) (b := 2 * n) (by omega)
  have h3 := Int.emod_lt_of_pos (2 * x + n) (b := 2 * n) (by omega)
  rw [Int.mul_assoc, Int.mul_comm n] at h1
  omega
theorem sp_ms_iv {w hc n i : Int} (hn : 2 ≤ n ∧ n ≤ 1000) : -500 ≤ sp_ms w hc n i ∧ sp_ms w hc n i ≤ 500 := by
  have := @nog_bd (i * w * hc) n (by omega)
  unfold sp_ms sp_hn
  omega
theorem wfr_iv {w hc n : Int} (hn : 2 ≤ n ∧ n ≤ 1000) : ∀ k : Nat, 0 ≤ wfr w hc n k ∧ wfr w hc n k ≤ 500 := by
  intro k
  induction k with
  | zero => exact (show (0 : Int) ≤ 0 ∧ (0 : Int) ≤ 500 from by decide)
  | succ k ih =>
    have := @sp_ms_iv w hc n k hn
    rw [wfr]
    omega
theorem sp_wf_iv {w hc n i : Int} (hn : 2 ≤ n ∧ n ≤ 1000) : 0 ≤ sp_wf w hc n i ∧ sp_wf w hc n i ≤ 500 := wfr_iv hn _
theorem sp_wu_iv {w hc n : Int} (hn : 2 ≤ n ∧ n ≤ 1000) : 0 ≤ sp_wu w hc n ∧ sp_wu w hc n ≤ 500 := wfr_iv hn _
theorem sp_hn_iv {w hc n i : Int} (hw : 10 ≤ w ∧ w ≤ 200) (hc' : 5 ≤ hc ∧ hc ≤ 120) (hi : 0 ≤ i ∧ i ≤ 1000) (hn : 2 ≤ n ∧ n ≤ 1000) : 0 ≤ sp_hn w hc n i ∧ sp_hn w hc n i ≤ 48001000 := by
  have h1 : 0 ≤ i * w * hc ∧ i * w * hc ≤ 24000000 := iv_mulp (iv_mulp (lo := 0) (hi := 200000) hi hw (by decide)) hc' (by decide)
  unfold sp_hn sp_nog
  have h2 : 0 ≤ (2 * (i * w * hc) + n) / (2 * n) := Int.ediv_nonneg (by omega) (by omega)
  have h3 : (2 * (i * w * hc) + n) / (2 * n) ≤ (2 * (i * w * hc) + n) := Int.ediv_le_self _ (by omega)
  omega
/-- fractions -/
def sp_lt (up low what : Int) : Int := if what = 0 then up.tdiv (Int.gcd up low : Nat) else low.tdiv (Int.gcd up low : Nat)
def sp_hole (w cc : Int) (H : Int → Int) (c n i : Int) : Int := if ¬ (0 ≤ c ∧ c < cc) then -1 else if (n < 2 ∨ 1000 < n) ∨ (i < 0 ∨ n < i) then -2 else sp_hn w (H c) n i
def sp_miss (w cc : Int) (H : Int → Int) (c n i what : Int) : Int := if ¬ (0 ≤ c ∧ c < cc) then -1000000001 else if (n < 2 ∨ 1000 < n) ∨ (i < 0 ∨ n < i) ∨ (what < 0 ∨ 1 < what) then -1000000002 else sp_lt (sp_ms w (H c) n i) n what
def sp_worst (w cc : Int) (H : Int → Int) (c n what : Int) : Int := if ¬ (0 ≤ c ∧ c < cc) then -1 else if (n < 2 ∨ 1000 < n) ∨ (what < 0 ∨ 2 < what) then -2 else if what = 2 then sp_xf w (H c) n n else sp_lt (sp_wu w (H c) n) n what
def bsr (w : Int) (H : Int → Int) (n : Int) : Nat → Int
  | 0 => 0
  | k + 1 => if sp_wu w (H ((k : Int) + 1)) n * H (bsr w H n k) < sp_wu w (H (bsr w H n k)) n * H ((k : Int) + 1) then (k : Int) + 1 else bsr w H n k
/-- the best of circles 0 to c - 1 -/
def sp_bs (w : Int) (H : Int → Int) (n c : Int) : Int := bsr w H n (c - 1).toNat
theorem sp_bs_1 {w n : Int} {H : Int → Int} : sp_bs w H n 1 = 0 := rfl
theorem sp_bs_s {w n c : Int} {H : Int → Int} (hc : 1 ≤ c) : sp_bs w H n (c + 1) = if sp_wu w (H c) n * H (sp_bs w H n c) < sp_wu w (H (sp_bs w H n c)) n * H c then c else sp_bs w H n c := by
  unfold sp_bs
  rw [show (c + 1 - 1).toNat = (c - 1).toNat + 1 by omega, bsr, show (((c - 1).toNat : Nat) : Int) + 1 = c by omega]
theorem bsr_rng {w n : Int} {H : Int → Int} : ∀ k : Nat, 0 ≤ bsr w H n k ∧ bsr w H n k ≤ (k : Int) := by
  intro k
  induction k with
  | zero => exact (show (0 : Int) ≤ 0 ∧ (0 : Int) ≤ ((0 : Nat) : Int) from by decide)
  | succ k ih =>
    rw [bsr]
    split <;> omega
theorem sp_bs_rng {w n c : Int} {H : Int → Int} (hc : 1 ≤ c) : 0 ≤ sp_bs w H n c ∧ sp_bs w H n c < c := by
  have h := @bsr_rng w n H (c - 1).toNat
  unfold sp_bs
  omega
def sp_best (w cc : Int) (H : Int → Int) (n : Int) : Int := if n < 2 ∨ 1000 < n then -2 else if cc = 0 then -3 else sp_bs w H n cc
/-- the worm -/
def sp_er (E : Int → Int) (hc s i : Int) : Int := E ((i * s) % hc * 8 / hc % 8) * (hc - (i * s) % hc * 8 % hc) + E (((i * s) % hc * 8 / hc + 1) % 8) * ((i * s) % hc * 8 % hc)
theorem sp_er_iv {E : Int → Int} {hc s i : Int} (hE : ∀ j, 0 ≤ j → j < 8 → -100 ≤ E j ∧ E j ≤ 100) (h : 5 ≤ hc ∧ hc ≤ 120) : -24000 ≤ sp_er E hc s i ∧ sp_er E hc s i ≤ 24000 := by
  have hm := fun x : Int => And.intro (Int.emod_nonneg x (b := 8) (by omega)) (Int.emod_lt_of_pos x (b := 8) (by omega))
  have hb := And.intro (Int.emod_nonneg ((i * s) % hc * 8) (b := hc) (by omega)) (Int.emod_lt_of_pos ((i * s) % hc * 8) (b := hc) (by omega))
  have e1 := hE _ (hm ((i * s) % hc * 8 / hc)).1 (hm ((i * s) % hc * 8 / hc)).2
  have e2 := hE _ (hm ((i * s) % hc * 8 / hc + 1)).1 (hm ((i * s) % hc * 8 / hc + 1)).2
  unfold sp_er
  generalize E ((i * s) % hc * 8 / hc % 8) = x at e1 ⊢
  generalize E (((i * s) % hc * 8 / hc + 1) % 8) = y at e2 ⊢
  generalize (i * s) % hc * 8 % hc = z at hb ⊢
  have h1 : -12000 ≤ x * (hc - z) ∧ x * (hc - z) ≤ 12000 := iv_mul (la := -100) (ua := 100) (lb := 0) (ub := 120) 100 120 e1 (by omega) (by decide)
  have h2 : -12000 ≤ y * z ∧ y * z ≤ 12000 := iv_mul (la := -100) (ua := 100) (lb := 0) (ub := 120) 100 120 e2 (by omega) (by decide)
  omega
def sp_spoilt (cc : Int) (H E : Int → Int) (c s i what : Int) : Int := if ¬ (0 ≤ c ∧ c < cc) then -1000000001 else if (s < 1 ∨ 100000 < s) ∨ (i < 0 ∨ 10000 < i) ∨ (what < 0 ∨ 1 < what) then -1000000002 else sp_lt (sp_er E (H c) s i) (H c) what
def exr (E : Int → Int) (hc s what : Int) : Nat → Int
  | 0 => 0
  | k + 1 => if (what = 0 ∧ sp_er E hc s (exr E hc s what k) < sp_er E hc s ((k : Int) + 1)) ∨ (what ≠ 0 ∧ sp_er E hc s ((k : Int) + 1) < sp_er E hc s (exr E hc s what k)) then (k : Int) + 1 else exr E hc s what k
/-- the first of cuts 0 to i - 1 -/
def sp_ex (E : Int → Int) (hc s what i : Int) : Int := exr E hc s what (i - 1).toNat
theorem sp_ex_1 {E : Int → Int} {hc s what : Int} : sp_ex E hc s what 1 = 0 := rfl
theorem sp_ex_s {E : Int → Int} {hc s what i : Int} (hi : 1 ≤ i) : sp_ex E hc s what (i + 1) = if (what = 0 ∧ sp_er E hc s (sp_ex E hc s what i) < sp_er E hc s i) ∨ (what ≠ 0 ∧ sp_er E hc s i < sp_er E hc s (sp_ex E hc s what i)) then i else sp_ex E hc s what i := by
  unfold sp_ex
  rw [show (i + 1 - 1).toNat = (i - 1).toNat + 1 by omega, exr, show (((i - 1).toNat : Nat) : Int) + 1 = i by omega]
theorem exr_rng {E : Int → Int} {hc s what : Int} : ∀ k : Nat, 0 ≤ exr E hc s what k ∧ exr E hc s what k ≤ (k : Int) := by
  intro k
  induction k with
  | zero => exact (show (0 : Int) ≤ 0 ∧ (0 : Int) ≤ ((0 : Nat) : Int) from by decide)
  | succ k ih =>
    rw [exr]
    split <;> omega
theorem sp_ex_rng {E : Int → Int} {hc s what i : Int} (hi : 1 ≤ i) : 0 ≤ sp_ex E hc s what i ∧ sp_ex E hc s what i < i := by
  have h := @exr_rng E hc s what (i - 1).toNat
  unfold sp_ex
  omega
def sp_extreme (cc : Int) (H E : Int → Int) (c s n what : Int) : Int := if ¬ (0 ≤ c ∧ c < cc) then -1 else if (s < 1 ∨ 100000 < s) ∨ (n < 0 ∨ 1000 < n) ∨ (what < 0 ∨ 1 < what) then -2 else sp_ex E (H c) s what (n + 1)
/-- shares -/
def sp_gap (p q low : Int) : Int := ((Int.natAbs (sp_nol (p * low) q * q - p * low) : Nat) : Int)
def nrr (p q : Int) : Nat → Int
  | 0 => 1
  | k + 1 => if sp_gap p q ((k : Int) + 2) * nrr p q k < sp_gap p q (nrr p q k) * ((k : Int) + 2) then (k : Int) + 2 else nrr p q k
/-- the best of the lower numbers 1 to low -/
def sp_nr (p q low : Int) : Int := nrr p q (low - 1).toNat
theorem sp_nr_1 {p q : Int} : sp_nr p q 1 = 1 := rfl
theorem sp_nr_s {p q k : Int} (hk : 2 ≤ k) : sp_nr p q k = if sp_gap p q k * sp_nr p q (k - 1) < sp_gap p q (sp_nr p q (k - 1)) * k then k else sp_nr p q (k - 1) := by
  unfold sp_nr
  rw [show (k - 1).toNat = (k - 1 - 1).toNat + 1 by omega, nrr, show (((k - 1 - 1).toNat : Nat) : Int) + 2 = k by omega]
theorem nrr_rng {p q : Int} : ∀ k : Nat, 1 ≤ nrr p q k ∧ nrr p q k ≤ (k : Int) + 1 := by
  intro k
  induction k with
  | zero => exact (show (1 : Int) ≤ 1 ∧ (1 : Int) ≤ ((0 : Nat) : Int) + 1 from by decide)
  | succ k ih =>
    rw [nrr]
    split <;> omega
theorem sp_nr_rng {p q low : Int} (h : 1 ≤ low) : 1 ≤ sp_nr p q low ∧ sp_nr p q low ≤ low := by
  have h := @nrr_rng p q (low - 1).toNat
  unfold sp_nr
  omega
theorem nrr_stop {p q : Int} {k : Nat} (h : sp_gap p q (nrr p q k) = 0) : ∀ j : Nat, nrr p q (k + j) = nrr p q k := by
  intro j
  induction j with
  | zero => rfl
  | succ j ih =>
    rw [show k + (j + 1) = (k + j) + 1 from rfl, nrr, ih, h, Int.zero_mul, if_neg]
    have h1 := (@nrr_rng p q k).1
    have h2 : 0 ≤ sp_gap p q (((k + j : Nat) : Int) + 2) := by
      unfold sp_gap
      omega
    have := Int.mul_nonneg h2 (show 0 ≤ nrr p q k by omega)
    omega
theorem sp_nr_stop {p q a b : Int} (ha : 1 ≤ a) (hab : a ≤ b) (h : sp_gap p q (sp_nr p q a) ≤ 0) : sp_nr p q b = sp_nr p q a := by
  have h0 : sp_gap p q (sp_nr p q a) = 0 := by
    unfold sp_gap at h ⊢
    omega
  have := nrr_stop h0 ((b - a).toNat)
  unfold sp_nr
  rw [← this]
  congr 1
  omega
theorem nol_bd {x n : Int} (hn : 0 < n) : -n ≤ 2 * (sp_nol x n * n - x) ∧ 2 * (sp_nol x n * n - x) ≤ n := by
  unfold sp_nol
  have h1 := Int.emod_add_mul_ediv (2 * x + n - 1) (2 * n)
  have h2 := Int.emod_nonneg (2 * x + n - 1) (b := 2 * n) (by omega)
  have h3 := Int.emod_lt_of_pos (2 * x + n - 1) (b := 2 * n) (by omega)
  rw [Int.mul_assoc, Int.mul_comm n] at h1
  omega
theorem sp_gap_iv {p q low : Int} (hq : 1 ≤ q ∧ q ≤ 1000000) : 0 ≤ sp_gap p q low ∧ sp_gap p q low ≤ 500000 := by
  have := @nol_bd (p * low) q (by omega)
  unfold sp_gap
  omega
def sp_near (p q limit what : Int) : Int := if ((p < 1 ∨ 1000000 < p) ∨ (q < 1 ∨ 1000000 < q)) ∨ (limit < 1 ∨ 10000 < limit) ∨ (what < 0 ∨ 1 < what) then -2 else if what = 1 then sp_nr p q limit else sp_nol (p * sp_nr p q limit) q
/-- verniers -/
def sp_mm (d p q : Int) : Int := p * d / q
def sp_ln (d v p q : Int) : Int := sp_nol ((p * d - sp_mm d p q * q) * v) q
def sp_rd (d v p q : Int) : Int := sp_mm d p q * v + sp_ln d v p q
def sp_read (d v p q what : Int) : Int := if ((q < 1 ∨ 1000000 < q) ∨ (p < 0 ∨ q - 1 < p)) ∨ (what < 0 ∨ 2 < what) then -2 else if what = 0 then sp_mm d p q else if what = 1 then sp_ln d v p q else sp_rd d v p q
def sp_r1 (d v p q e : Int) : Int := sp_rd d v ((p * 1000000 + e * q) % (q * 1000000)) (q * 1000000)
def sp_r2 (d v p q e : Int) : Int := sp_rd d v ((p * 1000000 + q * 500000 - e * q) % (q * 1000000)) (q * 1000000)
def sp_two (d v p q e what : Int) : Int := if ((q < 1 ∨ 1000000 < q) ∨ (p < 0 ∨ q - 1 < p)) ∨ (e < -1000 ∨ 1000 < e) ∨ (what < 0 ∨ 1 < what) then -1000000002 else sp_lt (if sp_r2 d v p q e < sp_r1 d v p q e then 2 * (sp_r1 d v p q e + sp_r2 d v p q e) + d * v else 2 * (sp_r1 d v p q e + sp_r2 d v p q e) - d * v) 4 what
def sp_told (w cc gc d v what : Int) : Int := if what = 0 then w else if what = 1 then cc else if what = 2 then gc else if what = 3 then d else if what = 4 then v else -2
end
section
theorem sp_eq_iv {x y M : Int} (hx : -M ≤ x ∧ x ≤ M) : -M ≤ sp_eq x y ∧ sp_eq x y ≤ M := by
  unfold sp_eq
  split
  · omega
  · have := Int.natAbs_tdiv_le_natAbs x y
    omega
theorem sp_nol_iv {x y u ub : Int} (hx : 0 ≤ x ∧ x ≤ u) (hy : 0 < y) (hu : u + 1 ≤ ub) : 0 ≤ sp_nol x y ∧ sp_nol x y ≤ ub := by
  unfold sp_nol
  have h1 : 0 ≤ (2 * x + y - 1) / (2 * y) := Int.ediv_nonneg (by omega) (by omega)
  have h2 : (2 * x + y - 1) / (2 * y) < x + 1 := Int.ediv_lt_of_lt_mul (by omega) (by
    have : x * 2 ≤ x * (2 * y) := Int.mul_le_mul_of_nonneg_left (by omega) hx.1
    rw [Int.add_mul]
    omega)
  omega
theorem sp_nog_iv {x y u ub : Int} (hx : 0 ≤ x ∧ x ≤ u) (hy : 0 < y) (hu : u + 1 ≤ ub) : 0 ≤ sp_nog x y ∧ sp_nog x y ≤ ub := by
  unfold sp_nog
  have h1 : 0 ≤ (2 * x + y) / (2 * y) := Int.ediv_nonneg (by omega) (by omega)
  have h2 : (2 * x + y) / (2 * y) < x + 1 := Int.ediv_lt_of_lt_mul (by omega) (by
    have : x * 2 ≤ x * (2 * y) := Int.mul_le_mul_of_nonneg_left (by omega) hx.1
    rw [Int.add_mul]
    omega)
  omega
theorem sp_eq_iff {up low : Int} (h : 0 < up) (h2 : 1 ≤ low) : sp_eq up low = 0 ↔ ¬ up.tmod low = 0 := by
  constructor
  · intro e q
    rw [sp_eq_1 h2 q] at e
    have h3 := Int.tmod_def up low
    rw [q, e, Int.mul_zero] at h3
    omega
  · intro q
    exact sp_eq_0 (Or.inr q)
theorem sp_nr_iv {p q low : Int} (h : 1 ≤ low ∧ low ≤ 10000) : 1 ≤ sp_nr p q low ∧ sp_nr p q low ≤ 10000 := by
  have := @sp_nr_rng p q low h.1
  omega
theorem emod_iv {x y : Int} (hy : 1 ≤ y ∧ y ≤ 1000000000000) : 0 ≤ x % y ∧ x % y ≤ 1000000000000 := by
  have := Int.emod_nonneg x (b := y) (by omega)
  have := Int.emod_lt_of_pos x (b := y) (by omega)
  omega
theorem sp_left_iv {d p q : Int} (hq : 1 ≤ q ∧ q ≤ 1000000000000) : 0 ≤ p * d - sp_mm d p q * q ∧ p * d - sp_mm d p q * q ≤ 1000000000000 := by
  unfold sp_mm
  have h := Int.emod_def (p * d) q
  rw [Int.mul_comm q] at h
  rw [← h]
  exact emod_iv hq
theorem sp_mm_iv {d p q : Int} (hd : 2 ≤ d ∧ d ≤ 720) (hp : 0 ≤ p ∧ p ≤ 1000000000000) (hq : 1 ≤ q ∧ q ≤ 1000000000000) (h : p < q) : 0 ≤ sp_mm d p q ∧ sp_mm d p q ≤ 720 := by
  unfold sp_mm
  have h1 : 0 ≤ p * d := Int.mul_nonneg hp.1 (by omega)
  have h2 : 0 ≤ p * d / q := Int.ediv_nonneg h1 (by omega)
  have h3 : p * d ≤ q * d := Int.mul_le_mul_of_nonneg_right (by omega) (by omega)
  have h4 : p * d / q ≤ d := Int.ediv_le_of_le_mul (by omega) (by rw [Int.mul_comm d]; exact h3)
  omega
theorem sp_ln_iv {d v p q : Int} (hv : 2 ≤ v ∧ v ≤ 60) (hq : 1 ≤ q ∧ q ≤ 1000000000000) (_ : p < q) : 0 ≤ sp_ln d v p q ∧ sp_ln d v p q ≤ 60 := by
  unfold sp_ln sp_nol
  have h1 : 0 ≤ p * d - sp_mm d p q * q ∧ p * d - sp_mm d p q * q < q := by
    unfold sp_mm
    have h := Int.emod_def (p * d) q
    rw [Int.mul_comm q] at h
    rw [← h]
    exact ⟨Int.emod_nonneg _ (by omega), Int.emod_lt_of_pos _ (by omega)⟩
  generalize p * d - sp_mm d p q * q = x at h1 ⊢
  have h2 : 0 ≤ x * v := Int.mul_nonneg h1.1 (by omega)
  have h3 : x * v ≤ q * v := Int.mul_le_mul_of_nonneg_right (by omega) (by omega)
  have h4 : 0 ≤ (2 * (x * v) + q - 1) / (2 * q) := Int.ediv_nonneg (by omega) (by omega)
  have h5 : (2 * (x * v) + q - 1) / (2 * q) < v + 1 := Int.ediv_lt_of_lt_mul (by omega) (by
    have h6 : v * (2 * q) = 2 * (q * v) := by rw [Int.mul_left_comm, Int.mul_comm v]
    rw [Int.add_mul, h6]
    omega)
  omega
theorem sp_rd_iv {d v p q : Int} (hd : 2 ≤ d ∧ d ≤ 720) (hv : 2 ≤ v ∧ v ≤ 60) (hp : 0 ≤ p ∧ p ≤ 1000000000000) (hq : 1 ≤ q ∧ q ≤ 1000000000000) (h : p < q) : 0 ≤ sp_rd d v p q ∧ sp_rd d v p q ≤ 43260 := by
  have h1 := sp_mm_iv hd hp hq h
  have h2 := sp_ln_iv (d := d) (p := p) hv hq h
  have h3 : 0 ≤ sp_mm d p q * v ∧ sp_mm d p q * v ≤ 43200 := iv_mulp h1 hv (by decide)
  unfold sp_rd
  omega
theorem sp_fs_iv {w u1 u2 n b : Int} (hw : 10 ≤ w ∧ w ≤ 200) (h1 : 5 ≤ u1 ∧ u1 ≤ 120) (h2 : 5 ≤ u2 ∧ u2 ≤ 120) (hn : 2 ≤ n ∧ n ≤ 1000) (hb : -120 ≤ b ∧ b ≤ 120) : -17280000 ≤ sp_fs w u1 u2 n b ∧ sp_fs w u1 u2 n b ≤ 17280000 := by
  have a1 : 50 ≤ w * u2 ∧ w * u2 ≤ 24000 := iv_mulp hw h2 (by decide)
  have a2 : -120000 ≤ b * n ∧ b * n ≤ 120000 := iv_mul 120 1000 hb hn (by decide)
  have a3 : -144000 ≤ w * u2 - b * n ∧ w * u2 - b * n ≤ 144000 := by omega
  exact sp_eq_iv (iv_mul 120 144000 h1 a3 (by decide))
theorem gcd_iv {a b : Int} (hb : 1 ≤ b ∧ b ≤ 1000) : 1 ≤ ((Int.gcd a b : Nat) : Int) ∧ ((Int.gcd a b : Nat) : Int) ≤ 1000 := by
  have h1 : 0 < Int.gcd a b := Int.gcd_pos_of_ne_zero_right _ (by omega)
  have h2 : Int.gcd a b ∣ b.natAbs := Nat.gcd_dvd_right _ _
  have h3 := Nat.le_of_dvd (by omega) h2
  omega
theorem gcd_0 {x : Int} (hx : 0 ≤ x) : ((Int.gcd x 0 : Nat) : Int) = x := by
  rw [Int.gcd_zero_right]
  omega
theorem gcd_step {x y : Int} (hx : 0 ≤ x) (hy : 0 ≤ y) : Int.gcd y (x % y) = Int.gcd x y := by
  obtain ⟨m, rfl⟩ := Int.eq_ofNat_of_zero_le hx
  obtain ⟨n, rfl⟩ := Int.eq_ofNat_of_zero_le hy
  rw [← Int.natCast_emod]
  show Nat.gcd n (m % n) = Nat.gcd m n
  rw [Nat.gcd_comm n, ← Nat.gcd_rec, Nat.gcd_comm]
theorem sp_lt_0 {up low what : Int} (h : what = 0) : sp_lt up low what = up.tdiv ((Int.gcd ((Int.natAbs up : Nat) : Int) low : Nat) : Int) := by
  unfold sp_lt
  rw [if_pos h]
  rfl
theorem sp_lt_1 {up low what : Int} (h : ¬ what = 0) (hl : 0 ≤ low) : sp_lt up low what = low / ((Int.gcd ((Int.natAbs up : Nat) : Int) low : Nat) : Int) := by
  unfold sp_lt
  rw [if_neg h, Int.tdiv_eq_ediv_of_nonneg hl]
  rfl
def p2 (k : Int) : Int := 2 ^ (21 - k).toNat
theorem p2_s {k : Int} (h : 0 ≤ k ∧ k ≤ 20) : p2 k = 2 * p2 (k + 1) := by
  unfold p2
  rw [show (21 - k).toNat = (21 - (k + 1)).toNat + 1 by omega, Int.pow_succ, Int.mul_comm]
theorem cm_lt {x y k : Int} (hm : (k = 0 ∧ 0 < y) ∨ (y < x ∧ x * y < p2 k)) (hk : 0 ≤ k ∧ k ≤ 21) (hy : 0 < y) : k ≤ 20 := by
  rcases hm with h | ⟨h1, h2⟩
  · omega
  · by_cases e : k = 21
    · subst e
      have h3 : p2 21 = 1 := by decide
      have h4 : 0 < x * y := Int.mul_pos (by omega) hy
      omega
    · omega
theorem cm_next {x y k : Int} (hx : 0 ≤ x ∧ x ≤ 1000000000) (hy : 0 ≤ y ∧ y ≤ 1000) (hm : (k = 0 ∧ 0 < y) ∨ (y < x ∧ x * y < p2 k)) (hy0 : 0 < y) (hk : 0 ≤ k ∧ k ≤ 21) : x % y < y ∧ y * (x % y) < p2 (k + 1) := by
  have h1 := Int.emod_nonneg x (b := y) (by omega)
  have h2 := Int.emod_lt_of_pos x (b := y) hy0
  refine ⟨h2, ?_⟩
  have hk2 := cm_lt hm hk hy0
  rcases hm with ⟨e, -⟩ | ⟨a, b⟩
  · subst e
    have h3 : y * (x % y) ≤ 1000 * 999 := Int.mul_le_mul (by omega) (by omega) h1 (by decide)
    have h4 : p2 (0 + 1) = 1048576 := by decide
    omega
  · rw [p2_s ⟨hk.1, hk2⟩] at b
    have h3 := Int.emod_add_mul_ediv x y
    have h4 : 1 ≤ x / y := Int.le_ediv_of_mul_le hy0 (by omega)
    have h5 : y * 1 ≤ y * (x / y) := Int.mul_le_mul_of_nonneg_left h4 (by omega)
    have h6 : 2 * (x % y) ≤ x := by omega
    have h7 : y * (2 * (x % y)) ≤ y * x := Int.mul_le_mul_of_nonneg_left h6 (by omega)
    rw [Int.mul_left_comm, Int.mul_comm y x] at h7
    omega
theorem xor_neg {a b : Int} (ha : inL a) (hb : 0 < b ∧ b ≤ 9223372036854775807) : Int64.ofInt a ^^^ Int64.ofInt b < 0 ↔ a < 0 := by
  have h0 : (0 : Int64) = Int64.ofInt 0 := by decide
  rw [Int64.lt_iff_toInt_lt, h0, tL (a := 0) (by decide)]
  have e : (Int64.ofInt a ^^^ Int64.ofInt b).toInt = ((Int64.ofInt a).toBitVec ^^^ (Int64.ofInt b).toBitVec).toInt := rfl
  have hA : (Int64.ofInt a).toBitVec.toInt = a := tL ha
  have hB : (Int64.ofInt b).toBitVec.toInt = b := tL (by omega)
  have m1 := BitVec.msb_eq_toInt (x := (Int64.ofInt a).toBitVec)
  have m2 := BitVec.msb_eq_toInt (x := (Int64.ofInt b).toBitVec)
  have m3 := BitVec.msb_eq_toInt (x := (Int64.ofInt a).toBitVec ^^^ (Int64.ofInt b).toBitVec)
  rw [BitVec.msb_xor, m1, m2, hA, hB, decide_eq_false (show ¬ b < 0 by omega), Bool.xor_false] at m3
  rw [e]
  exact (decide_eq_decide.mp m3).symm
theorem fm_b {x y : Int} (h : Int.tmod x y = 0) : Int.tmod x y = x % y := by
  rw [Int.emod_eq_tmod, if_pos (Or.inr (Int.dvd_of_tmod_eq_zero h))]
  omega
theorem fm_c {x y : Int} (hx : x < 0) (hy : 0 < y) (h : ¬ Int.tmod x y = 0) : Int.tmod x y + y = x % y := by
  rw [Int.emod_eq_tmod, if_neg (fun q => by
    rcases q with q | q
    · omega
    · exact h (Int.tmod_eq_zero_of_dvd q))]
  omega
section JX
variable {p : Program} {l : Launch} {e : Env} {R : Room} {s : State} {m : MethodId} {args : Array Value} {below : List Frame} {meth : Method} {c : Code} {H : Heap} {locs : List Loc} {cells slots : Nat} {Q : State → Prop}
variable {cc : ByteArray} {nL : Nat} {Ts : List Cond} {own : String} {pc : Nat} {ls : Array Slot} {rest : List Value}
theorem j_lxor_ge (S : CallFix p m c cc nL s args Ts own) {a b off : Int} {tgt pc1 pc2 pc3 : Nat} (h1 : pc + 1 = pc1) (h2 : pc1 + 1 = pc2) (h3 : pc2 + 1 = pc3) (hdg : decode cc pc = .ok (.lxor, 1)) (hdg1 : decode cc pc1 = .ok (.lconst 0, 1)) (hdg2 : decode cc pc2 = .ok (.lcmp, 1)) (hdg3 : decode cc pc3 = .ok (.ifCond .ge off, 3)) (ht : (pc3 : Int) + off = (tgt : Int)) (ha : inL a) (hb : 0 < b ∧ b ≤ 9223372036854775807) (kt : 0 ≤ a → W p l e R s m args below meth c H locs cells slots Q (F0 m tgt ls rest)) (kf : a < 0 → W p l e R s m args below meth c H locs cells slots Q (F0 m (pc3 + 3) ls rest)) : W p l e R s m args below meth c H locs cells slots Q (F0 m pc ls (jL b :: jL a :: rest)) := by
  subst h1
  subst h2
  subst h3
  refine lv_lxor S.1 S.2.1 hdg ?_
  refine j_lconst (a := 0) S hdg1 rfl ?_
  refine W.lcmp S.1 S.2.1 hdg2 ?_
  have h0 : (0 : Int64) = Int64.ofInt 0 := by decide
  have hx := xor_neg ha hb
  rw [h0] at hx
  have hc : (0 ≤ lg_cmp (Int64.ofInt a ^^^ Int64.ofInt b) (Int64.ofInt 0)) ↔ 0 ≤ a := by
    rw [lg_cmp_ge]
    constructor
    · intro q
      exact Int.not_lt.mp (fun z => by
        have := hx.mpr z
        rw [Int64.lt_iff_toInt_lt] at this
        rw [Int64.le_iff_toInt_le] at q
        omega)
    · intro q
      rw [Int64.le_iff_toInt_le]
      refine Int.not_lt.mp (fun z => ?_)
      rw [← Int64.lt_iff_toInt_lt] at z
      have := hx.mp z
      omega
  exact lv_if_ge S.1 S.2.1 hdg3 ht (fun h => kt (hc.mp h)) (fun h => kf (Int.not_le.mp (fun q => h (hc.mpr q))))
end JX
/-- as Met.ofW, of a method that is run by its bytecode though its class has others that aren't -/
theorem Met_ofWF {l : Launch} {y : MethodName} {ws ws' : List Cond} {rm : Room} {Pc : Array Value → State → Prop} {Qc : Array Value → State → Outcome → State → Prop} {mc ms : Nat} {free : Addr → Prop} {cc : ByteArray} {maxL : Nat} {ret : Option FieldType} (hy : plainFor y = true) (hw : ws = Cond.code y cc maxL ret :: ws')
    (body : ∀ (p : Program) (e : Env) (s : State) (m : MethodId) (args : Array Value) (below : List Frame) (meth : Method) (c : Code) (s₁ : State), BodyLoose p l y (headSpec ws rm) cc maxL ret e s m args below meth c s₁ → c.maxLocals = maxL → Pc args s → W p l e (headSpec ws rm).room s m args below meth c s.heap [] 0 0 (MQ below Qc args s mc ms free) (entryFrame m args maxL)) : Met l y ws rm Pc Qc mc ms free := by
  refine MetFree.of_bodySF (code := cc) (maxLocals := maxL) (ret := ret) hy ?_ ?_
  · intro args s m h hn
    obtain ⟨meth, c, h1, h2, h3, h4, h5, h6, -, -⟩ := Cond.code_spec hn (atoms_spec (ws := ws) h _ (by rw [hw]; exact List.mem_cons_self))
    exact ⟨meth, c, h1, h2, h3, h4, h5, h6⟩
  · intro p e s m args below meth c s₁ B hml hP _
    have hh0 : s₁.heap = s.heap := by rw [B.state]; rfl
    obtain ⟨t, a1, o, b1, b2, b3⟩ := body p e s m args below meth c s₁ B hml hP s₁ hh0 (Stand.of_body B)
    exact ⟨t, o, a1, b1, b2, ⟨b3.1, b3.2⟩⟩
theorem MLF_of {l : Launch} {y : MethodName} {ws ws' : List Cond} {rm : Room} {as : List Value} {B : State → Prop} {post : Int → Prop} {cc : ByteArray} {maxL : Nat} (hy : plainFor y = true) (hw : ws = Cond.code y cc maxL (some .long) :: ws') (hn : (lg_sl as).length ≤ maxL)
    (body : ∀ (p : Program) (e : Env) (s : State) (m : MethodId) (args : Array Value) (below : List Frame) (meth : Method) (c : Code) (Q : State → Prop) (ls : Array Slot), CallFix p m c cc maxL s args ws y.cls → (∀ (i : Int) (pc : Nat) (ls' : Array Slot), post i → decode cc pc = .ok (.lreturn, 1) → W p l e rm s m args below meth c s.heap [] 0 0 Q (F0 m pc ls' [jL i])) → B s → lv_has ls maxL (lv_args 0 as) → W p l e rm s m args below meth c s.heap [] 0 0 Q (F0 m 0 ls [])) : ML l y ws rm as B post := by
  refine Met_ofWF (cc := cc) (maxL := maxL) (ret := some .long) hy hw ?_
  intro p e s m args below meth c s₁ B' hml hv
  obtain ⟨rfl, hB⟩ := hv
  have hlocks := B'.notSynchronized
  rw [lg_entry_eq]
  exact body p e s m _ below meth c _ _ ⟨B'.exec, B'.bytes, hml, findClass_of_methodNamed B'.named, atoms_spec (ws := ws) B'.pre⟩ (fun i pc ls' hp hd => W.lret B'.exec B'.bytes B'.returns (fun t ht hW => ⟨i, rfl, hp, ht⟩) (fun _ h => by cases h) hd) hB (lv_entry as hn)
end
section
theorem plain_eq {w h n : Int} (hw : 0 ≤ w) (hh : 0 < h) (hn : 0 < n) : w * h / n % h = w % n * h / n := by
  have e1 : w * h = w % n * h + n * (w / n * h) := by
    have := Int.emod_add_mul_ediv w n
    calc w * h = (w % n + n * (w / n)) * h := by rw [this]
      _ = w % n * h + n * (w / n * h) := by rw [Int.add_mul, Int.mul_assoc]
  rw [e1, Int.add_mul_ediv_left _ _ (by omega), Int.add_mul_emod_self_right]
  have h1 := Int.emod_nonneg w (b := n) (by omega)
  have h2 := Int.emod_lt_of_pos w (b := n) hn
  have h3 : 0 ≤ w % n * h := Int.mul_nonneg h1 (by omega)
  refine Int.emod_eq_of_lt (Int.ediv_nonneg h3 (by omega)) ?_
  refine Int.ediv_lt_of_lt_mul hn ?_
  rw [Int.mul_comm h n]
  exact Int.mul_lt_mul_of_pos_right h2 hh
theorem hn_eq {w hc n i : Int} : (2 * i * w * hc + n) / (2 * n) = sp_hn w hc n i := by
  unfold sp_hn sp_nog
  rw [Int.mul_assoc 2 i w, Int.mul_assoc 2 (i * w) hc]
theorem er_k {t h : Int} (hh : 5 ≤ h ∧ h ≤ 120) : 0 ≤ 8 * (t % h) / h ∧ 8 * (t % h) / h ≤ 7 := by
  have h1 := Int.emod_nonneg t (b := h) (by omega)
  have h2 := Int.emod_lt_of_pos t (b := h) (by omega)
  have h3 : 0 ≤ 8 * (t % h) / h := Int.ediv_nonneg (by omega) (by omega)
  have h4 : 8 * (t % h) / h < 8 := Int.ediv_lt_of_lt_mul (by omega) (by omega)
  omega
theorem er_eq {E : Int → Int} {h s i : Int} (hh : 5 ≤ h ∧ h ≤ 120) : E (8 * (i * s % h) / h) * h + (E ((8 * (i * s % h) / h + 1) % 8) - E (8 * (i * s % h) / h)) * (8 * (i * s % h) % h) = sp_er E h s i := by
  have hk := @er_k (i * s) h hh
  unfold sp_er
  rw [Int.mul_comm (i * s % h) 8, Int.emod_eq_of_lt (a := 8 * (i * s % h) / h) (b := 8) hk.1 (by omega), Int.mul_sub, Int.sub_mul]
  omega
theorem sp_left {d p q : Int} : p * d - sp_mm d p q * q = p * d % q := by
  unfold sp_mm
  have h := Int.emod_def (p * d) q
  rw [Int.mul_comm q] at h
  exact h.symm
theorem ln_eq {d v p q : Int} : (2 * (p * d % q) * v + q - 1) / (2 * q) = sp_ln d v p q := by
  unfold sp_ln sp_nol
  rw [sp_left, Int.mul_assoc 2]
theorem sp_mm_iv2 {d p q : Int} (hd : 2 ≤ d ∧ d ≤ 720) (hp : 0 ≤ p) (hq : 1 ≤ q) (h : p < q) : 0 ≤ sp_mm d p q ∧ sp_mm d p q ≤ 720 := by
  unfold sp_mm
  have h1 : 0 ≤ p * d := Int.mul_nonneg hp (by omega)
  have h2 : 0 ≤ p * d / q := Int.ediv_nonneg h1 (by omega)
  have h3 : p * d ≤ q * d := Int.mul_le_mul_of_nonneg_right (by omega) (by omega)
  have h4 : p * d / q ≤ d := Int.ediv_le_of_le_mul (by omega) (by rw [Int.mul_comm d]; exact h3)
  omega
theorem sp_ln_iv2 {d v p q : Int} (hv : 2 ≤ v ∧ v ≤ 60) (hq : 1 ≤ q) : 0 ≤ sp_ln d v p q ∧ sp_ln d v p q ≤ 60 := by
  unfold sp_ln sp_nol
  rw [sp_left]
  have h1 : 0 ≤ p * d % q := Int.emod_nonneg _ (by omega)
  have h0 : p * d % q < q := Int.emod_lt_of_pos _ (by omega)
  generalize p * d % q = x at h1 h0 ⊢
  have h2 : 0 ≤ x * v := Int.mul_nonneg h1 (by omega)
  have h3 : x * v ≤ q * v := Int.mul_le_mul_of_nonneg_right (by omega) (by omega)
  have h4 : 0 ≤ (2 * (x * v) + q - 1) / (2 * q) := Int.ediv_nonneg (by omega) (by omega)
  have h5 : (2 * (x * v) + q - 1) / (2 * q) < v + 1 := Int.ediv_lt_of_lt_mul (by omega) (by
    have h6 : v * (2 * q) = 2 * (q * v) := by rw [Int.mul_left_comm, Int.mul_comm v]
    rw [Int.add_mul, h6]
    omega)
  omega
theorem sp_rd_iv2 {d v p q : Int} (hd : 2 ≤ d ∧ d ≤ 720) (hv : 2 ≤ v ∧ v ≤ 60) (hp : 0 ≤ p) (hq : 1 ≤ q) (h : p < q) : 0 ≤ sp_rd d v p q ∧ sp_rd d v p q ≤ 43260 := by
  have h1 := sp_mm_iv2 hd hp hq h
  have h2 := sp_ln_iv2 (d := d) (p := p) hv hq
  have h3 : 0 ≤ sp_mm d p q * v ∧ sp_mm d p q * v ≤ 43200 := iv_mulp h1 hv (by decide)
  unfold sp_rd
  omega
theorem mm_two {d a c : Int} (hc : 0 < c) : sp_mm d (2 * a) (2 * c) = sp_mm d a c := by
  unfold sp_mm
  rw [Int.mul_assoc, Int.mul_ediv_mul_of_pos _ _ (by decide)]
theorem ln_two {d v a c : Int} (hc : 0 < c) : sp_ln d v (2 * a) (2 * c) = sp_ln d v a c := by
  unfold sp_ln sp_nol
  rw [sp_left, sp_left, Int.mul_assoc 2 a d, Int.mul_emod_mul_of_pos _ _ (by decide), Int.mul_assoc 2]
  generalize a * d % c * v = x
  have h1 : (2 * (2 * x) + 2 * c - 1) / (2 * (2 * c)) = (2 * (2 * x) + 2 * c - 1) / 2 / (2 * c) := by
    rw [Int.ediv_ediv_of_nonneg (by decide)]
  rw [h1]
  congr 1
  omega
theorem rd_two {d v a c : Int} (hc : 0 < c) : sp_rd d v (2 * a) (2 * c) = sp_rd d v a c := by
  unfold sp_rd
  rw [mm_two hc, ln_two hc]
theorem two_a {p q e : Int} (hq : 0 < q) : (2000000 * p + 2 * e * q + 2000000 * q) % (2000000 * q) = 2 * ((p * 1000000 + e * q) % (q * 1000000)) := by
  rw [← Int.mul_emod_mul_of_pos _ _ (show (0 : Int) < 2 by decide), show 2 * (q * 1000000) = 2000000 * q by omega, Int.add_emod_right, Int.mul_assoc 2 e q]
  congr 1
  omega
theorem two_b {p q e : Int} (hq : 0 < q) : (2000000 * p + 1000000 * q - 2 * e * q + 2000000 * q) % (2000000 * q) = 2 * ((p * 1000000 + q * 500000 - e * q) % (q * 1000000)) := by
  rw [← Int.mul_emod_mul_of_pos _ _ (show (0 : Int) < 2 by decide), show 2 * (q * 1000000) = 2000000 * q by omega, Int.add_emod_right, Int.mul_assoc 2 e q]
  congr 1
  omega
theorem two_r1 {d v p q e : Int} (hq : 0 < q) : sp_rd d v ((2000000 * p + 2 * e * q + 2000000 * q) % (2000000 * q)) (2000000 * q) = sp_r1 d v p q e := by
  unfold sp_r1
  rw [two_a hq, show 2000000 * q = 2 * (q * 1000000) by omega, rd_two (by omega)]
theorem two_r2 {d v p q e : Int} (hq : 0 < q) : sp_rd d v ((2000000 * p + 1000000 * q - 2 * e * q + 2000000 * q) % (2000000 * q)) (2000000 * q) = sp_r2 d v p q e := by
  unfold sp_r2
  rw [two_b hq, show 2000000 * q = 2 * (q * 1000000) by omega, rd_two (by omega)]
theorem sp_r1_iv {d v p q e : Int} (hd : 2 ≤ d ∧ d ≤ 720) (hv : 2 ≤ v ∧ v ≤ 60) (hq : 0 < q) : 0 ≤ sp_r1 d v p q e ∧ sp_r1 d v p q e ≤ 43260 := sp_rd_iv2 hd hv (Int.emod_nonneg _ (by omega)) (by omega) (Int.emod_lt_of_pos _ (by omega))
theorem sp_r2_iv {d v p q e : Int} (hd : 2 ≤ d ∧ d ≤ 720) (hv : 2 ≤ v ∧ v ≤ 60) (hq : 0 < q) : 0 ≤ sp_r2 d v p q e ∧ sp_r2 d v p q e ≤ 43260 := sp_rd_iv2 hd hv (Int.emod_nonneg _ (by omega)) (by omega) (Int.emod_lt_of_pos _ (by omega))
theorem eq_bd {p q e : Int} (hq : 1 ≤ q) (he : -1000 ≤ e ∧ e ≤ 1000) : -(2000 * q) ≤ 2 * e * q ∧ 2 * e * q ≤ 2000 * q := by
  have h1 : -1000 * q ≤ e * q := Int.mul_le_mul_of_nonneg_right he.1 (by omega)
  have h2 : e * q ≤ 1000 * q := Int.mul_le_mul_of_nonneg_right he.2 (by omega)
  rw [Int.mul_assoc 2 e q]
  omega
/-- near -/
abbrev NearInv (p q k U B O : Int) : Prop := (k = 1 ∧ B = 1 ∧ U = 0 ∧ O = p) ∨ (2 ≤ k ∧ B = sp_nr p q (k - 1) ∧ U = sp_nol (p * B) q ∧ O = sp_gap p q B)
theorem near_d {x q : Int} (hq : 1 ≤ q) : 0 ≤ x - x / q * q ∧ x - x / q * q < q := by
  have h := Int.emod_def x q
  rw [Int.mul_comm q] at h
  rw [← h]
  exact ⟨Int.emod_nonneg _ (by omega), Int.emod_lt_of_pos _ (by omega)⟩
theorem near_1 {x t q : Int} (hq : 1 ≤ q) : x - (t + 1) * q = (x - t * q) - q := by
  rw [Int.add_mul, Int.one_mul]
  omega
theorem nol_lo {x q t : Int} (hq : 1 ≤ q) (ht : t = x / q) (h : x - t * q ≤ q - (x - t * q)) : sp_nol x q = t := by
  have h0 := @near_d x q hq
  rw [← ht] at h0
  unfold sp_nol
  refine Int.le_antisymm (Int.le_of_lt_add_one (Int.ediv_lt_of_lt_mul (by omega) ?_)) ((Int.le_ediv_iff_mul_le (by omega)).mpr ?_)
  · rw [Int.add_mul, Int.mul_left_comm t]
    omega
  · rw [Int.mul_left_comm t]
    omega
theorem nol_hi {x q t : Int} (hq : 1 ≤ q) (ht : t = x / q) (h : q - (x - t * q) < x - t * q) : sp_nol x q = t + 1 := by
  have h0 := @near_d x q hq
  rw [← ht] at h0
  unfold sp_nol
  refine Int.le_antisymm (Int.le_of_lt_add_one (Int.ediv_lt_of_lt_mul (by omega) ?_)) ((Int.le_ediv_iff_mul_le (by omega)).mpr ?_)
  · rw [Int.add_mul, Int.add_mul, Int.mul_left_comm t]
    omega
  · rw [Int.add_mul, Int.mul_left_comm t]
    omega
theorem gap_lo {p k q t : Int} (hq : 1 ≤ q) (ht : t = p * k / q) (h : p * k - t * q ≤ q - (p * k - t * q)) : sp_gap p q k = p * k - t * q := by
  have h0 := @near_d (p * k) q hq
  rw [← ht] at h0
  unfold sp_gap
  rw [nol_lo hq ht h]
  omega
theorem gap_hi {p k q t : Int} (hq : 1 ≤ q) (ht : t = p * k / q) (h : q - (p * k - t * q) < p * k - t * q) : sp_gap p q k = q - (p * k - t * q) := by
  have h0 := @near_d (p * k) q hq
  rw [← ht] at h0
  unfold sp_gap
  rw [nol_hi hq ht h, Int.add_mul, Int.one_mul]
  omega
theorem near_new {p q k U B O : Int} (hk : 1 ≤ k) (hI : NearInv p q k U B O) (hc : sp_gap p q k * B < O * k) : k = sp_nr p q k := by
  rcases hI with ⟨h1, -⟩ | ⟨h1, h2, -, h4⟩
  · subst h1
    exact sp_nr_1.symm
  · rw [sp_nr_s h1, ← h2, ← h4, if_pos hc]
theorem near_new1 {p q k U B O : Int} (hk : 1 ≤ k) (hI : NearInv p q k U B O) (hc : sp_gap p q k * B < O * k) : NearInv p q (k + 1) (sp_nol (p * k) q) k (sp_gap p q k) := by
  refine Or.inr ⟨by omega, ?_, rfl, rfl⟩
  rw [show k + 1 - 1 = k by omega]
  exact near_new hk hI hc
theorem lt_of_mk {a b k : Int} (hk : 0 < k) (h : a * k < b * k) : a < b := Int.lt_of_mul_lt_mul_right h (by omega)
theorem le_of_mk {a b k : Int} (hk : 0 < k) (h : a * k ≤ b * k) : a ≤ b := Int.le_of_mul_le_mul_right h hk
theorem near_1a {p q k U B O t o2 : Int} (hk : 1 ≤ k) (hq : 1 ≤ q) (hB : 1 ≤ B) (hI : NearInv p q k U B O) (ht : t = p * k / q) (ho : o2 = q - (p * k - t * q)) (c1 : (p * k - t * q) * B < O * k) (c2 : o2 * k < (p * k - t * q) * k) : NearInv p q (k + 1) (t + 1) k o2 := by
  have h1 : o2 < p * k - t * q := lt_of_mk (by omega) c2
  subst ho
  rw [← gap_hi hq ht h1, ← nol_hi hq ht h1]
  refine near_new1 hk hI ?_
  rw [gap_hi hq ht h1]
  have := Int.mul_le_mul_of_nonneg_right (Int.le_of_lt h1) (show 0 ≤ B by omega)
  omega
theorem near_1b {p q k U B O t o2 : Int} (hk : 1 ≤ k) (hq : 1 ≤ q) (hI : NearInv p q k U B O) (ht : t = p * k / q) (ho : o2 = q - (p * k - t * q)) (c1 : (p * k - t * q) * B < O * k) (c2 : (p * k - t * q) * k ≤ o2 * k) : NearInv p q (k + 1) t k (p * k - t * q) := by
  have h1 : p * k - t * q ≤ o2 := le_of_mk (by omega) c2
  subst ho
  have e1 := gap_lo hq ht h1
  have e2 := nol_lo hq ht h1
  have h3 := near_new1 hk hI (by rw [e1]; exact c1)
  rw [e1, e2] at h3
  exact h3
theorem near_2a {p q k U B O t o2 : Int} (hk : 1 ≤ k) (hq : 1 ≤ q) (hB : 1 ≤ B) (hI : NearInv p q k U B O) (ht : t = p * k / q) (ho : o2 = q - (p * k - t * q)) (c1 : O * k ≤ (p * k - t * q) * B) (c2 : o2 * B < O * k) : NearInv p q (k + 1) (t + 1) k o2 := by
  have h1 : o2 < p * k - t * q := lt_of_mk (show 0 < B by omega) (by omega)
  subst ho
  have e1 := gap_hi hq ht h1
  have e2 := nol_hi hq ht h1
  have h3 := near_new1 hk hI (by rw [e1]; exact c2)
  rw [e1, e2] at h3
  exact h3
theorem near_2b {p q k U B O t o2 : Int} (hp : 1 ≤ p) (hk : 1 ≤ k) (hq : 1 ≤ q) (hI : NearInv p q k U B O) (ht : t = p * k / q) (ho : o2 = q - (p * k - t * q)) (c1 : O * k ≤ (p * k - t * q) * B) (c2 : O * k ≤ o2 * B) : NearInv p q (k + 1) U B O := by
  have h0 := @near_d (p * k) q hq
  rw [← ht] at h0
  rcases hI with ⟨h1, h2, h3, h4⟩ | ⟨h1, h2, h3, h4⟩
  · subst h1
    subst h2
    subst h3
    subst h4
    rw [Int.mul_one] at ht h0 c1 c2 ho
    rw [Int.mul_one] at c1 c2
    have ht0 : 0 ≤ t := by
      rw [ht]
      exact Int.ediv_nonneg (by omega) (by omega)
    have h5 : t = 0 := by
      rcases Int.lt_or_le t 1 with h | h
      · omega
      · have := Int.mul_le_mul_of_nonneg_right h (show 0 ≤ q by omega)
        omega
    subst h5
    have e0 : (0 : Int) = O * 1 / q := by
      rw [Int.mul_one]
      exact ht
    have e1 := gap_lo (p := O) (k := 1) hq e0 (by omega)
    have e2 := nol_lo (x := O * 1) hq e0 (by omega)
    refine Or.inr ⟨by omega, sp_nr_1.symm, e2.symm, ?_⟩
    rw [e1]
    omega
  · refine Or.inr ⟨by omega, ?_, h3, h4⟩
    rw [show k + 1 - 1 = k by omega, sp_nr_s h1, ← h2, ← h4, if_neg]
    · rcases Int.lt_or_le o2 (p * k - t * q) with h | h
      · rw [gap_hi hq ht (by omega), ← ho]
        omega
      · rw [gap_lo hq ht (by omega)]
        omega
end
section
/-! trains, and what the writing calls answer and leave -/
abbrev Q2 (T : Int → Int) (p q a b : Int) : Prop := a ≠ b ∧ T a * q = T b * p
abbrev Q4 (T : Int → Int) (p q a b c d : Int) : Prop := (a ≠ b ∧ a ≠ c ∧ a ≠ d ∧ b ≠ c ∧ b ≠ d ∧ c ≠ d) ∧ T a * T c * q = T b * T d * p
def No2 (gc : Int) (T : Int → Int) (p q : Int) : Prop := ∀ a b, 0 ≤ a → a < gc → 0 ≤ b → b < gc → ¬ Q2 T p q a b
def No4 (gc : Int) (T : Int → Int) (p q : Int) : Prop := ∀ a b c d, 0 ≤ a → a < gc → 0 ≤ b → b < gc → 0 ≤ c → c < gc → 0 ≤ d → d < gc → ¬ Q4 T p q a b c d
def Two (gc : Int) (T : Int → Int) (p q a b : Int) : Prop := (0 ≤ a ∧ a < gc) ∧ (0 ≤ b ∧ b < gc) ∧ Q2 T p q a b ∧ ∀ a' b', 0 ≤ a' → a' < gc → 0 ≤ b' → b' < gc → 10 * a' + b' < 10 * a + b → ¬ Q2 T p q a' b'
def Sec (gc : Int) (T : Int → Int) (p q a b c d : Int) : Prop := (0 ≤ c ∧ c < gc) ∧ (0 ≤ d ∧ d < gc) ∧ Q4 T p q a b c d ∧ ∀ c' d', 0 ≤ c' → c' < gc → 0 ≤ d' → d' < gc → 10 * c' + d' < 10 * c + d → ¬ Q4 T p q a b c' d'
def Four (gc : Int) (T : Int → Int) (p q a b c d : Int) : Prop := (0 ≤ a ∧ a < gc) ∧ (0 ≤ b ∧ b < gc) ∧ (0 ≤ c ∧ c < gc) ∧ (0 ≤ d ∧ d < gc) ∧ Q4 T p q a b c d ∧ ∀ a' b' c' d', 0 ≤ a' → a' < gc → 0 ≤ b' → b' < gc → 0 ≤ c' → c' < gc → 0 ≤ d' → d' < gc → 1000 * a' + 100 * b' + 10 * c' + d' < 1000 * a + 100 * b + 10 * c + d → ¬ Q4 T p q a' b' c' d'
def Tr (gc : Int) (T : Int → Int) (p q a b c d : Int) : Prop := (Two gc T p q a b ∧ c = -6 ∧ d = -6) ∨ (No2 gc T p q ∧ Four gc T p q a b c d)
def NoTr (gc : Int) (T : Int → Int) (p q : Int) : Prop := No2 gc T p q ∧ No4 gc T p q
def GW (gc : Int) (T : Int → Int) (t ta tb tc r : Int) : Prop := (r = -6 ∧ ∀ g, 0 ≤ g → g < gc → ¬ (T g = t ∧ g ≠ ta ∧ g ≠ tb ∧ g ≠ tc)) ∨ ((0 ≤ r ∧ r < gc) ∧ (T r = t ∧ r ≠ ta ∧ r ≠ tb ∧ r ≠ tc) ∧ ∀ g, 0 ≤ g → g < r → ¬ (T g = t ∧ g ≠ ta ∧ g ≠ tb ∧ g ≠ tc))
theorem GW_iv {gc t ta tb tc r : Int} {T : Int → Int} (hgc : 0 ≤ gc ∧ gc ≤ 10) (h : GW gc T t ta tb tc r) : -6 ≤ r ∧ r ≤ 9 := by
  rcases h with h | h <;> omega
theorem Tr_no {gc p q a b c d : Int} {T : Int → Int} (h : Tr gc T p q a b c d) : ¬ NoTr gc T p q := by
  intro hn
  rcases h with h | h
  · exact hn.1 a b h.1.1.1 h.1.1.2 h.1.2.1.1 h.1.2.1.2 h.1.2.2.1
  · obtain ⟨-, h1, h2, h3, h4, h5, -⟩ := h
    exact hn.2 a b c d h1.1 h1.2 h2.1 h2.2 h3.1 h3.2 h4.1 h4.2 h5
theorem Tr_det {gc p q a b c d a' b' c' d' : Int} {T : Int → Int} (hgc : gc ≤ 10) (h : Tr gc T p q a b c d) (h' : Tr gc T p q a' b' c' d') : a = a' ∧ b = b' ∧ c = c' ∧ d = d' := by
  rcases h with ⟨⟨h1, h2, h3, h4⟩, h5, h6⟩ | ⟨h0, h1, h2, h3, h4, h5, h6⟩ <;> rcases h' with ⟨⟨g1, g2, g3, g4⟩, g5, g6⟩ | ⟨g0, g1, g2, g3, g4, g5, g6⟩
  · have e1 : ¬ (10 * a' + b' < 10 * a + b) := fun q => h4 a' b' g1.1 g1.2 g2.1 g2.2 q g3
    have e2 : ¬ (10 * a + b < 10 * a' + b') := fun q => g4 a b h1.1 h1.2 h2.1 h2.2 q h3
    omega
  · exact absurd h3 (g0 a b h1.1 h1.2 h2.1 h2.2)
  · exact absurd g3 (h0 a' b' g1.1 g1.2 g2.1 g2.2)
  · have e1 : ¬ (1000 * a' + 100 * b' + 10 * c' + d' < 1000 * a + 100 * b + 10 * c + d) := fun q => h6 a' b' c' d' g1.1 g1.2 g2.1 g2.2 g3.1 g3.2 g4.1 g4.2 q g5
    have e2 : ¬ (1000 * a + 100 * b + 10 * c + d < 1000 * a' + 100 * b' + 10 * c' + d') := fun q => g6 a b c d h1.1 h1.2 h2.1 h2.2 h3.1 h3.2 h4.1 h4.2 q h5
    omega
theorem sp_eq_t {up low t : Int} (hl : 1 ≤ low) (ht : t ≠ 0) : t = sp_eq up low ↔ up = t * low := by
  constructor
  · intro e
    by_cases h : up.tmod low = 0
    · rw [sp_eq_1 hl h] at e
      have := Int.tmod_def up low
      rw [h, ← e, Int.mul_comm low] at this
      omega
    · rw [sp_eq_0 (Or.inr h)] at e
      exact absurd e ht
  · intro e
    have h : up.tmod low = 0 := by
      rw [e]
      exact Int.mul_tmod_left ..
    rw [sp_eq_1 hl h, e, Int.mul_tdiv_cancel _ (by omega)]
theorem two_eq {T : Int → Int} {gc p q k b : Int} (hp : 1 ≤ p) (hT : ∀ j, 0 ≤ j → j < gc → 12 ≤ T j ∧ T j ≤ 120) (hb : 0 ≤ b ∧ b < gc) : Q2 T p q k b ↔ (T b = sp_eq (T k * q) p ∧ b ≠ k ∧ b ≠ k ∧ b ≠ k) := by
  have h1 := hT b hb.1 hb.2
  have h2 := @sp_eq_t (T k * q) p (T b) hp (by omega)
  constructor
  · intro h
    exact ⟨h2.mpr h.2, fun e => h.1 e.symm, fun e => h.1 e.symm, fun e => h.1 e.symm⟩
  · intro h
    exact ⟨fun e => h.2.1 e.symm, h2.mp h.1⟩
theorem two_found {T : Int → Int} {gc p q k r : Int} (hp : 1 ≤ p) (hgc : gc ≤ 10) (hT : ∀ j, 0 ≤ j → j < gc → 12 ≤ T j ∧ T j ≤ 120) (hk : 0 ≤ k ∧ k < gc) (hz : ∀ a b, 0 ≤ a → a < k → 0 ≤ b → b < gc → ¬ Q2 T p q a b) (hG : GW gc T (sp_eq (T k * q) p) k k k r) (hr : ¬ r = -6) : Two gc T p q k r := by
  rcases hG with hG | ⟨h1, h2, h3⟩
  · exact absurd hG.1 hr
  · refine ⟨hk, h1, (two_eq hp hT h1).mpr h2, fun a' b' a1 a2 b1 b2 hlt hq => ?_⟩
    by_cases e : a' < k
    · exact hz a' b' a1 e b1 b2 hq
    · have e2 : a' = k := by omega
      rw [e2] at hq
      exact h3 b' b1 (by omega) ((two_eq hp hT ⟨b1, b2⟩).mp hq)
theorem two_step {T : Int → Int} {gc p q k r : Int} (hp : 1 ≤ p) (hT : ∀ j, 0 ≤ j → j < gc → 12 ≤ T j ∧ T j ≤ 120) (hk : 0 ≤ k ∧ k < gc) (hz : ∀ a b, 0 ≤ a → a < k → 0 ≤ b → b < gc → ¬ Q2 T p q a b) (hG : GW gc T (sp_eq (T k * q) p) k k k r) (hr : r = -6) : ∀ a b, 0 ≤ a → a < k + 1 → 0 ≤ b → b < gc → ¬ Q2 T p q a b := by
  intro a b a1 a2 b1 b2 hq
  by_cases e : a < k
  · exact hz a b a1 e b1 b2 hq
  · have e2 : a = k := by omega
    rw [e2] at hq
    rcases hG with hG | ⟨h1, -, -⟩
    · exact hG.2 b b1 b2 ((two_eq hp hT ⟨b1, b2⟩).mp hq)
    · omega
theorem sec_eq {T : Int → Int} {gc p q g1 g2 k b : Int} (hp : 1 ≤ p) (hT : ∀ j, 0 ≤ j → j < gc → 12 ≤ T j ∧ T j ≤ 120) (hg2 : 0 ≤ g2 ∧ g2 < gc) (hne : g1 ≠ g2) (k1 : k ≠ g1) (k2 : k ≠ g2) (hb : 0 ≤ b ∧ b < gc) : Q4 T p q g1 g2 k b ↔ (T b = sp_eq (T g1 * T k * q) (T g2 * p) ∧ b ≠ g1 ∧ b ≠ g2 ∧ b ≠ k) := by
  have h1 := hT b hb.1 hb.2
  have h0 := hT g2 hg2.1 hg2.2
  have hl : 1 ≤ T g2 * p := by
    have := Int.mul_pos (show 0 < T g2 by omega) (show 0 < p by omega)
    omega
  have h2 := @sp_eq_t (T g1 * T k * q) (T g2 * p) (T b) hl (by omega)
  have h3 : T g2 * T b * p = T b * (T g2 * p) := by rw [Int.mul_comm (T g2), Int.mul_assoc]
  constructor
  · intro h
    exact ⟨h2.mpr (by rw [← h3]; exact h.2), fun e => h.1.2.2.1 e.symm, fun e => h.1.2.2.2.2.1 e.symm, fun e => h.1.2.2.2.2.2 e.symm⟩
  · intro h
    refine ⟨⟨hne, fun e => k1 e.symm, fun e => h.2.1 e.symm, fun e => k2 e.symm, fun e => h.2.2.1 e.symm, fun e => h.2.2.2 e.symm⟩, ?_⟩
    rw [h3]
    exact h2.mp h.1
theorem sec_found {T : Int → Int} {gc p q g1 g2 k r : Int} (hp : 1 ≤ p) (hgc : gc ≤ 10) (hT : ∀ j, 0 ≤ j → j < gc → 12 ≤ T j ∧ T j ≤ 120) (hg2 : 0 ≤ g2 ∧ g2 < gc) (hne : g1 ≠ g2) (k1 : k ≠ g1) (k2 : k ≠ g2) (hk : 0 ≤ k ∧ k < gc) (hz : ∀ c d, 0 ≤ c → c < k → 0 ≤ d → d < gc → ¬ Q4 T p q g1 g2 c d) (hG : GW gc T (sp_eq (T g1 * T k * q) (T g2 * p)) g1 g2 k r) (hr : ¬ r = -6) : Sec gc T p q g1 g2 k r := by
  rcases hG with hG | ⟨h1, h2, h3⟩
  · exact absurd hG.1 hr
  · refine ⟨hk, h1, (sec_eq hp hT hg2 hne k1 k2 h1).mpr h2, fun a' b' a1 a2 b1 b2 hlt hq => ?_⟩
    by_cases e : a' < k
    · exact hz a' b' a1 e b1 b2 hq
    · have e2 : a' = k := by omega
      rw [e2] at hq
      exact h3 b' b1 (by omega) ((sec_eq hp hT hg2 hne k1 k2 ⟨b1, b2⟩).mp hq)
theorem sec_step {T : Int → Int} {gc p q g1 g2 k r : Int} (hp : 1 ≤ p) (hT : ∀ j, 0 ≤ j → j < gc → 12 ≤ T j ∧ T j ≤ 120) (hg2 : 0 ≤ g2 ∧ g2 < gc) (hne : g1 ≠ g2) (k1 : k ≠ g1) (k2 : k ≠ g2) (hz : ∀ c d, 0 ≤ c → c < k → 0 ≤ d → d < gc → ¬ Q4 T p q g1 g2 c d) (hG : GW gc T (sp_eq (T g1 * T k * q) (T g2 * p)) g1 g2 k r) (hr : r = -6) : ∀ c d, 0 ≤ c → c < k + 1 → 0 ≤ d → d < gc → ¬ Q4 T p q g1 g2 c d := by
  intro a b a1 a2 b1 b2 hq
  by_cases e : a < k
  · exact hz a b a1 e b1 b2 hq
  · have e2 : a = k := by omega
    rw [e2] at hq
    rcases hG with hG | ⟨h1, -, -⟩
    · exact hG.2 b b1 b2 ((sec_eq hp hT hg2 hne k1 k2 ⟨b1, b2⟩).mp hq)
    · omega
theorem sec_skip {T : Int → Int} {gc p q g1 g2 k : Int} (hk : k = g1 ∨ k = g2) (hz : ∀ c d, 0 ≤ c → c < k → 0 ≤ d → d < gc → ¬ Q4 T p q g1 g2 c d) : ∀ c d, 0 ≤ c → c < k + 1 → 0 ≤ d → d < gc → ¬ Q4 T p q g1 g2 c d := by
  intro a b a1 a2 b1 b2 hq
  by_cases e : a < k
  · exact hz a b a1 e b1 b2 hq
  · have := hq.1
    omega
theorem four_found {T : Int → Int} {gc p q x1 x2 c d : Int} (hgc : gc ≤ 10) (h1 : 0 ≤ x1 ∧ x1 < gc) (h2 : 0 ≤ x2 ∧ x2 < gc) (hz : ∀ a b c d, 0 ≤ a → a < x1 → 0 ≤ b → b < gc → 0 ≤ c → c < gc → 0 ≤ d → d < gc → ¬ Q4 T p q a b c d) (hz2 : ∀ b c d, 0 ≤ b → b < x2 → 0 ≤ c → c < gc → 0 ≤ d → d < gc → ¬ Q4 T p q x1 b c d) (hs : Sec gc T p q x1 x2 c d) : Four gc T p q x1 x2 c d := by
  obtain ⟨s1, s2, s3, s4⟩ := hs
  refine ⟨h1, h2, s1, s2, s3, fun a' b' c' d' a1 a2 b1 b2 c1 c2 d1 d2 hlt hq => ?_⟩
  by_cases e : a' < x1
  · exact hz a' b' c' d' a1 e b1 b2 c1 c2 d1 d2 hq
  · have ea : a' = x1 := by omega
    rw [ea] at hq
    by_cases e2 : b' < x2
    · exact hz2 b' c' d' b1 e2 c1 c2 d1 d2 hq
    · have eb : b' = x2 := by omega
      rw [eb] at hq
      exact s4 c' d' c1 c2 d1 d2 (by omega) hq
def sel (a b c d k : Int) : Int := if k = 0 then a else if k = 1 then b else if k = 2 then c else d
theorem sel_eq {u : Int → Int} {k : Int} (h : 0 ≤ k ∧ k ≤ 3) : u k = sel (u 0) (u 1) (u 2) (u 3) k := by
  unfold sel
  have h4 : k = 0 ∨ k = 1 ∨ k = 2 ∨ k = 3 := by omega
  rcases h4 with rfl | rfl | rfl | rfl <;> rfl
def P_train (gc : Int) (T : Int → Int) (p q what i : Int) : Prop :=
  ((((p < 1 ∨ 1000000 < p) ∨ (q < 1 ∨ 1000000 < q)) ∨ (what < 0 ∨ 3 < what)) ∧ i = -2) ∨
  (¬ (((p < 1 ∨ 1000000 < p) ∨ (q < 1 ∨ 1000000 < q)) ∨ (what < 0 ∨ 3 < what)) ∧ NoTr gc T p q ∧ i = -6) ∨
  (¬ (((p < 1 ∨ 1000000 < p) ∨ (q < 1 ∨ 1000000 < q)) ∨ (what < 0 ∨ 3 < what)) ∧ ∃ a b c d, Tr gc T p q a b c d ∧ i = sel a b c d what)
theorem P_train_det {gc p q what i j : Int} {T : Int → Int} (hgc : gc ≤ 10) (hi : P_train gc T p q what i) (hj : P_train gc T p q what j) : i = j := by
  rcases hi with ⟨h1, h2⟩ | ⟨h1, h2, h3⟩ | ⟨h1, a, b, c, d, h2, h3⟩ <;> rcases hj with ⟨g1, g2⟩ | ⟨g1, g2, g3⟩ | ⟨g1, a', b', c', d', g2, g3⟩
  · omega
  · exact absurd h1 g1
  · exact absurd h1 g1
  · exact absurd g1 h1
  · omega
  · exact absurd h2 (Tr_no g2)
  · exact absurd g1 h1
  · exact absurd g2 (Tr_no h2)
  · obtain ⟨rfl, rfl, rfl, rfl⟩ := Tr_det hgc h2 g2
    rw [h3, g3]
def mk (n j : Int) : Int := if j % 2 = 0 then n - j / 2 else n + j / 2
theorem mk_e {n k : Int} : mk n (2 * k) = n - k := by
  unfold mk
  rw [if_pos (by omega)]
  omega
theorem mk_o {n k : Int} : mk n (2 * k + 1) = n + k := by
  unfold mk
  rw [if_neg (by omega)]
  omega
def Gd (w cc : Int) (H : Int → Int) (gc : Int) (T : Int → Int) (n j : Int) : Prop := (2 ≤ mk n j ∧ mk n j ≤ 1000) ∧ sp_pl w H (mk n j) cc ≠ -6 ∧ ¬ NoTr gc T (j / 2 * w) (mk n j)
def dsel (w cc : Int) (H : Int → Int) (n what j a b c d : Int) : Int := if what = 0 then mk n j else if what = 1 then sp_pl w H (mk n j) cc else if what = 6 then (if n < mk n j then 1 else 0) else sel a b c d (what - 2)
def P_diff (w cc : Int) (H : Int → Int) (gc : Int) (T : Int → Int) (n what i : Int) : Prop :=
  (((n < 2 ∨ 1000 < n) ∨ (what < 0 ∨ 6 < what)) ∧ i = -2) ∨
  (¬ ((n < 2 ∨ 1000 < n) ∨ (what < 0 ∨ 6 < what)) ∧ (∀ j, 2 ≤ j → j < 22 → ¬ Gd w cc H gc T n j) ∧ i = -6) ∨
  (¬ ((n < 2 ∨ 1000 < n) ∨ (what < 0 ∨ 6 < what)) ∧ ∃ j a b c d, (2 ≤ j ∧ j < 22) ∧ Gd w cc H gc T n j ∧ (∀ j', 2 ≤ j' → j' < j → ¬ Gd w cc H gc T n j') ∧ Tr gc T (j / 2 * w) (mk n j) a b c d ∧ i = dsel w cc H n what j a b c d)
theorem P_diff_det {w cc gc n what i j : Int} {H T : Int → Int} (hgc : gc ≤ 10) (hi : P_diff w cc H gc T n what i) (hj : P_diff w cc H gc T n what j) : i = j := by
  rcases hi with ⟨h1, h2⟩ | ⟨h1, h2, h3⟩ | ⟨h1, k, a, b, c, d, h2, h3, h4, h5, h6⟩ <;> rcases hj with ⟨g1, g2⟩ | ⟨g1, g2, g3⟩ | ⟨g1, k', a', b', c', d', g2, g3, g4, g5, g6⟩
  · omega
  · exact absurd h1 g1
  · exact absurd h1 g1
  · exact absurd g1 h1
  · omega
  · exact absurd g3 (h2 k' g2.1 g2.2)
  · exact absurd g1 h1
  · exact absurd h3 (g2 k h2.1 h2.2)
  · have e1 : ¬ k' < k := fun q => h4 k' g2.1 q g3
    have e2 : ¬ k < k' := fun q => g4 k h2.1 q h3
    have e3 : k = k' := by omega
    subst e3
    obtain ⟨rfl, rfl, rfl, rfl⟩ := Tr_det hgc h5 g5
    rw [h6, g6]
/-- what standsIn answers, m being n less or and k -/
def SI (w cc : Int) (H : Int → Int) (gc : Int) (T : Int → Int) (x n i : Int) (u : Int → Int) : Prop := (i = 1 ∧ ((2 ≤ x ∧ x ≤ 1000) ∧ sp_pl w H x cc ≠ -6) ∧ Tr gc T (((Int.natAbs (x - n) : Nat) : Int) * w) x (u 0) (u 1) (u 2) (u 3)) ∨ (i = 0 ∧ ¬ (((2 ≤ x ∧ x ≤ 1000) ∧ sp_pl w H x cc ≠ -6) ∧ ¬ NoTr gc T (((Int.natAbs (x - n) : Nat) : Int) * w) x))
def PB (w cc : Int) (H : Int → Int) (gc : Int) (T : Int → Int) (n i : Int) (u : Int → Int) : Prop := (∃ j, (2 ≤ j ∧ j < 22) ∧ Gd w cc H gc T n j ∧ (∀ j', 2 ≤ j' → j' < j → ¬ Gd w cc H gc T n j') ∧ Tr gc T (j / 2 * w) (mk n j) (u 0) (u 1) (u 2) (u 3) ∧ i = mk n j) ∨ ((∀ j, 2 ≤ j → j < 22 → ¬ Gd w cc H gc T n j) ∧ i = -6)
theorem SI_key {w cc gc n j x k i : Int} {H T u : Int → Int} (hk : 0 ≤ k) (hj : j / 2 = k) (hm : mk n j = x) (hx : x = n - k ∨ x = n + k) (h : SI w cc H gc T x n i u) : (i = 1 ∧ Gd w cc H gc T n j ∧ Tr gc T (j / 2 * w) (mk n j) (u 0) (u 1) (u 2) (u 3)) ∨ (i = 0 ∧ ¬ Gd w cc H gc T n j) := by
  have e : ((Int.natAbs (x - n) : Nat) : Int) = k := by omega
  unfold SI at h
  unfold Gd
  rw [e] at h
  rw [hm, hj]
  rcases h with ⟨h1, h2, h3⟩ | ⟨h1, h2⟩
  · exact Or.inl ⟨h1, ⟨h2.1, h2.2, Tr_no h3⟩, h3⟩
  · exact Or.inr ⟨h1, fun q => h2 ⟨⟨q.1, q.2.1⟩, q.2.2⟩⟩
theorem PB_e {w cc gc n k i : Int} {H T u : Int → Int} (hk : 1 ≤ k ∧ k ≤ 10) (hz : ∀ j, 2 ≤ j → j < 2 * k → ¬ Gd w cc H gc T n j) (h : SI w cc H gc T (n - k) n i u) (hi : ¬ i = 0) : PB w cc H gc T n (n - k) u := by
  rcases SI_key (j := 2 * k) (k := k) (by omega) (by omega) mk_e (Or.inl rfl) h with ⟨h1, h2, h3⟩ | ⟨h1, -⟩
  · exact Or.inl ⟨2 * k, by omega, h2, hz, h3, mk_e.symm⟩
  · exact absurd h1 hi
theorem PB_o {w cc gc n k i i2 : Int} {H T u u2 : Int → Int} (hk : 1 ≤ k ∧ k ≤ 10) (hz : ∀ j, 2 ≤ j → j < 2 * k → ¬ Gd w cc H gc T n j) (h : SI w cc H gc T (n - k) n i u) (hi : i = 0) (h2 : SI w cc H gc T (n + k) n i2 u2) (hi2 : ¬ i2 = 0) : PB w cc H gc T n (n + k) u2 := by
  rcases SI_key (j := 2 * k) (k := k) (by omega) (by omega) mk_e (Or.inl rfl) h with ⟨h1, -⟩ | ⟨-, g⟩
  · omega
  rcases SI_key (j := 2 * k + 1) (k := k) (by omega) (by omega) mk_o (Or.inr rfl) h2 with ⟨h1, h2, h3⟩ | ⟨h1, -⟩
  · exact Or.inl ⟨2 * k + 1, by omega, h2, fun j a b => if e : j = 2 * k then (by rw [e]; exact g) else hz j a (by omega), h3, mk_o.symm⟩
  · exact absurd h1 hi2
theorem PB_s {w cc gc n k i i2 : Int} {H T u u2 : Int → Int} (hk : 1 ≤ k ∧ k ≤ 10) (hz : ∀ j, 2 ≤ j → j < 2 * k → ¬ Gd w cc H gc T n j) (h : SI w cc H gc T (n - k) n i u) (hi : i = 0) (h2 : SI w cc H gc T (n + k) n i2 u2) (hi2 : i2 = 0) : ∀ j, 2 ≤ j → j < 2 * (k + 1) → ¬ Gd w cc H gc T n j := by
  rcases SI_key (j := 2 * k) (k := k) (by omega) (by omega) mk_e (Or.inl rfl) h with ⟨h1, -⟩ | ⟨-, g⟩
  · omega
  rcases SI_key (j := 2 * k + 1) (k := k) (by omega) (by omega) mk_o (Or.inr rfl) h2 with ⟨h1, -⟩ | ⟨-, g2⟩
  · omega
  · intro j a b
    by_cases e : j = 2 * k
    · rw [e]
      exact g
    · by_cases e2 : j = 2 * k + 1
      · rw [e2]
        exact g2
      · exact hz j a (by omega)
theorem m4_step {gc p q k x6 x7 x8 x9 : Int} {T : Int → Int} (hgc : gc ≤ 10) (hd : k = 1000 * x6 + 100 * x7 + 10 * x8 + x9) (h6 : 0 ≤ x6 ∧ x6 ≤ 9) (h7 : 0 ≤ x7 ∧ x7 ≤ 9) (h8 : 0 ≤ x8 ∧ x8 ≤ 9) (h9 : 0 ≤ x9 ∧ x9 ≤ 9) (hz : ∀ a b c d, 0 ≤ a → a < gc → 0 ≤ b → b < gc → 0 ≤ c → c < gc → 0 ≤ d → d < gc → 1000 * a + 100 * b + 10 * c + d < k → ¬ Q4 T p q a b c d) (hno : ¬ ((x6 < gc ∧ x7 < gc ∧ x8 < gc ∧ x9 < gc) ∧ Q4 T p q x6 x7 x8 x9)) : ∀ a b c d, 0 ≤ a → a < gc → 0 ≤ b → b < gc → 0 ≤ c → c < gc → 0 ≤ d → d < gc → 1000 * a + 100 * b + 10 * c + d < k + 1 → ¬ Q4 T p q a b c d := by
  intro a b c d a1 a2 b1 b2 c1 c2 d1 d2 hlt hq
  by_cases e : 1000 * a + 100 * b + 10 * c + d < k
  · exact hz a b c d a1 a2 b1 b2 c1 c2 d1 d2 e hq
  · have e1 : a = x6 := by omega
    have e2 : b = x7 := by omega
    have e3 : c = x8 := by omega
    have e4 : d = x9 := by omega
    rw [e1, e2, e3, e4] at hq
    exact hno ⟨⟨by omega, by omega, by omega, by omega⟩, hq⟩
/-- the calls that write -/
def R_wheel (w x i w' : Int) : Prop := ((10 ≤ x ∧ x ≤ 200) ∧ i = w ∧ w' = x) ∨ (¬ (10 ≤ x ∧ x ≤ 200) ∧ i = -2 ∧ w' = w)
def R_circle (H : Int → Int) (cc x i cc' : Int) (H' : Int → Int) : Prop :=
  (¬ (5 ≤ x ∧ x ≤ 120) ∧ i = -2 ∧ cc' = cc ∧ H' = H) ∨ ((5 ≤ x ∧ x ≤ 120) ∧ 8 ≤ cc ∧ i = -4 ∧ cc' = cc ∧ H' = H) ∨ ((5 ≤ x ∧ x ≤ 120) ∧ cc < 8 ∧ (∃ j, 0 ≤ j ∧ j < cc ∧ H j = x) ∧ i = -5 ∧ cc' = cc ∧ H' = H) ∨ ((5 ≤ x ∧ x ≤ 120) ∧ cc < 8 ∧ (¬ ∃ j, 0 ≤ j ∧ j < cc ∧ H j = x) ∧ i = cc ∧ cc' = cc + 1 ∧ H' = jU H cc x)
def R_gear (T : Int → Int) (gc x i gc' : Int) (T' : Int → Int) : Prop :=
  (¬ (12 ≤ x ∧ x ≤ 120) ∧ i = -2 ∧ gc' = gc ∧ T' = T) ∨ ((12 ≤ x ∧ x ≤ 120) ∧ 10 ≤ gc ∧ i = -4 ∧ gc' = gc ∧ T' = T) ∨ ((12 ≤ x ∧ x ≤ 120) ∧ gc < 10 ∧ i = gc ∧ gc' = gc + 1 ∧ T' = jU T gc x)
def R_error (E : Int → Int) (k x i : Int) (E' : Int → Int) : Prop :=
  (¬ (0 ≤ k ∧ k ≤ 7) ∧ i = -1001 ∧ E' = E) ∨ ((0 ≤ k ∧ k ≤ 7) ∧ ¬ (-100 ≤ x ∧ x ≤ 100) ∧ i = -1002 ∧ E' = E) ∨ ((0 ≤ k ∧ k ≤ 7) ∧ (-100 ≤ x ∧ x ≤ 100) ∧ i = E k ∧ E' = jU E k x)
def R_vernier (d v x y i d' v' : Int) : Prop := (((2 ≤ x ∧ x ≤ 720) ∧ (2 ≤ y ∧ y ≤ 60)) ∧ i = 1 ∧ d' = x ∧ v' = y) ∨ (¬ ((2 ≤ x ∧ x ≤ 720) ∧ (2 ≤ y ∧ y ≤ 60)) ∧ i = -2 ∧ d' = d ∧ v' = v)
end
section
def R_law : String := "DividingHeadLaw"
def lw_P (b : Addr) (xs : List Int32) (args : Array Value) (s : State) : Prop := args = #[.ref b] ∧ s.IntsAt b xs ∧ xs.length ≤ 2560 ∧ (Jvm.Cond.and given_1 narrow_1).before args s = true
def lw_Q (_ : Array Value) (s : State) (o : Outcome) (t : State) : Prop := o = .returned (some (.int 1)) ∧ Framed s o t [] 10 78
def lw_Z (below : List Frame) (a : Array Value) (s : State) : State → Prop := fun t => ∃ o, t.status = .running ∧ Ended t below o ∧ lw_Q a s o t
/-- the law's own end, with 1 on the stack, nothing written that was there before, its room as the claim has it -/
theorem lw_ret {p : Program} {l : Launch} {e : Env} {s : State} {m : MethodId} {below : List Frame} {meth : Method} {c : Code} {b : Nat} (hx : p.tables.exec = Jvm.exec) (hb : c.code = code) (hr : meth.sig.returnType = ret) (hlocks : meth.locks = false) {pc : Nat} {H : Heap} {ls : Array Slot} (hdg : decode code pc = .ok (.ireturn, 1)) : W p l e room_1 s m #[Value.ref b] below meth c H [] 10 78 (lw_Z below #[Value.ref b] s) (F0 m pc ls [.int 1]) := by
  intro T hT X
  obtain ⟨fs, hret, hrun, hended, hW, hframe⟩ := X.leave (v := some (.int 1)) (hlocks := hlocks) (fun h => by rw [hr] at h; cases h)
  have hmeth' : T.vm.method? m = some meth := X.method'
  refine ⟨T.setFrames fs, ?_, .returned (some (.int 1)), hrun, hended, rfl, ⟨_, rfl⟩, hW, hframe⟩
  jvm_step X.here [X.here.top, hx, hb, hdg, hmeth', hr, ret, narrow_b1]
  (try refine ⟨rfl, ?_⟩); (try refine ⟨rfl, ?_⟩)
  first | (intro acts; rw [hret _ acts rfl rfl rfl]) | rw [hret _ _ rfl rfl rfl]
  exact Steps.refl _
/-- what holds at the law's entry: the machine, the code, the tables' words (any of lw_tbl by 'hts w (by decide +kernel)'), the script of L ints xs at the cell b, what the Statement gives of the start (any of its parts by flat_of_before) -/
def lw_At (p : Program) (s : State) (m : MethodId) (meth : Method) (c : Code) (b L : Nat) (xs : Nat → Int32) : Prop :=
  p.tables.exec = Jvm.exec ∧ c.code = code ∧ meth.sig.returnType = ret ∧ c.maxLocals = 4 ∧ s.vm.findClass R_law = some m.cls ∧ (∀ w ∈ lw_tbl, w.before #[Value.ref b] s = true) ∧ va_X b L xs s s.heap ∧ b < s.heap.size ∧ meth.locks = false ∧ (Jvm.Cond.and given_1 narrow_1).before #[Value.ref b] s = true

/-- the script's int, as an Int -/
def sx (xs : Nat → Int32) (j : Int) : Int := (xs j.toNat).toInt
theorem sx_in {xs : Nat → Int32} {j : Int} : inI (sx xs j) := inI_toInt _
section JL
variable {p : Program} {l : Launch} {e : Env} {R : Room} {s : State} {m : MethodId} {args : Array Value} {below : List Frame} {meth : Method} {c : Code} {H : Heap} {locs : List Loc} {cells slots : Nat} {Q : State → Prop}
variable {cc : ByteArray} {nL : Nat} {Ts : List Cond} {own : String} {pc : Nat} {ls : Array Slot} {rest : List Value} {A : Nat → Prop} {H0 : Heap}
theorem j_sld (S : CallFix p m c cc nL s args Ts own) {b L : Nat} {xs : Nat → Int32} (hX : va_X b L xs s H0) (hbl : b < H0.size) (hbA : ¬ A b) (hS : va_S A H0 H locs) {a : Int} (h : 0 ≤ a ∧ a < (L : Int) ∧ inI a) (hdg : decode cc pc = .ok (.iaload, 1)) (kk : W p l e R s m args below meth c H locs cells slots Q (F0 m (pc + 1) ls (jI (sx xs a) :: rest))) : W p l e R s m args below meth c H locs cells slots Q (F0 m pc ls (jI a :: .ref b :: rest)) := by
  refine va_sld S.1 S.2.1 hX hbl hbA hS (o_in ⟨h.1, h.2.1⟩ h.2.2) hdg ?_
  rw [o_nat h.2.2, jI_toInt]
  exact kk
theorem j_slen (S : CallFix p m c cc nL s args Ts own) {b L : Nat} {xs : Nat → Int32} (hX : va_X b L xs s H0) (hbl : b < H0.size) (hbA : ¬ A b) (hS : va_S A H0 H locs) (hdg : decode cc pc = .ok (.arraylength, 1)) (kk : W p l e R s m args below meth c H locs cells slots Q (F0 m (pc + 1) ls (jI (L : Int) :: rest))) : W p l e R s m args below meth c H locs cells slots Q (F0 m pc ls (.ref b :: rest)) := by
  refine va_slen S.1 S.2.1 hX hbl hbA hS hdg ?_
  have h : Int32.ofNat L = Int32.ofInt (L : Int) := rfl
  rw [h]
  exact kk
theorem j_iandz (S : CallFix p m c cc nL s args Ts own) {a b : Int} (hdg : decode cc pc = .ok (.iand, 1)) (kk : ∀ z : Int, inI z → W p l e R s m args below meth c H locs cells slots Q (F0 m (pc + 1) ls (jI z :: rest))) : W p l e R s m args below meth c H locs cells slots Q (F0 m pc ls (jI b :: jI a :: rest)) := by
  refine lv_iand S.1 S.2.1 hdg ?_
  rw [jI_toInt]
  exact kk _ (inI_toInt _)
end JL
/-- both answer alike, and leave alike worlds -/
theorem R_wheel_det {w x i j a b : Int} (h : R_wheel w x i a) (g : R_wheel w x j b) : i = j ∧ a = b := by
  unfold R_wheel at h g
  omega
theorem R_vernier_det {d v x y i j a b a' b' : Int} (h : R_vernier d v x y i a b) (g : R_vernier d v x y j a' b') : i = j ∧ a = a' ∧ b = b' := by
  unfold R_vernier at h g
  omega
theorem R_circle_det {H H1 H2 : Int → Int} {cc x i j a b : Int} (h : R_circle H cc x i a H1) (g : R_circle H cc x j b H2) : i = j ∧ a = b ∧ H1 = H2 := by
  rcases h with ⟨h1, h2, h3, h4⟩ | ⟨h1, h0, h2, h3, h4⟩ | ⟨h1, h0, h9, h2, h3, h4⟩ | ⟨h1, h0, h9, h2, h3, h4⟩ <;> rcases g with ⟨g1, g2, g3, g4⟩ | ⟨g1, g0, g2, g3, g4⟩ | ⟨g1, g0, g9, g2, g3, g4⟩ | ⟨g1, g0, g9, g2, g3, g4⟩ <;> first | exact ⟨by omega, by omega, by rw [h4, g4]⟩ | omega | exact absurd h9 g9 | exact absurd g9 h9
theorem R_gear_det {H H1 H2 : Int → Int} {cc x i j a b : Int} (h : R_gear H cc x i a H1) (g : R_gear H cc x j b H2) : i = j ∧ a = b ∧ H1 = H2 := by
  rcases h with ⟨h1, h2, h3, h4⟩ | ⟨h1, h0, h2, h3, h4⟩ | ⟨h1, h0, h2, h3, h4⟩ <;> rcases g with ⟨g1, g2, g3, g4⟩ | ⟨g1, g0, g2, g3, g4⟩ | ⟨g1, g0, g2, g3, g4⟩ <;> first | exact ⟨by omega, by omega, by rw [h4, g4]⟩ | omega
theorem R_error_det {E E1 E2 : Int → Int} {k x i j : Int} (h : R_error E k x i E1) (g : R_error E k x j E2) : i = j ∧ E1 = E2 := by
  rcases h with ⟨h1, h2, h3⟩ | ⟨h1, h0, h2, h3⟩ | ⟨h1, h0, h2, h3⟩ <;> rcases g with ⟨g1, g2, g3⟩ | ⟨g1, g0, g2, g3⟩ | ⟨g1, g0, g2, g3⟩ <;> first | exact ⟨by omega, by rw [h3, g3]⟩ | omega
theorem ok_wheel {H T E : Int → Int} {cc gc w d v x i w' : Int} (hok : SOK H T E cc gc w d v) (h : R_wheel w x i w') : SOK H T E cc gc w' d v := by
  obtain ⟨h1, h2, h3, h4⟩ := hok
  refine ⟨h1, h2, ?_, h4⟩
  unfold R_wheel at h
  omega
theorem ok_vernier {H T E : Int → Int} {cc gc w d v x y i d' v' : Int} (hok : SOK H T E cc gc w d v) (h : R_vernier d v x y i d' v') : SOK H T E cc gc w d' v' := by
  obtain ⟨h1, h2, h3, h4, h5, h6⟩ := hok
  unfold R_vernier at h
  exact ⟨h1, h2, h3, by omega, by omega, h6⟩
theorem ok_circle {H T E H' : Int → Int} {cc gc w d v x i cc' : Int} (hok : SOK H T E cc gc w d v) (h : R_circle H cc x i cc' H') : SOK H' T E cc' gc w d v := by
  obtain ⟨h1, h2, h3, h4, h5, h6, h7⟩ := hok
  rcases h with ⟨-, -, e1, e2⟩ | ⟨-, -, -, e1, e2⟩ | ⟨-, -, -, -, e1, e2⟩ | ⟨g1, g2, -, -, e1, e2⟩
  · rw [e1, e2]
    exact ⟨h1, h2, h3, h4, h5, h6, h7⟩
  · rw [e1, e2]
    exact ⟨h1, h2, h3, h4, h5, h6, h7⟩
  · rw [e1, e2]
    exact ⟨h1, h2, h3, h4, h5, h6, h7⟩
  · rw [e1, e2]
    refine ⟨by omega, h2, h3, h4, h5, fun j a b => ?_, h7⟩
    by_cases e : j = cc
    · rw [e, jU_self]
      exact g1
    · rw [jU_ne _ _ e]
      exact h6 j a (by omega)
theorem ok_gear {H T E T' : Int → Int} {cc gc w d v x i gc' : Int} (hok : SOK H T E cc gc w d v) (h : R_gear T gc x i gc' T') : SOK H T' E cc gc' w d v := by
  obtain ⟨h1, h2, h3, h4, h5, h6, h7, h8⟩ := hok
  rcases h with ⟨-, -, e1, e2⟩ | ⟨-, -, -, e1, e2⟩ | ⟨g1, g2, -, e1, e2⟩
  · rw [e1, e2]
    exact ⟨h1, h2, h3, h4, h5, h6, h7, h8⟩
  · rw [e1, e2]
    exact ⟨h1, h2, h3, h4, h5, h6, h7, h8⟩
  · rw [e1, e2]
    refine ⟨h1, by omega, h3, h4, h5, h6, fun j a b => ?_, h8⟩
    by_cases e : j = gc
    · rw [e, jU_self]
      exact g1
    · rw [jU_ne _ _ e]
      exact h7 j a (by omega)
theorem ok_error {H T E E' : Int → Int} {cc gc w d v k x i : Int} (hok : SOK H T E cc gc w d v) (h : R_error E k x i E') : SOK H T E' cc gc w d v := by
  obtain ⟨h1, h2, h3, h4, h5, h6, h7, h8⟩ := hok
  rcases h with ⟨-, -, e2⟩ | ⟨-, -, -, e2⟩ | ⟨-, g2, -, e2⟩
  · rw [e2]
    exact ⟨h1, h2, h3, h4, h5, h6, h7, h8⟩
  · rw [e2]
    exact ⟨h1, h2, h3, h4, h5, h6, h7, h8⟩
  · rw [e2]
    refine ⟨h1, h2, h3, h4, h5, h6, h7, fun j a b => ?_⟩
    by_cases e : j = k
    · rw [e, jU_self]
      exact g2
    · rw [jU_ne _ _ e]
      exact h8 j a b
abbrev LWorld (x x0 x1 x2 x3 y y0 y1 y2 y3 : Nat) (cA : ClassId) (H T E F G : Int → Int) (cc gc w d v : Int) : va_W := [(x, .inr (0, [.ref x0, .ref x1, .ref x2, .ref x3, jI cc, jI gc, jI w, jI d, jI v])), (x0, .inl (cA, 8, .inl (jF H))), (x1, .inl (cA, 10, .inl (jF T))), (x2, .inl (cA, 8, .inl (jF E))), (x3, .inl (cA, 4, .inl (jF F))), (y, .inr (1, [jI w, jI cc, .ref y0, jI gc, .ref y1, .ref y2, jI d, jI v, .ref y3])), (y0, .inl (cA, 8, .inl (jF H))), (y1, .inl (cA, 10, .inl (jF T))), (y2, .inl (cA, 8, .inl (jF E))), (y3, .inl (cA, 4, .inl (jF G)))]
/-- what holds at the law's loop -/
def LInv (s : State) (D : va_G) (A : Nat → Prop) (x x0 x1 x2 x3 y y0 y1 y2 y3 : Nat) (cA : ClassId) (H T E F G : Int → Int) (cc gc w d v : Int) (Hp : Heap) (lc : List Loc) : Prop := SOK H T E cc gc w d v ∧ va_P D vwCl (LWorld x x0 x1 x2 x3 y y0 y1 y2 y3 cA H T E F G cc gc w d v) Hp ∧ va_D A (LWorld x x0 x1 x2 x3 y y0 y1 y2 y3 cA H T E F G cc gc w d v) ∧ va_S A s.heap Hp lc
abbrev LLs (b x y : Nat) (i : Int) : List (Nat × Value) := [(3, jI i), (2, .ref y), (1, .ref x), (0, .ref b)]
end
